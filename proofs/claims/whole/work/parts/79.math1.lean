/-! What the class and the reference say in different words, of rows well kept. -/
theorem nI_ml (a b : Nat) : nI a * nI b = nI (a * b) := (Int32.ofNat_mul a b).symm
theorem val_n {w : Nat → Int32} {s U : Nat} (h2 : ∀ k, k < 4 → ∃ p, 1 ≤ p ∧ p ≤ 99 ∧ w (10 + k) = nI p) (hu : ∀ k, k < 4 → ∃ u, u ≤ 99 * U ∧ w (58 + 10 * s + (6 + k)) = nI u) (hU : U ≤ 10000) : ∃ v, v < 400000000 ∧ valV w s = nI v := by
  obtain ⟨p0, a0, b0, c0⟩ := h2 0 (by decide)
  obtain ⟨p1, a1, b1, c1⟩ := h2 1 (by decide)
  obtain ⟨p2, a2, b2, c2⟩ := h2 2 (by decide)
  obtain ⟨p3, a3, b3, c3⟩ := h2 3 (by decide)
  obtain ⟨u0, d0, e0⟩ := hu 0 (by decide)
  obtain ⟨u1, d1, e1⟩ := hu 1 (by decide)
  obtain ⟨u2, d2, e2⟩ := hu 2 (by decide)
  obtain ⟨u3, d3, e3⟩ := hu 3 (by decide)
  have m0 : u0 * p0 ≤ 990000 * 99 := Nat.mul_le_mul (by omega) b0
  have m1 : u1 * p1 ≤ 990000 * 99 := Nat.mul_le_mul (by omega) b1
  have m2 : u2 * p2 ≤ 990000 * 99 := Nat.mul_le_mul (by omega) b2
  have m3 : u3 * p3 ≤ 990000 * 99 := Nat.mul_le_mul (by omega) b3
  refine ⟨0 + u0 * p0 + u1 * p1 + u2 * p2 + u3 * p3, by omega, ?_⟩
  simp only [valV, val4]
  rw [c0, c1, c2, c3, e0, e1, e2, e3, nI_ml, nI_ml, nI_ml, nI_ml, nI_add, nI_add, nI_add, nI_add]
/-- the days left: the class's word is the reference's number -/
theorem dl_n {w : Nat → Int32} {B N E D U s : Nat} (h : Gd w B N E D U) (hS : Sd w N) (hs : s < N) : ∃ K, dlV w s = nI K ∧ dlOk w s K := by
  obtain ⟨-, h2, ⟨t, x, ht, hx, h0, h3, hl⟩, -, hD, hU⟩ := h
  have hln := hl s hs
  obtain ⟨d, hd, ed⟩ := hln.debt
  obtain ⟨i, hi, ei⟩ := dayV_le hln
  obtain ⟨id, pr, ac, rt, du, -, -, -, -, e5, -, -, -, -, l5, l6, hu⟩ := hln
  obtain ⟨v, hv, ev⟩ := val_n h2 hu hU
  have hsd := hS s hs
  rw [e5, h0, nI_ltI (by omega) (by omega)] at hsd
  have cond : ∀ k, k ≤ 61 → ((¬ w (58 + 10 * s + 5) < w 0 + nI k ∧ ¬ valV w s < debtV w s + nI k * dayV w s) ↔ (t + k ≤ du ∧ d + k * i ≤ v)) := fun k hk => by
    have hki : k * i ≤ 61 * 28 := Nat.mul_le_mul hk hi
    rw [e5, h0, ev, ed, ei, nI_add, nI_ml, nI_add, nI_ltI (by omega) (by omega), nI_ltI (by omega) (by omega)]
    omega
  unfold dlV
  rw [ev, ed, ei, e5, h0]
  by_cases c1 : v < d
  · have e1 : (nI v - nI d).toInt = (v : Int) - d := pk_sub_toInt (by omega) (by omega)
    rw [if_pos (by rw [Int32.lt_iff_toInt_lt, e1, Int32.toInt_zero]; omega)]
    refine ⟨1, rfl, by decide, by decide, fun k k1 k2 => ?_⟩
    rw [cond k (by omega)]
    have : 0 ≤ k * i := Nat.zero_le _
    omega
  · rw [pk_sub (by omega), if_neg (nI_pos (by omega)), pk_sub (by omega), nI_add]
    by_cases c2 : 0 < i
    · have hdv : ∀ k, k ≤ (v - d) / i ↔ k * i ≤ v - d := fun k => Nat.le_div_iff_mul_le c2
      have hq : (v - d) / i ≤ v - d := Nat.div_le_self _ _
      rw [if_pos (show (0 : Int32) < nI i from nI_lt (a := 0) c2 (by omega)), pk_div (by omega) c2 (by omega), nI_add]
      generalize (v - d) / i = z at hdv hq
      by_cases c3 : z < du - t
      · refine ⟨z + 1, if_pos (nI_lt (by omega) (by omega)), by omega, by omega, fun k k1 k2 => ?_⟩
        rw [cond k (by omega)]
        have := hdv k
        omega
      · refine ⟨du - t + 1, if_neg (nI_nlt (by omega) (by omega)), by omega, by omega, fun k k1 k2 => ?_⟩
        rw [cond k (by omega)]
        have := hdv k
        omega
    · obtain rfl : i = 0 := by omega
      rw [if_neg (by decide)]
      refine ⟨du - t + 1, rfl, by omega, by omega, fun k k1 k2 => ?_⟩
      rw [cond k (by omega)]
      omega
theorem dl_le {w : Nat → Int32} {B N E D U s : Nat} (h : Gd w B N E D U) (hS : Sd w N) (hs : s < N) : ∃ K, dlV w s = nI K ∧ K ≤ 61 ∧ 1 ≤ K := by
  obtain ⟨K, h1, h2, h3, -⟩ := dl_n h hS hs
  exact ⟨K, h1, h3, h2⟩
/-- the loan that goes first -/
theorem bs_eq {w : Nat → Int32} {N : Nat} {d : Nat → Nat} (hd : ∀ s, s < N → dlV w s = nI (d s) ∧ d s ≤ 61) : ∀ (f q b : Nat), b < N → q + f ≤ N → bsI w f q b = bst d f q b
  | 0, _, _, _, _ => rfl
  | f + 1, q, b, hb, hq => by
    have h1 := hd q (by omega)
    have h2 := hd b hb
    have e : (dlV w q < dlV w b) ↔ d q < d b := by rw [h1.1, h2.1]; exact nI_ltI (by omega) (by omega)
    show bsI w f (q + 1) (if dlV w q < dlV w b then q else b) = bst d f (q + 1) (if d q < d b then q else b)
    by_cases hc : d q < d b
    · rw [if_pos hc, if_pos (e.mpr hc)]
      exact bs_eq hd f (q + 1) q (by omega) (by omega)
    · rw [if_neg hc, if_neg (fun z => hc (e.mp z))]
      exact bs_eq hd f (q + 1) b hb (by omega)
/-- who comes before whom -/
theorem cb_eq {w : Nat → Int32} {B N E D U a b : Nat} (h : Gd w B N E D U) (ha : a < N) (hb : b < N) : cbB w a b = aheadB w a b := by
  obtain ⟨-, h2, ⟨t, x, ht, hx, h0, h3, hl⟩, hi, hD, hU⟩ := h
  obtain ⟨da, hda, eda⟩ := (hl a ha).debt
  obtain ⟨db, hdb, edb⟩ := (hl b hb).debt
  obtain ⟨ia, -, -, -, ua, -, -, -, -, ea5, -, -, -, -, -, la6, -⟩ := hl a ha
  obtain ⟨ib, -, -, -, ub, -, -, -, -, eb5, -, -, -, -, -, lb6, -⟩ := hl b hb
  have hlt : w (58 + 10 * a + 0) < w (58 + 10 * b + 0) ↔ a < b := by
    constructor
    · intro z
      rcases Nat.lt_trichotomy a b with h | h | h
      · exact h
      · subst h; exact (Int32.lt_irrefl z).elim
      · exact (Int32.lt_irrefl (Int32.lt_trans z (hi b a h ha))).elim
    · exact fun z => hi a b z hb
  have sub0 : ∀ p q : Nat, p < 2 ^ 30 → q < 2 ^ 30 → ((nI p - nI q = 0 ↔ p = q) ∧ (0 < nI p - nI q ↔ q < p)) := fun p q hp hq => by
    have e := pk_sub_toInt (a := p) (b := q) (by omega) (by omega)
    constructor
    · constructor
      · intro z
        rw [z, Int32.toInt_zero] at e
        omega
      · intro z
        rw [z]
        exact Int32.sub_self _
    · rw [Int32.lt_iff_toInt_lt, e, Int32.toInt_zero]
      omega
  unfold cbB aheadB
  rw [eda, edb, ea5, eb5]
  have s1 := sub0 da db (by omega) (by omega)
  have s2 := sub0 ub ua (by omega) (by omega)
  by_cases c1 : da = db
  · rw [if_pos ((nI_eq (by omega) (by omega)).mpr c1), if_pos (s1.1.mpr c1)]
    by_cases c2 : ua = ub
    · rw [if_pos ((nI_eq (by omega) (by omega)).mpr c2), if_pos (s2.1.mpr c2.symm)]
      exact decide_eq_decide.mpr hlt
    · rw [if_neg (fun z => c2 ((nI_eq (by omega) (by omega)).mp z)), if_neg (fun z => c2 (s2.1.mp z).symm)]
      exact decide_eq_decide.mpr ((nI_ltI (by omega) (by omega)).trans s2.2.symm)
  · rw [if_neg (fun z => c1 ((nI_eq (by omega) (by omega)).mp z)), if_neg (fun z => c1 (s1.1.mp z))]
    exact decide_eq_decide.mpr ((nI_ltI (by omega) (by omega)).trans s1.2.symm)
theorem sm_congr {f f' : Nat → Int32} : ∀ (n k : Nat) (a : Int32), (∀ j, k ≤ j → j < k + n → f j = f' j) → sm f n k a = sm f' n k a
  | 0, _, _, _ => rfl
  | n + 1, k, a, h => by
    rw [sm, sm, h k (by omega) (by omega)]
    exact sm_congr n (k + 1) _ (fun j h1 h2 => h j (by omega) (by omega))
theorem cn_eq {w : Nat → Int32} {B N E D U a : Nat} (h : Gd w B N E D U) (ha : a < N) : cbN w N a = cntV w N a := by
  unfold cbN cntV
  exact sm_congr N 0 _ (fun j _ hj => by rw [cb_eq h (by omega) ha])
