/-! The trial counts the days left. -/
theorem dd_l {v : Nat → Int32} {L r : Nat} (hr : r < L) : ddV v L 0 = v 0 + nI 1 ∧ valV (ddV v L) r = valV v r ∧ ddV v L (58 + 10 * r + 5) = v (58 + 10 * r + 5) ∧ ddV v L (58 + 10 * r + 0) = v (58 + 10 * r + 0) ∧ dayV (ddV v L) r = dayV v r ∧ debtV (ddV v L) r = debtV v r + dayV v r := by
  have e : ∀ j, j < 10 → j ≠ 3 → ddV v L (58 + 10 * r + j) = v (58 + 10 * r + j) := fun j h1 h2 => by
    rw [ddV, inV_n (by omega), upd_n (by omega)]
  have p : ∀ k, k < 4 → ddV v L (10 + k) = v (10 + k) := fun k hk => by rw [ddV, inV_n (by omega), upd_n (by omega)]
  have ed : dayV (upd v 0 (v 0 + nI 1)) r = dayV v r := dayV_c (upd_n (by omega)) (upd_n (by omega))
  refine ⟨by rw [ddV, inV_n (by omega), upd_e], ?_, e 5 (by decide) (by decide), e 0 (by decide) (by decide), by rw [ddV, inV_day, ed], ?_⟩
  · simp only [valV, val4]
    rw [e (6 + 0) (by decide) (by decide), e (6 + 1) (by decide) (by decide), e (6 + 2) (by decide) (by decide), e (6 + 3) (by decide) (by decide), p 0 (by decide), p 1 (by decide), p 2 (by decide), p 3 (by decide)]
  · rw [debtV, debtV, e 2 (by decide) (by decide), ddV, inV_3 hr, upd_n (by omega), ed]
    grind
theorem sl_in {v : Nat → Int32} {L r : Nat} {id : Int32} (hr : r < L) (hL : L ≤ 10) (e : v (58 + 10 * r + 0) = id) : ¬ slV v L id = -1 := fun z => by
  rcases slV_at v L id with ⟨j, h1, -, -, h4⟩ | ⟨hno, -⟩
  · exact absurd (show nI j < 0 by rw [← h4, z]; decide) (nI_pos (by omega))
  · exact hno r hr e
theorem sl_no {v : Nat → Int32} {L : Nat} {id : Int32} (h : ∀ r, r < L → v (58 + 10 * r + 0) ≠ id) : slV v L id = -1 := by
  rcases slV_at v L id with ⟨j, h1, h2, -, -⟩ | ⟨-, h2⟩
  · exact absurd h2 (h j h1)
  · exact h2
theorem tr_go {B E D U K : Nat} {id V du i d t : Int32} (hK : ∀ k, 1 ≤ k → k ≤ K → ((¬ du < t + nI k ∧ ¬ V < d + nI k * i) ↔ k < K)) (hD : D + 61 ≤ 100000) (hK61 : K ≤ 61) : ∀ (f k : Nat) (v : Nat → Int32) (L : Nat), f = 61 - k → k < K → Gd v B L E (D + k) U → Sd v L → (∃ r, r < L ∧ v (58 + 10 * r + 0) = id ∧ valV v r = V ∧ v (58 + 10 * r + 5) = du ∧ dayV v r = i ∧ debtV v r = d + nI k * i ∧ v 0 = t + nI k) → trV id v L f k = K
  | 0, k, v, L, hf, hk, _, _, _ => by omega
  | f + 1, k, v, L, hf, hk, hG, hS, ⟨r, hr, e0, e1, e2, e3, e4, e5⟩ => by
    have hL := hG.N.2
    rw [trV, if_neg (sl_in hr hL e0)]
    have hGd := hG.dd hS (by omega)
    obtain ⟨a0, a1, a2, a3, a4, a5⟩ := dd_l (v := v) hr
    have hc := hK (k + 1) (by omega) (by omega)
    have t1 : v 0 + nI 1 = t + nI (k + 1) := by rw [e5, ← nI_add]; grind
    have d1 : debtV v r + dayV v r = d + nI (k + 1) * i := by rw [e4, e3, ← nI_add, show nI 1 = (1 : Int32) by decide]; grind
    have hfl : failV (ddV v L) r ↔ ¬ (k + 1 < K) := by
      rw [← hc]
      unfold failV
      rw [a2, a0, a1, a5, e2, e1, t1, d1]
      grind
    have hdp := Gd.dp L (w := ddV v L) (N := L) (s := 0) (n := 0) rfl (Nat.zero_le _) hGd (fun q hq => absurd hq (Nat.not_lt_zero _))
    obtain ⟨b1, b2, b3, b4⟩ := hG.dy hS (by omega)
    by_cases hkk : k + 1 < K
    · obtain ⟨r', h1, h2⟩ := dp_keep L (n := 0) (show L = L - 0 from rfl) (Nat.zero_le _) hGd hr (fun z => hfl.mp z hkk)
      exact tr_go hK hD hK61 f (k + 1) (dyV v L).1 (dyV v L).2.1 (by omega) hkk b1 b2 ⟨r', h1, (h2.1 0 (by decide)).trans (a3.trans e0), h2.val.trans (a1.trans e1), (h2.1 5 (by decide)).trans (a2.trans e2), h2.day.trans (a4.trans e3), h2.debt.trans (a5.trans d1), h2.2.2.trans (a0.trans t1)⟩
    · have hno : slV (dyV v L).1 (dyV v L).2.1 id = -1 := sl_no (fun q hq z => by
        obtain ⟨r0, c1, c2⟩ := dp_from L (n := 0) (show L = L - 0 from rfl) (Nat.zero_le _) hGd q hq
        have hnf := hdp.2.1 q hq
        have e6 : v (58 + 10 * r0 + 0) = v (58 + 10 * r + 0) := ((dd_l (v := v) c1).2.2.2.1.symm.trans (c2.1 0 (by decide)).symm).trans (z.trans e0.symm)
        have e7 : r0 = r := by
          obtain ⟨-, -, -, hi, -⟩ := hG
          rcases Nat.lt_trichotomy r0 r with h | h | h
          · have := hi r0 r h hr; rw [e6] at this; exact (Int32.lt_irrefl this).elim
          · exact h
          · have := hi r r0 h c1; rw [e6] at this; exact (Int32.lt_irrefl this).elim
        rw [e7] at c2
        exact hnf (c2.fail.mpr (hfl.mpr hkk)))
      match f, hf with
      | 0, hf => show k + 1 = K; omega
      | f + 1, hf => rw [trV, if_pos hno]; omega
/-- the trial of the loan at s ends when the days left are over -/
theorem tr_eq {w : Nat → Int32} {B N E D U s K : Nat} (h : Gd w B N E D U) (hS : Sd w N) (hD : D + 61 ≤ 100000) (hs : s < N) (hK : dlOk w s K) : trV (w (58 + 10 * s + 0)) w N 61 0 = K :=
  tr_go hK.2.2 hD hK.2.1 61 0 w N rfl hK.1 h hS ⟨s, hs, rfl, rfl, rfl, rfl, by rw [nI_0, Int32.zero_mul, Int32.add_zero], by rw [nI_0, Int32.add_zero]⟩
theorem tr_all {w : Nat → Int32} {B N E D U : Nat} (h : Gd w B N E D U) (hS : Sd w N) (hD : D + 61 ≤ 100000) : ∀ s, s < N → dlV w s = nI (trV (w (58 + 10 * s + 0)) w N 61 0) := fun s hs => by
  obtain ⟨K, h1, h2⟩ := dl_n h hS hs
  rw [h1, tr_eq h hS hD hs h2]
