/-! The units missing: the class's word is the reference's number. -/
theorem mu_n {w : Nat → Int32} {B N E D U s m : Nat} (h : Gd w B N E D U) (hs : s < N) (hm : m < 4) : ∃ K, muC w s m = nI K ∧ muOk w s m K := by
  obtain ⟨-, h2, ⟨t, x, ht, hx, h0, h3, hl⟩, -, hD, hU⟩ := h
  have hln := hl s hs
  obtain ⟨d, hd, ed⟩ := hln.debt
  obtain ⟨id, pr, ac, rt, du, -, -, -, -, e5, -, -, -, -, l5, l6, hu⟩ := hln
  obtain ⟨v, hv, ev⟩ := val_n h2 hu hU
  obtain ⟨p, p1, p2, ep⟩ := h2 m hm
  have cond : ∀ j, 2 * (v + j * p) < 2 ^ 31 → ((nI 2 * (valV w s + nI j * w (10 + m)) < nI 3 * debtV w s) ↔ 2 * (v + j * p) < 3 * d) := fun j hj => by
    rw [ev, ed, ep, nI_ml, nI_add, nI_ml, nI_ml, nI_ltI (by omega) (by omega)]
  unfold muC
  rw [ev, ed, ep, nI_ml, nI_ml, nI_ml]
  by_cases c : 2 * v < 3 * d
  · rw [pk_sub (by omega), if_pos (show (0 : Int32) < nI (3 * d - 2 * v) from nI_lt (a := 0) (by omega) (by omega))]
    have e : qupV (nI (3 * d - 2 * v)) (nI (2 * p)) = nI ((3 * d - 2 * v + (2 * p - 1)) / (2 * p)) := by
      rw [qupV, if_pos (show (0 : Int32) < nI (2 * p) from nI_lt (a := 0) (by omega) (by omega)), nI_add, pk_sub (by omega), pk_div (by omega) (by omega) (by omega), show 3 * d - 2 * v + 2 * p - 1 = 3 * d - 2 * v + (2 * p - 1) by omega]
    rw [e]
    have hdv : ∀ k, k ≤ (3 * d - 2 * v + (2 * p - 1)) / (2 * p) ↔ k * (2 * p) ≤ 3 * d - 2 * v + (2 * p - 1) := fun k => Nat.le_div_iff_mul_le (by omega)
    generalize (3 * d - 2 * v + (2 * p - 1)) / (2 * p) = z at hdv
    have hz := (hdv z).mp (Nat.le_refl z)
    have hz1 : ¬ (z + 1) * (2 * p) ≤ 3 * d - 2 * v + (2 * p - 1) := fun q => by have := (hdv (z + 1)).mpr q; omega
    have hz3 : z * 1 ≤ z * (2 * p) := Nat.mul_le_mul_left z (by omega)
    refine ⟨z, rfl, by omega, fun j hj => ?_⟩
    have hj2 : j * (2 * p) ≤ z * (2 * p) := Nat.mul_le_mul_right _ hj
    have ej : j * (2 * p) = 2 * (j * p) := by rw [Nat.mul_left_comm]
    rw [cond j (by omega)]
    constructor
    · intro q
      rcases Nat.lt_or_ge j z with h | h
      · exact h
      · obtain rfl : j = z := by omega
        rw [Nat.add_mul] at hz1
        omega
    · intro q
      have hq : (j + 1) * (2 * p) ≤ z * (2 * p) := Nat.mul_le_mul_right _ q
      rw [Nat.add_mul] at hq
      omega
  · have e0 : (nI (3 * d) - nI (2 * v)).toInt = (3 * d : Int) - 2 * v := by
      have := pk_sub_toInt (a := 3 * d) (b := 2 * v) (by omega) (by omega)
      omega
    rw [if_neg (by rw [Int32.lt_iff_toInt_lt, e0, Int32.toInt_zero]; omega)]
    refine ⟨0, rfl, by decide, fun j hj => ?_⟩
    obtain rfl : j = 0 := by omega
    rw [cond 0 (by omega)]
    omega
