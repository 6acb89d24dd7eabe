/-! The greatest principal: the class's word and the reference's search. -/
theorem mnV_i {x y : Int32} : (mnV x y).toInt = if y.toInt < x.toInt then y.toInt else x.toInt := by
  unfold mnV
  by_cases h : y < x
  · rw [if_pos h, if_pos (Int32.lt_iff_toInt_lt.mp h)]
  · rw [if_neg h, if_neg (fun z => h (Int32.lt_iff_toInt_lt.mpr z))]
theorem fL_iff {w : Nat → Int32} {B N n m p : Nat} {u : Int32} (hB : B ≤ 6) (hN : N ≤ 10) (hn : n < B) (hm : m < 4) (hu : okR 1 99 u) : fLend w B N (nI n) (nI m) u (nI p) (nI 1) = 0 ↔ okR 1 500 (nI p) ∧ mayG w N n m u ∧ ¬ w 4 < nI p ∧ ¬ nI 2 * u * w (10 + m) < nI 3 * nI p := by
  have c1 : cl (nI n) = n := cl_n (by omega)
  have c2 : cl (nI m) = m := cl_n (by omega)
  constructor
  · intro h
    obtain ⟨-, -, -, h4, -, h6, h7, h8, h9, h10⟩ := fLend_ok h
    rw [c1] at h7 h8
    rw [c2] at h8 h10
    exact ⟨h4, ⟨by omega, h7, h8⟩, h9, h10⟩
  · intro ⟨h4, ⟨h5, h6, h7⟩, h8, h9⟩
    have o1 : okB B (nI n) := okB_nI hB hn
    have o2 : okK (nI m) := okK_nI hm
    have o3 : okR 1 60 (nI 1) := ⟨by decide, by decide⟩
    have c1' : (nI n).toNatClampNeg = n := c1
    have c2' : (nI m).toNatClampNeg = m := c2
    have o5 : ¬ N = 10 := by omega
    unfold fLend
    simp only [c1', c2', o1, o2, hu, h4, o3, h6, h7, h8, h9, o5, and_self, not_true, not_false_iff, if_false, if_true, or_self, or_false, false_or, not_false_eq_true]
    rw [if_neg (fun z => z ⟨o1, o2⟩), if_neg (fun z => z ⟨hu, h4, o3⟩)]
theorem gp_c {w : Nat → Int32} {B N E D U m p : Nat} {u : Int32} (h : Gd w B N E D U) (hm : m < 4) (hu : okR 1 99 u) (hp : 0 < p) (h5 : p ≤ 500) : (¬ w 4 < nI p ∧ ¬ nI 2 * u * w (10 + m) < nI 3 * nI p) ↔ (p : Int) ≤ (gpM w m u).toInt := by
  obtain ⟨-, h2, -⟩ := h
  obtain ⟨q, q1, q2, rfl⟩ := okR_of (by decide) (by decide) hu
  obtain ⟨r, r1, r2, er⟩ := h2 m hm
  have hqr : 2 * q * r ≤ 198 * 99 := Nat.mul_le_mul (by omega) r2
  have e1 : (gpM w m (nI q)).toInt = if (500 : Int) < (if (w 4).toInt < ((2 * q * r / 3 : Nat) : Int) then (w 4).toInt else ((2 * q * r / 3 : Nat) : Int)) then 500 else (if (w 4).toInt < ((2 * q * r / 3 : Nat) : Int) then (w 4).toInt else ((2 * q * r / 3 : Nat) : Int)) := by
    rw [gpM, mnV_i, mnV_i, er, nI_ml, nI_ml, pk_div (by omega) (by decide) (by decide), nI_toInt (show 2 * q * r / 3 < 2 ^ 31 by omega), nI_toInt (show 500 < 2 ^ 31 by decide)]
    rfl
  rw [e1, er, nI_ml, nI_ml, nI_ml, nI_ltI (by omega) (by omega), Int32.lt_iff_toInt_lt, nI_toInt (show p < 2 ^ 31 by omega)]
  constructor
  · intro ⟨a, b⟩
    split <;> split <;> omega
  · intro a
    split at a <;> split at a <;> constructor <;> omega
theorem gp_v {w : Nat → Int32} {B N E D U n m : Nat} {u : Int32} (h : Gd w B N E D U) (hn : n < B) (hm : m < 4) (hu : okR 1 99 u) (h1 : ¬ gpM w m u < nI 1) (hG : mayG w N n m u) : ∃ K, gpM w m u = nI K ∧ 0 < K ∧ gpOk w B N (nI n) (nI m) u K := by
  have hB := h.B.2
  have hN := h.N.2
  rw [Int32.lt_iff_toInt_lt, nI_toInt (by decide)] at h1
  have h500 : (gpM w m u).toInt ≤ 500 := by
    rw [gpM, mnV_i, nI_toInt (show 500 < 2 ^ 31 by decide)]
    split <;> omega
  have eK : gpM w m u = nI (gpM w m u).toInt.toNat := Int32.toInt_inj.mp (by rw [nI_toInt (by omega)]; omega)
  refine ⟨(gpM w m u).toInt.toNat, eK, by omega, by omega, Or.inr ?_, fun p p1 p2 z => ?_⟩
  · rw [fL_iff hB hN hn hm hu]
    obtain ⟨a, b⟩ := (gp_c (p := (gpM w m u).toInt.toNat) h hm hu (by omega) (by omega)).mpr (by omega)
    exact ⟨⟨(nI_leI (by decide) (by omega)).mpr (by omega), (nI_leI (by omega) (by decide)).mpr (by omega)⟩, hG, a, b⟩
  · rw [fL_iff hB hN hn hm hu] at z
    have := (gp_c (p := p) h hm hu (by omega) (by omega)).mp ⟨z.2.2.1, z.2.2.2⟩
    omega
theorem gp_x {w : Nat → Int32} {B N E D U n m : Nat} {u : Int32} (h : Gd w B N E D U) (hn : n < B) (hm : m < 4) (hu : okR 1 99 u) (h1 : gpM w m u < nI 1 ∨ ¬ mayG w N n m u) : ∀ p, 0 < p → p ≤ 500 → fLend w B N (nI n) (nI m) u (nI p) (nI 1) ≠ 0 := by
  intro p p1 p2 z
  rw [fL_iff h.B.2 h.N.2 hn hm hu] at z
  have hc := (gp_c (p := p) h hm hu p1 p2).mp ⟨z.2.2.1, z.2.2.2⟩
  rcases h1 with h1 | h1
  · rw [Int32.lt_iff_toInt_lt, nI_toInt (by decide)] at h1
    omega
  · exact h1 z.2.1
