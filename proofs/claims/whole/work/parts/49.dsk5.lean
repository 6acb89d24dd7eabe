/-! Days on the desk. -/
def PE (I0 : II) (b : Nat) (X : va_W) (T : TT) (r0 : Option Value) (w : Nat → Int32) (B N E : Nat) (an : Int32) : PhiT := fun r X' T' I' => r = r0 ∧ X' = X ∧ T' = T ∧ ∃ pm, DW I0 I' b w B N E pm an
theorem Gd.d29 {w : Nat → Int32} {B N E D U s : Nat} (h : Gd w B N E D U) (hs : s < N) : dN w s < 2 ^ 29 := by
  obtain ⟨-, h2, ⟨t, x, ht, hx, -, -, hl⟩, -, hD, hU⟩ := h
  obtain ⟨d, hd, e⟩ := (hl s hs).debt
  rw [dN, e, nI_clamp (by omega)]; omega
theorem open_t {p u : Nat → Nat} {d k : Nat} : nI d - nI (zz p u d k) - nI (tt p u d k * p k) = nI d - nI (zz p u d (k + 1)) := by
  rw [zz_s, ← nI_add]; grind
theorem take_t {p u : Nat → Nat} {d k : Nat} (hp : 1 ≤ p k ∧ p k ≤ 99) (hd : d < 2 ^ 29) (hu : u k < 2 ^ 30) (hz : zz p u d k < d + 99) (h : 0 < nI d - nI (zz p u d k)) : mnV (qupV (nI d - nI (zz p u d k)) (nI (p k))) (nI (u k)) = nI (tt p u d k) := by
  have h1 := take_n hp hd hu hz
  rw [if_neg (Int32.not_le.mpr h)] at h1
  exact h1
theorem take_f {p u : Nat → Nat} {d k : Nat} (hp : 1 ≤ p k ∧ p k ≤ 99) (hd : d < 2 ^ 29) (hu : u k < 2 ^ 30) (hz : zz p u d k < d + 99) (h : ¬ 0 < nI d - nI (zz p u d k)) : mnV (nI 0) (nI (u k)) = nI (tt p u d k) := by
  have h1 := take_n hp hd hu hz
  rw [if_pos (Int32.not_lt.mp h)] at h1
  exact h1
theorem dfW_eq {w : Nat → Int32} {N s : Nat} : dfW w N s = goV (dfP w s (bN w s) (dN w s) (pN w) (uN w s)) N s := rfl
theorem dfP_n {w : Nat → Int32} {s b d j : Nat} {p u : Nat → Nat} (hb : b < 6) (h1 : j < 7 ∨ (8 < j ∧ j < 14) ∨ (18 ≤ j ∧ j < 22) ∨ 158 ≤ j) (hs : s < 10) : dfP w s b d p u j = w j := by
  rw [dfP, ad_n (by omega), ad_n (by omega), gbK_n (by omega) (by omega), dfA_n (by omega) (by omega) (by omega)]
theorem ps_an {w : Nat → Int32} {B N E D U t : Nat} (h : Gd w B N E D U) (hs : Sd w N) (hD : D + t ≤ 100000) : (psV t w N 0).1 7 - w 7 = nI (psV t w N 0).2.2 := by
  rw [ps_7 t h hs hD, i_sub0]; grind
