/-! What the reader reads, step by step. -/
theorem kw_len : ∀ i, i < 9 → (kwL i).length = sln i ∧ ∀ q, q < sln i → (kwL i).getD q 0 = sch i q := by decide +kernel
theorem rI_id {I : II} {r p v : Nat} (h0 : I r 0 = nI p) (h1 : I r 1 = nI v) : rI I r p v (I (r + 1)) = I := by
  have e : u2 (u2 I r 0 (nI p)) r 1 (nI v) = I := by
    rw [← h0, ← h1]
    have e1 : u2 I r 0 (I r 0) = I := by
      have : upd (I r) 0 (I r 0) = I r := by funext q; by_cases h : q = 0 <;> simp [upd, h]
      rw [show u2 I r 0 (I r 0) = sr I r (upd (I r) 0 (I r 0)) from rfl, this, sr_id]
    rw [e1]
    have : upd (I r) 1 (I r 1) = I r := by funext q; by_cases h : q = 1 <;> simp [upd, h]
    rw [show u2 I r 1 (I r 1) = sr I r (upd (I r) 1 (I r 1)) from rfl, this, sr_id]
  rw [rI, e, sr_id]
theorem l_gD {l : List Nat} {q : Nat} (hq : q < l.length) : l.getD q 0 = l[q] := by simp [List.getD_eq_getElem?_getD, hq]
theorem mtc_go {c : Nat → Nat} {L : Nat} {l : List Nat} {p q : Nat} (hq : q < l.length) (h : has c L (p + q) (l.getD q 0)) : mtc c L (l.drop q) (p + q) = mtc c L (l.drop (q + 1)) (p + (q + 1)) + 1 := by
  rw [List.drop_eq_getElem_cons hq, mtc, if_pos (by rw [l_gD hq] at h; exact h)]
  rfl
theorem mtc_no {c : Nat → Nat} {L : Nat} {l : List Nat} {p q : Nat} (hq : q < l.length) (h : ¬ has c L (p + q) (l.getD q 0)) : mtc c L (l.drop q) (p + q) = 0 := by
  rw [List.drop_eq_getElem_cons hq, mtc, if_neg (by rw [l_gD hq] at h; exact h)]
theorem mtc_end {c : Nat → Nat} {L : Nat} {l : List Nat} {p q : Nat} (hq : l.length ≤ q) : mtc c L (l.drop q) p = 0 := by
  rw [List.drop_eq_nil_of_le hq]; rfl
theorem mtc_len {c : Nat → Nat} {L : Nat} : ∀ (l : List Nat) (p : Nat), mtc c L l p ≤ l.length
  | [], _ => Nat.le_refl _
  | x :: t, p => by
    rw [mtc]
    split
    · have := mtc_len (c := c) (L := L) t (p + 1)
      simp only [List.length_cons]; omega
    · exact Nat.zero_le _
theorem mxV_n {x y : Nat} (hx : x < 2 ^ 31) (hy : y < 2 ^ 31) : mxV (nI x) (nI y) = nI (if x < y then y else x) := by
  unfold mxV
  by_cases h : x < y
  · rw [if_pos (nI_lt h hy), if_pos h]
  · rw [if_neg (nI_nlt (by omega) (by omega)), if_neg h]
theorem vbv_some {c : Nat → Nat} {L p i : Nat} (hi : i < 9) (h : mtc c L (kwL i) p = (kwL i).length) : vbv c L p (9 - i) i = some i := by
  obtain ⟨f, hf⟩ : ∃ f, 9 - i = f + 1 := ⟨8 - i, by omega⟩
  rw [hf, vbv, if_pos h]
theorem vbv_go {c : Nat → Nat} {L p i : Nat} (hi : i < 9) (h : ¬ mtc c L (kwL i) p = (kwL i).length) : vbv c L p (9 - i) i = vbv c L p (9 - (i + 1)) (i + 1) := by
  obtain ⟨f, hf⟩ : ∃ f, 9 - i = f + 1 := ⟨8 - i, by omega⟩
  rw [hf, vbv, if_neg h, show 9 - (i + 1) = f by omega]
theorem fur_go {c : Nat → Nat} {L p i a : Nat} (hi : i < 9) : fur c L p (9 - i) i a = fur c L p (9 - (i + 1)) (i + 1) (if a < mtc c L (kwL i) p then mtc c L (kwL i) p else a) := by
  obtain ⟨f, hf⟩ : ∃ f, 9 - i = f + 1 := ⟨8 - i, by omega⟩
  rw [hf, fur, show 9 - (i + 1) = f by omega]
theorem nmw_go {c : Nat → Nat} {L m k p a : Nat} (hk : k < m) (h : isd c L p) : nmv c L (m - k) p a = nmv c L (m - (k + 1)) (p + 1) (10 * a + (c p - 48)) := by
  obtain ⟨f, hf⟩ : ∃ f, m - k = f + 1 := ⟨m - k - 1, by omega⟩
  rw [hf, nmv, if_pos h, show m - (k + 1) = f by omega]
theorem nmw_no {c : Nat → Nat} {L m p a : Nat} (h : ¬ isd c L p) : nmv c L m p a = (p, a) := by
  match m with
  | 0 => rfl
  | f + 1 => rw [nmv, if_neg h]
/-- what reading the verb leaves -/
def RV (I : II) (r L p v : Nat) (c : Nat → Nat) (nm : Nat → Int32) (X : va_W) (T : TT) : PhiT := fun r' X' T' I' => X' = X ∧ T' = T ∧ ((∃ i, vbv c L p 9 0 = some i ∧ i < 9 ∧ r' = some (.int (nI 1)) ∧ p + (kwL i).length ≤ L ∧ I' = rI I r (p + (kwL i).length) i nm) ∨ (vbv c L p 9 0 = none ∧ r' = some (.int (nI 0)) ∧ I' = rI I r (p + fur c L p 9 0 0) v nm))
/-- what reading the arguments leaves -/
def RG (I : II) (r v : Nat) (R : Bool × Nat × List Nat) (X : va_W) (T : TT) : PhiT := fun r' X' T' I' => X' = X ∧ T' = T ∧ r' = some (.int (bI (R.1 = true))) ∧ ∃ nm', I' = rI I r R.2.1 v nm' ∧ (R.1 = true → ∀ k, k < R.2.2.length → nm' k = cmx R.2.2 k)
/-- what reading a command leaves -/
def RC (I : II) (r : Nat) (R : Bool × Nat × Nat × List Nat) (X : va_W) (T : TT) : PhiT := fun r' X' T' I' => X' = X ∧ T' = T ∧ r' = some (.int (bI (R.1 = true))) ∧ ∃ v' nm', v' < 9 ∧ I' = rI I r R.2.1 v' nm' ∧ (R.1 = true → v' = R.2.2.1 ∧ ∀ k, k < R.2.2.2.length → nm' k = cmx R.2.2.2 k)
