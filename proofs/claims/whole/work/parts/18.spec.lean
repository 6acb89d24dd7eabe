/-! Arguments in their ranges; what both sides compute, as functions of the row w. -/
abbrev okB (B : Nat) (b : Int32) : Prop := nI 0 ≤ b ∧ b ≤ nI B - nI 1
abbrev okK (k : Int32) : Prop := nI 0 ≤ k ∧ k ≤ nI 3
abbrev okR (a c : Nat) (x : Int32) : Prop := nI a ≤ x ∧ x ≤ nI c
theorem okR_of {a c : Nat} {x : Int32} (hc : c < 2 ^ 31) (ha : a ≤ c) (h : okR a c x) : ∃ n, a ≤ n ∧ n ≤ c ∧ x = nI n := by
  have h0 : ¬ x < 0 := by
    intro z
    have h1 := Int32.le_iff_toInt_le.mp h.1
    have h2 := Int32.lt_iff_toInt_lt.mp z
    rw [nI_toInt (by omega)] at h1
    have h3 : (0 : Int32).toInt = 0 := by decide
    omega
  obtain ⟨n, hn, rfl⟩ := nI_of2 (nI_toInt hc) h0 h.2
  exact ⟨n, (nI_leI (by omega) (by omega)).mp h.1, hn, rfl⟩
theorem okR_nI {a c n : Nat} (hc : c < 2 ^ 31) (hn : n < 2 ^ 31) (ha : a ≤ c) : okR a c (nI n) ↔ a ≤ n ∧ n ≤ c := by
  constructor
  · intro h
    exact ⟨(nI_leI (by omega) hn).mp h.1, (nI_leI hn hc).mp h.2⟩
  · intro h
    exact ⟨(nI_leI (by omega) hn).mpr h.1, (nI_leI hn hc).mpr h.2⟩
theorem okB_of {B : Nat} {b : Int32} (hB : B ≤ 6) (h : okB B b) : ∃ n, n < B ∧ b = nI n := by
  rcases Nat.eq_zero_or_pos B with rfl | h0
  · exfalso
    have h1 := Int32.le_iff_toInt_le.mp h.1
    have h2 := Int32.le_iff_toInt_le.mp h.2
    have h3 : (nI 0 - nI 1).toInt = -1 := by decide
    have h4 : (nI 0).toInt = 0 := by decide
    omega
  · rw [okB, show nI B - nI 1 = nI (B - 1) from pk_sub h0] at h
    obtain ⟨n, h1, h2, h3⟩ := okR_of (by omega) (by omega) h
    exact ⟨n, by omega, h3⟩
theorem okB_nI {B n : Nat} (hB : B ≤ 6) (hn : n < B) : okB B (nI n) := by
  rw [okB, show nI B - nI 1 = nI (B - 1) from pk_sub (by omega)]
  exact ⟨(nI_leI (by omega) (by omega)).mpr (by omega), (nI_leI (by omega) (by omega)).mpr (by omega)⟩
theorem okK_of {k : Int32} (h : okK k) : ∃ n, n < 4 ∧ k = nI n := by
  obtain ⟨n, h1, h2, h3⟩ := okR_of (by decide) (by decide) h
  exact ⟨n, by omega, h3⟩
theorem okK_nI {n : Nat} (hn : n < 4) : okK (nI n) := (okR_nI (by decide) (by omega) (by decide)).mpr ⟨by omega, by omega⟩
theorem nn (h : Int32) : h.toNatClampNeg = h.toNatClampNeg := rfl
/-- the codes of what is refused -/
def fBorrower (B : Nat) (c : Int32) : Nat := if ¬ okR 0 500 c then 1 else if B = 6 then 2 else 0
def fBring (w : Nat → Int32) (B : Nat) (b k u : Int32) : Nat := if ¬ (okB B b ∧ okK k) then 1 else if ¬ okR 1 99 u then 2 else if nI 999 < w (22 + 6 * b.toNatClampNeg + (2 + k.toNatClampNeg)) + u then 3 else 0
def fPrice (k p : Int32) : Nat := if ¬ okK k then 1 else if ¬ okR 1 99 p then 2 else 0
def fLend (w : Nat → Int32) (B N : Nat) (b k u p t : Int32) : Nat := if ¬ (okB B b ∧ okK k) then 1 else if ¬ (okR 1 99 u ∧ okR 1 500 p ∧ okR 1 60 t) then 2
  else if N = 10 ∨ ¬ w (22 + 6 * b.toNatClampNeg + 1) < nI 2 ∨ w (22 + 6 * b.toNatClampNeg + (2 + k.toNatClampNeg)) < u then 3
  else if w 4 < p ∨ nI 2 * u * w (10 + k.toNatClampNeg) < nI 3 * p then 3 else 0
/-- of the loan at s, or of none (r as atS has it) -/
def fPledge (w : Nat → Int32) (r k u : Int32) : Nat := if r < 0 then 1 else if ¬ okK k then 2 else if ¬ okR 1 99 u then 3 else if w (22 + 6 * (w (58 + 10 * r.toNatClampNeg + 1)).toNatClampNeg + (2 + k.toNatClampNeg)) < u then 4 else 0
def fRelease (w : Nat → Int32) (r k u : Int32) : Nat := if r < 0 then 1 else if ¬ okK k then 2 else if ¬ okR 1 99 u then 3
  else if w (58 + 10 * r.toNatClampNeg + (6 + k.toNatClampNeg)) < u ∨ nI 2 * (valV w r.toNatClampNeg - u * w (10 + k.toNatClampNeg)) < nI 3 * debtV w r.toNatClampNeg then 4 else 0
def fRepay (w : Nat → Int32) (r c : Int32) : Nat := if r < 0 then 1 else if ¬ okR 1 999 c then 2 else if debtV w r.toNatClampNeg < c ∨ w (22 + 6 * (w (58 + 10 * r.toNatClampNeg + 1)).toNatClampNeg + 0) < c then 3 else 0
def fBuy (w : Nat → Int32) (B : Nat) (b k u : Int32) : Nat := if ¬ (okB B b ∧ okK k) then 1 else if ¬ okR 1 99 u then 2 else if w (14 + k.toNatClampNeg) < u ∨ w (22 + 6 * b.toNatClampNeg + 0) < u * w (10 + k.toNatClampNeg) then 3 else if nI 999 < w (22 + 6 * b.toNatClampNeg + (2 + k.toNatClampNeg)) + u then 3 else 0
def fPass (t : Int32) : Nat := if okR 1 60 t then 0 else 1
/-- the shape of a row: how many borrowers, loans, entries; whose the loans are -/
def Vk (w : Nat → Int32) (B N E : Nat) : Prop := w 1 = nI B ∧ w 2 = nI N ∧ w 5 = nI E ∧ B ≤ 6 ∧ N ≤ 10 ∧ E ≤ 20 ∧ ∀ s, s < N → ∃ b, b < B ∧ w (58 + 10 * s + 1) = nI b
theorem sm_step {f : Nat → Int32} {N q : Nat} {a : Int32} (h : q < N) : sm f (N - q) q a = sm f (N - (q + 1)) (q + 1) (a + f q) := by
  rw [show N - q = (N - (q + 1)) + 1 by omega]; rfl
theorem sm_go {f : Nat → Int32} {N q : Nat} {a R v : Int32} (h : q < N) (hR : sm f (N - q) q a = R) (hv : f q = v) : sm f (N - (q + 1)) (q + 1) (a + v) = R := by
  rw [← hv, ← sm_step h]; exact hR
theorem sm_end {f : Nat → Int32} {N q : Nat} {a R : Int32} (h : N ≤ q) (hR : sm f (N - q) q a = R) : a = R := by
  rw [show N - q = 0 by omega] at hR; exact hR
theorem atS_found {w : Nat → Int32} {N q : Nat} {id r : Int32} (h : atS w N id r) (hq : q < N) (hid : w (58 + 10 * q + 0) = id) (hno : ∀ i, i < q → w (58 + 10 * i + 0) ≠ id) : nI q = r := by
  rcases h with ⟨j, h1, h2, h3, h4⟩ | ⟨h1, -⟩
  · rcases Nat.lt_trichotomy j q with h | h | h
    · exact absurd h2 (hno j h)
    · rw [h4, h]
    · exact absurd hid (h3 q h)
  · exact absurd hid (h1 q hq)
theorem atS_none {w : Nat → Int32} {N : Nat} {id r : Int32} (h : atS w N id r) (hno : ∀ i, i < N → w (58 + 10 * i + 0) ≠ id) : -1 = r := by
  rcases h with ⟨j, h1, h2, -⟩ | ⟨-, h1⟩
  · exact absurd h2 (hno j h1)
  · exact h1.symm
theorem atS_ex (w : Nat → Int32) (N : Nat) (id : Int32) : (∃ s, s < N ∧ atS w N id (nI s)) ∨ atS w N id (-1) := by
  by_cases h : ∃ j, j < N ∧ w (58 + 10 * j + 0) = id
  · obtain ⟨j, hj⟩ := h
    obtain ⟨k, h1, h2⟩ := pk_least (fun j => j < N ∧ w (58 + 10 * j + 0) = id) ⟨j, hj⟩
    exact Or.inl ⟨k, h1.1, Or.inl ⟨k, h1.1, h1.2, fun i hi hh => h2 i hi ⟨Nat.lt_trans hi h1.1, hh⟩, rfl⟩⟩
  · exact Or.inr (Or.inr ⟨fun i hi hh => h ⟨i, hi, hh⟩, rfl⟩)
theorem upd_upd {f : Nat → Int32} {j : Nat} {a b : Int32} : upd (upd f j a) j b = upd f j b := by
  funext q; simp only [upd]; split <;> rfl
theorem u2_u2 {I : II} {a j : Nat} {x y : Int32} : u2 (u2 I a j x) a j y = u2 I a j y := by
  simp only [u2, sr_s, sr_sr, upd_upd]
/-- the entry for a day and a loan -/
def atE (w : Nat → Int32) (E : Nat) (dy id r : Int32) : Prop := (∃ j, j < E ∧ (w (158 + 3 * j + 0) = dy ∧ w (158 + 3 * j + 1) = id) ∧ (∀ i, i < j → ¬ (w (158 + 3 * i + 0) = dy ∧ w (158 + 3 * i + 1) = id)) ∧ r = nI j) ∨ ((∀ i, i < E → ¬ (w (158 + 3 * i + 0) = dy ∧ w (158 + 3 * i + 1) = id)) ∧ r = -1)
theorem atE_found {w : Nat → Int32} {N q : Nat} {dy id r : Int32} (h : atE w N dy id r) (hq : q < N) (hid : w (158 + 3 * q + 0) = dy ∧ w (158 + 3 * q + 1) = id) (hno : ∀ i, i < q → ¬ (w (158 + 3 * i + 0) = dy ∧ w (158 + 3 * i + 1) = id)) : nI q = r := by
  rcases h with ⟨j, h1, h2, h3, h4⟩ | ⟨h1, -⟩
  · rcases Nat.lt_trichotomy j q with h | h | h
    · exact absurd h2 (hno j h)
    · rw [h4, h]
    · exact absurd hid (h3 q h)
  · exact absurd hid (h1 q hq)
theorem atE_none {w : Nat → Int32} {N : Nat} {dy id r : Int32} (h : atE w N dy id r) (hno : ∀ i, i < N → ¬ (w (158 + 3 * i + 0) = dy ∧ w (158 + 3 * i + 1) = id)) : -1 = r := by
  rcases h with ⟨j, h1, h2, -⟩ | ⟨-, h1⟩
  · exact absurd h2 (hno j h1)
  · exact h1.symm
theorem atE_ex (w : Nat → Int32) (N : Nat) (dy id : Int32) : (∃ s, s < N ∧ atE w N dy id (nI s)) ∨ atE w N dy id (-1) := by
  by_cases h : ∃ j, j < N ∧ (w (158 + 3 * j + 0) = dy ∧ w (158 + 3 * j + 1) = id)
  · obtain ⟨j, hj⟩ := h
    obtain ⟨k, h1, h2⟩ := pk_least (fun j => j < N ∧ (w (158 + 3 * j + 0) = dy ∧ w (158 + 3 * j + 1) = id)) ⟨j, hj⟩
    exact Or.inl ⟨k, h1.1, Or.inl ⟨k, h1.1, h1.2, fun i hi hh => h2 i hi ⟨Nat.lt_trans hi h1.1, hh⟩, rfl⟩⟩
  · exact Or.inr (Or.inr ⟨fun i hi hh => h ⟨i, hi, hh⟩, rfl⟩)
/-- sums over the loans, the borrowers, the entries -/
def fWith (w : Nat → Int32) (b : Int32) : Nat → Int32 := fun s => if w (58 + 10 * s + 1) = b then nI 1 else nI 0
def fPled (w : Nat → Int32) (b : Int32) (k : Nat) : Nat → Int32 := fun s => if w (58 + 10 * s + 1) = b then w (58 + 10 * s + (6 + k)) else nI 0
def fDebt (w : Nat → Int32) (b : Int32) : Nat → Int32 := fun s => if w (58 + 10 * s + 1) = b then debtV w s else nI 0
def fLed (w : Nat → Int32) (id : Int32) : Nat → Int32 := fun e => if w (158 + 3 * e + 1) = id then w (158 + 3 * e + 2) else nI 0
def withV (w : Nat → Int32) (N : Nat) (b : Int32) : Int32 := sm (fWith w b) N 0 (nI 0)
def pledV (w : Nat → Int32) (N : Nat) (b : Int32) (k : Nat) : Int32 := sm (fPled w b k) N 0 (nI 0)
def debtsV (w : Nat → Int32) (N : Nat) (b : Int32) : Int32 := sm (fDebt w b) N 0 (nI 0)
def ledV (w : Nat → Int32) (E : Nat) (id : Int32) : Int32 := sm (fLed w id) E 0 (nI 0)
def coinsV (w : Nat → Int32) (B : Nat) : Int32 := sm (fun b => w (22 + 6 * b + 0)) B 0 (w 4)
def unitsV (w : Nat → Int32) (B N k : Nat) : Int32 := sm (fun b => w (22 + 6 * b + (2 + k)) + pledV w N (nI b) k) B 0 (w (14 + k))
def debtsAllV (w : Nat → Int32) (N : Nat) : Int32 := sm (fun s => debtV w s) N 0 (nI 0)
def dayV (w : Nat → Int32) (s : Nat) : Int32 := (w (58 + 10 * s + 2) * w (58 + 10 * s + 4) + nI 999) / nI 1000
theorem u2_g {I : II} {a j : Nat} {v : Int32} : u2 I a j v a j = v := by simp [u2, sr, upd]
def wlV (w : Nat → Int32) (N n : Nat) : Int32 := w (22 + 6 * n + 0) - debtsV w N (nI n) + (w (22 + 6 * n + (2 + 0)) + pledV w N (nI n) 0) * w (10 + 0) + (w (22 + 6 * n + (2 + 1)) + pledV w N (nI n) 1) * w (10 + 1) + (w (22 + 6 * n + (2 + 2)) + pledV w N (nI n) 2) * w (10 + 2) + (w (22 + 6 * n + (2 + 3)) + pledV w N (nI n) 3) * w (10 + 3)
abbrev okN (N : Nat) (x : Int32) : Prop := nI 0 ≤ x ∧ x ≤ nI N - nI 1
theorem okN_of {B : Nat} {b : Int32} (hB : B ≤ 100) (h : okN B b) : ∃ n, n < B ∧ b = nI n := by
  rcases Nat.eq_zero_or_pos B with rfl | h0
  · exfalso
    have h1 := Int32.le_iff_toInt_le.mp h.1
    have h2 := Int32.le_iff_toInt_le.mp h.2
    have h3 : (nI 0 - nI 1).toInt = -1 := by decide
    have h4 : (nI 0).toInt = 0 := by decide
    omega
  · rw [okN, show nI B - nI 1 = nI (B - 1) from pk_sub h0] at h
    obtain ⟨n, h1, h2, h3⟩ := okR_of (by omega) (by omega) h
    exact ⟨n, by omega, h3⟩
theorem okN_nI {B n : Nat} (hB : B ≤ 100) (hn : n < B) : okN B (nI n) := by
  rw [okN, show nI B - nI 1 = nI (B - 1) from pk_sub (by omega)]
  exact ⟨(nI_leI (by omega) (by omega)).mpr (by omega), (nI_leI (by omega) (by omega)).mpr (by omega)⟩
/-- in K days it fails, not before -/
def dlOk (w : Nat → Int32) (s K : Nat) : Prop := 1 ≤ K ∧ K ≤ 61 ∧ ∀ k, 1 ≤ k → k ≤ K → ((¬ w (58 + 10 * s + 5) < w 0 + nI k ∧ ¬ valV w s < debtV w s + nI k * dayV w s) ↔ k < K)
def bst (d : Nat → Nat) : Nat → Nat → Nat → Nat
  | 0, _, b => b
  | n + 1, k, b => bst d n (k + 1) (if d k < d b then k else b)
theorem bst_go {d : Nat → Nat} {N q b c : Nat} (h : q < N) (hc : (if d q < d b then q else b) = c) : bst d (N - q) q b = bst d (N - (q + 1)) (q + 1) c := by
  rw [show N - q = (N - (q + 1)) + 1 by omega, ← hc]; rfl
theorem bst_end {d : Nat → Nat} {N q b : Nat} (h : N ≤ q) : bst d (N - q) q b = b := by
  rw [show N - q = 0 by omega]; rfl
theorem bst_lt (d : Nat → Nat) (N : Nat) : ∀ (n k b : Nat), k + n ≤ N → b < N → bst d n k b < N
  | 0, _, _, _, h => h
  | n + 1, k, b, h1, h2 => bst_lt d N n (k + 1) _ (by omega) (by split <;> omega)
def aheadB (w : Nat → Int32) (a b : Nat) : Bool := if debtV w a - debtV w b = 0 then (if w (58 + 10 * b + 5) - w (58 + 10 * a + 5) = 0 then decide (a < b) else decide (0 < w (58 + 10 * b + 5) - w (58 + 10 * a + 5))) else decide (0 < debtV w a - debtV w b)
def cntV (w : Nat → Int32) (N a : Nat) : Int32 := sm (fun b => bI (aheadB w b a = true)) N 0 (nI 0)
/-- the greatest principal below 501 that is granted, or 0 -/
def gpOk (w : Nat → Int32) (B N : Nat) (b k u : Int32) (K : Nat) : Prop := K ≤ 500 ∧ (K = 0 ∨ fLend w B N b k u (nI K) (nI 1) = 0) ∧ ∀ p, K < p → p ≤ 500 → fLend w B N b k u (nI p) (nI 1) ≠ 0
/-- K units more and it is covered, not fewer -/
def muOk (w : Nat → Int32) (s m K : Nat) : Prop := K < 1000000000 ∧ ∀ j, j ≤ K → (nI 2 * (valV w s + nI j * w (10 + m)) < nI 3 * debtV w s ↔ j < K)
theorem fLend_le (w : Nat → Int32) (B N : Nat) (b k u p t : Int32) : fLend w B N b k u p t ≤ 3 := by
  unfold fLend
  repeat' split
  all_goals omega
theorem nI0 {w : Nat → Int32} {B N : Nat} {b k u p t : Int32} (h : nI (fLend w B N b k u p t) = 0) : fLend w B N b k u p t = 0 := by
  have h1 := fLend_le w B N b k u p t
  exact (nI_eq (a := fLend w B N b k u p t) (b := 0) (by omega) (by decide)).mp h
