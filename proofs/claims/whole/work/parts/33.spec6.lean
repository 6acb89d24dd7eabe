/-! The nine changes by number: what refuses them, the row behind them, their answer. -/
def slF (w : Nat → Int32) (id : Int32) : Nat → Nat → Int32
  | 0, _ => -1
  | f + 1, k => if w (58 + 10 * k + 0) = id then nI k else slF w id f (k + 1)
def slV (w : Nat → Int32) (N : Nat) (id : Int32) : Int32 := slF w id N 0
theorem slF_at {w : Nat → Int32} {N : Nat} {id : Int32} : ∀ (f k : Nat), k + f = N → (∀ i, i < k → w (58 + 10 * i + 0) ≠ id) → atS w N id (slF w id f k)
  | 0, k, h, hn => Or.inr ⟨fun i hi => hn i (by omega), rfl⟩
  | f + 1, k, h, hn => by
    rw [slF]
    split
    · rename_i h1
      exact Or.inl ⟨k, by omega, h1, hn, rfl⟩
    · rename_i h1
      exact slF_at f (k + 1) (by omega) (fun i hi => by
        rcases Nat.lt_or_ge i k with h2 | h2
        · exact hn i h2
        · obtain rfl : i = k := by omega
          exact h1)
theorem slV_at (w : Nat → Int32) (N : Nat) (id : Int32) : atS w N id (slV w N id) := slF_at N 0 (by omega) (fun i h => absurd h (by omega))
theorem atS_or {w : Nat → Int32} {N : Nat} {id r : Int32} (h : atS w N id r) : (∃ s, s < N ∧ r = nI s ∧ w (58 + 10 * s + 0) = id) ∨ r = -1 := by
  rcases h with ⟨j, h1, h2, -, h3⟩ | ⟨-, h3⟩
  · exact Or.inl ⟨j, h1, h3, h2⟩
  · exact Or.inr h3
def etF (w : Nat → Int32) (dy id : Int32) : Nat → Nat → Int32
  | 0, _ => -1
  | f + 1, k => if w (158 + 3 * k + 0) = dy ∧ w (158 + 3 * k + 1) = id then nI k else etF w dy id f (k + 1)
def etV (w : Nat → Int32) (E : Nat) (dy id : Int32) : Int32 := etF w dy id E 0
theorem etF_at {w : Nat → Int32} {N : Nat} {dy id : Int32} : ∀ (f k : Nat), k + f = N → (∀ i, i < k → ¬ (w (158 + 3 * i + 0) = dy ∧ w (158 + 3 * i + 1) = id)) → atE w N dy id (etF w dy id f k)
  | 0, k, h, hn => Or.inr ⟨fun i hi => hn i (by omega), rfl⟩
  | f + 1, k, h, hn => by
    rw [etF]
    split
    · rename_i h1
      exact Or.inl ⟨k, by omega, h1, hn, rfl⟩
    · rename_i h1
      exact etF_at f (k + 1) (by omega) (fun i hi => by
        rcases Nat.lt_or_ge i k with h2 | h2
        · exact hn i h2
        · obtain rfl : i = k := by omega
          exact h1)
theorem etV_at (w : Nat → Int32) (E : Nat) (dy id : Int32) : atE w E dy id (etV w E dy id) := etF_at E 0 (by omega) (fun i h => absurd h (by omega))
abbrev cl (x : Int32) : Nat := x.toNatClampNeg
def cdV (w : Nat → Int32) (B N i : Nat) (x : Nat → Int32) : Nat := match i with
  | 0 => fBorrower B (x 0)
  | 1 => fBring w B (x 0) (x 1) (x 2)
  | 2 => fPrice (x 0) (x 1)
  | 3 => fLend w B N (x 0) (x 1) (x 2) (x 3) (x 4)
  | 4 => fPledge w (slV w N (x 0)) (x 1) (x 2)
  | 5 => fRelease w (slV w N (x 0)) (x 1) (x 2)
  | 6 => fRepay w (slV w N (x 0)) (x 1)
  | 7 => fBuy w B (x 0) (x 1) (x 2)
  | _ => fPass (x 0)
def slN (w : Nat → Int32) (N : Nat) (id : Int32) : Nat := cl (slV w N id)
/-- the entry that a repayment goes to -/
def reV (w : Nat → Int32) (N E : Nat) (id c : Int32) : Int32 := etV (rpB w (slN w N id) (bN w (slN w N id)) c) E (w 0) id
def chR (w : Nat → Int32) (B N E i : Nat) (x : Nat → Int32) : Nat → Int32 := match i with
  | 0 => abV w B (x 0)
  | 1 => brV w (cl (x 0)) (cl (x 1)) (x 2)
  | 2 => upd w (10 + cl (x 0)) (x 1)
  | 3 => ldV w N (cl (x 0)) (cl (x 1)) (x 2) (x 3) (x 4)
  | 4 => pgV w (slN w N (x 0)) (bN w (slN w N (x 0))) (cl (x 1)) (x 2)
  | 5 => pgV w (slN w N (x 0)) (bN w (slN w N (x 0))) (cl (x 1)) (-(x 2))
  | 6 => rpV w N E (slN w N (x 0)) (bN w (slN w N (x 0))) (x 0) (x 1) (reV w N E (x 0) (x 1))
  | 7 => buV w (cl (x 0)) (cl (x 1)) (x 2)
  | _ => (psV (cl (x 0)) w N 0).1
def chA (w : Nat → Int32) (B N E i : Nat) (x : Nat → Int32) : Int32 := match i with
  | 0 => nI B
  | 1 => w (22 + 6 * cl (x 0) + (2 + cl (x 1))) + x 2
  | 2 => w (10 + cl (x 0))
  | 3 => w 3
  | 4 => valV (pgV w (slN w N (x 0)) (bN w (slN w N (x 0))) (cl (x 1)) (x 2)) (slN w N (x 0))
  | 5 => valV (pgV w (slN w N (x 0)) (bN w (slN w N (x 0))) (cl (x 1)) (-(x 2))) (slN w N (x 0))
  | 6 => debtV (rpC w E (slN w N (x 0)) (bN w (slN w N (x 0))) (x 0) (x 1) (reV w N E (x 0) (x 1))) (slN w N (x 0))
  | 7 => x 2 * w (10 + cl (x 1))
  | _ => nI (psV (cl (x 0)) w N 0).2.2
/-! What is not refused has its arguments in range. -/
theorem fBorrower_ok {B : Nat} {c : Int32} (h : fBorrower B c = 0) : okR 0 500 c ∧ B ≠ 6 := by
  unfold fBorrower at h
  split at h
  · omega
  · rename_i h1
    split at h
    · omega
    · rename_i h2
      exact ⟨Decidable.not_not.mp h1, h2⟩
theorem fBring_ok {w : Nat → Int32} {B : Nat} {b k u : Int32} (h : fBring w B b k u = 0) : okB B b ∧ okK k ∧ okR 1 99 u ∧ ¬ nI 999 < w (22 + 6 * cl b + (2 + cl k)) + u := by
  unfold fBring at h
  split at h
  · omega
  · rename_i h1
    split at h
    · omega
    · rename_i h2
      split at h
      · omega
      · rename_i h3
        exact ⟨(Decidable.not_not.mp h1).1, (Decidable.not_not.mp h1).2, Decidable.not_not.mp h2, h3⟩
theorem fPrice_ok {k p : Int32} (h : fPrice k p = 0) : okK k ∧ okR 1 99 p := by
  unfold fPrice at h
  split at h
  · omega
  · rename_i h1
    split at h
    · omega
    · rename_i h2
      exact ⟨Decidable.not_not.mp h1, Decidable.not_not.mp h2⟩
theorem fLend_ok {w : Nat → Int32} {B N : Nat} {b k u p t : Int32} (h : fLend w B N b k u p t = 0) : okB B b ∧ okK k ∧ okR 1 99 u ∧ okR 1 500 p ∧ okR 1 60 t ∧ N ≠ 10 ∧ w (22 + 6 * cl b + 1) < nI 2 ∧ ¬ w (22 + 6 * cl b + (2 + cl k)) < u ∧ ¬ w 4 < p ∧ ¬ nI 2 * u * w (10 + cl k) < nI 3 * p := by
  unfold fLend at h
  split at h
  · omega
  · rename_i h1
    split at h
    · omega
    · rename_i h2
      split at h
      · omega
      · rename_i h3
        split at h
        · omega
        · rename_i h4
          have h1 := Decidable.not_not.mp h1
          have h2 := Decidable.not_not.mp h2
          exact ⟨h1.1, h1.2, h2.1, h2.2.1, h2.2.2, fun z => h3 (Or.inl z), Decidable.not_not.mp (fun z => h3 (Or.inr (Or.inl z))), fun z => h3 (Or.inr (Or.inr z)), fun z => h4 (Or.inl z), fun z => h4 (Or.inr z)⟩
theorem fPledge_ok {w : Nat → Int32} {r k u : Int32} (h : fPledge w r k u = 0) : ¬ r < 0 ∧ okK k ∧ okR 1 99 u ∧ ¬ w (22 + 6 * cl (w (58 + 10 * cl r + 1)) + (2 + cl k)) < u := by
  unfold fPledge at h
  split at h
  · omega
  · rename_i h1
    split at h
    · omega
    · rename_i h2
      split at h
      · omega
      · rename_i h3
        split at h
        · omega
        · rename_i h4
          exact ⟨h1, Decidable.not_not.mp h2, Decidable.not_not.mp h3, h4⟩
theorem fRelease_ok {w : Nat → Int32} {r k u : Int32} (h : fRelease w r k u = 0) : ¬ r < 0 ∧ okK k ∧ okR 1 99 u ∧ ¬ w (58 + 10 * cl r + (6 + cl k)) < u := by
  unfold fRelease at h
  split at h
  · omega
  · rename_i h1
    split at h
    · omega
    · rename_i h2
      split at h
      · omega
      · rename_i h3
        split at h
        · omega
        · rename_i h4
          exact ⟨h1, Decidable.not_not.mp h2, Decidable.not_not.mp h3, fun z => h4 (Or.inl z)⟩
theorem fRepay_ok {w : Nat → Int32} {r c : Int32} (h : fRepay w r c = 0) : ¬ r < 0 ∧ okR 1 999 c ∧ ¬ debtV w (cl r) < c := by
  unfold fRepay at h
  split at h
  · omega
  · rename_i h1
    split at h
    · omega
    · rename_i h2
      split at h
      · omega
      · rename_i h3
        exact ⟨h1, Decidable.not_not.mp h2, fun z => h3 (Or.inl z)⟩
theorem fBuy_ok {w : Nat → Int32} {B : Nat} {b k u : Int32} (h : fBuy w B b k u = 0) : okB B b ∧ okK k ∧ okR 1 99 u := by
  unfold fBuy at h
  split at h
  · omega
  · rename_i h1
    split at h
    · omega
    · rename_i h2
      exact ⟨(Decidable.not_not.mp h1).1, (Decidable.not_not.mp h1).2, Decidable.not_not.mp h2⟩
theorem fPass_ok {t : Int32} (h : fPass t = 0) : okR 1 60 t := by
  unfold fPass at h
  split at h
  · rename_i h1; exact h1
  · omega
/-! The changes keep a row good. -/
theorem Ln.w {w : Nat → Int32} {s t x y D D' U U' : Nat} (h : Ln w s t x D U) (hx : x ≤ y) (hU : U ≤ U') : Ln w s t y D' U' := by
  obtain ⟨id, pr, ac, rt, du, h0, h2, h3, h4, h5, hh, l2, l3, l4, l5, l6, hu⟩ := h
  exact ⟨id, pr, ac, rt, du, h0, h2, h3, h4, h5, by omega, l2, l3, l4, l5, l6, fun k hk => by
    obtain ⟨u, u1, u2⟩ := hu k hk
    exact ⟨u, by omega, u2⟩⟩
theorem Gd.w {w : Nat → Int32} {B N E D D' U U' : Nat} (h : Gd w B N E D U) (hD : D ≤ D') (hU : U ≤ U') (hD1 : D' ≤ 100000) (hU1 : U' ≤ 10000) : Gd w B N E D' U' := by
  obtain ⟨v, p, ⟨t, x, ht, hx, h0, h3, hl⟩, hi, -, -⟩ := h
  exact ⟨v, p, ⟨t, x, by omega, by omega, h0, h3, fun s hs => (hl s hs).w (Nat.le_refl _) hU⟩, hi, hD1, hU1⟩
/-- what loans, counts and days see stays -/
theorem Gd.same {w v : Nat → Int32} {B B' N E D U : Nat} (h : Gd w B N E D U) (hB : v 1 = nI B') (hB1 : B ≤ B') (hB6 : B' ≤ 6) (hp : ∀ k, k < 4 → ∃ p, 1 ≤ p ∧ p ≤ 99 ∧ v (10 + k) = nI p) (e : ∀ j, (j = 0 ∨ j = 2 ∨ j = 3 ∨ j = 5 ∨ (58 ≤ j ∧ j < 158)) → v j = w j) : Gd v B' N E D U := by
  obtain ⟨⟨v1, v2, v3, v4, v5, v6, v7⟩, h2, ⟨t, x, ht, hx, h30, h33, hl⟩, hi, hD, hU⟩ := h
  refine ⟨⟨hB, (e 2 (by omega)).trans v2, (e 5 (by omega)).trans v3, hB6, v5, v6, fun s hs => ?_⟩, hp, ⟨t, x, ht, hx, (e 0 (by omega)).trans h30, (e 3 (by omega)).trans h33, fun s hs => (hl s hs).c (fun j hj => e _ (by omega))⟩, fun r s h1 h2 => ?_, hD, hU⟩
  · obtain ⟨b, b1, b2⟩ := v7 s hs
    exact ⟨b, by omega, (e _ (by omega)).trans b2⟩
  · rw [e _ (by omega), e _ (by omega)]
    exact hi r s h1 h2
theorem Sd.same {w v : Nat → Int32} {N : Nat} (h : Sd w N) (hN : N ≤ 10) (e : ∀ j, (j = 0 ∨ (58 ≤ j ∧ j < 158)) → v j = w j) : Sd v N := by
  intro s hs
  rw [e _ (by omega), e 0 (by omega)]
  exact h s hs
theorem Gd.pr {w v : Nat → Int32} {B N E D U : Nat} (h : Gd w B N E D U) (e : ∀ k, k < 4 → v (10 + k) = w (10 + k)) : ∀ k, k < 4 → ∃ p, 1 ≤ p ∧ p ≤ 99 ∧ v (10 + k) = nI p := fun k hk => by
  obtain ⟨p, p1, p2, p3⟩ := h.2.1 k hk
  exact ⟨p, p1, p2, (e k hk).trans p3⟩
theorem gd_0 {w : Nat → Int32} {B N E D U : Nat} {c : Int32} (h : Gd w B N E D U) (hs : Sd w N) (hc : fBorrower B c = 0) : Gd (abV w B c) (B + 1) N E D U ∧ Sd (abV w B c) N := by
  obtain ⟨-, h6⟩ := fBorrower_ok hc
  have hB := h.B.2
  have hN := h.N.2
  have e : ∀ j, j ≠ 1 → j ≠ 9 → ¬ (22 ≤ j ∧ j < 58) → abV w B c j = w j := fun j h1 h9 h3 => by
    rw [abV, ad_n h9, ad_n (by omega), zr_n (by omega), upd_n h1]
  refine ⟨h.same ?_ (by omega) (by omega) (h.pr (fun k hk => e _ (by omega) (by omega) (by omega))) (fun j hj => e j (by omega) (by omega) (by omega)), hs.same hN (fun j hj => e j (by omega) (by omega) (by omega))⟩
  rw [abV, ad_n (by omega), ad_n (by omega), zr_n (by omega), upd_e]
theorem gd_1 {w : Nat → Int32} {B N E D U n m : Nat} {u : Int32} (h : Gd w B N E D U) (hs : Sd w N) (hn : n < B) (hm : m < 4) : Gd (brV w n m u) B N E D U ∧ Sd (brV w n m u) N := by
  have hB := h.B.2
  have hN := h.N.2
  have e : ∀ j, ¬ (18 ≤ j ∧ j < 58) → brV w n m u j = w j := fun j h3 => by
    rw [brV, ad_n (by omega), ad_n (by omega)]
  exact ⟨h.same ((e 1 (by omega)).trans h.B.1) (by omega) (by omega) (h.pr (fun k hk => e _ (by omega))) (fun j hj => e j (by omega)), hs.same hN (fun j hj => e j (by omega))⟩
theorem gd_2 {w : Nat → Int32} {B N E D U m q : Nat} (h : Gd w B N E D U) (hs : Sd w N) (hm : m < 4) (hq : 1 ≤ q ∧ q ≤ 99) : Gd (upd w (10 + m) (nI q)) B N E D U ∧ Sd (upd w (10 + m) (nI q)) N := by
  have hB := h.B.2
  have hN := h.N.2
  refine ⟨h.same ((upd_n (by omega)).trans h.B.1) (by omega) (by omega) (fun k hk => ?_) (fun j hj => upd_n (by omega)), hs.same hN (fun j hj => upd_n (by omega))⟩
  by_cases hkm : k = m
  · subst hkm; exact ⟨q, hq.1, hq.2, upd_e⟩
  · obtain ⟨p, p1, p2, p3⟩ := h.2.1 k hk
    exact ⟨p, p1, p2, (upd_n (by omega)).trans p3⟩
theorem gd_7 {w : Nat → Int32} {B N E D U n m : Nat} {u : Int32} (h : Gd w B N E D U) (hs : Sd w N) (hn : n < B) (hm : m < 4) : Gd (buV w n m u) B N E D U ∧ Sd (buV w n m u) N := by
  have hB := h.B.2
  have hN := h.N.2
  have e : ∀ j, j ≠ 4 → ¬ (14 ≤ j ∧ j < 58) → buV w n m u j = w j := fun j h4 h3 => by
    rw [buV, ad_n h4, ad_n (by omega), ad_n (by omega), sb_n (by omega)]
  exact ⟨h.same ((e 1 (by omega) (by omega)).trans h.B.1) (by omega) (by omega) (h.pr (fun k hk => e _ (by omega) (by omega))) (fun j hj => e j (by omega) (by omega)), hs.same hN (fun j hj => e j (by omega) (by omega))⟩
theorem sm_le1 {f : Nat → Int32} (hf : ∀ j, f j = nI 0 ∨ f j = nI 1) : ∀ (n k a : Nat), ∃ z, z ≤ a + n ∧ sm f n k (nI a) = nI z
  | 0, _, a => ⟨a, Nat.le_refl _, rfl⟩
  | n + 1, k, a => by
    rcases hf k with h | h
    · obtain ⟨z, h1, h2⟩ := sm_le1 hf n (k + 1) a
      refine ⟨z, by omega, ?_⟩
      rw [sm, h, nI_add]; exact h2
    · obtain ⟨z, h1, h2⟩ := sm_le1 hf n (k + 1) (a + 1)
      refine ⟨z, by omega, ?_⟩
      rw [sm, h, nI_add]; exact h2
theorem withV_le (w : Nat → Int32) (N : Nat) (b : Int32) : ∃ z, z ≤ N ∧ withV w N b = nI z := by
  obtain ⟨z, h1, h2⟩ := sm_le1 (f := fWith w b) (fun j => by unfold fWith; split <;> simp) N 0 0
  exact ⟨z, by omega, h2⟩
theorem gd_3 {w : Nat → Int32} {B N E D U n m u p t : Nat} (h : Gd w B N E D U) (hs : Sd w N) (hn : n < B) (hm : m < 4) (hu : u ≤ 99) (hp : p ≤ 500) (ht : 1 ≤ t ∧ t ≤ 60) (hN : N < 10) (hU1 : U + 1 ≤ 10000) : Gd (ldV w N n m (nI u) (nI p) (nI t)) B (N + 1) E D (U + 1) ∧ Sd (ldV w N n m (nI u) (nI p) (nI t)) (N + 1) := by
  obtain ⟨⟨v1, v2, v3, v4, v5, v6, v7⟩, h2, ⟨dt, x, hdt, hx, h30, h33, hl⟩, hi, hD, hU⟩ := h
  obtain ⟨z, hz, ez⟩ := withV_le w N (nI n)
  have e : ∀ j, j ≠ 2 → j ≠ 3 → j ≠ 4 → ¬ (22 ≤ j ∧ j < 58) → ¬ (58 + 10 * N ≤ j ∧ j < 68 + 10 * N) → ldV w N n m (nI u) (nI p) (nI t) j = w j := fun j a2 a3 a4 a5 a6 => by
    rw [ldV, upd_n a3, upd_n a2, sb_n a4, ad_n (by omega), ad_n (by omega), plK_n (by omega), ld6, upd_n (by omega), ld5, upd_n (by omega), ld4, upd_n (by omega), upd_n (by omega), upd_n (by omega), upd_n (by omega)]
  have eN : ∀ j, j < 6 → ldV w N n m (nI u) (nI p) (nI t) (58 + 10 * N + j) = ld6 w N n (nI p) (nI t) (58 + 10 * N + j) := fun j hj => by
    rw [ldV, upd_n (by omega), upd_n (by omega), sb_n (by omega), ad_n (by omega), ad_n (by omega), plK_n (by omega)]
  have e0 : ldV w N n m (nI u) (nI p) (nI t) (58 + 10 * N + 0) = nI x := by
    rw [eN 0 (by omega), ld6, upd_n (by omega), ld5, upd_n (by omega), ld4, upd_n (by omega), upd_n (by omega), upd_n (by omega), upd_e, h33]
  have e5 : ldV w N n m (nI u) (nI p) (nI t) (58 + 10 * N + 5) = nI (dt + t) := by
    rw [eN 5 (by omega), ld6, upd_e, h30, nI_add]
  have e1 : ldV w N n m (nI u) (nI p) (nI t) (58 + 10 * N + 1) = nI n := by
    rw [eN 1 (by omega), ld6, upd_n (by omega), ld5, upd_n (by omega), ld4, upd_n (by omega), upd_n (by omega), upd_e]
  have ew0 : ldV w N n m (nI u) (nI p) (nI t) 0 = nI dt := (e 0 (by omega) (by omega) (by omega) (by omega) (by omega)).trans h30
  refine ⟨⟨⟨(e 1 (by omega) (by omega) (by omega) (by omega) (by omega)).trans v1, ?_, (e 5 (by omega) (by omega) (by omega) (by omega) (by omega)).trans v3, v4, by omega, v6, fun s h9 => ?_⟩, fun k hk => ?_, ⟨dt, x + 1, hdt, by omega, ew0, ?_, fun s h9 => ?_⟩, fun r s h8 h9 => ?_, hD, hU1⟩, fun s h9 => ?_⟩
  · rw [ldV, upd_n (by omega), upd_e]
  · rcases Nat.lt_or_ge s N with h8 | h8
    · obtain ⟨b, b1, b2⟩ := v7 s h8
      exact ⟨b, b1, (e _ (by omega) (by omega) (by omega) (by omega) (by omega)).trans b2⟩
    · obtain rfl : s = N := by omega
      exact ⟨n, hn, e1⟩
  · obtain ⟨p, p1, p2, p3⟩ := h2 k hk
    exact ⟨p, p1, p2, (e _ (by omega) (by omega) (by omega) (by omega) (by omega)).trans p3⟩
  · rw [ldV, upd_e, h33, nI_add]
  · rcases Nat.lt_or_ge s N with h8 | h8
    · exact ((hl s h8).c (fun j hj => e _ (by omega) (by omega) (by omega) (by omega) (by omega))).w (by omega) (by omega)
    · obtain rfl : s = N := by omega
      refine ⟨x, p, 0, 10 + 5 * z, dt + t, e0, ?_, ?_, ?_, e5, by omega, hp, by omega, by omega, by omega, by omega, fun k hk => ?_⟩
      · rw [eN 2 (by omega), ld6, upd_n (by omega), ld5, upd_n (by omega), ld4, upd_n (by omega), upd_e]
      · rw [eN 3 (by omega), ld6, upd_n (by omega), ld5, upd_n (by omega), ld4, upd_e]
      · rw [eN 4 (by omega), ld6, upd_n (by omega), ld5, upd_e, ez, pk_mul, nI_add]
      · refine ⟨if k = m then u else 0, by split <;> omega, ?_⟩
        rw [ldV, upd_n (by omega), upd_n (by omega), sb_n (by omega), ad_n (by omega), ad_n (by omega)]
        simp only [plK]
        rw [if_pos (by omega)]
        by_cases hkm : k = m
        · rw [if_pos (by omega), if_pos hkm]
        · rw [if_neg (by omega), if_neg hkm]
  · rcases Nat.lt_or_ge s N with h7 | h7
    · rw [e _ (by omega) (by omega) (by omega) (by omega) (by omega), e _ (by omega) (by omega) (by omega) (by omega) (by omega)]
      exact hi r s h8 h7
    · obtain rfl : s = N := by omega
      rw [e0, e _ (by omega) (by omega) (by omega) (by omega) (by omega)]
      obtain ⟨id, pr, ac, rt, du, h0, -, -, -, -, hh, -⟩ := hl r h8
      rw [h0]
      exact nI_lt hh (by omega)
  · rw [ew0]
    rcases Nat.lt_or_ge s N with h8 | h8
    · have h9 := hs s h8
      rw [h30] at h9
      rw [e _ (by omega) (by omega) (by omega) (by omega) (by omega)]
      exact h9
    · obtain rfl : s = N := by omega
      rw [e5]
      exact nI_nlt (by omega) (by omega)
/-- one number of the loan at s changes, of its pledge -/
theorem gd_pg {w : Nat → Int32} {B N E D U s b m y : Nat} {u : Int32} (h : Gd w B N E D U) (hs : Sd w N) (hsN : s < N) (hb : b < B) (hm : m < 4) (hy : y ≤ 99 * (U + 1)) (ey : w (58 + 10 * s + (6 + m)) + u = nI y) (hU1 : U + 1 ≤ 10000) : Gd (pgV w s b m u) B N E D (U + 1) ∧ Sd (pgV w s b m u) N := by
  obtain ⟨⟨v1, v2, v3, v4, v5, v6, v7⟩, h2, ⟨dt, x, hdt, hx, h30, h33, hl⟩, hi, hD, hU⟩ := h
  have e : ∀ j, ¬ (22 ≤ j ∧ j < 58) → j ≠ 58 + 10 * s + (6 + m) → pgV w s b m u j = w j := fun j a5 a6 => by
    rw [pgV, ad_n a6, ad_n (by omega)]
  refine ⟨⟨⟨(e 1 (by omega) (by omega)).trans v1, (e 2 (by omega) (by omega)).trans v2, (e 5 (by omega) (by omega)).trans v3, v4, v5, v6, fun r hr => ?_⟩, fun k hk => ?_, ⟨dt, x, hdt, by omega, (e 0 (by omega) (by omega)).trans h30, (e 3 (by omega) (by omega)).trans h33, fun r hr => ?_⟩, fun r q h8 h9 => ?_, hD, hU1⟩, fun r hr => ?_⟩
  · obtain ⟨b, b1, b2⟩ := v7 r hr
    exact ⟨b, b1, (e _ (by omega) (by omega)).trans b2⟩
  · obtain ⟨p, p1, p2, p3⟩ := h2 k hk
    exact ⟨p, p1, p2, (e _ (by omega) (by omega)).trans p3⟩
  · by_cases hrs : r = s
    · subst hrs
      obtain ⟨id, pr, ac, rt, du, a0, a2, a3, a4, a5, hh, l2, l3, l4, l5, l6, hu⟩ := hl r hr
      refine ⟨id, pr, ac, rt, du, (e _ (by omega) (by omega)).trans a0, (e _ (by omega) (by omega)).trans a2, (e _ (by omega) (by omega)).trans a3, (e _ (by omega) (by omega)).trans a4, (e _ (by omega) (by omega)).trans a5, hh, l2, l3, l4, l5, l6, fun k hk => ?_⟩
      by_cases hkm : k = m
      · subst hkm
        refine ⟨y, hy, ?_⟩
        rw [pgV, ad, upd_e, ad_n (by omega), ey]
      · obtain ⟨u, u1, u2⟩ := hu k hk
        exact ⟨u, by omega, (e _ (by omega) (by omega)).trans u2⟩
    · exact ((hl r hr).c (fun j hj => e _ (by omega) (by omega))).w (by omega) (by omega)
  · rw [e _ (by omega) (by omega), e _ (by omega) (by omega)]
    exact hi r q h8 h9
  · rw [e _ (by omega) (by omega), e 0 (by omega) (by omega)]
    exact hs r hr
/-- a loan goes -/
theorem Gd.rm {v v' : Nat → Int32} {B N E D U s : Nat} (h : Gd v B N E D U) (hs : s < N) (ln : ∀ r j, r < N - 1 → j < 10 → v' (58 + 10 * r + j) = v (58 + 10 * skp s r + j)) (e2 : v' 2 = nI (N - 1)) (en : ∀ j, (j < 2 ∨ j = 3 ∨ j = 5 ∨ (10 ≤ j ∧ j < 14)) → v' j = v j) : Gd v' B (N - 1) E D U ∧ (Sd v N → Sd v' (N - 1)) := by
  obtain ⟨⟨v1, v2, v3, v4, v5, v6, v7⟩, h2, ⟨t, x, ht, hx, h30, h33, hl⟩, hi, hD, hU⟩ := h
  have sk : ∀ r, r < N - 1 → skp s r < N := fun r hr => by unfold skp; split <;> omega
  refine ⟨⟨⟨(en 1 (by omega)).trans v1, e2, (en 5 (by omega)).trans v3, v4, by omega, v6, fun r hr => ?_⟩, fun k hk => ?_, ⟨t, x, ht, hx, (en 0 (by omega)).trans h30, (en 3 (by omega)).trans h33, fun r hr => (hl _ (sk r hr)).c (fun j hj => ln r j hr hj)⟩, fun r q h1 h2 => ?_, hD, hU⟩, fun hS r hr => ?_⟩
  · obtain ⟨b, b1, b2⟩ := v7 _ (sk r hr)
    exact ⟨b, b1, (ln r 1 hr (by decide)).trans b2⟩
  · obtain ⟨p, p1, p2, p3⟩ := h2 k hk
    exact ⟨p, p1, p2, (en _ (by omega)).trans p3⟩
  · rw [ln r 0 (by omega) (by decide), ln q 0 h2 (by decide)]
    exact hi _ _ (by unfold skp; split <;> split <;> omega) (sk q h2)
  · rw [ln r 5 hr (by decide), en 0 (by omega)]
    exact hS _ (sk r hr)
def enE (E : Nat) (r : Int32) : Nat := if r < 0 then (if E = 20 then 20 else E + 1) else E
theorem enE_le {E : Nat} {r : Int32} (h : E ≤ 20) : enE E r ≤ 20 := by
  unfold enE; split
  · split <;> omega
  · exact h
theorem enV_5 {w : Nat → Int32} {E : Nat} {id c r : Int32} (h5 : w 5 = nI E) : enV w E id c r 5 = nI (enE E r) := by
  unfold enV enE
  split
  · split
    · rw [ad_n (by omega), opV, upd_n (by omega), upd_n (by omega), upd_n (by omega), upd_e]
    · rw [ad_n (by omega), opV, upd_n (by omega), upd_n (by omega), upd_n (by omega), upd_e]
  · rw [ad_n (by omega)]; exact h5
theorem i_sac {a c o : Nat} (h : c ≤ a + o) : nI a - nI c + nI o = nI (a + o - c) := by
  rw [show nI a - nI c + nI o = (nI a + nI o) - nI c by grind, nI_add, pk_sub h]
/-- what a repayment leaves of a loan -/
theorem rp_ln {w : Nat → Int32} {E s b pr ac c : Nat} {id r : Int32} (hE : E ≤ 20) (hs : s < 10) (hb : b < 6) (hr : r < 0 ∨ ∃ e, e < 20 ∧ r = nI e) (h2 : w (58 + 10 * s + 2) = nI pr) (h3 : w (58 + 10 * s + 3) = nI ac) (hc : c ≤ pr + ac) (hc9 : c ≤ 999) (hac : ac < 2 ^ 31) : rpC w E s b id (nI c) r (58 + 10 * s + 2) = nI (pr + (if c < ac then c else ac) - c) ∧ rpC w E s b id (nI c) r (58 + 10 * s + 3) = nI (ac - (if c < ac then c else ac)) := by
  have eo : onI w s (nI c) = nI (if c < ac then c else ac) := by
    unfold onI
    rw [h3]
    by_cases h : c < ac
    · rw [if_pos ((nI_ltI (by omega) hac).mpr h), if_pos h]
    · rw [if_neg (fun z => h ((nI_ltI (by omega) hac).mp z)), if_neg h]
  constructor
  · rw [rpC, enV_n hE (by omega) (by omega) hr, rpB, ad_n (by omega), ad_n (by omega), rpA, upd_e, eo, h2, i_sac (by split <;> omega)]
  · rw [rpC, enV_n hE (by omega) (by omega) hr, rpB, ad_n (by omega), ad_n (by omega), rpA, upd_n (by omega), upd_e, eo, h3, pk_sub (by split <;> omega)]
theorem gd_rc {w : Nat → Int32} {B N E D U s b c : Nat} {id r : Int32} (h : Gd w B N E D U) (hs : Sd w N) (hsN : s < N) (hb : b < B) (hr : r < 0 ∨ ∃ e, e < 20 ∧ r = nI e) (hc9 : c ≤ 999) (hc : ¬ debtV w s < nI c) : Gd (rpC w E s b id (nI c) r) B N (enE E r) D U ∧ Sd (rpC w E s b id (nI c) r) N := by
  obtain ⟨⟨v1, v2, v3, v4, v5, v6, v7⟩, h2, ⟨dt, x, hdt, hx, h30, h33, hl⟩, hi, hD, hU⟩ := h
  have e : ∀ j, j < 158 → j ≠ 5 → j ≠ 4 → ¬ (22 ≤ j ∧ j < 58) → j ≠ 58 + 10 * s + 2 → j ≠ 58 + 10 * s + 3 → rpC w E s b id (nI c) r j = w j := fun j a1 a2 a3 a4 a5 a6 => rpC_n v6 (by omega) a2 a3 a1 (by omega) a5 a6 hr
  refine ⟨⟨⟨(e 1 (by omega) (by omega) (by omega) (by omega) (by omega) (by omega)).trans v1, (e 2 (by omega) (by omega) (by omega) (by omega) (by omega) (by omega)).trans v2, ?_, v4, v5, enE_le v6, fun q hq => ?_⟩, fun k hk => ?_, ⟨dt, x, hdt, hx, (e 0 (by omega) (by omega) (by omega) (by omega) (by omega) (by omega)).trans h30, (e 3 (by omega) (by omega) (by omega) (by omega) (by omega) (by omega)).trans h33, fun q hq => ?_⟩, fun p q h8 h9 => ?_, hD, hU⟩, fun q hq => ?_⟩
  · rw [rpC]
    exact enV_5 (by rw [rpB, ad_n (by omega), ad_n (by omega), rpA, upd_n (by omega), upd_n (by omega)]; exact v3)
  · obtain ⟨b, b1, b2⟩ := v7 q hq
    exact ⟨b, b1, (e _ (by omega) (by omega) (by omega) (by omega) (by omega) (by omega)).trans b2⟩
  · obtain ⟨p, p1, p2, p3⟩ := h2 k hk
    exact ⟨p, p1, p2, (e _ (by omega) (by omega) (by omega) (by omega) (by omega) (by omega)).trans p3⟩
  · by_cases hqs : q = s
    · subst hqs
      obtain ⟨i, pr, ac, rt, du, a0, a2, a3, a4, a5, hh, l2, l3, l4, l5, l6, hu⟩ := hl q hq
      have hcd : c ≤ pr + ac := by
        rw [debtV, a2, a3, nI_add, nI_ltI (by omega) (by omega)] at hc
        omega
      obtain ⟨r2, r3⟩ := rp_ln (id := id) v6 (by omega) (b := b) (by omega) hr a2 a3 hcd hc9 (by omega)
      exact ⟨i, _, _, rt, du, (e _ (by omega) (by omega) (by omega) (by omega) (by omega) (by omega)).trans a0, r2, r3, (e _ (by omega) (by omega) (by omega) (by omega) (by omega) (by omega)).trans a4, (e _ (by omega) (by omega) (by omega) (by omega) (by omega) (by omega)).trans a5, hh, by split <;> omega, by split <;> omega, l4, l5, l6, fun k hk => by
        obtain ⟨u, u1, u2⟩ := hu k hk
        exact ⟨u, u1, (e _ (by omega) (by omega) (by omega) (by omega) (by omega) (by omega)).trans u2⟩⟩
    · exact (hl q hq).c (fun j hj => e _ (by omega) (by omega) (by omega) (by omega) (by omega) (by omega))
  · rw [e _ (by omega) (by omega) (by omega) (by omega) (by omega) (by omega), e _ (by omega) (by omega) (by omega) (by omega) (by omega) (by omega)]
    exact hi p q h8 h9
  · rw [e _ (by omega) (by omega) (by omega) (by omega) (by omega) (by omega), e 0 (by omega) (by omega) (by omega) (by omega) (by omega) (by omega)]
    exact hs q hq
theorem gd_6 {w : Nat → Int32} {B N E D U s b c : Nat} {id r : Int32} (h : Gd w B N E D U) (hs : Sd w N) (hsN : s < N) (hb : b < B) (hr : r < 0 ∨ ∃ e, e < 20 ∧ r = nI e) (hc9 : c ≤ 999) (hc : ¬ debtV w s < nI c) : ∃ N', Gd (rpV w N E s b id (nI c) r) B N' (enE E r) D U ∧ Sd (rpV w N E s b id (nI c) r) N' := by
  obtain ⟨g1, g2⟩ := gd_rc (id := id) h hs hsN hb hr hc9 hc
  have hB := h.B.2
  have hN := h.N.2
  unfold rpV
  split
  · refine ⟨N - 1, ?_⟩
    have sn : ∀ q, skp s q ≠ s := fun q => by unfold skp; split <;> omega
    obtain ⟨a1, a2⟩ := g1.rm hsN (v' := ad (goV (gbK (rpC w E s b id (nI c) r) s b 4) N s) 6 (nI 1)) (fun q j hq hj => by
      have := sn q
      rw [ad_n (by omega), goV_l hq hj, gbK_n (by omega) (by omega)]) (by rw [ad_n (by omega), goV_2]) (fun j hj => by
      rw [ad_n (by omega), goV_n (by omega) hN hsN (by omega), gbK_n (by omega) (by omega)])
    exact ⟨a1, a2 g2⟩
  · exact ⟨N, g1, g2⟩
/-- the row behind a change that isn't refused -/
theorem Gd.ch {w : Nat → Int32} {B N E D U i : Nat} {x : Nat → Int32} (h : Gd w B N E D U) (hs : Sd w N) (hc : cdV w B N i x = 0) (hi : i < 9) (hD : D + 60 ≤ 100000) (hU : U + 1 ≤ 10000) : ∃ B' N' E', Gd (chR w B N E i x) B' N' E' (D + 60) (U + 1) ∧ Sd (chR w B N E i x) N' := by
  have hB6 := h.B.2
  have hN10 := h.N.2
  have hE20 := h.E.2
  match i, hi, hc with
  | 0, _, hc =>
    obtain ⟨a, b⟩ := gd_0 h hs hc
    exact ⟨_, _, _, a.w (by omega) (by omega) hD hU, b⟩
  | 1, _, hc =>
    obtain ⟨h1, h2, -, -⟩ := fBring_ok hc
    obtain ⟨n, n1, n2⟩ := okB_of hB6 h1
    obtain ⟨m, m1, m2⟩ := okK_of h2
    show ∃ B' N' E', Gd (brV w (cl (x 0)) (cl (x 1)) (x 2)) B' N' E' (D + 60) (U + 1) ∧ Sd (brV w (cl (x 0)) (cl (x 1)) (x 2)) N'
    rw [n2, m2, cl, cl, nI_clamp (by omega), nI_clamp (by omega)]
    obtain ⟨a, b⟩ := gd_1 (u := x 2) h hs n1 m1
    exact ⟨_, _, _, a.w (by omega) (by omega) hD hU, b⟩
  | 2, _, hc =>
    obtain ⟨h1, h2⟩ := fPrice_ok hc
    obtain ⟨m, m1, m2⟩ := okK_of h1
    obtain ⟨q, q1, q2, q3⟩ := okR_of (by decide) (by decide) h2
    show ∃ B' N' E', Gd (upd w (10 + cl (x 0)) (x 1)) B' N' E' (D + 60) (U + 1) ∧ Sd (upd w (10 + cl (x 0)) (x 1)) N'
    rw [m2, q3, cl, nI_clamp (by omega)]
    obtain ⟨a, b⟩ := gd_2 h hs m1 ⟨q1, q2⟩
    exact ⟨_, _, _, a.w (by omega) (by omega) hD hU, b⟩
  | 3, _, hc =>
    obtain ⟨h1, h2, h3, h4, h5, h6, -⟩ := fLend_ok hc
    obtain ⟨n, n1, n2⟩ := okB_of hB6 h1
    obtain ⟨m, m1, m2⟩ := okK_of h2
    obtain ⟨u, u1, u2, u3⟩ := okR_of (by decide) (by decide) h3
    obtain ⟨p, p1, p2, p3⟩ := okR_of (by decide) (by decide) h4
    obtain ⟨t, t1, t2, t3⟩ := okR_of (by decide) (by decide) h5
    show ∃ B' N' E', Gd (ldV w N (cl (x 0)) (cl (x 1)) (x 2) (x 3) (x 4)) B' N' E' (D + 60) (U + 1) ∧ Sd (ldV w N (cl (x 0)) (cl (x 1)) (x 2) (x 3) (x 4)) N'
    rw [n2, m2, u3, p3, t3, cl, cl, nI_clamp (by omega), nI_clamp (by omega)]
    obtain ⟨a, b⟩ := gd_3 h hs n1 m1 u2 p2 ⟨t1, t2⟩ (by omega) hU
    exact ⟨_, _, _, a.w (by omega) (by omega) hD hU, b⟩
  | 4, _, hc =>
    obtain ⟨h1, h2, h3, -⟩ := fPledge_ok hc
    obtain ⟨s, s1, s2, -⟩ := (atS_or (slV_at w N (x 0))).resolve_right (fun z => h1 (by rw [z]; decide))
    obtain ⟨m, m1, m2⟩ := okK_of h2
    obtain ⟨u, u1, u2, u3⟩ := okR_of (by decide) (by decide) h3
    show ∃ B' N' E', Gd (pgV w (cl (slV w N (x 0))) (bN w (cl (slV w N (x 0)))) (cl (x 1)) (x 2)) B' N' E' (D + 60) (U + 1) ∧ Sd (pgV w (cl (slV w N (x 0))) (bN w (cl (slV w N (x 0)))) (cl (x 1)) (x 2)) N'
    rw [s2, m2, u3, cl, cl, nI_clamp (by omega), nI_clamp (by omega)]
    obtain ⟨-, -, ⟨dt, y, hdt, hy, h30, h33, hl⟩, -⟩ := id h
    obtain ⟨id, pr, ac, rt, du, -, -, -, -, -, -, -, -, -, -, -, hu⟩ := hl s s1
    obtain ⟨v, v1, v2⟩ := hu m m1
    obtain ⟨a, b⟩ := gd_pg (u := nI u) h hs s1 (h.own s1).1 m1 (y := v + u) (by omega) (by rw [v2, nI_add]) hU
    exact ⟨_, _, _, a.w (by omega) (by omega) hD hU, b⟩
  | 5, _, hc =>
    obtain ⟨h1, h2, h3, h4⟩ := fRelease_ok hc
    obtain ⟨s, s1, s2, -⟩ := (atS_or (slV_at w N (x 0))).resolve_right (fun z => h1 (by rw [z]; decide))
    obtain ⟨m, m1, m2⟩ := okK_of h2
    obtain ⟨u, u1, u2, u3⟩ := okR_of (by decide) (by decide) h3
    show ∃ B' N' E', Gd (pgV w (cl (slV w N (x 0))) (bN w (cl (slV w N (x 0)))) (cl (x 1)) (-(x 2))) B' N' E' (D + 60) (U + 1) ∧ Sd (pgV w (cl (slV w N (x 0))) (bN w (cl (slV w N (x 0)))) (cl (x 1)) (-(x 2))) N'
    rw [s2, m2, u3, cl, cl, nI_clamp (by omega), nI_clamp (by omega)] at h4
    rw [s2, m2, u3, cl, cl, nI_clamp (by omega), nI_clamp (by omega)]
    obtain ⟨-, -, ⟨dt, y, hdt, hy, h30, h33, hl⟩, -⟩ := id h
    obtain ⟨id, pr, ac, rt, du, -, -, -, -, -, -, -, -, -, -, -, hu⟩ := hl s s1
    obtain ⟨v, v1, v2⟩ := hu m m1
    have hUU := h.bd.2
    rw [v2, nI_ltI (by omega) (by omega)] at h4
    obtain ⟨a, b⟩ := gd_pg (u := -nI u) h hs s1 (h.own s1).1 m1 (y := v - u) (by omega) (by rw [v2, ← pk_sub (by omega)]; grind) hU
    exact ⟨_, _, _, a.w (by omega) (by omega) hD hU, b⟩
  | 6, _, hc =>
    obtain ⟨h1, h2, h3⟩ := fRepay_ok hc
    obtain ⟨s, s1, s2, -⟩ := (atS_or (slV_at w N (x 0))).resolve_right (fun z => h1 (by rw [z]; decide))
    obtain ⟨c, c1, c2, c3⟩ := okR_of (by decide) (by decide) h2
    have hre := atE_or hE20 (etV_at (rpB w (slN w N (x 0)) (bN w (slN w N (x 0))) (x 1)) E (w 0) (x 0))
    have es : slN w N (x 0) = s := by rw [slN, s2, cl, nI_clamp (by omega)]
    show ∃ B' N' E', Gd (rpV w N E (slN w N (x 0)) (bN w (slN w N (x 0))) (x 0) (x 1) (reV w N E (x 0) (x 1))) B' N' E' (D + 60) (U + 1) ∧ Sd (rpV w N E (slN w N (x 0)) (bN w (slN w N (x 0))) (x 0) (x 1) (reV w N E (x 0) (x 1))) N'
    rw [s2, cl, nI_clamp (by omega)] at h3
    have hre2 : reV w N E (x 0) (x 1) < 0 ∨ ∃ e, e < 20 ∧ reV w N E (x 0) (x 1) = nI e := hre
    rw [es]
    generalize reV w N E (x 0) (x 1) = r at hre2
    rw [c3] at h3
    rw [c3]
    obtain ⟨N', a, b⟩ := gd_6 (id := x 0) h hs s1 (h.own s1).1 hre2 c2 h3
    exact ⟨_, _, _, a.w (by omega) (by omega) hD hU, b⟩
  | 7, _, hc =>
    obtain ⟨h1, h2, -⟩ := fBuy_ok hc
    obtain ⟨n, n1, n2⟩ := okB_of hB6 h1
    obtain ⟨m, m1, m2⟩ := okK_of h2
    show ∃ B' N' E', Gd (buV w (cl (x 0)) (cl (x 1)) (x 2)) B' N' E' (D + 60) (U + 1) ∧ Sd (buV w (cl (x 0)) (cl (x 1)) (x 2)) N'
    rw [n2, m2, cl, cl, nI_clamp (by omega), nI_clamp (by omega)]
    obtain ⟨a, b⟩ := gd_7 (u := x 2) h hs n1 m1
    exact ⟨_, _, _, a.w (by omega) (by omega) hD hU, b⟩
  | 8, _, hc =>
    obtain ⟨t, t1, t2, t3⟩ := okR_of (by decide) (by decide) (fPass_ok hc)
    show ∃ B' N' E', Gd (psV (cl (x 0)) w N 0).1 B' N' E' (D + 60) (U + 1) ∧ Sd (psV (cl (x 0)) w N 0).1 N'
    rw [t3, cl, nI_clamp (by omega)]
    obtain ⟨a, b, -⟩ := Gd.ps t (n := 0) h hs (by omega)
    exact ⟨_, _, _, a.w (by omega) (by omega) hD hU, b⟩
  | i + 9, hi, _ => omega
