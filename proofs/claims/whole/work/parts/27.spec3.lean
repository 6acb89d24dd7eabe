/-! A day passes: numbers of a row as naturals, what a default takes, the loans that go. -/
def zz (p u : Nat → Nat) (d : Nat) : Nat → Nat
  | 0 => 0
  | k + 1 => zz p u d k + min ((d - zz p u d k + p k - 1) / p k) (u k) * p k
/-- the units of kind k that a debt d takes -/
def tt (p u : Nat → Nat) (d k : Nat) : Nat := min ((d - zz p u d k + p k - 1) / p k) (u k)
theorem zz_s {p u : Nat → Nat} {d k : Nat} : zz p u d (k + 1) = zz p u d k + tt p u d k * p k := rfl
theorem tt_lt {p u : Nat → Nat} {d k i : Nat} (hp : 1 ≤ p k) (hi : i ≤ tt p u d k) : (zz p u d k + i * p k < d ∧ i < u k) ↔ i < tt p u d k := by
  unfold tt at *
  generalize zz p u d k = z at *
  have h1 : i + 1 ≤ (d - z + p k - 1) / p k ↔ (i + 1) * p k ≤ d - z + p k - 1 := Nat.le_div_iff_mul_le (by omega)
  have h2 : (i + 1) * p k = i * p k + p k := Nat.succ_mul i (p k)
  rw [h2] at h1
  constructor
  · intro h
    have h3 : i + 1 ≤ (d - z + p k - 1) / p k := h1.mpr (by omega)
    omega
  · intro h
    have h3 := h1.mp (by omega)
    omega
theorem zz_at {p u : Nat → Nat} {d k i : Nat} (hp : 1 ≤ p k) (hi : i ≤ tt p u d k) : i = 0 ∨ zz p u d k + i * p k < d + p k := by
  rcases Nat.eq_zero_or_pos i with h | h
  · exact Or.inl h
  · right
    obtain ⟨j, rfl⟩ : ∃ j, i = j + 1 := ⟨i - 1, by omega⟩
    have h1 := ((tt_lt (u := u) (d := d) (i := j) hp (by omega)).mpr (by omega)).1
    have h2 : (j + 1) * p k = j * p k + p k := Nat.succ_mul j (p k)
    omega
theorem zz_le {p u : Nat → Nat} {d : Nat} (hp : ∀ k, k < 4 → 1 ≤ p k ∧ p k ≤ 99) : ∀ k, k ≤ 4 → zz p u d k < d + 99
  | 0, _ => by simp only [zz]; omega
  | k + 1, h => by
    have h1 := zz_le (p := p) (u := u) (d := d) hp k (by omega)
    have h2 := hp k (by omega)
    have h3 := zz_at (u := u) (d := d) (i := tt p u d k) h2.1 (Nat.le_refl _)
    rw [zz_s]
    rcases h3 with h3 | h3
    · rw [h3, Nat.zero_mul]; omega
    · omega
theorem zz_ati {p u : Nat → Nat} {d k i : Nat} (hp : ∀ k, k < 4 → 1 ≤ p k ∧ p k ≤ 99) (hk : k < 4) (hi : i ≤ tt p u d k) : zz p u d k + i * p k < d + 99 := by
  have h2 := hp k hk
  rcases zz_at (u := u) (d := d) h2.1 hi with h | h
  · rw [h, Nat.zero_mul]; exact zz_le hp k (by omega)
  · omega
theorem tt_le {p u : Nat → Nat} {d k : Nat} : tt p u d k ≤ u k := Nat.min_le_right _ _
/-- the amounts T are taken of the loan at s, into the stock -/
def tkV (w : Nat → Int32) (s : Nat) (T : Nat → Nat) : Nat → Int32 := fun j => if 64 + 10 * s ≤ j ∧ j < 68 + 10 * s then w j - nI (T (j - (64 + 10 * s))) else if 14 ≤ j ∧ j < 18 then w j + nI (T (j - 14)) else w j
/-- of the kinds before k all, of k i -/
def am (t : Nat → Nat) (k i : Nat) : Nat → Nat := fun m => if m < k then t m else if m = k then i else 0
theorem am_0 {t : Nat → Nat} : am t 0 0 = fun _ => 0 := by
  funext m; simp only [am]; rw [if_neg (by omega)]; split <;> rfl
theorem am_s {t : Nat → Nat} {k : Nat} : am t (k + 1) 0 = am t k (t k) := by
  funext m; simp only [am]
  rcases Nat.lt_trichotomy m k with h | h | h
  · rw [if_pos (by omega), if_pos h]
  · subst h; rw [if_pos (by omega), if_neg (by omega), if_pos rfl]
  · rw [if_neg (show ¬ m < k + 1 by omega), if_neg (show ¬ m < k by omega), if_neg (show ¬ m = k by omega)]; split <;> rfl
theorem am_4 {t : Nat → Nat} {j : Nat} (h : j < 4) : am t 4 0 j = t j := if_pos h
theorem am_k {t : Nat → Nat} {k i : Nat} : am t k i k = i := by simp [am]
theorem i_sub0 {x : Int32} : x - nI 0 = x := by rw [nI_0]; exact Int32.sub_zero x
theorem i_add0 {x : Int32} : x + nI 0 = x := by rw [nI_0]; exact Int32.add_zero x
theorem i_sub1 {x : Int32} {i : Nat} : x - nI i - nI 1 = x - nI (i + 1) := by rw [← nI_add]; grind
theorem i_add1 {x : Int32} {i : Nat} : x + nI i + nI 1 = x + nI (i + 1) := by rw [← nI_add]; grind
theorem tkV_0 {w : Nat → Int32} {s : Nat} {t : Nat → Nat} : tkV w s (am t 0 0) = w := by
  rw [am_0]; funext j; simp only [tkV, i_sub0, i_add0]; split
  · rfl
  · split <;> rfl
theorem tkV_u {w : Nat → Int32} {s k i : Nat} {t : Nat → Nat} (hk : k < 4) : tkV w s (am t k i) (58 + 10 * s + (6 + k)) = w (58 + 10 * s + (6 + k)) - nI i := by
  simp only [tkV]; rw [if_pos (by omega), show 58 + 10 * s + (6 + k) - (64 + 10 * s) = k by omega, am_k]
theorem tkV_k {w : Nat → Int32} {s k i : Nat} {t : Nat → Nat} (hk : k < 4) : tkV w s (am t k i) (14 + k) = w (14 + k) + nI i := by
  simp only [tkV]; rw [if_neg (by omega), if_pos (by omega), show 14 + k - 14 = k by omega, am_k]
theorem tkV_n {w : Nat → Int32} {s : Nat} {T : Nat → Nat} {j : Nat} (h1 : ¬ (64 + 10 * s ≤ j ∧ j < 68 + 10 * s)) (h2 : ¬ (14 ≤ j ∧ j < 18)) : tkV w s T j = w j := by
  simp only [tkV]; rw [if_neg h1, if_neg h2]
theorem tkV_s {w : Nat → Int32} {s k i : Nat} {t : Nat → Nat} {x : Int32} (hk : k < 4) (hx : x = w (58 + 10 * s + (6 + k)) - nI (i + 1)) : ad (upd (tkV w s (am t k i)) (58 + 10 * s + (6 + k)) x) (14 + k) (nI 1) = tkV w s (am t k (i + 1)) := by
  subst hx
  funext j
  simp only [ad, upd]
  by_cases h1 : j = 14 + k
  · subst h1
    rw [if_pos rfl, if_neg (by omega), tkV_k hk, tkV_k hk, i_add1]
  · rw [if_neg h1]
    by_cases h2 : j = 58 + 10 * s + (6 + k)
    · subst h2
      rw [if_pos rfl, tkV_u hk]
    · rw [if_neg h2]
      simp only [tkV]
      by_cases h3 : 64 + 10 * s ≤ j ∧ j < 68 + 10 * s
      · rw [if_pos h3, if_pos h3]
        have e : ∀ i, am t k i (j - (64 + 10 * s)) = if j - (64 + 10 * s) < k then t (j - (64 + 10 * s)) else 0 := fun i => by
          simp only [am]; rw [if_neg (show ¬ j - (64 + 10 * s) = k by omega)]
        rw [e, e]
      · rw [if_neg h3, if_neg h3]
        by_cases h4 : 14 ≤ j ∧ j < 18
        · rw [if_pos h4, if_pos h4]
          have e : ∀ i, am t k i (j - 14) = if j - 14 < k then t (j - 14) else 0 := fun i => by
            simp only [am]; rw [if_neg (show ¬ j - 14 = k by omega)]
          rw [e, e]
        · rw [if_neg h4, if_neg h4]
/-- the loan at s and the prices in naturals -/
def Dk (w : Nat → Int32) (s : Nat) (p u : Nat → Nat) (d : Nat) : Prop := (∀ k, k < 4 → w (10 + k) = nI (p k) ∧ 1 ≤ p k ∧ p k ≤ 99) ∧ (∀ k, k < 4 → w (58 + 10 * s + (6 + k)) = nI (u k) ∧ u k < 2 ^ 30) ∧ debtV w s = nI d ∧ d < 2 ^ 30
theorem Dk.p {w : Nat → Int32} {s d : Nat} {p u : Nat → Nat} (h : Dk w s p u d) : ∀ k, k < 4 → 1 ≤ p k ∧ p k ≤ 99 := fun k hk => (h.1 k hk).2
def lsV (w : Nat → Int32) (d z : Nat) : Nat → Int32 := if z < d then ad w 8 (nI (d - z)) else w
theorem lsV_n {w : Nat → Int32} {d z j : Nat} (h : j ≠ 8) : lsV w d z j = w j := by
  unfold lsV; split
  · exact ad_n h
  · rfl
def dfA (w : Nat → Int32) (s d : Nat) (p u : Nat → Nat) : Nat → Int32 := lsV (tkV w s (am (tt p u d) 4 0)) d (zz p u d 4)
/-- the loan at s defaults -/
def dfV (w : Nat → Int32) (N s b d : Nat) (p u : Nat → Nat) : Nat → Int32 := goV (ad (ad (gbK (dfA w s d p u) s b 4) (22 + 6 * b + 1) (nI 1)) 7 (nI 1)) N s
theorem dfA_n {w : Nat → Int32} {s d j : Nat} {p u : Nat → Nat} (h : j ≠ 8) (h1 : ¬ (64 + 10 * s ≤ j ∧ j < 68 + 10 * s)) (h2 : ¬ (14 ≤ j ∧ j < 18)) : dfA w s d p u j = w j := by
  rw [dfA, lsV_n h, tkV_n h1 h2]
theorem debtV_c {w v : Nat → Int32} {s : Nat} (h2 : w (58 + 10 * s + 2) = v (58 + 10 * s + 2)) (h3 : w (58 + 10 * s + 3) = v (58 + 10 * s + 3)) : debtV w s = debtV v s := by simp only [debtV, h2, h3]
theorem debt_tk {w : Nat → Int32} {s : Nat} {T : Nat → Nat} : debtV (tkV w s T) s = debtV w s := debtV_c (tkV_n (by omega) (by omega)) (tkV_n (by omega) (by omega))
def bN (w : Nat → Int32) (s : Nat) : Nat := (w (58 + 10 * s + 1)).toNatClampNeg
def pN (w : Nat → Int32) (k : Nat) : Nat := (w (10 + k)).toNatClampNeg
def uN (w : Nat → Int32) (s k : Nat) : Nat := (w (58 + 10 * s + (6 + k))).toNatClampNeg
def dN (w : Nat → Int32) (s : Nat) : Nat := (debtV w s).toNatClampNeg
def dfW (w : Nat → Int32) (N s : Nat) : Nat → Int32 := dfV w N s (bN w s) (dN w s) (pN w) (uN w s)
abbrev failV (w : Nat → Int32) (s : Nat) : Prop := w (58 + 10 * s + 5) < w 0 ∨ valV w s < debtV w s
def dpV : Nat → (Nat → Int32) → Nat → Nat → Nat → (Nat → Int32) × Nat × Nat
  | 0, w, N, _, n => (w, N, n)
  | f + 1, w, N, s, n => if failV w s then dpV f (dfW w N s) (N - 1) s (n + 1) else dpV f w N (s + 1) n
theorem dpV_end {w : Nat → Int32} {N s n : Nat} (h : N ≤ s) : dpV (N - s) w N s n = (w, N, n) := by
  rw [show N - s = 0 by omega]; rfl
theorem dpV_t {w : Nat → Int32} {N s n : Nat} (h : s < N) (hf : failV w s) : dpV (N - s) w N s n = dpV (N - 1 - s) (dfW w N s) (N - 1) s (n + 1) := by
  rw [show N - s = (N - 1 - s) + 1 by omega, dpV, if_pos hf]
theorem dpV_f {w : Nat → Int32} {N s n : Nat} (h : s < N) (hf : ¬ failV w s) : dpV (N - s) w N s n = dpV (N - (s + 1)) w N (s + 1) n := by
  rw [show N - s = (N - (s + 1)) + 1 by omega, dpV, if_neg hf]
/-- the interest of the first q loans -/
def inV (w : Nat → Int32) (q : Nat) : Nat → Int32 := fun j => if 58 ≤ j ∧ j < 58 + 10 * q ∧ (j - 58) % 10 = 3 then w j + dayV w ((j - 58) / 10) else w j
theorem inV_0 {w : Nat → Int32} : inV w 0 = w := by
  funext j; simp only [inV]; rw [if_neg (by omega)]
theorem inV_n {w : Nat → Int32} {q j : Nat} (h : ¬ (58 ≤ j ∧ j < 58 + 10 * q ∧ (j - 58) % 10 = 3)) : inV w q j = w j := if_neg h
theorem inV_3 {w : Nat → Int32} {q s : Nat} (h : s < q) : inV w q (58 + 10 * s + 3) = w (58 + 10 * s + 3) + dayV w s := by
  simp only [inV]; rw [if_pos (by omega), show (58 + 10 * s + 3 - 58) / 10 = s by omega]
theorem dayV_c {w v : Nat → Int32} {s : Nat} (h2 : w (58 + 10 * s + 2) = v (58 + 10 * s + 2)) (h3 : w (58 + 10 * s + 4) = v (58 + 10 * s + 4)) : dayV w s = dayV v s := by simp only [dayV, h2, h3]
theorem inV_day {w : Nat → Int32} {q s : Nat} : dayV (inV w q) s = dayV w s := dayV_c (inV_n (by omega)) (inV_n (by omega))
theorem inV_s {w : Nat → Int32} {q : Nat} {x : Int32} (hx : x = inV w q (58 + 10 * q + 3) + dayV (inV w q) q) : upd (inV w q) (58 + 10 * q + 3) x = inV w (q + 1) := by
  subst hx
  rw [inV_day, inV_n (by omega)]
  funext j
  simp only [upd]
  by_cases h : j = 58 + 10 * q + 3
  · rw [if_pos h, h, inV_3 (by omega)]
  · rw [if_neg h]
    simp only [inV]
    by_cases h2 : 58 ≤ j ∧ j < 58 + 10 * q ∧ (j - 58) % 10 = 3
    · rw [if_pos h2, if_pos (by omega)]
    · rw [if_neg h2, if_neg (by omega)]
def ddV (w : Nat → Int32) (N : Nat) : Nat → Int32 := inV (upd w 0 (w 0 + nI 1)) N
def dyV (w : Nat → Int32) (N : Nat) : (Nat → Int32) × Nat × Nat := dpV N (ddV w N) N 0 0
def psV : Nat → (Nat → Int32) → Nat → Nat → (Nat → Int32) × Nat × Nat
  | 0, w, N, n => (w, N, n)
  | k + 1, w, N, n => psV k (dyV w N).1 (dyV w N).2.1 (n + (dyV w N).2.2)
theorem psV_go {w : Nat → Int32} {t q N n : Nat} (h : q < t) : psV (t - q) w N n = psV (t - (q + 1)) (dyV w N).1 (dyV w N).2.1 (n + (dyV w N).2.2) := by
  rw [show t - q = (t - (q + 1)) + 1 by omega, psV]
theorem psV_end {w : Nat → Int32} {t q N n : Nat} (h : t ≤ q) : psV (t - q) w N n = (w, N, n) := by
  rw [show t - q = 0 by omega]; rfl
/-! What holds of a row: all its numbers small and at least 0. D: a bound for the day, U: for the calls. -/
def Ln (w : Nat → Int32) (s t x D U : Nat) : Prop := ∃ id pr ac rt du : Nat, w (58 + 10 * s + 0) = nI id ∧ w (58 + 10 * s + 2) = nI pr ∧ w (58 + 10 * s + 3) = nI ac ∧ w (58 + 10 * s + 4) = nI rt ∧ w (58 + 10 * s + 5) = nI du ∧ id < x ∧ pr ≤ 500 ∧ ac ≤ 28 * t ∧ rt ≤ 55 ∧ t ≤ du + 1 ∧ du ≤ t + 60 ∧ ∀ k, k < 4 → ∃ u, u ≤ 99 * U ∧ w (58 + 10 * s + (6 + k)) = nI u
def Gd (w : Nat → Int32) (B N E D U : Nat) : Prop := Vk w B N E ∧ (∀ k, k < 4 → ∃ p, 1 ≤ p ∧ p ≤ 99 ∧ w (10 + k) = nI p) ∧ (∃ t x, t ≤ D ∧ x ≤ U ∧ w 0 = nI t ∧ w 3 = nI x ∧ ∀ s, s < N → Ln w s t x D U) ∧ (∀ r s, r < s → s < N → w (58 + 10 * r + 0) < w (58 + 10 * s + 0)) ∧ D ≤ 100000 ∧ U ≤ 10000
/-- no loan is past its due day -/
def Sd (w : Nat → Int32) (N : Nat) : Prop := ∀ s, s < N → ¬ w (58 + 10 * s + 5) < w 0
theorem Ln.debt {w : Nat → Int32} {s t x D U : Nat} (h : Ln w s t x D U) : ∃ d, d ≤ 500 + 28 * t ∧ debtV w s = nI d := by
  obtain ⟨id, pr, ac, rt, du, h0, h2, h3, h4, h5, -, l2, l3, -⟩ := h
  exact ⟨pr + ac, by omega, by rw [debtV, h2, h3, nI_add]⟩
theorem Gd.dk {w : Nat → Int32} {B N E D U s : Nat} (h : Gd w B N E D U) (hs : s < N) : Dk w s (pN w) (uN w s) (dN w s) := by
  obtain ⟨-, h2, ⟨t, x, ht, hx, -, -, hl⟩, -, hD, hU⟩ := h
  obtain ⟨d, hd, e⟩ := (hl s hs).debt
  obtain ⟨id, pr, ac, rt, du, -, -, -, -, -, -, -, -, -, -, -, hu⟩ := hl s hs
  refine ⟨fun k hk => ?_, fun k hk => ?_, ?_, ?_⟩
  · obtain ⟨p, p1, p2, p3⟩ := h2 k hk
    rw [show pN w k = p by rw [pN, p3, nI_clamp (by omega)]]
    exact ⟨p3, p1, p2⟩
  · obtain ⟨u, u1, u2⟩ := hu k hk
    rw [show uN w s k = u by rw [uN, u2, nI_clamp (by omega)]]
    exact ⟨u2, by omega⟩
  · rw [dN, e, nI_clamp (by omega)]
  · rw [dN, e, nI_clamp (by omega)]; omega
theorem Gd.own {w : Nat → Int32} {B N E D U s : Nat} (h : Gd w B N E D U) (hs : s < N) : bN w s < B ∧ w (58 + 10 * s + 1) = nI (bN w s) := by
  obtain ⟨b, h1, h2⟩ := h.1.2.2.2.2.2.2 s hs
  have hB := h.1.2.2.2.1
  rw [show bN w s = b by rw [bN, h2, nI_clamp (by omega)]]
  exact ⟨h1, h2⟩
theorem Gd.B {w : Nat → Int32} {B N E D U : Nat} (h : Gd w B N E D U) : w 1 = nI B ∧ B ≤ 6 := ⟨h.1.1, h.1.2.2.2.1⟩
theorem Gd.N {w : Nat → Int32} {B N E D U : Nat} (h : Gd w B N E D U) : w 2 = nI N ∧ N ≤ 10 := ⟨h.1.2.1, h.1.2.2.2.2.1⟩
theorem Gd.E {w : Nat → Int32} {B N E D U : Nat} (h : Gd w B N E D U) : w 5 = nI E ∧ E ≤ 20 := ⟨h.1.2.2.1, h.1.2.2.2.2.2.1⟩
theorem Gd.bd {w : Nat → Int32} {B N E D U : Nat} (h : Gd w B N E D U) : D ≤ 100000 ∧ U ≤ 10000 := h.2.2.2.2
/-! The places behind a default. -/
theorem goV_n {w : Nat → Int32} {N s j : Nat} (h2 : j ≠ 2) (hN : N ≤ 10) (hs : s < N) (h : j < 58 ∨ 158 ≤ j) : goV w N s j = w j := by
  rw [goV, zr_n (by omega), shV_n (by omega), upd_n h2]
theorem goV_2 {w : Nat → Int32} {N s : Nat} : goV w N s 2 = nI (N - 1) := by
  rw [goV, zr_n (by omega), shV_n (by omega), upd_e]
def skp (s r : Nat) : Nat := if r < s then r else r + 1
theorem goV_l {w : Nat → Int32} {N s r j : Nat} (hr : r < N - 1) (hj : j < 10) : goV w N s (58 + 10 * r + j) = w (58 + 10 * skp s r + j) := by
  rw [goV, zr_n (by omega)]
  simp only [shV, skp]
  by_cases h : r < s
  · rw [if_neg (by omega), if_pos h, upd_n (by omega)]
  · rw [if_pos (by omega), if_neg h, upd_n (by omega), show 58 + 10 * r + j + 10 = 58 + 10 * (r + 1) + j by omega]
theorem dfV_l {w : Nat → Int32} {N s b d r j : Nat} {p u : Nat → Nat} (hb : b < 6) (hr : r < N - 1) (hj : j < 10) : dfV w N s b d p u (58 + 10 * r + j) = w (58 + 10 * skp s r + j) := by
  have h : skp s r ≠ s := by unfold skp; split <;> omega
  rw [dfV, goV_l hr hj, ad_n (by omega), ad_n (by omega), gbK_n (by omega) (by omega), dfA_n (by omega) (by omega) (by omega)]
theorem dfV_n {w : Nat → Int32} {N s b d j : Nat} {p u : Nat → Nat} (hb : b < 6) (hN : N ≤ 10) (hs : s < N) (h1 : j < 2 ∨ (2 < j ∧ j < 7) ∨ (8 < j ∧ j < 14) ∨ (18 ≤ j ∧ j < 22) ∨ 158 ≤ j) : dfV w N s b d p u j = w j := by
  rw [dfV, goV_n (by omega) hN hs (by omega), ad_n (by omega), ad_n (by omega), gbK_n (by omega) (by omega), dfA_n (by omega) (by omega) (by omega)]
theorem dfV_2 {w : Nat → Int32} {N s b d : Nat} {p u : Nat → Nat} : dfV w N s b d p u 2 = nI (N - 1) := goV_2
theorem Ln.c {w v : Nat → Int32} {r s t x D U : Nat} (h : Ln w s t x D U) (e : ∀ j, j < 10 → v (58 + 10 * r + j) = w (58 + 10 * s + j)) : Ln v r t x D U := by
  obtain ⟨id, pr, ac, rt, du, h0, h2, h3, h4, h5, hh, l2, l3, l4, l5, l6, hu⟩ := h
  exact ⟨id, pr, ac, rt, du, (e 0 (by decide)).trans h0, (e 2 (by decide)).trans h2, (e 3 (by decide)).trans h3, (e 4 (by decide)).trans h4, (e 5 (by decide)).trans h5, hh, l2, l3, l4, l5, l6, fun k hk => by
    obtain ⟨u, u1, u2⟩ := hu k hk
    exact ⟨u, u1, (e (6 + k) (by omega)).trans u2⟩⟩
theorem Gd.df {w : Nat → Int32} {B N E D U s : Nat} (h : Gd w B N E D U) (hs : s < N) : Gd (dfW w N s) B (N - 1) E D U := by
  obtain ⟨hb, hw⟩ := h.own hs
  have hN10 := h.N.2
  have hB6 := h.B.2
  obtain ⟨⟨v1, v2, v3, v4, v5, v6, v7⟩, h2, ⟨t, x, ht, hx, h30, h33, hl⟩, hi, hD, hU⟩ := h
  have ln : ∀ r j, r < N - 1 → j < 10 → dfW w N s (58 + 10 * r + j) = w (58 + 10 * skp s r + j) := fun r j hr hj => dfV_l (by omega) hr hj
  have en : ∀ j, (j < 2 ∨ (2 < j ∧ j < 7) ∨ (8 < j ∧ j < 14) ∨ (18 ≤ j ∧ j < 22) ∨ 158 ≤ j) → dfW w N s j = w j := fun j hj => dfV_n (by omega) (by omega) hs hj
  have sk : ∀ r, r < N - 1 → skp s r < N := fun r hr => by unfold skp; split <;> omega
  refine ⟨⟨(en 1 (by omega)).trans v1, dfV_2, (en 5 (by omega)).trans v3, v4, by omega, v6, fun r hr => ?_⟩, fun k hk => ?_, ⟨t, x, ht, hx, (en 0 (by omega)).trans h30, (en 3 (by omega)).trans h33, fun r hr => (hl _ (sk r hr)).c (fun j hj => ln r j hr hj)⟩, fun r q h1 h2 => ?_, hD, hU⟩
  · obtain ⟨b, b1, b2⟩ := v7 _ (sk r hr)
    exact ⟨b, b1, (ln r 1 hr (by decide)).trans b2⟩
  · obtain ⟨p, p1, p2, p3⟩ := h2 k hk
    exact ⟨p, p1, p2, (en _ (by omega)).trans p3⟩
  · rw [ln r 0 (by omega) (by decide), ln q 0 h2 (by decide)]
    exact hi _ _ (by unfold skp; split <;> split <;> omega) (sk q h2)
theorem dayV_le {w : Nat → Int32} {s t x D U : Nat} (h : Ln w s t x D U) : ∃ y, y ≤ 28 ∧ dayV w s = nI y := by
  obtain ⟨id, pr, ac, rt, du, h0, h2, h3, h4, h5, -, l2, l3, l4, -⟩ := h
  have h6 : pr * rt ≤ 500 * 55 := Nat.mul_le_mul l2 l4
  refine ⟨(pr * rt + 999) / 1000, by omega, ?_⟩
  rw [dayV, h2, h4, pk_mul, nI_add, pk_div (by omega) (by omega) (by omega)]
theorem Gd.dd {w : Nat → Int32} {B N E D U : Nat} (h : Gd w B N E D U) (hs : Sd w N) (hD1 : D + 1 ≤ 100000) : Gd (ddV w N) B N E (D + 1) U := by
  have hN10 := h.N.2
  obtain ⟨⟨v1, v2, v3, v4, v5, v6, v7⟩, h2, ⟨t, x, ht, hx, h30, h33, hl⟩, hi, hD, hU⟩ := h
  have en : ∀ j, j ≠ 0 → ¬ (58 ≤ j ∧ j < 58 + 10 * N ∧ (j - 58) % 10 = 3) → ddV w N j = w j := fun j h0 hj => (inV_n hj).trans (upd_n h0)
  have e0 : ddV w N 0 = nI (t + 1) := (inV_n (by omega)).trans (upd_e.trans (by rw [h30, nI_add]))
  refine ⟨⟨(en 1 (by omega) (by omega)).trans v1, (en 2 (by omega) (by omega)).trans v2, (en 5 (by omega) (by omega)).trans v3, v4, v5, v6, fun s hs => ?_⟩, fun k hk => ?_, ⟨t + 1, x, by omega, hx, e0, (en 3 (by omega) (by omega)).trans h33, fun s h9 => ?_⟩, fun r q h1 h2 => ?_, hD1, hU⟩
  · obtain ⟨b, b1, b2⟩ := v7 s hs
    exact ⟨b, b1, (en _ (by omega) (by omega)).trans b2⟩
  · obtain ⟨p, p1, p2, p3⟩ := h2 k hk
    exact ⟨p, p1, p2, (en _ (by omega) (by omega)).trans p3⟩
  · obtain ⟨y, y1, y2⟩ := dayV_le (hl s h9)
    have hsd := hs s h9
    obtain ⟨id, pr, ac, rt, du, h0, h2, h3, h4, h5, hh, l2, l3, l4, l5, l6, hu⟩ := hl s h9
    rw [h5, h30, nI_ltI (by omega) (by omega)] at hsd
    refine ⟨id, pr, ac + y, rt, du, (en _ (by omega) (by omega)).trans h0, (en _ (by omega) (by omega)).trans h2, ?_, (en _ (by omega) (by omega)).trans h4, (en _ (by omega) (by omega)).trans h5, hh, l2, by omega, l4, by omega, by omega, fun k hk => ?_⟩
    · rw [ddV, inV_3 h9, upd_n (by omega), dayV_c (v := w) (upd_n (by omega)) (upd_n (by omega)), h3, y2, nI_add]
    · obtain ⟨u, u1, u2⟩ := hu k hk
      exact ⟨u, u1, (en _ (by omega) (by omega)).trans u2⟩
  · rw [en _ (by omega) (by omega), en _ (by omega) (by omega)]
    exact hi r q h1 h2
/-- the loans before q don't fail -/
theorem Gd.dp {B E D U : Nat} : ∀ (f : Nat) {w : Nat → Int32} {N s n : Nat}, f = N - s → s ≤ N → Gd w B N E D U → (∀ r, r < s → ¬ failV w r) → Gd (dpV f w N s n).1 B (dpV f w N s n).2.1 E D U ∧ (∀ r, r < (dpV f w N s n).2.1 → ¬ failV (dpV f w N s n).1 r) ∧ (dpV f w N s n).2.2 ≤ n + f ∧ (dpV f w N s n).2.1 ≤ N
  | 0, w, N, s, n, hf, hs, h, hn => ⟨h, fun r hr => hn r (by have : r < N := hr; omega), Nat.le_refl _, Nat.le_refl _⟩
  | f + 1, w, N, s, n, hf, hs, h, hn => by
    have hs2 : s < N := by omega
    by_cases hh : failV w s
    · rw [dpV, if_pos hh]
      have hb := (h.own hs2).1
      have hB6 := h.B.2
      have hN10 := h.N.2
      obtain ⟨a1, a2, a3, a4⟩ := Gd.dp f (n := n + 1) (show f = N - 1 - s by omega) (by omega) (h.df hs2) (fun r hr => by
        have e : ∀ j, j < 10 → dfW w N s (58 + 10 * r + j) = w (58 + 10 * r + j) := fun j hj => by
          rw [dfW, dfV_l (by omega) (by omega) hj, skp, if_pos hr]
        have ek : ∀ k, k < 4 → dfW w N s (10 + k) = w (10 + k) := fun k hk => dfV_n (by omega) hN10 hs2 (by omega)
        have e0 : dfW w N s 0 = w 0 := dfV_n (by omega) hN10 hs2 (by omega)
        have e9 : failV (dfW w N s) r ↔ failV w r := by
          simp only [failV, debtV, valV, val4]
          rw [e 5 (by omega), e 2 (by omega), e 3 (by omega), e (6 + 0) (by omega), e (6 + 1) (by omega), e (6 + 2) (by omega), e (6 + 3) (by omega), ek 0 (by omega), ek 1 (by omega), ek 2 (by omega), ek 3 (by omega), e0]
        exact fun z => hn r hr (e9.mp z))
      exact ⟨a1, a2, by omega, by omega⟩
    · rw [dpV, if_neg hh]
      obtain ⟨a1, a2, a3, a4⟩ := Gd.dp f (n := n) (show f = N - (s + 1) by omega) (by omega) h (fun r hr => by
        rcases Nat.lt_or_ge r s with h1 | h1
        · exact hn r h1
        · obtain rfl : r = s := by omega
          exact hh)
      exact ⟨a1, a2, by omega, a4⟩
theorem Gd.dy {w : Nat → Int32} {B N E D U : Nat} (h : Gd w B N E D U) (hs : Sd w N) (hD1 : D + 1 ≤ 100000) : Gd (dyV w N).1 B (dyV w N).2.1 E (D + 1) U ∧ Sd (dyV w N).1 (dyV w N).2.1 ∧ (dyV w N).2.2 ≤ N ∧ (dyV w N).2.1 ≤ N := by
  obtain ⟨a1, a2, a3, a4⟩ := Gd.dp N (n := 0) (s := 0) (by omega) (by omega) (h.dd hs hD1) (fun r hr => absurd hr (by omega))
  exact ⟨a1, fun s hs2 z => a2 s hs2 (Or.inl z), by have : (dyV w N).2.2 ≤ 0 + N := a3; omega, a4⟩
theorem Gd.ps {B E U : Nat} : ∀ (k : Nat) {w : Nat → Int32} {N n D : Nat}, Gd w B N E D U → Sd w N → D + k ≤ 100000 → Gd (psV k w N n).1 B (psV k w N n).2.1 E (D + k) U ∧ Sd (psV k w N n).1 (psV k w N n).2.1 ∧ (psV k w N n).2.2 ≤ n + 10 * k
  | 0, w, N, n, D, h, hs, hD => ⟨h, hs, Nat.le_refl _⟩
  | k + 1, w, N, n, D, h, hs, hD => by
    obtain ⟨a1, a2, a3, a4⟩ := h.dy hs (by omega)
    obtain ⟨b1, b2, b3⟩ := Gd.ps k (n := n + (dyV w N).2.2) a1 a2 (by omega)
    have h10 := h.N.2
    rw [psV]
    rw [show D + (k + 1) = D + 1 + k by omega]
    exact ⟨b1, b2, by omega⟩
