/-! Repayments, defaults, days, on the desk's picture. -/
section DW4
variable {I0 I : II} {b B N E : Nat} {w : Nat → Int32} {pm : Nat → Nat} {an : Int32}
/-- an entry's three cells, at a place that isn't in use -/
theorem DW.freeE (h : DW I0 I b w B N E pm an) {r e : Nat} {v : Int32} (hr : r < 3) (he : E ≤ e) : DW I0 (u2 I (b + 6 + 1 + r) e v) b w B N E pm an := by
  obtain ⟨hf, ⟨hv, ⟨hp, hp5⟩, hB, hN, hE⟩, h9⟩ := h
  refine ⟨fun x hx => (u2_r (by omega)).trans (hf x hx), ⟨fun j' a' q' hA' => ?_, ⟨hp, fun i hi => by rw [u2_r (by omega)]; exact hp5 i hi⟩, hB, hN, hE⟩, by rw [u2_r (by omega)]; exact h9⟩
  have hh := hA'
  by_cases e1 : a' = b + 6 + 1 + r
  · by_cases e2 : q' = e
    · exfalso
      obtain ⟨hp1, hp2⟩ := hp
      rcases hA' with h | ⟨k, hk, h⟩ | ⟨n, hn, ha, h⟩ | ⟨n, k, hn, hk, ha, hj, hq⟩ | ⟨s, i, hs, hi, ha, hj, hq⟩ | ⟨s, k, hs, hk, ha, hj, hq⟩ | h | ⟨e, r, he, hr9, ha, hj, hq⟩ <;> omega
    · subst e1
      rw [u2_o e2]; exact hv _ _ _ hh
  · rw [u2_r e1]; exact hv _ _ _ hh
theorem DW.newE (h : DW I0 I b w B N E pm an) (hE : E < 20) {dy id c : Int32} : DW I0 (u2 (u2 (u2 I (b + 6 + 1) E dy) (b + 6 + 2) E id) (b + 6 + 3) E c) b (upd (upd (upd w (158 + 3 * E + 0) dy) (158 + 3 * E + 1) id) (158 + 3 * E + 2) c) B N (E + 1) pm an := by
  have hB := h.hB
  have hN := h.hN
  have h1 := ((h.freeE (r := 0) (v := dy) (by decide) (Nat.le_refl E)).freeE (r := 1) (v := id) (by decide) (Nat.le_refl E)).freeE (r := 2) (v := c) (by decide) (Nat.le_refl E)
  have h2 := h1.cw (w' := upd (upd (upd w (158 + 3 * E + 0) dy) (158 + 3 * E + 1) id) (158 + 3 * E + 2) c) (fun j hj => by rw [upd_n (by omega), upd_n (by omega), upd_n (by omega)])
  refine ⟨h2.1, h2.2.1.addE hE ?_ ?_ ?_, h2.2.2⟩
  · rw [u2_r (by omega), u2_r (by omega), show b + 6 + 1 + 0 = b + 6 + 1 from rfl, u2_g, upd_n (by omega), upd_n (by omega), upd_e]
  · rw [u2_r (by omega), show b + 6 + 1 + 1 = b + 6 + 2 from rfl, u2_g, upd_n (by omega), upd_e]
  · rw [show b + 6 + 1 + 2 = b + 6 + 3 from rfl, u2_g, upd_e]
/-- the oldest entry goes -/
def olC (I : II) (b : Nat) : II := sr (sr (sr (u2 I (b + 6) 0 (nI 19)) (b + 6 + 1) (va_cpy (I (b + 6 + 1)) (I (b + 6 + 1)) 1 0 19)) (b + 6 + 2) (va_cpy (I (b + 6 + 2)) (I (b + 6 + 2)) 1 0 19)) (b + 6 + 3) (va_cpy (I (b + 6 + 3)) (I (b + 6 + 3)) 1 0 19)
theorem cpy_in {f h : Nat → Int32} {sp dp n j : Nat} (h1 : dp ≤ j) (h2 : j < dp + n) : va_cpy f h sp dp n j = f (sp + (j - dp)) := pk_cpy_in h1 h2
theorem cpy_out {f h : Nat → Int32} {sp dp n j : Nat} (h1 : j < dp ∨ dp + n ≤ j) : va_cpy f h sp dp n j = h j := pk_cpy_out (by omega)
theorem DW.old (h : DW I0 I b w B N 20 pm an) : DW I0 (olC I b) b (olV w) B N 19 pm an := by
  have hB := h.hB
  have hN := h.hN
  obtain ⟨hf, ⟨hv, ⟨hp, hp5⟩, -, -, hE⟩, h9⟩ := h
  have o : ∀ a, a ≠ b + 6 → a ≠ b + 6 + 1 → a ≠ b + 6 + 2 → a ≠ b + 6 + 3 → olC I b a = I a := fun a a1 a2 a3 a4 => by
    rw [olC, sr_n a4, sr_n a3, sr_n a2, u2_r a1]
  refine ⟨fun x hx => (o x (by omega) (by omega) (by omega) (by omega)).trans (hf x hx), ⟨fun j a q hA => ?_, ⟨hp, fun i hi => by rw [o _ (by omega) (by omega) (by omega) (by omega)]; exact hp5 i hi⟩, hB, hN, by omega⟩, by rw [o _ (by omega) (by omega) (by omega) (by omega)]; exact h9⟩
  have ol : ∀ j, j ≠ 5 → ¬ (158 ≤ j ∧ j < 215) → olV w j = w j := fun j h1 h2 => by rw [olV, upd_n h1, shV_n h2]
  have hp1 := hp.1
  rcases hA with h | h | h | h | h | h | h | ⟨e, r, he, hr, ha, hj, hq⟩
  · rw [o a (by omega) (by omega) (by omega) (by omega), ol j (by omega) (by omega)]; exact hv _ _ _ (Or.inl h)
  · obtain ⟨k, hk, h2⟩ := id h
    rw [o a (by omega) (by omega) (by omega) (by omega), ol j (by omega) (by omega)]; exact hv _ _ _ (Or.inr (Or.inl h))
  · obtain ⟨n, hn, ha, h2⟩ := id h
    rw [o a (by omega) (by omega) (by omega) (by omega), ol j (by omega) (by omega)]; exact hv _ _ _ (Or.inr (Or.inr (Or.inl h)))
  · obtain ⟨n, k, hn, hk, ha, hj, hq⟩ := id h
    rw [o a (by omega) (by omega) (by omega) (by omega), ol j (by omega) (by omega)]; exact hv _ _ _ (Or.inr (Or.inr (Or.inr (Or.inl h))))
  · obtain ⟨s, i, hs, hi, ha, hj, hq⟩ := id h
    rw [o a (by omega) (by omega) (by omega) (by omega), ol j (by omega) (by omega)]; exact hv _ _ _ (Or.inr (Or.inr (Or.inr (Or.inr (Or.inl h)))))
  · obtain ⟨s, k, hs, hk, ha, hj, hq⟩ := id h
    rw [o a (by omega) (by omega) (by omega) (by omega), ol j (by omega) (by omega)]; exact hv _ _ _ (Or.inr (Or.inr (Or.inr (Or.inr (Or.inr (Or.inl h))))))
  · obtain ⟨rfl, rfl, rfl⟩ := h
    rw [olC, sr_n (by omega), sr_n (by omega), sr_n (by omega), u2_g, olV, upd_e]
  · have hs : olV w j = w (j + 3) := by
      rw [olV, upd_n (by omega)]; simp only [shV]; rw [if_pos (by omega)]
    have hx := hv (158 + 3 * (e + 1) + r) (b + 6 + 1 + r) (e + 1) (at_ent (by omega) hr)
    rw [hs, show j + 3 = 158 + 3 * (e + 1) + r by omega, ← hx]
    subst ha; subst hq
    match r, hr with
    | 0, _ => rw [olC, sr_n (by omega), sr_n (by omega), show b + 6 + 1 + 0 = b + 6 + 1 from rfl, sr_s, cpy_in (by omega) (by omega), show 1 + (q - 0) = q + 1 by omega]
    | 1, _ => rw [olC, sr_n (by omega), show b + 6 + 1 + 1 = b + 6 + 2 from rfl, sr_s, cpy_in (by omega) (by omega), show 1 + (q - 0) = q + 1 by omega]
    | 2, _ => rw [olC, show b + 6 + 1 + 2 = b + 6 + 3 from rfl, sr_s, cpy_in (by omega) (by omega), show 1 + (q - 0) = q + 1 by omega]
end DW4
theorem opV_eq {w : Nat → Int32} {E : Nat} {id c : Int32} : upd (upd (upd (upd w (158 + 3 * E + 0) (w 0)) (158 + 3 * E + 1) id) (158 + 3 * E + 2) c) 5 (nI (E + 1)) = ad (opV w E id) (158 + 3 * E + 2) c := by
  funext j
  simp only [ad, opV, upd, ↓reduceIte]
  (repeat' split) <;> first | rfl | omega | (exact i_0a.symm)
/-- what payOff leaves -/
def poV (w : Nat → Int32) (s : Nat) (c : Int32) : Nat → Int32 := upd (upd w (58 + 10 * s + 3) (w (58 + 10 * s + 3) - mnV (w (58 + 10 * s + 3)) c)) (58 + 10 * s + 2) (w (58 + 10 * s + 2) - (c - mnV (w (58 + 10 * s + 3)) c))
theorem rp_eq {w : Nat → Int32} {s b : Nat} {c : Int32} (hb : b < 6) : poV (upd (upd w (22 + 6 * b + 0) (w (22 + 6 * b + 0) - c)) 4 (w 4 + c)) s c = rpB w s b c := by
  have e3 : (upd (upd w (22 + 6 * b + 0) (w (22 + 6 * b + 0) - c)) 4 (w 4 + c)) (58 + 10 * s + 3) = w (58 + 10 * s + 3) := by rw [upd_n (by omega), upd_n (by omega)]
  have e2 : (upd (upd w (22 + 6 * b + 0) (w (22 + 6 * b + 0) - c)) 4 (w 4 + c)) (58 + 10 * s + 2) = w (58 + 10 * s + 2) := by rw [upd_n (by omega), upd_n (by omega)]
  have em : mnV (w (58 + 10 * s + 3)) c = onI w s c := rfl
  unfold poV
  rw [e3, e2, em]
  funext j
  simp only [rpB, rpA, ad, upd]
  (repeat' split) <;> first | rfl | omega | (exact i_sn) | grind
theorem tkV_j {w : Nat → Int32} {s k : Nat} {t : Nat → Nat} (hk : k < 4) : upd (upd (tkV w s (am t k 0)) (58 + 10 * s + (6 + k)) (tkV w s (am t k 0) (58 + 10 * s + (6 + k)) - nI (t k))) (14 + k) (upd (tkV w s (am t k 0)) (58 + 10 * s + (6 + k)) (tkV w s (am t k 0) (58 + 10 * s + (6 + k)) - nI (t k)) (14 + k) + nI (t k)) = tkV w s (am t (k + 1) 0) := by
  rw [am_s, upd_n (show 14 + k ≠ 58 + 10 * s + (6 + k) by omega), tkV_u hk, tkV_k hk, i_sub0, i_add0]
  funext j
  simp only [upd]
  by_cases h1 : j = 14 + k
  · subst h1
    rw [if_pos rfl, tkV_k hk]
  · rw [if_neg h1]
    by_cases h2 : j = 58 + 10 * s + (6 + k)
    · subst h2
      rw [if_pos rfl, tkV_u hk]
    · rw [if_neg h2]
      simp only [tkV]
      by_cases h3 : 64 + 10 * s ≤ j ∧ j < 68 + 10 * s
      · rw [if_pos h3, if_pos h3]
        have e : ∀ i, am t k i (j - (64 + 10 * s)) = if j - (64 + 10 * s) < k then t (j - (64 + 10 * s)) else 0 := fun i => by
          simp only [am]; rw [if_neg (show ¬ j - (64 + 10 * s) = k by omega)]
        rw [e, e]
      · rw [if_neg h3, if_neg h3]
        by_cases h4 : 14 ≤ j ∧ j < 18
        · rw [if_pos h4, if_pos h4]
          have e : ∀ i, am t k i (j - 14) = if j - 14 < k then t (j - 14) else 0 := fun i => by
            simp only [am]; rw [if_neg (show ¬ j - 14 = k by omega)]
          rw [e, e]
        · rw [if_neg h4, if_neg h4]
/-- how many units the class takes for what is open -/
theorem take_n {p u : Nat → Nat} {d k : Nat} (hp : 1 ≤ p k ∧ p k ≤ 99) (hd : d < 2 ^ 29) (hu : u k < 2 ^ 30) (hz : zz p u d k < d + 99) : mnV (if nI d - nI (zz p u d k) ≤ 0 then nI 0 else qupV (nI d - nI (zz p u d k)) (nI (p k))) (nI (u k)) = nI (tt p u d k) := by
  have hmn : ∀ a b : Nat, a < 2 ^ 31 → b < 2 ^ 31 → mnV (nI a) (nI b) = nI (min a b) := fun a b ha hb => by
    unfold mnV
    by_cases h : b < a
    · rw [if_pos (nI_lt h ha), Nat.min_eq_right (by omega)]
    · rw [if_neg (nI_nlt (by omega) hb), Nat.min_eq_left (by omega)]
  have ei : (nI d - nI (zz p u d k)).toInt = (d : Int) - zz p u d k := pk_sub_toInt (by omega) (by omega)
  unfold tt
  by_cases h : d ≤ zz p u d k
  · rw [if_pos (by rw [Int32.le_iff_toInt_le, ei, Int32.toInt_zero]; omega), hmn 0 _ (by decide) (by omega)]
    rw [show d - zz p u d k = 0 by omega, show (0 + p k - 1) / p k = 0 from Nat.div_eq_of_lt (by omega)]
  · rw [if_neg (by rw [Int32.le_iff_toInt_le, ei, Int32.toInt_zero]; omega), pk_sub (by omega)]
    have e2 : qupV (nI (d - zz p u d k)) (nI (p k)) = nI ((d - zz p u d k + p k - 1) / p k) := by
      have hp0 : (0 : Int32) < nI (p k) := by rw [← nI_0]; exact (nI_ltI (by decide) (by omega)).mpr (by omega)
      rw [qupV, if_pos hp0, nI_add, pk_sub (by omega), pk_div (by omega) (by omega) (by omega)]
    have e3 : (d - zz p u d k + p k - 1) / p k ≤ d - zz p u d k + p k - 1 := Nat.div_le_self _ _
    rw [e2, hmn _ _ (by omega) (by omega)]
theorem open_s {p u : Nat → Nat} {d k : Nat} : nI d - nI (zz p u d k) - nI (tt p u d k) * nI (p k) = nI d - nI (zz p u d (k + 1)) := by
  rw [pk_mul, zz_s, ← nI_add]; grind
theorem loss_n {w : Nat → Int32} {d z : Nat} (hd : d < 2 ^ 29) (hz : z < d + 99) : upd w 8 (w 8 + mxV (nI d - nI z) (nI 0)) = lsV w d z := by
  have ei : (nI d - nI z).toInt = (d : Int) - z := pk_sub_toInt (by omega) (by omega)
  have e0 : (nI 0).toInt = 0 := by decide
  unfold lsV mxV
  by_cases h : z < d
  · rw [if_pos h, if_neg (by rw [Int32.lt_iff_toInt_lt, ei, e0]; omega), pk_sub (by omega)]; rfl
  · rw [if_neg h]
    have e : w 8 + (if nI d - nI z < nI 0 then nI 0 else nI d - nI z) = w 8 := by
      by_cases h2 : nI d - nI z < nI 0
      · rw [if_pos h2, i_add0]
      · rw [if_neg h2]
        rw [Int32.lt_iff_toInt_lt, ei, e0] at h2
        rw [show d = z by omega, Int32.sub_self]; exact Int32.add_zero _
    rw [e]
    funext j; simp only [upd]; split
    · rename_i h3; rw [h3]
    · rfl
def dfP (w : Nat → Int32) (s b d : Nat) (p u : Nat → Nat) : Nat → Int32 := ad (ad (gbK (dfA w s d p u) s b 4) (22 + 6 * b + 1) (nI 1)) 7 (nI 1)
theorem dfP_eq {A : Nat → Int32} {s b : Nat} (hb : b < 6) : gbK (upd (upd A 7 (A 7 + nI 1)) (22 + 6 * b + 1) (A (22 + 6 * b + 1) + nI 1)) s b 4 = ad (ad (gbK A s b 4) (22 + 6 * b + 1) (nI 1)) 7 (nI 1) := by
  have g7 : gbK A s b 4 7 = A 7 := gbK_n (by omega) (by omega)
  have g1 : gbK A s b 4 (22 + 6 * b + 1) = A (22 + 6 * b + 1) := gbK_n (by omega) (by omega)
  funext j
  by_cases h7 : j = 7
  · subst h7
    rw [gbK_n (by omega) (by omega), upd_n (by omega), upd_e, ad, upd_e, ad_n (by omega), g7]
  · rw [ad_n h7]
    by_cases h1 : j = 22 + 6 * b + 1
    · subst h1
      rw [gbK_n (by omega) (by omega), upd_e, ad, upd_e, g1]
    · rw [ad_n h1]
      simp only [gbK]
      by_cases h3 : 64 + 10 * s ≤ j ∧ j < 64 + 10 * s + 4
      · rw [if_pos h3, if_pos h3]
      · rw [if_neg h3, if_neg h3]
        by_cases h4 : 24 + 6 * b ≤ j ∧ j < 24 + 6 * b + 4
        · rw [if_pos h4, if_pos h4, upd_n (by omega), upd_n (by omega), upd_n (by omega), upd_n (by omega)]
        · rw [if_neg h4, if_neg h4, upd_n h1, upd_n h7]
theorem dp_7 : ∀ (f : Nat) {w : Nat → Int32} {N s n : Nat}, f = N - s → s ≤ N → N ≤ 10 → (∀ r, r < N → bN w r < 6) → (dpV f w N s n).1 7 = w 7 + (nI (dpV f w N s n).2.2 - nI n)
  | 0, w, N, s, n, _, _, _, _ => by
    show w 7 = w 7 + (nI n - nI n)
    rw [Int32.sub_self]; exact (Int32.add_zero _).symm
  | f + 1, w, N, s, n, hf, hs, hN, hb => by
    by_cases h : failV w s
    · rw [dpV, if_pos h]
      have e7 : dfW w N s 7 = w 7 + nI 1 := by
        rw [dfW, dfV, goV_n (by omega) hN (by omega) (by omega), ad, upd_e, ad_n (by omega), gbK_n (by omega) (by omega), dfA_n (by omega) (by omega) (by omega)]
      have hb2 : ∀ r, r < N - 1 → bN (dfW w N s) r < 6 := fun r hr => by
        rw [bN, dfW, dfV_l (hb s (by omega)) hr (by decide)]
        exact hb _ (by unfold skp; split <;> omega)
      have h1 := dp_7 f (w := dfW w N s) (n := n + 1) (show f = N - 1 - s by omega) (by omega) (by omega) hb2
      rw [h1, e7, ← nI_add n 1]; grind
    · rw [dpV, if_neg h]
      exact dp_7 f (show f = N - (s + 1) by omega) (by omega) hN hb
theorem dy_7 {w : Nat → Int32} {B N E D U : Nat} (h : Gd w B N E D U) : (dyV w N).1 7 = w 7 + nI (dyV w N).2.2 := by
  have hB := h.B.2
  have hN := h.N.2
  have h1 := dp_7 N (w := ddV w N) (s := 0) (n := 0) (by omega) (by omega) hN (fun r hr => by
    rw [bN, ddV, inV_n (by omega), upd_n (by omega)]
    have := (h.own hr).1
    rw [bN] at this
    omega)
  have e7 : ddV w N 7 = w 7 := (inV_n (by omega)).trans (upd_n (by omega))
  rw [dyV, h1, e7, i_sub0]
theorem ps_7 {B E U : Nat} : ∀ (k : Nat) {w : Nat → Int32} {N n D : Nat}, Gd w B N E D U → Sd w N → D + k ≤ 100000 → (psV k w N n).1 7 = w 7 + (nI (psV k w N n).2.2 - nI n)
  | 0, w, N, n, D, h, hs, hD => by
    show w 7 = w 7 + (nI n - nI n)
    rw [Int32.sub_self]; exact (Int32.add_zero _).symm
  | k + 1, w, N, n, D, h, hs, hD => by
    obtain ⟨a1, a2, -, -⟩ := h.dy hs (by omega)
    rw [psV, ps_7 k a1 a2 (by omega), dy_7 h, ← nI_add n]; grind
theorem olV_0 {w : Nat → Int32} {j : Nat} (h : j = 0) : olV w j = w j := by subst h; rw [olV, upd_n (by omega), shV_n (by omega)]
theorem enV_a {w : Nat → Int32} {E : Nat} {id c : Int32} (h : E ≠ 20) : enV w E id c (-1) = ad (opV w E id) (158 + 3 * E + 2) c := by rw [enV, if_pos (by decide), if_neg h]
theorem enE_a {E : Nat} (h : E ≠ 20) : enE E (-1) = E + 1 := by rw [enE, if_pos (by decide), if_neg h]
theorem enV_b {w : Nat → Int32} {id c : Int32} : enV w 20 id c (-1) = ad (opV (olV w) 19 id) (158 + 3 * 19 + 2) c := by rw [enV, if_pos (by decide), if_pos rfl]
theorem enE_b : enE 20 (-1) = 20 := by decide
theorem rp_0 {w : Nat → Int32} {s b : Nat} {c : Int32} (hb : b < 6) : rpB w s b c 0 = w 0 := by rw [rpB, ad_n (by omega), ad_n (by omega), rpA, upd_n (by omega), upd_n (by omega)]
