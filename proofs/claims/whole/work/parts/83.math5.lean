/-! A day: which loans stay, and as what. -/
/-- the loan at r' of v is the one at r of w -/
def SL (w : Nat → Int32) (r : Nat) (v : Nat → Int32) (r' : Nat) : Prop := (∀ j, j < 10 → v (58 + 10 * r' + j) = w (58 + 10 * r + j)) ∧ (∀ k, k < 4 → v (10 + k) = w (10 + k)) ∧ v 0 = w 0
theorem SL.tr {w v u : Nat → Int32} {a b c : Nat} (h : SL w a v b) (h2 : SL v b u c) : SL w a u c := ⟨fun j hj => (h2.1 j hj).trans (h.1 j hj), fun k hk => (h2.2.1 k hk).trans (h.2.1 k hk), h2.2.2.trans h.2.2⟩
theorem SL.val {w v : Nat → Int32} {a b : Nat} (h : SL w a v b) : valV v b = valV w a := by
  simp only [valV, val4]
  rw [h.1 (6 + 0) (by decide), h.1 (6 + 1) (by decide), h.1 (6 + 2) (by decide), h.1 (6 + 3) (by decide), h.2.1 0 (by decide), h.2.1 1 (by decide), h.2.1 2 (by decide), h.2.1 3 (by decide)]
theorem SL.debt {w v : Nat → Int32} {a b : Nat} (h : SL w a v b) : debtV v b = debtV w a := by
  rw [debtV, debtV, h.1 2 (by decide), h.1 3 (by decide)]
theorem SL.day {w v : Nat → Int32} {a b : Nat} (h : SL w a v b) : dayV v b = dayV w a := by
  rw [dayV, dayV, h.1 2 (by decide), h.1 4 (by decide)]
theorem SL.fail {w v : Nat → Int32} {a b : Nat} (h : SL w a v b) : failV v b ↔ failV w a := by
  unfold failV
  rw [h.val, h.debt, h.1 5 (by decide), h.2.2]
theorem df_l {w : Nat → Int32} {B N E D U s r : Nat} (h : Gd w B N E D U) (hs : s < N) (hr : r < N - 1) : SL w (skp s r) (dfW w N s) r := by
  have hN := h.N.2
  have hb := (h.own hs).1
  have hB := h.B.2
  have hk : skp s r ≠ s := by unfold skp; split <;> omega
  have hk2 : skp s r < N := by unfold skp; split <;> omega
  refine ⟨fun j hj => ?_, fun k hk => ?_, ?_⟩
  · rw [dfW_eq, goV_l hr hj, dfP, ad_n (by omega), ad_n (by omega), gbK_n (by omega) (by omega), dfA_n (by omega) (by omega) (by omega)]
  · rw [dfW_eq, goV_n (by omega) hN hs (by omega), dfP_n (by omega) (by omega) (by omega)]
  · rw [dfW_eq, goV_n (by omega) hN hs (by omega), dfP_n (by omega) (by omega) (by omega)]
/-- what stays was there -/
theorem dp_from {B E D U : Nat} : ∀ (f : Nat) {w : Nat → Int32} {N s n : Nat}, f = N - s → s ≤ N → Gd w B N E D U → ∀ r', r' < (dpV f w N s n).2.1 → ∃ r, r < N ∧ SL w r (dpV f w N s n).1 r'
  | 0, w, N, s, n, hf, hs, h, r', hr => ⟨r', hr, fun _ _ => rfl, fun _ _ => rfl, rfl⟩
  | f + 1, w, N, s, n, hf, hs, h, r', hr => by
    have hsN : s < N := by omega
    by_cases hc : failV w s
    · have e := dpV_t (n := n) hsN hc
      rw [← hf] at e
      rw [e, show N - 1 - s = f by omega] at hr ⊢
      obtain ⟨r, h1, h2⟩ := dp_from f (n := n + 1) (show f = N - 1 - s by omega) (by omega) (h.df hsN) r' hr
      exact ⟨skp s r, by unfold skp; split <;> omega, (df_l h hsN h1).tr h2⟩
    · have e := dpV_f (n := n) hsN hc
      rw [← hf] at e
      rw [e, show N - (s + 1) = f by omega] at hr ⊢
      exact dp_from f (n := n) (show f = N - (s + 1) by omega) (by omega) h r' hr
/-- what doesn't fail stays -/
theorem dp_keep {B E D U : Nat} : ∀ (f : Nat) {w : Nat → Int32} {N s n r : Nat}, f = N - s → s ≤ N → Gd w B N E D U → r < N → ¬ failV w r → ∃ r', r' < (dpV f w N s n).2.1 ∧ SL w r (dpV f w N s n).1 r'
  | 0, w, N, s, n, r, hf, hs, h, hr, hn => ⟨r, hr, fun _ _ => rfl, fun _ _ => rfl, rfl⟩
  | f + 1, w, N, s, n, r, hf, hs, h, hr, hn => by
    have hsN : s < N := by omega
    by_cases hc : failV w s
    · have e := dpV_t (n := n) hsN hc
      rw [← hf] at e
      rw [e, show N - 1 - s = f by omega]
      have hne : r ≠ s := fun z => hn (by rw [z]; exact hc)
      obtain ⟨q, q1, q2⟩ : ∃ q, q < N - 1 ∧ skp s q = r := by
        by_cases c : r < s
        · exact ⟨r, by omega, by rw [skp, if_pos c]⟩
        · exact ⟨r - 1, by omega, by rw [skp, if_neg (by omega)]; omega⟩
      have hl := df_l h hsN q1
      rw [q2] at hl
      obtain ⟨r', h1, h2⟩ := dp_keep f (n := n + 1) (show f = N - 1 - s by omega) (by omega) (h.df hsN) q1 (fun z => hn (hl.fail.mp z))
      exact ⟨r', h1, hl.tr h2⟩
    · have e := dpV_f (n := n) hsN hc
      rw [← hf] at e
      rw [e, show N - (s + 1) = f by omega]
      exact dp_keep f (n := n) (show f = N - (s + 1) by omega) (by omega) h hr hn
