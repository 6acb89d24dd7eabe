/-! The units of a kind: added loan by loan, or borrower by borrower. -/
theorem sm_0 {f : Nat → Int32} : ∀ (n k : Nat) (a : Int32), sm f n k a = a + sm f n k (nI 0)
  | 0, _, a => by
    show a = a + nI 0
    rw [nI_0, Int32.add_zero]
  | n + 1, k, a => by
    rw [sm, sm, sm_0 n (k + 1) (a + f k), sm_0 n (k + 1) (nI 0 + f k), nI_0, Int32.zero_add, Int32.add_assoc]
theorem sm_ad {f h : Nat → Int32} : ∀ (n k : Nat), sm (fun i => f i + h i) n k (nI 0) = sm f n k (nI 0) + sm h n k (nI 0)
  | 0, _ => by
    show nI 0 = nI 0 + nI 0
    rw [nI_0, Int32.add_zero]
  | n + 1, k => by
    rw [sm, sm, sm, sm_0 n (k + 1) (nI 0 + (f k + h k)), sm_0 n (k + 1) (nI 0 + f k), sm_0 n (k + 1) (nI 0 + h k), sm_ad n (k + 1)]
    simp only [nI_0]
    grind
theorem sm_z : ∀ (n k : Nat), sm (fun _ => nI 0) n k (nI 0) = nI 0
  | 0, _ => rfl
  | n + 1, k => by
    rw [sm, nI_0, Int32.add_zero, ← nI_0]
    exact sm_z n (k + 1)
theorem sm_sw {F : Nat → Nat → Int32} {m j : Nat} : ∀ (n k : Nat), sm (fun i => sm (F i) m j (nI 0)) n k (nI 0) = sm (fun s => sm (fun i => F i s) n k (nI 0)) m j (nI 0)
  | 0, k => (sm_z m j).symm
  | n + 1, k => by
    rw [sm, sm_0, sm_sw n (k + 1), nI_0, Int32.zero_add, ← nI_0, ← sm_ad]
    refine sm_congr m j _ (fun s _ _ => ?_)
    show _ = sm (fun i => F i s) (n + 1) k (nI 0)
    rw [sm, sm_0 n (k + 1) (nI 0 + F k s), nI_0, Int32.zero_add]
theorem sm_1 {c u : Int32} {o : Nat} (hc : c = nI o) (ho : o < 2 ^ 30) : ∀ (n k : Nat), k + n < 2 ^ 30 → sm (fun b => if c = nI b then u else nI 0) n k (nI 0) = if k ≤ o ∧ o < k + n then u else nI 0
  | 0, k, _ => by
    rw [if_neg (by omega)]
    rfl
  | n + 1, k, h => by
    rw [sm, sm_0, sm_1 hc ho n (k + 1) (by omega)]
    by_cases e : o = k
    · subst e
      rw [if_pos hc, if_neg (by omega), if_pos (by omega), nI_0, Int32.zero_add, Int32.add_zero]
    · rw [if_neg (fun z => e ((nI_eq (by omega) (by omega)).mp (hc.symm.trans z)))]
      by_cases e2 : k + 1 ≤ o ∧ o < k + 1 + n
      · rw [if_pos e2, if_pos (by omega), nI_0, Int32.zero_add, Int32.zero_add]
      · rw [if_neg e2, if_neg (by omega), nI_0, Int32.zero_add, Int32.zero_add]
theorem un_eq {w : Nat → Int32} {B N E D U k : Nat} (h : Gd w B N E D U) : unitsC w B N k = unitsV w B N k := by
  have hB := h.B.2
  unfold unitsC unitsV
  rw [sm_0 N 0 (sm _ _ _ _), sm_0 B 0 (w (14 + k)), sm_0 (f := fun b => w (22 + 6 * b + (2 + k)) + pledV w N (nI b) k) B 0 (w (14 + k)), sm_ad, Int32.add_assoc]
  congr 2
  show _ = sm (fun b => sm (fPled w (nI b) k) N 0 (nI 0)) B 0 (nI 0)
  rw [sm_sw]
  refine sm_congr N 0 _ (fun s _ hs => ?_)
  obtain ⟨o1, o2⟩ := h.own (show s < N by omega)
  have e := sm_1 (u := w (58 + 10 * s + (6 + k))) o2 (by omega) B 0 (by omega)
  rw [if_pos (by omega)] at e
  exact e.symm
