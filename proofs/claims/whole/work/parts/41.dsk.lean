/-! The desk: its cells from b on, what they hold of a row w. pm: where the loans' rows lie. -/
def rfD (b : Nat) : Nat → Option Nat := fun k => match k with
  | 10 => some (b + 1)
  | 11 => some (b + 2)
  | 12 => some (b + 3)
  | 13 => some (b + 4)
  | 14 => some (b + 5)
  | 15 => some (b + 6)
  | _ => none
def rfB (a : Nat) : Nat → Option Nat := fun k => match k with
  | 2 => some (a + 1)
  | _ => none
def rfG (a : Nat) : Nat → Option Nat := fun k => match k with
  | 1 => some (a + 1)
  | 2 => some (a + 2)
  | 3 => some (a + 3)
  | _ => none
def rfN (a : Nat) : Nat → Option Nat := fun k => match k with
  | 6 => some (a + 1)
  | _ => none
def isDk (T : TT) (b : Nat) : Prop := T b = (1, 6, rfD b) ∧ T (b + 1) = (2, 4, nr) ∧ T (b + 2) = (2, 4, nr) ∧ T (b + 3) = (2, 4, nr) ∧ T (b + 4) = (5, 6, fun i => some (b + 10 + 2 * i)) ∧ T (b + 5) = (8, 10, nr) ∧ T (b + 6) = (1, 8, rfG (b + 6)) ∧ T (b + 6 + 1) = (2, 20, nr) ∧ T (b + 6 + 2) = (2, 20, nr) ∧ T (b + 6 + 3) = (2, 20, nr) ∧ (∀ n, n < 6 → T (b + 10 + 2 * n) = (1, 4, rfB (b + 10 + 2 * n)) ∧ T (b + 10 + 2 * n + 1) = (2, 4, nr)) ∧ ∀ p, p < 10 → T (b + 5 + 17 + 2 * p) = (1, 9, rfN (b + 5 + 17 + 2 * p)) ∧ T (b + 5 + 17 + 2 * p + 1) = (2, 4, nr)
section DKT
variable {T : TT} {b n p : Nat} (h : isDk T b)
theorem Dk_0 (h : isDk T b) : T b = (1, 6, rfD b) := h.1
theorem Dk_1 (h : isDk T b) : T (b + 1) = (2, 4, nr) := h.2.1
theorem Dk_2 (h : isDk T b) : T (b + 2) = (2, 4, nr) := h.2.2.1
theorem Dk_3 (h : isDk T b) : T (b + 3) = (2, 4, nr) := h.2.2.2.1
theorem Dk_4 (h : isDk T b) : T (b + 4) = (5, 6, fun i => some (b + 10 + 2 * i)) := h.2.2.2.2.1
theorem Dk_5 (h : isDk T b) : T (b + 5) = (8, 10, nr) := h.2.2.2.2.2.1
theorem Dk_6 (h : isDk T b) : T (b + 6) = (1, 8, rfG (b + 6)) := h.2.2.2.2.2.2.1
theorem Dk_7 (h : isDk T b) : T (b + 6 + 1) = (2, 20, nr) := h.2.2.2.2.2.2.2.1
theorem Dk_8 (h : isDk T b) : T (b + 6 + 2) = (2, 20, nr) := h.2.2.2.2.2.2.2.2.1
theorem Dk_9 (h : isDk T b) : T (b + 6 + 3) = (2, 20, nr) := h.2.2.2.2.2.2.2.2.2.1
theorem Dk_b (h : isDk T b) (hn : n < 6) : T (b + 10 + 2 * n) = (1, 4, rfB (b + 10 + 2 * n)) := (h.2.2.2.2.2.2.2.2.2.2.1 n hn).1
theorem Dk_g (h : isDk T b) (hn : n < 6) : T (b + 10 + 2 * n + 1) = (2, 4, nr) := (h.2.2.2.2.2.2.2.2.2.2.1 n hn).2
theorem Dk_l (h : isDk T b) (hp : p < 10) : T (b + 5 + 17 + 2 * p) = (1, 9, rfN (b + 5 + 17 + 2 * p)) := (h.2.2.2.2.2.2.2.2.2.2.2 p hp).1
theorem Dk_p (h : isDk T b) (hp : p < 10) : T (b + 5 + 17 + 2 * p + 1) = (2, 4, nr) := (h.2.2.2.2.2.2.2.2.2.2.2 p hp).2
end DKT
/-- place j of the row stands at place q of the cell a -/
def At (b B N E : Nat) (pm : Nat → Nat) (j a q : Nat) : Prop :=
  (a = b ∧ ((j = 0 ∧ q = 0) ∨ (j = 4 ∧ q = 1) ∨ (j = 1 ∧ q = 2) ∨ (j = 2 ∧ q = 3) ∨ (j = 3 ∧ q = 4) ∨ (j = 6 ∧ q = 5) ∨ (j = 7 ∧ q = 6) ∨ (j = 8 ∧ q = 7) ∨ (j = 9 ∧ q = 8))) ∨
  (∃ k, k < 4 ∧ ((j = 10 + k ∧ a = b + 1 ∧ q = k) ∨ (j = 14 + k ∧ a = b + 2 ∧ q = k) ∨ (j = 18 + k ∧ a = b + 3 ∧ q = k))) ∨
  (∃ n, n < B ∧ a = b + 10 + 2 * n ∧ ((j = 22 + 6 * n + 0 ∧ q = 0) ∨ (j = 22 + 6 * n + 1 ∧ q = 1))) ∨
  (∃ n k, n < B ∧ k < 4 ∧ a = b + 10 + 2 * n + 1 ∧ j = 22 + 6 * n + (2 + k) ∧ q = k) ∨
  (∃ s i, s < N ∧ i < 6 ∧ a = b + 5 + 17 + 2 * pm s ∧ j = 58 + 10 * s + i ∧ q = i) ∨
  (∃ s k, s < N ∧ k < 4 ∧ a = b + 5 + 17 + 2 * pm s + 1 ∧ j = 58 + 10 * s + (6 + k) ∧ q = k) ∨
  (j = 5 ∧ a = b + 6 ∧ q = 0) ∨
  (∃ e r, e < E ∧ r < 3 ∧ a = b + 6 + 1 + r ∧ j = 158 + 3 * e + r ∧ q = e)
def Pm (pm : Nat → Nat) : Prop := (∀ i, i < 10 → pm i < 10) ∧ ∀ i j, i < 10 → j < 10 → pm i = pm j → i = j
theorem At_inj {b B N E : Nat} {pm : Nat → Nat} (hp : Pm pm) (hB : B ≤ 6) (hN : N ≤ 10) (hE : E ≤ 20) {j a q j' a' q' : Nat} (h : At b B N E pm j a q) (h' : At b B N E pm j' a' q') : j = j' ↔ (a = a' ∧ q = q') := by
  obtain ⟨hp1, hp2⟩ := hp
  rcases h with h | ⟨k, hk, h⟩ | ⟨n, hn, h⟩ | ⟨n, k, hn, hk, h⟩ | ⟨s, i, hs, hi, h⟩ | ⟨s, k, hs, hk, h⟩ | h | ⟨e, r, he, hr, h⟩ <;>
  rcases h' with h' | ⟨k', hk', h'⟩ | ⟨n', hn', h'⟩ | ⟨n', k', hn', hk', h'⟩ | ⟨s', i', hs', hi', h'⟩ | ⟨s', k', hs', hk', h'⟩ | h' | ⟨e', r', he', hr', h'⟩ <;>
  first
  | omega
  | (have p1 := hp1 s (by omega); first | omega | (have p2 := hp1 s' (by omega); have p3 : s ≠ s' → pm s ≠ pm s' := fun hne z => hne (hp2 s s' (by omega) (by omega) z); have p4 : s = s' → pm s = pm s' := fun z => congrArg pm z; omega))
  | (have p2 := hp1 s' (by omega); omega)
theorem At_rng {b B N E : Nat} {pm : Nat → Nat} (hp : Pm pm) (hB : B ≤ 6) (hN : N ≤ 10) (hE : E ≤ 20) {j a q : Nat} (h : At b B N E pm j a q) : b ≤ a ∧ a < b + 42 ∧ a ≠ b + 5 ∧ ¬ (a = b ∧ q = 9) ∧ (j < 22 ∨ (22 ≤ j ∧ j < 22 + 6 * B) ∨ (58 ≤ j ∧ j < 58 + 10 * N) ∨ (158 ≤ j ∧ j < 158 + 3 * E)) := by
  obtain ⟨hp1, hp2⟩ := hp
  rcases h with h | ⟨k, hk, h⟩ | ⟨n, hn, h⟩ | ⟨n, k, hn, hk, h⟩ | ⟨s, i, hs, hi, h⟩ | ⟨s, k, hs, hk, h⟩ | h | ⟨e, r, he, hr, h⟩ <;> first | omega | (have p1 := hp1 s (by omega); omega)
section AtC
variable {b B N E n k s i e r : Nat} {pm : Nat → Nat}
theorem at_today : At b B N E pm 0 b 0 := Or.inl (by omega)
theorem at_funds : At b B N E pm 4 b 1 := Or.inl (by omega)
theorem at_borrowerTotal : At b B N E pm 1 b 2 := Or.inl (by omega)
theorem at_loanTotal : At b B N E pm 2 b 3 := Or.inl (by omega)
theorem at_nextId : At b B N E pm 3 b 4 := Or.inl (by omega)
theorem at_repaidTotal : At b B N E pm 6 b 5 := Or.inl (by omega)
theorem at_defaultedTotal : At b B N E pm 7 b 6 := Or.inl (by omega)
theorem at_lossTotal : At b B N E pm 8 b 7 := Or.inl (by omega)
theorem at_broughtCoins : At b B N E pm 9 b 8 := Or.inl (by omega)
theorem at_pr (hk : k < 4) : At b B N E pm (10 + k) (b + 1) k := Or.inr (Or.inl ⟨k, hk, Or.inl ⟨rfl, rfl, rfl⟩⟩)
theorem at_st (hk : k < 4) : At b B N E pm (14 + k) (b + 2) k := Or.inr (Or.inl ⟨k, hk, Or.inr (Or.inl ⟨rfl, rfl, rfl⟩)⟩)
theorem at_bu (hk : k < 4) : At b B N E pm (18 + k) (b + 3) k := Or.inr (Or.inl ⟨k, hk, Or.inr (Or.inr ⟨rfl, rfl, rfl⟩)⟩)
theorem at_purse (hn : n < B) : At b B N E pm (22 + 6 * n + 0) (b + 10 + 2 * n) 0 := Or.inr (Or.inr (Or.inl ⟨n, hn, rfl, Or.inl ⟨rfl, rfl⟩⟩))
theorem at_defaultTotal (hn : n < B) : At b B N E pm (22 + 6 * n + 1) (b + 10 + 2 * n) 1 := Or.inr (Or.inr (Or.inl ⟨n, hn, rfl, Or.inr ⟨rfl, rfl⟩⟩))
theorem at_goods (hn : n < B) (hk : k < 4) : At b B N E pm (22 + 6 * n + (2 + k)) (b + 10 + 2 * n + 1) k := Or.inr (Or.inr (Or.inr (Or.inl ⟨n, k, hn, hk, rfl, rfl, rfl⟩)))
theorem at_loan (hs : s < N) (hi : i < 6) : At b B N E pm (58 + 10 * s + i) (b + 5 + 17 + 2 * pm s) i := Or.inr (Or.inr (Or.inr (Or.inr (Or.inl ⟨s, i, hs, hi, rfl, rfl, rfl⟩))))
theorem at_pledged (hs : s < N) (hk : k < 4) : At b B N E pm (58 + 10 * s + (6 + k)) (b + 5 + 17 + 2 * pm s + 1) k := Or.inr (Or.inr (Or.inr (Or.inr (Or.inr (Or.inl ⟨s, k, hs, hk, rfl, rfl, rfl⟩)))))
theorem at_size : At b B N E pm 5 (b + 6) 0 := Or.inr (Or.inr (Or.inr (Or.inr (Or.inr (Or.inr (Or.inl ⟨rfl, rfl, rfl⟩))))))
theorem at_ent (he : e < E) (hr : r < 3) : At b B N E pm (158 + 3 * e + r) (b + 6 + 1 + r) e := Or.inr (Or.inr (Or.inr (Or.inr (Or.inr (Or.inr (Or.inr ⟨e, r, he, hr, rfl, rfl, rfl⟩))))))
theorem at_ent0 (he : e < E) : At b B N E pm (158 + 3 * e + 0) (b + 6 + 1) e := at_ent (r := 0) he (by decide)
theorem at_ent1 (he : e < E) : At b B N E pm (158 + 3 * e + 1) (b + 6 + 2) e := at_ent (r := 1) he (by decide)
theorem at_ent2 (he : e < E) : At b B N E pm (158 + 3 * e + 2) (b + 6 + 3) e := at_ent (r := 2) he (by decide)
end AtC
def PmOk (I : II) (b : Nat) (pm : Nat → Nat) : Prop := Pm pm ∧ ∀ i, i < 10 → I (b + 5) i = nI (pm i)
def DV (I : II) (b : Nat) (w : Nat → Int32) (B N E : Nat) (pm : Nat → Nat) : Prop := (∀ j a q, At b B N E pm j a q → I a q = w j) ∧ PmOk I b pm ∧ B ≤ 6 ∧ N ≤ 10 ∧ E ≤ 20
/-- the desk at b in I, all else as in I0; an: its answer -/
def DW (I0 I : II) (b : Nat) (w : Nat → Int32) (B N E : Nat) (pm : Nat → Nat) (an : Int32) : Prop := (∀ a, ¬ (b ≤ a ∧ a < b + 42) → I a = I0 a) ∧ DV I b w B N E pm ∧ I b 9 = an
section DVs
variable {I0 I I1 : II} {b B N E j a q s n : Nat} {w w' : Nat → Int32} {pm : Nat → Nat} {an v : Int32}
theorem DV.get (h : DV I b w B N E pm) (hA : At b B N E pm j a q) : I a q = w j := h.1 j a q hA
theorem DV.hpm (h : DV I b w B N E pm) : Pm pm := h.2.1.1
theorem DV.p (h : DV I b w B N E pm) (hs : s < 10) : I (b + 5) s = nI (pm s) := h.2.1.2 s hs
theorem DV.l (h : DV I b w B N E pm) (hs : s < 10) : pm s < 10 := h.2.1.1.1 s hs
theorem DV.hB (h : DV I b w B N E pm) : B ≤ 6 := h.2.2.1
theorem DV.hN (h : DV I b w B N E pm) : N ≤ 10 := h.2.2.2.1
theorem DV.hE (h : DV I b w B N E pm) : E ≤ 20 := h.2.2.2.2
theorem DV.toW (h : DV I b w B N E pm) : DW I I b w B N E pm (I b 9) := ⟨fun _ _ => rfl, h, rfl⟩
theorem DW.toV (h : DW I0 I b w B N E pm an) : DV I b w B N E pm := h.2.1
theorem DW.get (h : DW I0 I b w B N E pm an) (hA : At b B N E pm j a q) : I a q = w j := h.2.1.1 j a q hA
theorem DW.hpm (h : DW I0 I b w B N E pm an) : Pm pm := h.2.1.hpm
theorem DW.p (h : DW I0 I b w B N E pm an) (hs : s < 10) : I (b + 5) s = nI (pm s) := h.2.1.p hs
theorem DW.l (h : DW I0 I b w B N E pm an) (hs : s < 10) : pm s < 10 := h.2.1.l hs
theorem DW.hB (h : DW I0 I b w B N E pm an) : B ≤ 6 := h.2.1.hB
theorem DW.hN (h : DW I0 I b w B N E pm an) : N ≤ 10 := h.2.1.hN
theorem DW.hE (h : DW I0 I b w B N E pm an) : E ≤ 20 := h.2.1.hE
theorem DW.han (h : DW I0 I b w B N E pm an) : I b 9 = an := h.2.2
theorem DW.put (h : DW I0 I b w B N E pm an) (hA : At b B N E pm j a q) : DW I0 (u2 I a q v) b (upd w j v) B N E pm an := by
  obtain ⟨hf, ⟨hv, ⟨hp, hp5⟩, hB, hN, hE⟩, h9⟩ := h
  obtain ⟨r1, r2, r3, r4, -⟩ := At_rng hp hB hN hE hA
  refine ⟨fun x hx => (u2_r (by omega)).trans (hf x hx), ⟨fun j' a' q' hA' => ?_, ⟨hp, fun i hi => by rw [u2_r (by omega)]; exact hp5 i hi⟩, hB, hN, hE⟩, ?_⟩
  · have hi := At_inj hp hB hN hE hA' hA
    by_cases e : j' = j
    · obtain ⟨e1, e2⟩ := hi.mp e
      subst e; subst e1; subst e2
      rw [u2_g, upd_e]
    · rw [upd_n e]
      by_cases e1 : a' = a
      · subst e1
        rw [u2_o (fun z => e (hi.mpr ⟨rfl, z⟩))]
        exact hv _ _ _ hA'
      · rw [u2_r e1]
        exact hv _ _ _ hA'
  · by_cases e1 : a = b
    · subst e1
      rw [u2_o (fun z => r4 ⟨rfl, z.symm⟩)]; exact h9
    · rw [u2_r (fun z => e1 z.symm)]; exact h9
theorem DW.ans (h : DW I0 I b w B N E pm an) : DW I0 (u2 I b 9 v) b w B N E pm v := by
  obtain ⟨hf, ⟨hv, ⟨hp, hp5⟩, hB, hN, hE⟩, h9⟩ := h
  refine ⟨fun x hx => (u2_r (by omega)).trans (hf x hx), ⟨fun j' a' q' hA' => ?_, ⟨hp, fun i hi => by rw [u2_r (by omega)]; exact hp5 i hi⟩, hB, hN, hE⟩, u2_g⟩
  obtain ⟨r1, r2, r3, r4, -⟩ := At_rng hp hB hN hE hA'
  by_cases e1 : a' = b
  · subst e1
    rw [u2_o (fun z => r4 ⟨rfl, z⟩)]; exact hv _ _ _ hA'
  · rw [u2_r e1]; exact hv _ _ _ hA'
/-- places the row can be told by other words where it is in use -/
theorem DV.cw (h : DV I b w B N E pm) (e : ∀ j, (j < 22 ∨ (22 ≤ j ∧ j < 22 + 6 * B) ∨ (58 ≤ j ∧ j < 58 + 10 * N) ∨ (158 ≤ j ∧ j < 158 + 3 * E)) → w j = w' j) : DV I b w' B N E pm := by
  obtain ⟨hv, hp, hB, hN, hE⟩ := h
  exact ⟨fun j a q hA => (hv j a q hA).trans (e j (At_rng hp.1 hB hN hE hA).2.2.2.2), hp, hB, hN, hE⟩
theorem DW.cw (h : DW I0 I b w B N E pm an) (e : ∀ j, (j < 22 ∨ (22 ≤ j ∧ j < 22 + 6 * B) ∨ (58 ≤ j ∧ j < 58 + 10 * N) ∨ (158 ≤ j ∧ j < 158 + 3 * E)) → w j = w' j) : DW I0 I b w' B N E pm an := ⟨h.1, h.2.1.cw e, h.2.2⟩
theorem DW.tr {I2 : II} {w2 : Nat → Int32} {B2 N2 E2 : Nat} {pm2 : Nat → Nat} {an2 : Int32} (h : ∀ a, ¬ (b ≤ a ∧ a < b + 42) → I a = I0 a) (h2 : DW I I2 b w2 B2 N2 E2 pm2 an2) : DW I0 I2 b w2 B2 N2 E2 pm2 an2 := ⟨fun a ha => (h2.1 a ha).trans (h a ha), h2.2⟩
/-- one more borrower, loan, entry in use -/
theorem DV.addB (h : DV I b w B N E pm) (hB : B < 6) (e0 : I (b + 10 + 2 * B) 0 = w (22 + 6 * B + 0)) (e1 : I (b + 10 + 2 * B) 1 = w (22 + 6 * B + 1)) (ek : ∀ k, k < 4 → I (b + 10 + 2 * B + 1) k = w (22 + 6 * B + (2 + k))) : DV I b w (B + 1) N E pm := by
  obtain ⟨hv, hp, hB6, hN, hE⟩ := h
  refine ⟨fun j a q hA => ?_, hp, by omega, hN, hE⟩
  rcases hA with h | h | ⟨n, hn, ha, h⟩ | ⟨n, k, hn, hk, ha, hj, hq⟩ | h
  · exact hv _ _ _ (Or.inl h)
  · exact hv _ _ _ (Or.inr (Or.inl h))
  · rcases Nat.lt_or_ge n B with h1 | h1
    · exact hv _ _ _ (Or.inr (Or.inr (Or.inl ⟨n, h1, ha, h⟩)))
    · obtain rfl : n = B := by omega
      subst ha
      rcases h with ⟨rfl, rfl⟩ | ⟨rfl, rfl⟩
      · exact e0
      · exact e1
  · rcases Nat.lt_or_ge n B with h1 | h1
    · exact hv _ _ _ (Or.inr (Or.inr (Or.inr (Or.inl ⟨n, k, h1, hk, ha, hj, hq⟩))))
    · obtain rfl : n = B := by omega
      subst ha; subst hj; subst hq
      exact ek _ hk
  · exact hv _ _ _ (Or.inr (Or.inr (Or.inr (Or.inr h))))
theorem DV.addN (h : DV I b w B N E pm) (hN : N < 10) (e0 : ∀ i, i < 6 → I (b + 5 + 17 + 2 * pm N) i = w (58 + 10 * N + i)) (ek : ∀ k, k < 4 → I (b + 5 + 17 + 2 * pm N + 1) k = w (58 + 10 * N + (6 + k))) : DV I b w B (N + 1) E pm := by
  obtain ⟨hv, hp, hB6, hN, hE⟩ := h
  refine ⟨fun j a q hA => ?_, hp, hB6, by omega, hE⟩
  rcases hA with h | h | h | h | ⟨s, i, hs, hi, ha, hj, hq⟩ | ⟨s, k, hs, hk, ha, hj, hq⟩ | h
  · exact hv _ _ _ (Or.inl h)
  · exact hv _ _ _ (Or.inr (Or.inl h))
  · exact hv _ _ _ (Or.inr (Or.inr (Or.inl h)))
  · exact hv _ _ _ (Or.inr (Or.inr (Or.inr (Or.inl h))))
  · rcases Nat.lt_or_ge s N with h1 | h1
    · exact hv _ _ _ (Or.inr (Or.inr (Or.inr (Or.inr (Or.inl ⟨s, i, h1, hi, ha, hj, hq⟩)))))
    · obtain rfl : s = N := by omega
      subst ha; subst hj; subst hq
      exact e0 _ hi
  · rcases Nat.lt_or_ge s N with h1 | h1
    · exact hv _ _ _ (Or.inr (Or.inr (Or.inr (Or.inr (Or.inr (Or.inl ⟨s, k, h1, hk, ha, hj, hq⟩))))))
    · obtain rfl : s = N := by omega
      subst ha; subst hj; subst hq
      exact ek _ hk
  · exact hv _ _ _ (Or.inr (Or.inr (Or.inr (Or.inr (Or.inr (Or.inr h))))))
theorem DV.addE (h : DV I b w B N E pm) (hE : E < 20) (e0 : I (b + 6 + 1) E = w (158 + 3 * E + 0)) (e1 : I (b + 6 + 2) E = w (158 + 3 * E + 1)) (e2 : I (b + 6 + 3) E = w (158 + 3 * E + 2)) : DV I b w B N (E + 1) pm := by
  obtain ⟨hv, hp, hB6, hN, hE⟩ := h
  refine ⟨fun j a q hA => ?_, hp, hB6, hN, by omega⟩
  rcases hA with h | h | h | h | h | h | h | ⟨e, r, he, hr, ha, hj, hq⟩
  · exact hv _ _ _ (Or.inl h)
  · exact hv _ _ _ (Or.inr (Or.inl h))
  · exact hv _ _ _ (Or.inr (Or.inr (Or.inl h)))
  · exact hv _ _ _ (Or.inr (Or.inr (Or.inr (Or.inl h))))
  · exact hv _ _ _ (Or.inr (Or.inr (Or.inr (Or.inr (Or.inl h)))))
  · exact hv _ _ _ (Or.inr (Or.inr (Or.inr (Or.inr (Or.inr (Or.inl h))))))
  · exact hv _ _ _ (Or.inr (Or.inr (Or.inr (Or.inr (Or.inr (Or.inr (Or.inl h)))))))
  · rcases Nat.lt_or_ge e E with h1 | h1
    · exact hv _ _ _ (Or.inr (Or.inr (Or.inr (Or.inr (Or.inr (Or.inr (Or.inr ⟨e, r, h1, hr, ha, hj, hq⟩)))))))
    · obtain rfl : e = E := by omega
      subst ha; subst hj; subst hq
      match r, hr with
      | 0, _ => exact e0
      | 1, _ => exact e1
      | 2, _ => exact e2
/-- fewer in use -/
theorem DV.less {B' N' E' : Nat} (h : DV I b w B N E pm) (hB : B' ≤ B) (hN : N' ≤ N) (hE : E' ≤ E) : DV I b w B' N' E' pm := by
  obtain ⟨hv, hp, hB6, hN10, hE20⟩ := h
  refine ⟨fun j a q hA => ?_, hp, by omega, by omega, by omega⟩
  rcases hA with h | h | ⟨n, hn, h⟩ | ⟨n, k, hn, h⟩ | ⟨s, i, hs, h⟩ | ⟨s, k, hs, h⟩ | h | ⟨e, r, he, h⟩
  · exact hv _ _ _ (Or.inl h)
  · exact hv _ _ _ (Or.inr (Or.inl h))
  · exact hv _ _ _ (Or.inr (Or.inr (Or.inl ⟨n, by omega, h⟩)))
  · exact hv _ _ _ (Or.inr (Or.inr (Or.inr (Or.inl ⟨n, k, by omega, h⟩))))
  · exact hv _ _ _ (Or.inr (Or.inr (Or.inr (Or.inr (Or.inl ⟨s, i, by omega, h⟩)))))
  · exact hv _ _ _ (Or.inr (Or.inr (Or.inr (Or.inr (Or.inr (Or.inl ⟨s, k, by omega, h⟩))))))
  · exact hv _ _ _ (Or.inr (Or.inr (Or.inr (Or.inr (Or.inr (Or.inr (Or.inl h)))))))
  · exact hv _ _ _ (Or.inr (Or.inr (Or.inr (Or.inr (Or.inr (Or.inr (Or.inr ⟨e, r, by omega, h⟩)))))))
/-- a cell of the desk that isn't in use -/
theorem DW.free (h : DW I0 I b w B N E pm an) {f : Nat → Int32} (ha : b ≤ a ∧ a < b + 42) (h0 : a ≠ b) (h5 : a ≠ b + 5) (hn : ∀ j q, ¬ At b B N E pm j a q) : DW I0 (sr I a f) b w B N E pm an := by
  obtain ⟨hf, ⟨hv, ⟨hp, hp5⟩, hB, hN, hE⟩, h9⟩ := h
  refine ⟨fun x hx => (sr_n (by omega)).trans (hf x hx), ⟨fun j' a' q' hA' => ?_, ⟨hp, fun i hi => by rw [sr_n (by omega)]; exact hp5 i hi⟩, hB, hN, hE⟩, by rw [sr_n (fun z => h0 z.symm)]; exact h9⟩
  by_cases e1 : a' = a
  · subst e1; exact absurd hA' (hn _ _)
  · rw [sr_n e1]; exact hv _ _ _ hA'
end DVs
theorem free_B {b B N E n : Nat} {pm : Nat → Nat} (hp : Pm pm) (hN : N ≤ 10) (hn : B ≤ n) (hn6 : n < 6) : (∀ j q, ¬ At b B N E pm j (b + 10 + 2 * n) q) ∧ ∀ j q, ¬ At b B N E pm j (b + 10 + 2 * n + 1) q := by
  obtain ⟨hp1, hp2⟩ := hp
  constructor <;> intro j q h <;> rcases h with h | ⟨k, hk, h⟩ | ⟨m, hm, h⟩ | ⟨m, k, hm, hk, h⟩ | ⟨s, i, hs, hi, h⟩ | ⟨s, k, hs, hk, h⟩ | h | ⟨e, r, he, hr, h⟩ <;> omega
theorem free_N {b B N E n : Nat} {pm : Nat → Nat} (hp : Pm pm) (hB : B ≤ 6) (hN : N ≤ 10) (hn : N ≤ n) (hn6 : n < 10) : (∀ j q, ¬ At b B N E pm j (b + 5 + 17 + 2 * pm n) q) ∧ ∀ j q, ¬ At b B N E pm j (b + 5 + 17 + 2 * pm n + 1) q := by
  obtain ⟨hp1, hp2⟩ := hp
  have p0 := hp1 n hn6
  constructor <;> intro j q h <;> rcases h with h | ⟨k, hk, h⟩ | ⟨m, hm, h⟩ | ⟨m, k, hm, hk, h⟩ | ⟨s, i, hs, hi, h⟩ | ⟨s, k, hs, hk, h⟩ | h | ⟨e, r, he, hr, h⟩ <;> first | omega | (have p1 : pm s ≠ pm n := fun z => absurd (hp2 s n (by omega) hn6 z) (by omega); omega)
