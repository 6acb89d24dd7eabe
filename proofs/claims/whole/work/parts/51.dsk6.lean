/-! Copies of a desk: what is copied so far. -/
theorem DV.mv {I0 I : II} {b B N E : Nat} {w : Nat → Int32} {pm : Nat → Nat} (h : DV I0 b w B N E pm) (e : ∀ x, b ≤ x ∧ x < b + 42 → I x = I0 x) : DV I b w B N E pm := ⟨fun j a q hA => by
    have r := At_rng h.hpm h.hB h.hN h.hE hA
    rw [e a ⟨r.1, r.2.1⟩]; exact h.1 j a q hA, ⟨h.2.1.1, fun i hi => by rw [e (b + 5) (by omega)]; exact h.2.1.2 i hi⟩, h.2.2⟩
def CPV (I0 I : II) (a b : Nat) (w : Nat → Int32) (B N E : Nat) (pa pb : Nat → Nat) (P : Nat → Prop) (an : Int32) : Prop :=
  (∀ x, ¬ (a ≤ x ∧ x < a + 42) → I x = I0 x) ∧ (∀ j x q, At a B N E pa j x q → P j → I x q = w j) ∧ PmOk I a pa ∧ I a 9 = an ∧ DV I0 b w B N E pb ∧ (a + 42 ≤ b ∨ b + 42 ≤ a)
def cpf (I : II) (p s i : Nat) : II := u2 I p i (I s i)
def cpx (I : II) (p s r n : Nat) : II := sr I (p + r) (va_cpy (I (s + r)) (I (p + r)) 0 0 n)
def cpB (I : II) (p s : Nat) : II := cpx (cpf (cpf I p s 0) p s 1) p s 1 4
def cpN (I : II) (p s : Nat) : II := cpx (cpf (cpf (cpf (cpf (cpf (cpf I p s 0) p s 1) p s 2) p s 3) p s 4) p s 5) p s 1 4
def cpL (I : II) (p s : Nat) : II := cpx (cpx (cpx (cpf I p s 0) p s 1 20) p s 2 20) p s 3 20
theorem cp_v {f f' : Nat → Int32} {n q : Nat} (h : q < n) : va_cpy f f' 0 0 n q = f q := by simp [va_cpy, h]
section CPs
variable {I0 I I' : II} {a b B N E j x q n s : Nat} {w : Nat → Int32} {pa pb : Nat → Nat} {P P' R : Nat → Prop} {an v : Int32}
theorem CPV.of (hp : PmOk I a pa) (hV : DV I b w B N E pb) (hd : a + 42 ≤ b ∨ b + 42 ≤ a) : CPV I I a b w B N E pa pb (fun _ => False) (I a 9) := ⟨fun _ _ => rfl, fun _ _ _ _ h => h.elim, hp, rfl, hV, hd⟩
theorem CPV.src (h : CPV I0 I a b w B N E pa pb P an) : DV I b w B N E pb := h.2.2.2.2.1.mv (fun x hx => h.1 x (by have := h.2.2.2.2.2; omega))
theorem CPV.get (h : CPV I0 I a b w B N E pa pb P an) (hA : At a B N E pa j x q) (hP : P j) : I x q = w j := h.2.1 j x q hA hP
theorem CPV.p (h : CPV I0 I a b w B N E pa pb P an) (hs : s < 10) : I (a + 5) s = nI (pa s) := h.2.2.1.2 s hs
theorem CPV.l (h : CPV I0 I a b w B N E pa pb P an) (hs : s < 10) : pa s < 10 := h.2.2.1.1.1 s hs
theorem CPV.le (h : CPV I0 I a b w B N E pa pb P an) (e : ∀ j, P' j → P j) : CPV I0 I a b w B N E pa pb P' an := ⟨h.1, fun j x q hA hj => h.2.1 j x q hA (e j hj), h.2.2⟩
theorem CPV.step (h : CPV I0 I a b w B N E pa pb P an) (hx : a ≤ x ∧ x < a + 42) (h5 : x ≠ a + 5) (hI : ∀ y, y ≠ x → I' y = I y) (h9 : I' a 9 = I a 9) (hP : ∀ j q, At a B N E pa j x q → P j ∨ R j → I' x q = w j) (hR : ∀ j, R j → ∃ q, At a B N E pa j x q) : CPV I0 I' a b w B N E pa pb (fun j => P j ∨ R j) an := by
  obtain ⟨hf, hv, hp, h9', hs, hd⟩ := h
  refine ⟨fun y hy => (hI y (by omega)).trans (hf y hy), fun j y q hA hj => ?_, ⟨hp.1, fun i hi => by rw [hI _ (fun z => h5 z.symm)]; exact hp.2 i hi⟩, h9.trans h9', hs, hd⟩
  by_cases e : y = x
  · subst e; exact hP j q hA hj
  · rw [hI y e]
    rcases hj with hj | hj
    · exact hv j y q hA hj
    · obtain ⟨q', hA'⟩ := hR j hj
      exact absurd ((At_inj hp.1 hs.hB hs.hN hs.hE hA hA').mp rfl).1 e
theorem CPV.put (h : CPV I0 I a b w B N E pa pb P an) (hA : At a B N E pa j x q) (hv : v = w j) : CPV I0 (u2 I x q v) a b w B N E pa pb (fun i => P i ∨ i = j) an := by
  have hs := h.2.2.2.2.1
  have hp := h.2.2.1.1
  obtain ⟨r1, r2, r3, r4, -⟩ := At_rng hp hs.hB hs.hN hs.hE hA
  refine h.step (x := x) ⟨r1, r2⟩ r3 (fun y hy => u2_r hy) ?_ (fun i q' hi hPR => ?_) (fun i hi => ⟨q, by rw [hi]; exact hA⟩)
  · by_cases e : a = x
    · subst e
      exact u2_o (fun z => r4 ⟨rfl, z.symm⟩)
    · rw [u2_r e]
  · by_cases e : q' = q
    · subst e
      rw [(At_inj hp hs.hB hs.hN hs.hE hi hA).mpr ⟨rfl, rfl⟩, u2_g, hv]
    · rw [u2_o e]
      rcases hPR with h1 | h1
      · exact h.2.1 i x q' hi h1
      · subst h1
        exact absurd ((At_inj hp hs.hB hs.hN hs.hE hi hA).mp rfl).2 e
theorem CPV.cell {f : Nat → Int32} (h : CPV I0 I a b w B N E pa pb P an) (hx : a ≤ x ∧ x < a + 42) (h5 : x ≠ a + 5) (h0 : x ≠ a) (hP : ∀ j q, At a B N E pa j x q → f q = w j) (hR : ∀ j, R j → ∃ q, At a B N E pa j x q) : CPV I0 (sr I x f) a b w B N E pa pb (fun j => P j ∨ R j) an :=
  h.step hx h5 (fun y hy => sr_n hy) (by rw [sr_n h0.symm]) (fun j q hA _ => by rw [sr_s]; exact hP j q hA) hR
theorem At_kd {i : Nat} (hp : Pm pa) (hN : N ≤ 10) (hi : i < 3) (h : At a B N E pa j (a + (1 + i)) q) : q < 4 ∧ j = 10 + 4 * i + q := by
  obtain ⟨hp1, hp2⟩ := hp
  rcases h with h | ⟨k, hk, h⟩ | ⟨m, hm, h⟩ | ⟨m, k, hm, hk, h⟩ | ⟨s, i, hs, hi, h⟩ | ⟨s, k, hs, hk, h⟩ | h | ⟨e, r, he, hr, h⟩ <;> omega
theorem At_gd (hp : Pm pa) (hN : N ≤ 10) (hB : B ≤ 6) (hn : n < B) (h : At a B N E pa j (a + 10 + 2 * n + 1) q) : q < 4 ∧ j = 22 + 6 * n + (2 + q) := by
  obtain ⟨hp1, hp2⟩ := hp
  rcases h with h | ⟨k, hk, h⟩ | ⟨m, hm, h⟩ | ⟨m, k, hm, hk, h⟩ | ⟨s, i, hs, hi, h⟩ | ⟨s, k, hs, hk, h⟩ | h | ⟨e, r, he, hr, h⟩ <;> omega
theorem At_pl (hp : Pm pa) (hN : N ≤ 10) (hB : B ≤ 6) (hs : s < N) (h : At a B N E pa j (a + 5 + 17 + 2 * pa s + 1) q) : q < 4 ∧ j = 58 + 10 * s + (6 + q) := by
  obtain ⟨hp1, hp2⟩ := hp
  have hps := hp1 s (by omega)
  rcases h with h | ⟨k, hk, h⟩ | ⟨m, hm, h⟩ | ⟨m, k, hm, hk, h⟩ | ⟨s', i, hs', hi, h⟩ | ⟨s', k, hs', hk, h⟩ | h | ⟨e, r, he, hr, h⟩
  · omega
  · omega
  · omega
  · omega
  · omega
  · have e : s = s' := hp2 s s' (by omega) (by omega) (by omega)
    subst e; omega
  · omega
  · omega
theorem At_en {r : Nat} (hp : Pm pa) (hN : N ≤ 10) (hr : r < 3) (h : At a B N E pa j (a + 6 + (1 + r)) q) : q < E ∧ j = 158 + 3 * q + r := by
  obtain ⟨hp1, hp2⟩ := hp
  rcases h with h | ⟨k, hk, h⟩ | ⟨m, hm, h⟩ | ⟨m, k, hm, hk, h⟩ | ⟨s, i, hs, hi, h⟩ | ⟨s, k, hs, hk, h⟩ | h | ⟨e, r', he, hr', h⟩ <;> omega
theorem CPV.kd {i : Nat} (h : CPV I0 I a b w B N E pa pb P an) (hi : i < 3) : CPV I0 (sr I (a + (1 + i)) (va_cpy (I (b + (1 + i))) (I (a + (1 + i))) 0 0 4)) a b w B N E pa pb (fun j => P j ∨ (10 + 4 * i ≤ j ∧ j < 14 + 4 * i)) an := by
  have hs := h.src
  have hp := h.2.2.1.1
  refine h.cell (R := fun j => 10 + 4 * i ≤ j ∧ j < 14 + 4 * i) (by omega) (by omega) (by omega) (fun j q hA => ?_) (fun j hj => ?_)
  · obtain ⟨h1, rfl⟩ := At_kd hp hs.hN hi hA
    rw [cp_v h1]
    match i, hi with
    | 0, _ => exact hs.get (at_pr h1)
    | 1, _ => exact hs.get (at_st h1)
    | 2, _ => exact hs.get (at_bu h1)
  · obtain ⟨k, hk, rfl⟩ : ∃ k, k < 4 ∧ j = 10 + 4 * i + k := ⟨j - (10 + 4 * i), by omega, by omega⟩
    match i, hi with
    | 0, _ => exact ⟨k, at_pr hk⟩
    | 1, _ => exact ⟨k, at_st hk⟩
    | 2, _ => exact ⟨k, at_bu hk⟩
theorem CPV.bor (h : CPV I0 I a b w B N E pa pb P an) (hn : n < B) : CPV I0 (cpB I (a + 10 + 2 * n) (b + 10 + 2 * n)) a b w B N E pa pb (fun j => P j ∨ (22 + 6 * n ≤ j ∧ j < 22 + 6 * n + 6)) an := by
  have h1 := h.put (at_purse hn) (h.src.get (at_purse hn))
  have h2 := h1.put (at_defaultTotal hn) (h1.src.get (at_defaultTotal hn))
  have hs := h2.src
  have hp := h.2.2.1.1
  have hB6 := hs.hB
  refine (h2.cell (x := a + 10 + 2 * n + 1) (R := fun j => 22 + 6 * n + 2 ≤ j ∧ j < 22 + 6 * n + 6) (by omega) (by omega) (by omega) (fun j q hA => ?_) (fun j hj => ?_)).le (fun j hj => by grind)
  · obtain ⟨h3, rfl⟩ := At_gd hp hs.hN hs.hB hn hA
    rw [cp_v h3]
    exact hs.get (at_goods hn h3)
  · obtain ⟨k, hk, rfl⟩ : ∃ k, k < 4 ∧ j = 22 + 6 * n + (2 + k) := ⟨j - (22 + 6 * n + 2), by omega, by omega⟩
    exact ⟨k, at_goods hn hk⟩
theorem CPV.loan (h : CPV I0 I a b w B N E pa pb P an) (hs : s < N) : CPV I0 (cpN I (a + 5 + 17 + 2 * pa s) (b + 5 + 17 + 2 * pb s)) a b w B N E pa pb (fun j => P j ∨ (58 + 10 * s ≤ j ∧ j < 58 + 10 * s + 10)) an := by
  have h0 := h.put (at_loan (i := 0) hs (by decide)) (h.src.get (at_loan (i := 0) hs (by decide)))
  have h1 := h0.put (at_loan (i := 1) hs (by decide)) (h0.src.get (at_loan (i := 1) hs (by decide)))
  have h2 := h1.put (at_loan (i := 2) hs (by decide)) (h1.src.get (at_loan (i := 2) hs (by decide)))
  have h3 := h2.put (at_loan (i := 3) hs (by decide)) (h2.src.get (at_loan (i := 3) hs (by decide)))
  have h4 := h3.put (at_loan (i := 4) hs (by decide)) (h3.src.get (at_loan (i := 4) hs (by decide)))
  have h5 := h4.put (at_loan (i := 5) hs (by decide)) (h4.src.get (at_loan (i := 5) hs (by decide)))
  have hS := h5.src
  have hp := h.2.2.1.1
  have hN10 := hS.hN
  have hl := hp.1 s (by omega)
  refine (h5.cell (x := a + 5 + 17 + 2 * pa s + 1) (R := fun j => 58 + 10 * s + 6 ≤ j ∧ j < 58 + 10 * s + 10) (by omega) (by omega) (by omega) (fun j q hA => ?_) (fun j hj => ?_)).le (fun j hj => by grind)
  · obtain ⟨h6, rfl⟩ := At_pl hp hS.hN hS.hB hs hA
    rw [cp_v h6]
    exact hS.get (at_pledged hs h6)
  · obtain ⟨k, hk, rfl⟩ : ∃ k, k < 4 ∧ j = 58 + 10 * s + (6 + k) := ⟨j - (58 + 10 * s + 6), by omega, by omega⟩
    exact ⟨k, at_pledged hs hk⟩
theorem CPV.ent {r : Nat} (h : CPV I0 I a b w B N E pa pb P an) (hr : r < 3) : CPV I0 (cpx I (a + 6) (b + 6) (1 + r) 20) a b w B N E pa pb (fun j => P j ∨ ∃ e, e < E ∧ j = 158 + 3 * e + r) an := by
  have hs := h.src
  have hp := h.2.2.1.1
  have hE := hs.hE
  refine h.cell (x := a + 6 + (1 + r)) (R := fun j => ∃ e, e < E ∧ j = 158 + 3 * e + r) (by omega) (by omega) (by omega) (fun j q hA => ?_) (fun j hj => ?_)
  · obtain ⟨h1, rfl⟩ := At_en hp hs.hN hr hA
    rw [cp_v (by omega)]
    match r, hr with
    | 0, _ => exact hs.get (at_ent0 h1)
    | 1, _ => exact hs.get (at_ent1 h1)
    | 2, _ => exact hs.get (at_ent2 h1)
  · obtain ⟨e, he, rfl⟩ := hj
    match r, hr with
    | 0, _ => exact ⟨e, at_ent0 he⟩
    | 1, _ => exact ⟨e, at_ent1 he⟩
    | 2, _ => exact ⟨e, at_ent2 he⟩
theorem CPV.led (h : CPV I0 I a b w B N E pa pb P an) : CPV I0 (cpL I (a + 6) (b + 6)) a b w B N E pa pb (fun j => P j ∨ j = 5 ∨ (158 ≤ j ∧ j < 158 + 3 * E)) an := by
  have h0 := h.put at_size (h.src.get at_size)
  have h1 := (h0.ent (r := 0) (by decide)).ent (r := 1) (by decide)
  refine (h1.ent (r := 2) (by decide)).le (fun j hj => ?_)
  rcases hj with hj | hj | hj
  · exact Or.inl (Or.inl (Or.inl (Or.inl hj)))
  · exact Or.inl (Or.inl (Or.inl (Or.inr hj)))
  · have e : j = 158 + 3 * ((j - 158) / 3) + (j - 158) % 3 := by omega
    rcases (by omega : (j - 158) % 3 = 0 ∨ (j - 158) % 3 = 1 ∨ (j - 158) % 3 = 2) with m | m | m
    · exact Or.inl (Or.inl (Or.inr ⟨(j - 158) / 3, by omega, by omega⟩))
    · exact Or.inl (Or.inr ⟨(j - 158) / 3, by omega, by omega⟩)
    · exact Or.inr ⟨(j - 158) / 3, by omega, by omega⟩
theorem CPV.fin (h : CPV I0 I a b w B N E pa pb P an) (e : ∀ j, (j < 22 ∨ (22 ≤ j ∧ j < 22 + 6 * B) ∨ (58 ≤ j ∧ j < 58 + 10 * N) ∨ (158 ≤ j ∧ j < 158 + 3 * E)) → P j) : DW I0 I a w B N E pa an := by
  have hs := h.src
  obtain ⟨hf, hv, hp, h9, -, -⟩ := h
  exact ⟨hf, ⟨fun j x q hA => hv j x q hA (e j (At_rng hp.1 hs.hB hs.hN hs.hE hA).2.2.2.2), hp, hs.hB, hs.hN, hs.hE⟩, h9⟩
end CPs
section G51
variable {g : GG} {k : KK} {nL : Nat} {cc : ByteArray} {own : String} {rt : Option FieldType} {D mc ms : Nat} {Q : State → Prop} {cells slots pc : Nat} {lo : List (Nat × Value)} {st : List Value} {X : va_W} {T : TT} {I : II}
theorem r_cp {I0 : II} {a b B N E : Nat} {w : Nat → Int32} {pa pb : Nat → Nat} {P : Nat → Prop} {an : Int32} (h : CPV I0 I a b w B N E pa pb P an) (kk : ∀ I', CPV I0 I' a b w B N E pa pb P an → Go g k nL Q cells slots pc lo st X T I') : Go g k nL Q cells slots pc lo st X T I := kk I h
end G51
