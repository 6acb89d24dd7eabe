/-! The other reads on both sides; the trial. -/
theorem lst_of {p : Nat → Prop} {N : Nat} : ∀ j, j < N → p j → ∃ i, i < N ∧ p i ∧ ∀ r, r < i → ¬ p r := by
  intro j
  induction j using Nat.strongRecOn with
  | ind j ih =>
    intro hj hp
    by_cases h : ∃ r, r < j ∧ p r
    · obtain ⟨r, r1, r2⟩ := h
      exact ih r r1 (by omega) r2
    · exact ⟨j, hj, hp, fun r r1 r2 => h ⟨r, r1, r2⟩⟩
theorem dl_all {w : Nat → Int32} {B N E D U : Nat} (hG : Gd w B N E D U) (hS : Sd w N) : ∃ d : Nat → Nat, (∀ r, r < N → dlV w r = nI (d r) ∧ d r ≤ 61) ∧ ∀ r, r < N → dlOk w r (d r) := by
  have hx : ∀ r, ∃ K, r < N → dlV w r = nI K ∧ dlOk w r K := fun r => by
    by_cases hr : r < N
    · obtain ⟨K, k1, k2⟩ := dl_n hG hS hr
      exact ⟨K, fun _ => ⟨k1, k2⟩⟩
    · exact ⟨0, fun z => absurd z hr⟩
  obtain ⟨d, hd⟩ := Classical.axiomOfChoice hx
  exact ⟨d, fun r hr => ⟨(hd r hr).1, (hd r hr).2.2.1⟩, fun r hr => (hd r hr).2⟩
/-- the trial alone has changed -/
theorem CSt.tr {I I' : II} {x : Nat} {s : AS} {D U : Nat} (h : CSt I x s D U) (e : ∀ q, ¬ (x + 85 ≤ q ∧ q < x + 85 + 42) → I' q = I q) (hp : ∃ p, PmOk I' (x + 85) p) : CSt I' x s D U := by
  obtain ⟨a1, a2, a3, a4, a5, a6, ⟨n, b1, b2, b3, b4, b5⟩, c, ⟨v, d1, d2⟩, ⟨k1, k2, k3, k4⟩, l1, l2, l3, l4⟩ := h
  have e0 := e x (by omega)
  refine ⟨a1.mv (fun q hq => e q (by omega)), a2, PmOk.ex a3 (e _ (by omega)), hp, PmOk.ex a5 (e _ (by omega)), fun i hi => PmOk.ex (a6 i hi) (e _ (by omega)), ⟨n, b1, by rw [e _ (by omega)]; exact b2, by rw [e _ (by omega)]; exact b3, b4, fun k u hu => ⟨(b5 k u hu).1.mv (fun q hq => e q (by omega)), (b5 k u hu).2⟩⟩, ?_, ⟨v, d1, by rw [e _ (by omega)]; exact d2⟩, ⟨by rw [e0]; exact k1, k2, fun j hj => by rw [e _ (by omega)]; exact k3 j hj, k4⟩, by rw [e0]; exact l1, by rw [e0]; exact l2, l3, l4⟩
  rcases c with ⟨c1, c2⟩ | ⟨w, c1, c2, c3, c4⟩
  · exact Or.inl ⟨c1, by rw [e0]; exact c2⟩
  · exact Or.inr ⟨w, c1, by rw [e0]; exact c2, c3.mv (fun q hq => e q (by omega)), c4⟩
theorem Iv.tr {x M : Nat} {T : TT} {I I' : II} {s : AS} {n : Nat} (h : Iv x M T I s s n) (e : ∀ q, ¬ (x + 85 ≤ q ∧ q < x + 85 + 42) → I' q = I q) (hp : ∃ p, PmOk I' (x + 85) p) : Iv x M T I' s s n := by
  obtain ⟨D, U, hC, hB⟩ := h.2.2.2.1
  exact h.cF (fun q hq => e q (by omega)) (hC.tr e hp) hB rfl

theorem nI_m1 {e : Nat} (h : e < 2 ^ 31) : nI e ≠ -1 := fun z => nI_pos h (by rw [z]; decide)
theorem OI_errorPosition {g : GG} {X : va_W} {T : TT} {I : II} {x e : Nat} (hcl : isCl T x) (he : I x 10 = nI e) (h : e ≤ 60) : Mx g yX9_errorPosition cX9_errorPosition 1 (some .int) 8 0 0 [.ref x] X T I (Ex (some (.int (nI e))) X T I) NoX := by
  have h2 := q_errorPosition__v (g := g) (X := X) (T := T) (I := I) hcl (by rw [he]; exact nI_m1 (by omega))
  rw [he] at h2
  exact h2
theorem OI_failedCommand {g : GG} {X : va_W} {T : TT} {I : II} {x e : Nat} (hcl : isCl T x) (he : I x 11 = nI e) (h : e ≤ 61) : Mx g yX9_failedCommand cX9_failedCommand 1 (some .int) 8 0 0 [.ref x] X T I (Ex (some (.int (nI e))) X T I) NoX := by
  have h2 := q_failedCommand__v (g := g) (X := X) (T := T) (I := I) hcl (by rw [he]; exact nI_m1 (by omega))
  rw [he] at h2
  exact h2

theorem op_riskiest {g : GG} {X : va_W} {T : TT} {I : II} {x M n : Nat} {s : AS} (h : Iv x M T I s s n) (hn : n < 512) : Op g x M n s yX9_riskiest cX9_riskiest 2 (some .int) yX10_riskiest cX10_riskiest 3 (some .int) [] [1] X T I := by
  obtain ⟨D, U, B, N, E, pm, hG, hS, hV, hBD⟩ := h.rd
  have hcl := h.1
  have hB := hG.B.1
  have hB6 := hG.B.2
  have hN := hG.N.1
  have hN10 := hG.N.2
  have hE := hG.E.1
  have hE20 := hG.E.2
  have hu := h.up (Nat.le_succ n)
  have hw := fun (T' : TT) (I' : II) (h' : Iv x M T' I' s s (n + 1)) => h'.2.2.2.2.2.1
  have hDD : D ≤ 40000 ∧ U ≤ 600 := by have := hBD.1; have := hBD.2; omega
  rcases Nat.eq_zero_or_pos N with e | e
  · rw [e] at hN
    exact ⟨1, .null, s, ⟨(by decide), fun z => absurd z (by decide)⟩, OpC.xe (q_riskiest__x hcl hV hN) (by decide) (by decide) hu, fun X9 T' I' h' => ⟨_, ⟨fun z => absurd z (by decide), ⟨_, rfl⟩⟩, OpR.rd (k := 1) h' (hw T' I' h') (by decide) (c_riskiest__x h'.2.1 hN)⟩⟩
  · obtain ⟨d, d1, d2⟩ := dl_all hG hS
    exact ⟨0, .int (s.w (58 + 10 * bsI s.w (N - 1) 1 0 + 0)), s, ⟨Nat.zero_le _, fun _ => ⟨_, rfl⟩⟩, OpC.ve (q_riskiest__v hcl hV hN e) (by decide) hu, fun X9 T' I' h' => ⟨.int (s.w (58 + 10 * bst d (N - 1) 1 0 + 0)), ⟨fun _ => by rw [bs_eq d1 (N - 1) 1 0 e (by omega)], ⟨_, rfl⟩⟩, OpR.rd h' (hw T' I' h') (by decide) (c_riskiest__v h'.2.1 hN hN10 e d2)⟩⟩

theorem op_loanByDebt {g : GG} {X : va_W} {T : TT} {I : II} {x M n : Nat} {s : AS} (h : Iv x M T I s s n) (hn : n < 512) (r_ : Int32) : Op g x M n s yX9_loanByDebt cX9_loanByDebt 3 (some .int) yX10_loanByDebt cX10_loanByDebt 5 (some .int) [.int r_] [1] X T I := by
  obtain ⟨D, U, B, N, E, pm, hG, hS, hV, hBD⟩ := h.rd
  have hcl := h.1
  have hB := hG.B.1
  have hB6 := hG.B.2
  have hN := hG.N.1
  have hN10 := hG.N.2
  have hE := hG.E.1
  have hE20 := hG.E.2
  have hu := h.up (Nat.le_succ n)
  have hw := fun (T' : TT) (I' : II) (h' : Iv x M T' I' s s (n + 1)) => h'.2.2.2.2.2.1
  have hDD : D ≤ 40000 ∧ U ≤ 600 := by have := hBD.1; have := hBD.2; omega
  by_cases hx : ∃ j, j < N ∧ cbN s.w N j = r_
  · obtain ⟨j0, j1, j2⟩ := hx
    obtain ⟨j, k1, k2, k3⟩ := lst_of (p := fun j => cbN s.w N j = r_) j0 j1 j2
    exact ⟨0, .int (s.w (58 + 10 * j + 0)), s, ⟨Nat.zero_le _, fun _ => ⟨_, rfl⟩⟩, OpC.ve (q_loanByDebt__v hcl hV hN k1 k2 k3) (by decide) hu, fun X9 T' I' h' => ⟨.int (s.w (58 + 10 * j + 0)), ⟨fun _ => rfl, ⟨_, rfl⟩⟩, OpR.rd h' (hw T' I' h') (by decide) (c_loanByDebt__v h'.2.1 hN hN10 k1 ((cn_eq hG k1).symm.trans k2) (fun i hi z => k3 i hi ((cn_eq hG (by omega)).trans z)))⟩⟩
  · skip
    exact ⟨1, .null, s, ⟨(by decide), fun z => absurd z (by decide)⟩, OpC.xe (q_loanByDebt__x hcl hV hN (fun i hi z => hx ⟨i, hi, z⟩)) (by decide) (by decide) hu, fun X9 T' I' h' => ⟨_, ⟨fun z => absurd z (by decide), ⟨_, rfl⟩⟩, OpR.rd (k := 1) h' (hw T' I' h') (by decide) (c_loanByDebt__x h'.2.1 hN hN10 (fun i hi z => hx ⟨i, hi, (cn_eq hG hi).trans z⟩))⟩⟩

theorem op_greatestPrincipal {g : GG} {X : va_W} {T : TT} {I : II} {x M n : Nat} {s : AS} (h : Iv x M T I s s n) (hn : n < 512) (b_ k_ u_ : Int32) : Op g x M n s yX9_greatestPrincipal cX9_greatestPrincipal 7 (some .int) yX10_greatestPrincipal cX10_greatestPrincipal 5 (some .int) [.int b_, .int k_, .int u_] [2, 3, 1] X T I := by
  obtain ⟨D, U, B, N, E, pm, hG, hS, hV, hBD⟩ := h.rd
  have hcl := h.1
  have hB := hG.B.1
  have hB6 := hG.B.2
  have hN := hG.N.1
  have hN10 := hG.N.2
  have hE := hG.E.1
  have hE20 := hG.E.2
  have hu := h.up (Nat.le_succ n)
  have hw := fun (T' : TT) (I' : II) (h' : Iv x M T' I' s s (n + 1)) => h'.2.2.2.2.2.1
  have hDD : D ≤ 40000 ∧ U ≤ 600 := by have := hBD.1; have := hBD.2; omega
  by_cases hb : okB B b_
  · by_cases hk : okK k_
    · obtain ⟨m, m1, rfl⟩ := okB_of hB6 hb
      obtain ⟨k, k1, rfl⟩ := okK_of hk
      by_cases hu_ : okR 1 99 u_
      · by_cases h1 : gpM s.w k u_ < nI 1
        · skip
          exact ⟨3, .null, s, ⟨(by decide), fun z => absurd z (by decide)⟩, OpC.xe (q_greatestPrincipal__x3a hcl hV hN hB m1 k1 hu_ h1) (by decide) (by decide) hu, fun X9 T' I' h' => ⟨_, ⟨fun z => absurd z (by decide), ⟨_, rfl⟩⟩, OpR.rd (k := 3) h' (hw T' I' h') (by decide) (c_greatestPrincipal__x3 h'.2.1 hB hB6 hN hN10 ⟨hb, hk⟩ hu_ (gp_x hG m1 k1 hu_ (Or.inl h1)))⟩⟩
        by_cases h2 : mayG s.w N m k u_
        · obtain ⟨K, K1, K2, K3⟩ := gp_v hG m1 k1 hu_ h1 h2
          exact ⟨0, .int (gpM s.w k u_), s, ⟨Nat.zero_le _, fun _ => ⟨_, rfl⟩⟩, OpC.ve (q_greatestPrincipal__v hcl hV hN hB m1 k1 hu_ h1 h2) (by decide) hu, fun X9 T' I' h' => ⟨.int (nI K), ⟨fun _ => congrArg Value.int K1.symm, ⟨_, rfl⟩⟩, OpR.rd h' (hw T' I' h') (by decide) (c_greatestPrincipal__v h'.2.1 hB hB6 hN hN10 ⟨hb, hk⟩ hu_ K3 K2)⟩⟩
        · skip
          exact ⟨3, .null, s, ⟨(by decide), fun z => absurd z (by decide)⟩, OpC.xe (q_greatestPrincipal__x3b hcl hV hN hB m1 k1 hu_ h1 h2) (by decide) (by decide) hu, fun X9 T' I' h' => ⟨_, ⟨fun z => absurd z (by decide), ⟨_, rfl⟩⟩, OpR.rd (k := 3) h' (hw T' I' h') (by decide) (c_greatestPrincipal__x3 h'.2.1 hB hB6 hN hN10 ⟨hb, hk⟩ hu_ (gp_x hG m1 k1 hu_ (Or.inr h2)))⟩⟩
      · skip
        exact ⟨2, .null, s, ⟨(by decide), fun z => absurd z (by decide)⟩, OpC.xe (q_greatestPrincipal__xu hcl hV hB m1 k1 hu_) (by decide) (by decide) hu, fun X9 T' I' h' => ⟨_, ⟨fun z => absurd z (by decide), ⟨_, rfl⟩⟩, OpR.rd (k := 2) h' (hw T' I' h') (by decide) (c_greatestPrincipal__x2 h'.2.1 hB hB6 ⟨hb, hk⟩ hu_)⟩⟩
    · obtain ⟨m, m1, rfl⟩ := okB_of hB6 hb
      exact ⟨1, .null, s, ⟨(by decide), fun z => absurd z (by decide)⟩, OpC.xe (q_greatestPrincipal__xk hcl hV hB m1 hk) (by decide) (by decide) hu, fun X9 T' I' h' => ⟨_, ⟨fun z => absurd z (by decide), ⟨_, rfl⟩⟩, OpR.rd (k := 1) h' (hw T' I' h') (by decide) (c_greatestPrincipal__x1 h'.2.1 hB hB6 (fun z => hk z.2))⟩⟩
  · skip
    exact ⟨1, .null, s, ⟨(by decide), fun z => absurd z (by decide)⟩, OpC.xe (q_greatestPrincipal__xb hcl hV hB hb) (by decide) (by decide) hu, fun X9 T' I' h' => ⟨_, ⟨fun z => absurd z (by decide), ⟨_, rfl⟩⟩, OpR.rd (k := 1) h' (hw T' I' h') (by decide) (c_greatestPrincipal__x1 h'.2.1 hB hB6 (fun z => hb z.1))⟩⟩

theorem op_meanDebt {g : GG} {X : va_W} {T : TT} {I : II} {x M n : Nat} {s : AS} (h : Iv x M T I s s n) (hn : n < 512) : Op g x M n s yX9_meanDebt cX9_meanDebt 1 (some .double) yX10_meanDebt cX10_meanDebt 3 (some .double) [] [5] X T I := by
  obtain ⟨D, U, B, N, E, pm, hG, hS, hV, hBD⟩ := h.rd
  have hcl := h.1
  have hB := hG.B.1
  have hB6 := hG.B.2
  have hN := hG.N.1
  have hN10 := hG.N.2
  have hE := hG.E.1
  have hE20 := hG.E.2
  have hu := h.up (Nat.le_succ n)
  have hw := fun (T' : TT) (I' : II) (h' : Iv x M T' I' s s (n + 1)) => h'.2.2.2.2.2.1
  have hDD : D ≤ 40000 ∧ U ≤ 600 := by have := hBD.1; have := hBD.2; omega
  rcases Nat.eq_zero_or_pos N with e | e
  · rw [e] at hN
    exact ⟨1, .null, s, ⟨(by decide), fun z => absurd z (by decide)⟩, OpC.xe (q_meanDebt__x hcl hV hN) (by decide) (by decide) hu, fun X9 T' I' h' => ⟨_, ⟨fun z => absurd z (by decide), ⟨_, rfl, n64_of (by decide +kernel)⟩⟩, OpR.rd (k := 1) h' (hw T' I' h') (by decide) (c_meanDebt__x h'.2.1 hN)⟩⟩
  · skip
    exact ⟨0, .double (dqV (debtsAllV s.w N) (nI N)), s, ⟨Nat.zero_le _, fun _ => ⟨_, rfl, dq_n (nI_i0 e (by omega))⟩⟩, OpC.ve (q_meanDebt__v hcl hV hN e) (by decide) hu, fun X9 T' I' h' => ⟨_, ⟨fun _ => rfl, ⟨_, rfl, dq_n (nI_i0 e (by omega))⟩⟩, OpR.rd h' (hw T' I' h') (by decide) (c_meanDebt__v h'.2.1 hN hN10 e)⟩⟩

theorem op_defaultShare {g : GG} {X : va_W} {T : TT} {I : II} {x M n : Nat} {s : AS} (h : Iv x M T I s s n) (hn : n < 512) : Op g x M n s yX9_defaultShare cX9_defaultShare 1 (some .float) yX10_defaultShare cX10_defaultShare 1 (some .float) [] [5] X T I := by
  obtain ⟨D, U, B, N, E, pm, hG, hS, hV, hBD⟩ := h.rd
  have hcl := h.1
  have hB := hG.B.1
  have hB6 := hG.B.2
  have hN := hG.N.1
  have hN10 := hG.N.2
  have hE := hG.E.1
  have hE20 := hG.E.2
  have hu := h.up (Nat.le_succ n)
  have hw := fun (T' : TT) (I' : II) (h' : Iv x M T' I' s s (n + 1)) => h'.2.2.2.2.2.1
  have hDD : D ≤ 40000 ∧ U ≤ 600 := by have := hBD.1; have := hBD.2; omega
  obtain ⟨-, -, ⟨t, y, -, hy1, -, hy, -⟩, -⟩ := id hG
  rcases Nat.eq_zero_or_pos y with e | e
  · rw [e] at hy
    exact ⟨1, .null, s, ⟨(by decide), fun z => absurd z (by decide)⟩, OpC.xe (q_defaultShare__x hcl hV hy) (by decide) (by decide) hu, fun X9 T' I' h' => ⟨_, ⟨fun z => absurd z (by decide), ⟨_, rfl, n32_of (by decide +kernel)⟩⟩, OpR.rd (k := 1) h' (hw T' I' h') (by decide) (c_defaultShare__x h'.2.1 hy)⟩⟩
  · skip
    exact ⟨0, .float (fqV (s.w 7) (nI y)), s, ⟨Nat.zero_le _, fun _ => ⟨_, rfl, fq_n (nI_i0 e (by omega))⟩⟩, OpC.ve (q_defaultShare__v hcl hV hy e (by omega)) (by decide) hu, fun X9 T' I' h' => ⟨_, ⟨fun _ => rfl, ⟨_, rfl, fq_n (nI_i0 e (by omega))⟩⟩, OpR.rd h' (hw T' I' h') (by decide) (c_defaultShare__v h'.2.1 hy e (by omega))⟩⟩

theorem op_errorPosition {g : GG} {X : va_W} {T : TT} {I : II} {x M n : Nat} {s : AS} (h : Iv x M T I s s n) (hn : n < 512) : Op g x M n s yX9_errorPosition cX9_errorPosition 1 (some .int) yX10_errorPosition cX10_errorPosition 1 (some .int) [] [1] X T I := by
  obtain ⟨D, U, B, N, E, pm, hG, hS, hV, hBD⟩ := h.rd
  have hcl := h.1
  have hB := hG.B.1
  have hB6 := hG.B.2
  have hN := hG.N.1
  have hN10 := hG.N.2
  have hE := hG.E.1
  have hE20 := hG.E.2
  have hu := h.up (Nat.le_succ n)
  have hw := fun (T' : TT) (I' : II) (h' : Iv x M T' I' s s (n + 1)) => h'.2.2.2.2.2.1
  have hDD : D ≤ 40000 ∧ U ≤ 600 := by have := hBD.1; have := hBD.2; omega
  obtain ⟨D1, U1, hC, -⟩ := h.2.2.2.1
  obtain ⟨c1, c2, c3, c4, c5, c6, ⟨hn_, b1, b2, b3, b4, b5⟩, c8, c9, c10, ce, cf, ce2, cf2⟩ := hC
  cases hea : s.ea with
  | none =>
    rw [hea] at ce
    exact ⟨1, .null, s, ⟨(by decide), fun z => absurd z (by decide)⟩, OpC.xe (q_errorPosition__x hcl ce) (by decide) (by decide) hu, fun X9 T' I' h' => ⟨_, ⟨fun z => absurd z (by decide), ⟨_, rfl⟩⟩, OpR.r0 (k := 1) h' (by decide) (c_errorPosition__x h'.2.1 ((h'.2.2.2.2.2.2.2.2.2.2.1).trans (by rw [hea]; rfl)))⟩⟩
  | some e =>
    rw [hea] at ce
    have he := ce2 e hea
    exact ⟨0, .int (nI e), s, ⟨Nat.zero_le _, fun _ => ⟨_, rfl⟩⟩, OpC.ve (OI_errorPosition hcl ce he) (by decide) hu, fun X9 T' I' h' => ⟨.int (nI e), ⟨fun _ => rfl, ⟨_, rfl⟩⟩, OpR.r0 h' (by decide) (c_errorPosition__v h'.2.1 (e := e) ((h'.2.2.2.2.2.2.2.2.2.2.1).trans (by rw [hea]; rfl)) (by omega))⟩⟩

theorem op_failedCommand {g : GG} {X : va_W} {T : TT} {I : II} {x M n : Nat} {s : AS} (h : Iv x M T I s s n) (hn : n < 512) : Op g x M n s yX9_failedCommand cX9_failedCommand 1 (some .int) yX10_failedCommand cX10_failedCommand 1 (some .int) [] [1] X T I := by
  obtain ⟨D, U, B, N, E, pm, hG, hS, hV, hBD⟩ := h.rd
  have hcl := h.1
  have hB := hG.B.1
  have hB6 := hG.B.2
  have hN := hG.N.1
  have hN10 := hG.N.2
  have hE := hG.E.1
  have hE20 := hG.E.2
  have hu := h.up (Nat.le_succ n)
  have hw := fun (T' : TT) (I' : II) (h' : Iv x M T' I' s s (n + 1)) => h'.2.2.2.2.2.1
  have hDD : D ≤ 40000 ∧ U ≤ 600 := by have := hBD.1; have := hBD.2; omega
  obtain ⟨D1, U1, hC, -⟩ := h.2.2.2.1
  obtain ⟨c1, c2, c3, c4, c5, c6, ⟨hn_, b1, b2, b3, b4, b5⟩, c8, c9, c10, ce, cf, ce2, cf2⟩ := hC
  cases hea : s.fa with
  | none =>
    rw [hea] at cf
    exact ⟨1, .null, s, ⟨(by decide), fun z => absurd z (by decide)⟩, OpC.xe (q_failedCommand__x hcl cf) (by decide) (by decide) hu, fun X9 T' I' h' => ⟨_, ⟨fun z => absurd z (by decide), ⟨_, rfl⟩⟩, OpR.r0 (k := 1) h' (by decide) (c_failedCommand__x h'.2.1 ((h'.2.2.2.2.2.2.2.2.2.2.2).trans (by rw [hea]; rfl)))⟩⟩
  | some e =>
    rw [hea] at cf
    have he := cf2 e hea
    exact ⟨0, .int (nI e), s, ⟨Nat.zero_le _, fun _ => ⟨_, rfl⟩⟩, OpC.ve (OI_failedCommand hcl cf he) (by decide) hu, fun X9 T' I' h' => ⟨.int (nI e), ⟨fun _ => rfl, ⟨_, rfl⟩⟩, OpR.r0 h' (by decide) (c_failedCommand__v h'.2.1 (e := e) ((h'.2.2.2.2.2.2.2.2.2.2.2).trans (by rw [hea]; rfl)) (by omega))⟩⟩

theorem op_undoableCount {g : GG} {X : va_W} {T : TT} {I : II} {x M n : Nat} {s : AS} (h : Iv x M T I s s n) (hn : n < 512) : Op g x M n s yX9_undoableCount cX9_undoableCount 1 (some .int) yX10_undoableCount cX10_undoableCount 1 (some .int) [] [] X T I := by
  obtain ⟨D, U, B, N, E, pm, hG, hS, hV, hBD⟩ := h.rd
  have hcl := h.1
  have hB := hG.B.1
  have hB6 := hG.B.2
  have hN := hG.N.1
  have hN10 := hG.N.2
  have hE := hG.E.1
  have hE20 := hG.E.2
  have hu := h.up (Nat.le_succ n)
  have hw := fun (T' : TT) (I' : II) (h' : Iv x M T' I' s s (n + 1)) => h'.2.2.2.2.2.1
  have hDD : D ≤ 40000 ∧ U ≤ 600 := by have := hBD.1; have := hBD.2; omega
  obtain ⟨D1, U1, hC, -⟩ := h.2.2.2.1
  obtain ⟨c1, c2, c3, c4, c5, c6, ⟨hn_, b1, b2, b3, b4, b5⟩, c8, c9, c10, ce, cf, ce2, cf2⟩ := hC
  exact ⟨0, .int (I (x + 169) 0), s, ⟨Nat.zero_le _, fun _ => ⟨_, rfl⟩⟩, OpC.ve (q_undoableCount hcl) (by decide) hu, fun X9 T' I' h' => ⟨.int (I' M 5), ⟨fun _ => by obtain ⟨f, f1, f2, f3, -⟩ := h'.2.2.2.2.2.2.1; rw [b3, f3], ⟨_, rfl⟩⟩, OpR.r0 h' (by decide) (c_undoableCount h'.2.1)⟩⟩

theorem op_lineChar {g : GG} {X : va_W} {T : TT} {I : II} {x M n : Nat} {s : AS} (h : Iv x M T I s s n) (hn : n < 512) (i_ : Int32) : Op g x M n s yX9_lineChar cX9_lineChar 2 (some .char) yX10_lineChar cX10_lineChar 2 (some .char) [.int i_] [2] X T I := by
  obtain ⟨D, U, B, N, E, pm, hG, hS, hV, hBD⟩ := h.rd
  have hcl := h.1
  have hB := hG.B.1
  have hB6 := hG.B.2
  have hN := hG.N.1
  have hN10 := hG.N.2
  have hE := hG.E.1
  have hE20 := hG.E.2
  have hu := h.up (Nat.le_succ n)
  have hw := fun (T' : TT) (I' : II) (h' : Iv x M T' I' s s (n + 1)) => h'.2.2.2.2.2.1
  have hDD : D ≤ 40000 ∧ U ≤ 600 := by have := hBD.1; have := hBD.2; omega
  obtain ⟨y, m, hSB⟩ := h.2.2.2.2.1
  have hlr := h.2.2.2.2.2.2.2.2.1
  by_cases hi : okN s.ln.length i_
  · obtain ⟨i, i1, rfl⟩ := okN_of (by have := hlr.2.1; omega) hi
    exact ⟨0, .int (nI (tx s.ln i)), s, ⟨Nat.zero_le _, fun _ => ⟨_, rfl⟩⟩, OpC.ve (q_lineChar__o hcl hSB i1) (by decide) hu, fun X9 T' I' h' => ⟨.int (nI (tx s.ln i)), ⟨fun _ => rfl, ⟨_, rfl⟩⟩, OpR.r0 h' (by decide) (c_lineChar__o h'.2.1 (h'.2.2.2.2.2.2.2.2.1).1 (h'.2.2.2.2.2.2.2.2.1).2.1 i1 ((h'.2.2.2.2.2.2.2.2.1).2.2.1 i i1) ((h'.2.2.2.2.2.2.2.2.1).2.2.2 i i1))⟩⟩
  · skip
    exact ⟨1, .null, s, ⟨(by decide), fun z => absurd z (by decide)⟩, OpC.xe (q_lineChar__x hcl hSB hi) (by decide) (by decide) hu, fun X9 T' I' h' => ⟨_, ⟨fun z => absurd z (by decide), ⟨_, rfl⟩⟩, OpR.r0 (k := 1) h' (by decide) (c_lineChar__x h'.2.1 (h'.2.2.2.2.2.2.2.2.1).1 hi)⟩⟩

theorem op_daysToDefaultByDays {g : GG} {X : va_W} {T : TT} {I : II} {x M n : Nat} {s : AS} (h : Iv x M T I s s n) (hn : n < 512) (id_ : Int32) : Op g x M n s yX9_daysToDefaultByDays cX9_daysToDefaultByDays 2 (some .int) yX10_daysToDefaultByDays cX10_daysToDefaultByDays 2 (some .int) [.int id_] [1] X T I := by
  obtain ⟨D, U, B, N, E, pm, hG, hS, hV, hBD⟩ := h.rd
  have hcl := h.1
  have hB := hG.B.1
  have hB6 := hG.B.2
  have hN := hG.N.1
  have hN10 := hG.N.2
  have hE := hG.E.1
  have hE20 := hG.E.2
  have hu := h.up (Nat.le_succ n)
  have hw := fun (T' : TT) (I' : II) (h' : Iv x M T' I' s s (n + 1)) => h'.2.2.2.2.2.1
  have hDD : D ≤ 40000 ∧ U ≤ 600 := by have := hBD.1; have := hBD.2; omega
  obtain ⟨D1, U1, hC, -⟩ := h.2.2.2.1
  obtain ⟨c1, c2, c3, c4, c5, c6, ⟨hn_, b1, b2, b3, b4, b5⟩, c8, c9, c10, ce, cf, ce2, cf2⟩ := hC
  obtain ⟨p85, hp85⟩ := c4
  have ha := slV_at s.w N id_
  rcases atS_or ha with ⟨r, r1, r2, r3⟩ | r2
  all_goals rw [r2] at ha
  · obtain ⟨K, K1, K2⟩ := dl_n hG hS r1
    exact ⟨0, .int (nI (trV id_ s.w N 61 0)), s, ⟨Nat.zero_le _, fun _ => ⟨_, rfl⟩⟩, OpC.val (q_daysToDefaultByDays__s hcl hV hG hS (by omega) hp85 r1 ha) (by decide) (fun r' X' T' I' q => by obtain ⟨q1, q2, q3, q4, q5⟩ := q; subst q3; exact ⟨q1, q2, hu.tr q4 q5⟩), fun X9 T' I' h' => ⟨.int (nI K), ⟨fun _ => by rw [← r3, tr_eq hG hS (by omega) r1 K2], ⟨_, rfl⟩⟩, OpR.rd h' (hw T' I' h') (by decide) (c_daysToDefaultByDays__s h'.2.1 hN hN10 r1 ha K2)⟩⟩
  · skip
    exact ⟨1, .null, s, ⟨(by decide), fun z => absurd z (by decide)⟩, OpC.xe (q_daysToDefaultByDays__n hcl hV hN ha) (by decide) (by decide) hu, fun X9 T' I' h' => ⟨_, ⟨fun z => absurd z (by decide), ⟨_, rfl⟩⟩, OpR.rd (k := 1) h' (hw T' I' h') (by decide) (c_daysToDefaultByDays__n h'.2.1 hN hN10 ha)⟩⟩

theorem op_isBalanced {g : GG} {X : va_W} {T : TT} {I : II} {x M n : Nat} {s : AS} (h : Iv x M T I s s n) (hn : n < 512) : Op g x M n s yX9_isBalanced cX9_isBalanced 3 (some .boolean) yX10_isBalanced cX10_isBalanced 2 (some .boolean) [] [] X T I := by
  obtain ⟨D, U, B, N, E, pm, hG, hS, hV, hBD⟩ := h.rd
  have hcl := h.1
  have hB := hG.B.1
  have hB6 := hG.B.2
  have hN := hG.N.1
  have hN10 := hG.N.2
  have hE := hG.E.1
  have hE20 := hG.E.2
  have hu := h.up (Nat.le_succ n)
  have hw := fun (T' : TT) (I' : II) (h' : Iv x M T' I' s s (n + 1)) => h'.2.2.2.2.2.1
  have hDD : D ≤ 40000 ∧ U ≤ 600 := by have := hBD.1; have := hBD.2; omega
  obtain ⟨D1, U1, hC, -⟩ := h.2.2.2.1
  obtain ⟨c1, c2, c3, c4, c5, c6, ⟨hn_, b1, b2, b3, b4, b5⟩, c8, c9, c10, ce, cf, ce2, cf2⟩ := hC
  obtain ⟨p85, hp85⟩ := c4
  by_cases hc : coinsV s.w B = nI 1000 + s.w 9 ∧ ∀ m, m < 4 → unitsC s.w B N m = s.w (18 + m)
  · exact ⟨0, .int (nI 1), s, ⟨Nat.zero_le _, fun _ => ⟨_, rfl⟩⟩, OpC.val (q_isBalanced hcl hV hG hS (by omega) hp85 hB hN (tr_all hG hS (by omega))) (by decide) (fun r' X' T' I' q => by
      obtain ⟨q1, q2, q3, q4, q5⟩ := q
      subst q2
      rcases q5 with ⟨q5, -⟩ | ⟨-, q6⟩
      · exact ⟨q5, q1, hu.tr q3 q4⟩
      · exact absurd hc q6), fun X9 T' I' h' => ⟨.int (nI 1), ⟨fun _ => rfl, ⟨_, rfl⟩⟩, OpR.rd (k := 0) h' (hw T' I' h') (by decide) (c_isBalanced h'.2.1 hB hB6 hN hN10 (Or.inl ⟨rfl, fun m hm => (un_eq hG).symm.trans (hc.2 m hm), hc.1⟩))⟩⟩
  · exact ⟨0, .int (nI 0), s, ⟨Nat.zero_le _, fun _ => ⟨_, rfl⟩⟩, OpC.val (q_isBalanced hcl hV hG hS (by omega) hp85 hB hN (tr_all hG hS (by omega))) (by decide) (fun r' X' T' I' q => by
      obtain ⟨q1, q2, q3, q4, q5⟩ := q
      subst q2
      rcases q5 with ⟨-, q6⟩ | ⟨q5, -⟩
      · exact absurd q6 hc
      · exact ⟨q5, q1, hu.tr q3 q4⟩), fun X9 T' I' h' => ⟨.int (nI 0), ⟨fun _ => rfl, ⟨_, rfl⟩⟩, OpR.rd (k := 0) h' (hw T' I' h') (by decide) (c_isBalanced h'.2.1 hB hB6 hN hN10 (Or.inr ⟨rfl, fun z => hc ⟨z.2, fun m hm => (un_eq hG).trans (z.1 m hm)⟩⟩))⟩⟩
