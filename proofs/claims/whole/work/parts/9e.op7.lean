/-! A loan's line on both sides. -/
def Lt (l : List Nat) : Prop := ∀ e, e ∈ l → e < 128
theorem Lt.nil : Lt [] := fun e h => absurd h List.not_mem_nil
theorem Lt.cons {a : Nat} {l : List Nat} (ha : a < 128) (h : Lt l) : Lt (a :: l) := fun e he => by
  rcases List.mem_cons.mp he with z | z
  · rw [z]; exact ha
  · exact h e z
theorem Lt.app {l m : List Nat} (h : Lt l) (h2 : Lt m) : Lt (l ++ m) := fun e he => by
  rcases List.mem_append.mp he with z | z
  · exact h e z
  · exact h2 e z
theorem Lt.dg {v : Nat} : Lt (dl v) := fun e he => by
  unfold dl at he
  obtain ⟨j, -, rfl⟩ := List.mem_map.mp he
  unfold sb_dec
  omega
theorem Lt.fm {id b pr ac rt du : Nat} : Lt (fmL id b pr ac rt du) := by
  unfold fmL
  exact (((((((Lt.nil.app (Lt.nil.cons (by decide))).app Lt.dg).app ((Lt.dg.cons (by decide)).cons (by decide))).app (Lt.dg.cons (by decide))).app (Lt.nil.cons (by decide))).app Lt.dg).app ((Lt.dg.cons (by decide)).cons (by decide))).app ((Lt.dg.cons (by decide)).cons (by decide))
theorem Lt.kd {u : Nat → Nat} : ∀ q, q ≤ 4 → Lt (kdl u q)
  | 0, _ => Lt.nil
  | q + 1, hq => by
    rw [kdl]
    refine (Lt.kd q (by omega)).app ?_
    split
    · exact Lt.nil
    · exact (Lt.dg.cons (by decide)).app (Lt.dg.cons (by decide))
theorem Lt.at {l : List Nat} (h : Lt l) : ∀ j, j < l.length → l.getD j 0 < 128 := fun j hj => by
  rw [List.getD_eq_getElem?_getD, List.getElem?_eq_getElem hj, Option.getD_some]
  exact h _ (List.getElem_mem hj)
theorem op_formatLoan {g : GG} {X : va_W} {T : TT} {I : II} {x M n : Nat} {s : AS} (h : Iv x M T I s s n) (hn : n < 512) (id_ : Int32) : Op g x M n s yX9_formatLoan cX9_formatLoan 4 (some .int) yX10_formatLoan cX10_formatLoan 4 (some .int) [.int id_] [1] X T I := by
  have hI := h
  have hu := h.up (Nat.le_succ n)
  obtain ⟨D, U, B, N, E, pm, hG, hS, hV, hB1, hB2⟩ := h.rd
  obtain ⟨hcl, hmd, hxM, ⟨D0, U0, hC, hB3⟩, ⟨y, m, hSB⟩, hR⟩ := h
  have hN := hG.N.1
  have hN10 := hG.N.2
  have ha := slV_at s.w N id_
  rcases atS_or ha with ⟨r, r1, r2, r3⟩ | r2
  all_goals rw [r2] at ha
  · obtain ⟨-, -, ⟨t, xx, ht, hx, -, -, hl⟩, -⟩ := id hG
    obtain ⟨id, pr, ac, rt, du, e0, e2, e3, e4, e5, i1, i2, i3, i4, i5, i6, i7⟩ := hl r r1
    have hb := (hG.own r1).1
    have e1 := (hG.own r1).2
    have hB6 := hG.B.2
    have hux : ∀ k, ∃ z, k < 4 → (s.w (58 + 10 * r + (6 + k)) = nI z ∧ z ≤ 99 * U) := fun k => by
      by_cases hk : k < 4
      · obtain ⟨z, z1, z2⟩ := i7 k hk
        exact ⟨z, fun _ => ⟨z2, z1⟩⟩
      · exact ⟨0, fun w => absurd w hk⟩
    obtain ⟨u, hu4⟩ := Classical.axiomOfChoice hux
    have hid : id_ = nI id := r3.symm.trans e0
    subst hid
    have hUU : D ≤ 40000 ∧ U ≤ 600 := by omega
    have c0 : id < 1000000 := by omega
    have cu : ∀ k, k < 4 → u k < 10000000 := fun k hk => by have := (hu4 k hk).2; omega
    have hq := q_formatLoan__s (g := g) (X := X) hcl hSB hV hN r1 ha e0 e1 e2 e3 e4 e5 (fun k hk => (hu4 k hk).1) c0 (by omega) (by omega) (by omega) (by omega) (by omega) cu
    refine ⟨0, .int (nI (fmL id (bN s.w r) pr ac rt du ++ kdl u 4).length), (s.w, s.us, s.sv, fmL id (bN s.w r) pr ac rt du ++ kdl u 4, s.bf, s.ea, s.fa), ⟨Nat.zero_le _, fun _ => ⟨_, rfl⟩⟩, OpC.val hq ⟨by decide, by decide, by decide⟩ (fun r' X' T' I' q => ?_), fun X9 T' I' h' => ?_⟩
    · obtain ⟨q1, q2, y', m', q3, q4, q5⟩ := q
      refine ⟨q1, q2, ?_⟩
      have hT : ∀ q, x ≤ q → q < x + 511 → T' q = T q := fun q h1 h2 => q4 q (by omega) (hcl.kd q h1 h2).1
      have hT2 : ∀ q, x ≤ q → q < x + 511 → I' q = I q := fun q h1 h2 => q5 q (by omega) (hcl.kd q h1 h2).1 (hcl.kd q h1 h2).2
      have hM : ∀ q, M ≤ q → q < M + 8 → T' q = T q := fun q h1 h2 => q4 q (by omega) (hmd.kd q h1 h2).1
      have hM2 : ∀ q, M ≤ q → q < M + 8 → I' q = I q := fun q h1 h2 => q5 q (by omega) (hmd.kd q h1 h2).1 (hmd.kd q h1 h2).2
      exact ⟨hcl.mv hT, hmd.mv hM, hxM, ⟨D0, U0, hC.mv hT2, ⟨by have := hB3.1; show D0 + 60 * s.bf.length ≤ 60 * (n + 1); omega, by have := hB3.2; show U0 + s.bf.length ≤ n + 1; omega⟩⟩, ⟨y', m', q3⟩, hR.mv hM2⟩
    · have hR' := h'.2.2.2.2.2
      obtain ⟨r1', rr, rs, -, rb, re, rf⟩ := hR'
      have hlen := h'.2.2.2.2.1
      obtain ⟨y2, m2, -, -, -, -, l1, l2, -, -⟩ := hlen
      refine ⟨_, ⟨fun _ => rfl, ⟨_, rfl⟩⟩, 6, by decide, (c_formatLoan__s h'.2.1 r1' hN hN10 r1 ha e1 e2 e3 e4 e5 (fun k hk => (hu4 k hk).1) c0 (by omega) (by omega) (by omega) (by omega) (by omega) cu).imp (fun r9 X'' T'' I'' q => ?_)⟩
      obtain ⟨p1, p2, p3, p4⟩ := q
      subst p2; subst p3
      have eM : ∀ j, j ≠ 0 → j ≠ 9 → I'' M j = I' M j := fun j h0 h9 => by rw [p4, lnL, lnI_f h9, u2_o h0]
      have eo : ∀ q, q ≠ M → q ≠ M + 5 → I'' q = I' q := fun q h0 h5 => by rw [p4, lnL, lnI_o h0 h5, u2_r h0]
      refine ⟨p1, rfl, rfl, fun _ => by rw [p4, lnL, lnI_f (by decide), u2_g], h'.rF (fun q hq => eo q (by omega) (by omega)) ?_⟩
      obtain ⟨f, f1, f2, f3, f4, f5⟩ := rr
      refine ⟨(eo _ (by omega) (by omega)).trans r1', ⟨f, f1, (eM 6 (by decide) (by decide)).trans f2, (eM 5 (by decide) (by decide)).trans f3, f4, fun k u hu j hj => by rw [eo _ (by omega) (by omega)]; exact f5 k u hu j hj⟩, ?_, ⟨?_, ?_, fun j hj => ?_, ?_⟩, ⟨(eM 11 (by decide) (by decide)).trans rb.1, rb.2.1, fun j hj => by rw [eo _ (by omega) (by omega)]; exact rb.2.2.1 j hj, rb.2.2.2⟩, (eM 13 (by decide) (by decide)).trans re, (eM 14 (by decide) (by decide)).trans rf⟩
      · rcases rs with ⟨z1, z2⟩ | ⟨v, z1, z2, z3⟩
        · exact Or.inl ⟨z1, (eM 7 (by decide) (by decide)).trans z2⟩
        · exact Or.inr ⟨v, z1, (eM 7 (by decide) (by decide)).trans z2, fun j hj => by rw [eo _ (by omega) (by omega)]; exact z3 j hj⟩
      · rw [p4, lnL, lnI_n]
      · have a6 := fmL_len (b := bN s.w r) c0 (by omega) (show pr < 1000 by omega) (show ac < 10000000 by omega) (show rt < 100 by omega) (show du < 1000000 by omega)
        have a7 := kdl_len (u := u) (fun k hk => (dg_b (v := u k)).2.2.2.2 (cu k hk)) 4 (by omega)
        show (fmL id (bN s.w r) pr ac rt du ++ kdl u 4).length ≤ 100
        rw [List.length_append]
        omega
      · rw [p4, lnL, lnI, sr_s]
        show (if j < _ then nI (tx _ j) else _) = _
        rw [if_pos hj]; rfl
      · exact fun j hj => Nat.lt_trans ((Lt.fm.app (Lt.kd 4 (by omega))).at j hj) (by decide)
  · refine ⟨1, .null, s, ⟨by decide, fun z => absurd z (by decide)⟩, OpC.xe (q_formatLoan__n hcl hV hN ha) (by decide) (by decide) hu, fun X9 T' I' h' => ?_⟩
    exact ⟨_, ⟨fun z => absurd z (by decide), ⟨_, rfl⟩⟩, OpR.r0 (k := 1) h' (by decide) (c_formatLoan__n h'.2.1 h'.2.2.2.2.2.1 hN hN10 ha)⟩
