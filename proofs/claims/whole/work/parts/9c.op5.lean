/-! Undoing, restoring, saving; input and run on both sides. -/
theorem prV_le {c : Nat → Nat} {L : Nat} : ∀ (f p n : Nat), p ≤ L → (prV c L f p n).2.1 ≤ L
  | 0, p, n, h => h
  | f + 1, p, n, h => by
    obtain ⟨h1, h2⟩ := cmV_le (c := c) h
    by_cases ok : (cmV c L p).1 = true
    · by_cases h3 : has c L (cmV c L p).2.1 59
      · rw [prV_go ok h3]
        exact prV_le f _ _ (by have := h3.1; omega)
      · rw [prV_end ok h3]
        exact h1
    · rw [prV_no ok]
      exact h1
theorem pe_cnt {c : Nat → Nat} {L : Nat} : ∀ (f p n : Nat) (w : Nat → Int32), (prV c L f p n).1 = true → (exV c L f p n w).1 = true → (prV c L f p n).2.2 = (exV c L f p n w).2.1
  | 0, p, n, w, h, _ => absurd h Bool.false_ne_true
  | f + 1, p, n, w, h, h2 => by
    have ok := prV_ok h
    by_cases e : cdW w (cmV c L p).2.2.1 (cmx (cmV c L p).2.2.2) = 0
    · by_cases h3 : has c L (cmV c L p).2.1 59
      · rw [prV_go ok h3] at h ⊢
        rw [exV_go e h3] at h2 ⊢
        exact pe_cnt f _ _ _ h h2
      · rw [prV_end ok h3, exV_end e h3]
    · rw [exV_no e] at h2
      exact absurd h2 Bool.false_ne_true
/-- a program done: each command a letter at least -/
theorem exV_gd {c : Nat → Nat} {L : Nat} : ∀ (f p n : Nat) (w : Nat → Int32) (B N E D U : Nat), p ≤ L → (prV c L f p n).1 = true → (exV c L f p n w).1 = true → Gd w B N E D U → Sd w N → D + 60 * (L - p) + 60 ≤ 100000 → U + (L - p) + 1 ≤ 10000 → ∃ B' N' E', Gd (exV c L f p n w).2.2 B' N' E' (D + 60 * (L - p)) (U + (L - p)) ∧ Sd (exV c L f p n w).2.2 N'
  | 0, p, n, w, B, N, E, D, U, hp, h, h2, hG, hS, hD, hU => absurd h Bool.false_ne_true
  | f + 1, p, n, w, B, N, E, D, U, hp, h, h2, hG, hS, hD, hU => by
    have ok := prV_ok h
    obtain ⟨h1, hc⟩ := cmV_le (c := c) hp
    obtain ⟨c1, c2⟩ := hc ok
    by_cases e : cdW w (cmV c L p).2.2.1 (cmx (cmV c L p).2.2.2) = 0
    · obtain ⟨B1, N1, E1, g1, g2⟩ := hG.cw hS e c2 (by omega) (by omega)
      by_cases h3 : has c L (cmV c L p).2.1 59
      · rw [prV_go ok h3] at h
        rw [exV_go e h3] at h2 ⊢
        have h4 := h3.1
        obtain ⟨B2, N2, E2, k1, k2⟩ := exV_gd f _ _ _ B1 N1 E1 (D + 60) (U + 1) (by omega) h h2 g1 g2 (by omega) (by omega)
        exact ⟨B2, N2, E2, k1.w (by omega) (by omega) (by omega) (by omega), k2⟩
      · rw [exV_end e h3]
        exact ⟨B1, N1, E1, g1.w (by omega) (by omega) (by omega) (by omega), g2⟩
    · rw [exV_no e] at h2
      exact absurd h2 Bool.false_ne_true
theorem rn_o {I : II} {x L v q : Nat} {R : Bool × Nat × Nat} {nm : Nat → Int32} (h : q ≠ x) (h0 : q ≠ x + 507) (h1 : q ≠ x + 508) (h2 : q ≠ x + 509) : rnI I x L R v nm q = I q := by
  rw [rnI, rI_o h0 (by omega), opI_o h0 (by omega), u2_r h]
theorem rn_x {I : II} {x L v : Nat} {R : Bool × Nat × Nat} {nm : Nat → Int32} : rnI I x L R v nm x = u2 I x 8 (nI 0) x := by
  rw [rnI, rI_o (by omega) (by omega), opI_o (by omega) (by omega)]
theorem rn_1 {I : II} {x L v : Nat} {R : Bool × Nat × Nat} {nm : Nat → Int32} : rnI I x L R v nm (x + 507) 1 = nI v := by
  rw [rnI, rI_1]
section G9C
variable {g : GG} {X : va_W} {T : TT} {I : II} {x M n : Nat} {s : AS}
theorem ring_n {us : List (Nat → Int32)} {u : Nat → Int32} {k : Nat} (h : us[k]? = some u) : k < us.length := by
  rcases Nat.lt_or_ge k us.length with z | z
  · exact z
  · rw [List.getElem?_eq_none z] at h
    exact absurd h (by simp)
theorem op_undo (h : Iv x M T I s s n) (hn : n < 512) : Op g x M n s yX9_undo cX9_undo 1 (some .int) yX10_undo cX10_undo 3 (some .int) [] [4] X T I := by
  have hI := h
  have hu := h.up (Nat.le_succ n)
  obtain ⟨hcl, hmd, hxM, ⟨D, U, hC, hB1, hB2⟩, hSB, hR⟩ := h
  obtain ⟨a1, hGx, a3, a4, a5, a6, ⟨m, b1, b2, b3, b4, b5⟩, c, vv, bfv, l1, l2, l3, l4⟩ := hC
  obtain ⟨w, us, sv, ln, bf, ea, fa⟩ := s
  cases us with
  | nil =>
    refine ⟨1, .null, _, ⟨by decide, fun z => absurd z (by decide)⟩, OpC.xe (q_undo__x hcl b3) (by decide) (by decide) hu, fun X9 T' I' h' => ?_⟩
    obtain ⟨-, ⟨f, f1, f2, f3, f4, f5⟩, -⟩ := h'.2.2.2.2.2
    exact ⟨_, ⟨fun z => absurd z (by decide), ⟨_, rfl⟩⟩, OpR.r0 (k := 1) h' (by decide) (c_undo__x h'.2.1 f3)⟩
  | cons u us =>
    have b4' : us.length + 1 ≤ 8 := b4
    obtain ⟨pa, hpa⟩ := a1
    obtain ⟨d0, ⟨B, N, E, hG, hS⟩⟩ := b5 0 u rfl
    obtain ⟨pb, hV⟩ := d0.dv hG
    have hq := q_undo__o (g := g) (X := X) (m := (m + 7 - 0) % 8) hcl b1 b4 (Nat.succ_pos _) (by omega) b2 b3 hV hpa.pk hG.B.1 hG.N.1
    refine ⟨0, .int (nI us.length), (ins w 0 u 218, us, sv, ln, bf, ea, fa), ⟨Nat.zero_le _, fun _ => ⟨_, rfl⟩⟩, OpC.val hq ⟨by decide, by decide, by decide⟩ (fun r X' T' I' q => ?_), fun X9 T' I' h' => ?_⟩
    · obtain ⟨q1, -, q2, q3, I1, w1, q4⟩ := q
      refine ⟨q1, q2, ?_⟩
      subst q3
      have eI : ∀ q, ¬ (x + 1 ≤ q ∧ q < x + 43) → q ≠ x + 169 → I' q = I q := fun q h1 h2 => by rw [q4, u2_r h2, w1.1 q (by omega), u2_r h2]
      have e0 := eI x (by omega) (by omega)
      refine hI.cF (sC' := (ins w 0 u 218, us, sv, ln, bf, ea, fa)) (fun q hq => eI q (by omega) (by omega)) (D := D) (U := U) ⟨?_, ?_, PmOk.ex a3 (eI _ (by omega) (by omega)), PmOk.ex a4 (eI _ (by omega) (by omega)), PmOk.ex a5 (eI _ (by omega) (by omega)), fun i hi => PmOk.ex (a6 i hi) (eI _ (by omega) (by omega)), ⟨(m + 7) % 8, by omega, ?_, ?_, by show us.length ≤ 8; omega, fun k u' hk => ?_⟩, ?_, ?_, ?_, ?_, ?_, l3, l4⟩ ⟨?_, ?_⟩ rfl
      · exact (((DkH.of w1.toV hG).mv (fun q hq => by rw [q4, u2_r (by omega)]))).ag (fun j hj => by show ins w 0 u 218 j = u j; unfold ins; rw [if_pos (by omega), Nat.sub_zero])
      · exact Gx.ag ⟨B, N, E, hG, hS⟩ (fun j hj => by show ins w 0 u 218 j = u j; unfold ins; rw [if_pos (by omega), Nat.sub_zero])
      · rw [q4, u2_o (by decide), w1.1 (x + 169) (by omega), u2_g, Nat.sub_zero]
      · rw [q4, u2_g]; rfl
      · have hk2 := ring_n (us := us) hk
        obtain ⟨e1, e2⟩ := b5 (k + 1) u' hk
        rw [show (m + 7 - (k + 1)) % 8 = ((m + 7) % 8 + 7 - k) % 8 by omega] at e1
        have hz8 : ((m + 7) % 8 + 7 - k) % 8 < 8 := by omega
        generalize ((m + 7) % 8 + 7 - k) % 8 = z at e1 hz8
        exact ⟨e1.mv (fun q hq => eI q (by omega) (by omega)), e2⟩
      · rcases c with ⟨c1, c2⟩ | ⟨v, c1, c2, c3, c4⟩
        · exact Or.inl ⟨c1, by rw [e0]; exact c2⟩
        · exact Or.inr ⟨v, c1, by rw [e0]; exact c2, c3.mv (fun q hq => eI q (by omega) (by omega)), c4⟩
      · obtain ⟨v, v1, v2⟩ := vv
        exact ⟨v, v1, by rw [eI _ (by omega) (by omega)]; exact v2⟩
      · rw [e0, eI (x + 510) (by omega) (by omega)]; exact bfv
      · rw [e0]; exact l1
      · rw [e0]; exact l2
      · show D + 60 * bf.length ≤ 60 * (n + 1); have : D + 60 * bf.length ≤ 60 * n := hB1; omega
      · show U + bf.length ≤ n + 1; have : U + bf.length ≤ n := hB2; omega
    · have hR' := h'.2.2.2.2.2
      obtain ⟨r1, ⟨f, f1, f2, f3, f4, f5⟩, r3, ⟨r41, r42, r43, r44⟩, ⟨r51, r52, r53, r54⟩, r6, r7⟩ := hR'
      have f4' : us.length + 1 ≤ 8 := f4
      have f5' : ∀ k u', (u :: us)[k]? = some u' → ∀ j, j < 218 → I' (M + 2) (218 * ((f + (us.length + 1 - 1 - k)) % 8) + j) = u' j := f5
      refine ⟨_, ⟨fun _ => rfl, ⟨_, rfl⟩⟩, 6, by decide, (c_undo__o h'.2.1 f3 f2 f1 (Nat.succ_pos _) f4).imp (fun r X'' T'' I'' q => ?_)⟩
      obtain ⟨q1, q2, q3, q4⟩ := q
      subst q2; subst q3
      have eM : ∀ j, j ≠ 0 → j ≠ 5 → I'' M j = I' M j := fun j h0 h5 => by rw [q4, unI, sr_n (by omega), u2_o h5, u2_o h0]
      have eo : ∀ q, q ≠ M → q ≠ M + 1 → I'' q = I' q := fun q h0 h1 => by rw [q4, unI, sr_n h1, u2_r h0, u2_r h0]
      refine ⟨q1, rfl, rfl, fun _ => ?_, h'.rF (fun q hq => eo q (by omega) (by omega)) ⟨?_, ⟨f, f1, (eM 6 (by decide) (by decide)).trans f2, ?_, by show us.length ≤ 8; omega, fun k u' hk j hj => ?_⟩, ?_, ⟨(eM 9 (by decide) (by decide)).trans r41, r42, fun j hj => by rw [eo _ (by omega) (by omega)]; exact r43 j hj, r44⟩, ⟨(eM 11 (by decide) (by decide)).trans r51, r52, fun j hj => by rw [eo _ (by omega) (by omega)]; exact r53 j hj, r54⟩, (eM 13 (by decide) (by decide)).trans r6, (eM 14 (by decide) (by decide)).trans r7⟩⟩
      · rw [q4, unI, sr_n (by omega), u2_o (by decide), u2_g]
      · show I'' (M + 1) = ins w 0 u 218
        rw [q4, unI, sr_s, u2_r (by omega), u2_r (by omega), r1]
        funext j
        unfold ins
        by_cases hj : 0 ≤ j ∧ j < 0 + 218
        · rw [if_pos hj, if_pos hj]
          have := f5' 0 u rfl (j - 0) (by omega)
          rw [u2_r (by omega), u2_r (by omega), show (u :: us).length = us.length + 1 from rfl]
          exact this
        · rw [if_neg hj, if_neg hj]
      · rw [q4, unI, sr_n (by omega), u2_g]; rfl
      · have hk2 := ring_n (us := us) hk
        have := f5' (k + 1) u' hk j hj
        rw [show us.length + 1 - 1 - (k + 1) = us.length - 1 - k by omega] at this
        rw [eo _ (by omega) (by omega)]
        exact this
      · rcases r3 with ⟨c1, c2⟩ | ⟨v, c1, c2, c3⟩
        · exact Or.inl ⟨c1, (eM 7 (by decide) (by decide)).trans c2⟩
        · exact Or.inr ⟨v, c1, (eM 7 (by decide) (by decide)).trans c2, fun j hj => by rw [eo _ (by omega) (by omega)]; exact c3 j hj⟩
theorem op_restore (h : Iv x M T I s s n) (hn : n < 512) : Op g x M n s yX9_restore cX9_restore 1 (some .int) yX10_restore cX10_restore 2 (some .int) [] [4] X T I := by
  have hI := h
  have hu := h.up (Nat.le_succ n)
  obtain ⟨hcl, hmd, hxM, ⟨D, U, hC, hB1, hB2⟩, hSB, hR⟩ := h
  obtain ⟨a1, hGx, a3, a4, a5, a6, ⟨m, b1, b2, b3, b4, b5⟩, c, vv, bfv, l1, l2, l3, l4⟩ := hC
  obtain ⟨w, us, sv, ln, bf, ea, fa⟩ := s
  rcases c with ⟨c1, c2⟩ | ⟨v, c1, c2, c3, ⟨B, N, E, hG, hS⟩⟩
  · refine ⟨1, .null, _, ⟨by decide, fun z => absurd z (by decide)⟩, OpC.xe (q_restore__x hcl c2) (by decide) (by decide) hu, fun X9 T' I' h' => ?_⟩
    have h7 : I' M 7 = nI 0 := by
      rcases h'.2.2.2.2.2.2.2.1 with ⟨-, z⟩ | ⟨v, z, -⟩
      · exact z
      · rw [c1] at z; exact absurd z (by simp)
    exact ⟨_, ⟨fun z => absurd z (by decide), ⟨_, rfl⟩⟩, OpR.r0 (k := 1) h' (by decide) (c_restore__x h'.2.1 h7)⟩
  · have c1' : sv = some v := c1
    subst c1'
    obtain ⟨pa, hpa⟩ := a1
    obtain ⟨pb, hV⟩ := c3.dv hG
    have hq := q_restore__o (g := g) (X := X) hcl hG.B.1 hG.N.1 c2 hV hpa.pk
    refine ⟨0, .int (nI N), (ins w 0 v 218, [], some v, ln, bf, ea, fa), ⟨Nat.zero_le _, fun _ => ⟨_, rfl⟩⟩, OpC.val hq ⟨by decide, by decide, by decide⟩ (fun r X' T' I' q => ?_), fun X9 T' I' h' => ?_⟩
    · obtain ⟨q1, q2, q3, I1, w1, q4⟩ := q
      refine ⟨q1, q2, ?_⟩
      subst q3
      have eI : ∀ q, ¬ (x + 1 ≤ q ∧ q < x + 43) → q ≠ x + 169 → I' q = I q := fun q h1 h2 => by rw [q4, u2_r h2, w1.1 q (by omega)]
      have e0 := eI x (by omega) (by omega)
      refine hI.cF (sC' := (ins w 0 v 218, [], some v, ln, bf, ea, fa)) (fun q hq => eI q (by omega) (by omega)) (D := D) (U := U) ⟨?_, ?_, PmOk.ex a3 (eI _ (by omega) (by omega)), PmOk.ex a4 (eI _ (by omega) (by omega)), PmOk.ex a5 (eI _ (by omega) (by omega)), fun i hi => PmOk.ex (a6 i hi) (eI _ (by omega) (by omega)), ⟨m, b1, ?_, ?_, Nat.zero_le _, fun k u' hk => absurd (show (none : Option (Nat → Int32)) = some u' from hk) (by simp)⟩, ?_, ?_, ?_, ?_, ?_, l3, l4⟩ ⟨?_, ?_⟩ rfl
      · exact (((DkH.of w1.toV hG).mv (fun q hq => by rw [q4, u2_r (by omega)]))).ag (fun j hj => by show ins w 0 v 218 j = v j; unfold ins; rw [if_pos (by omega), Nat.sub_zero])
      · exact Gx.ag ⟨B, N, E, hG, hS⟩ (fun j hj => by show ins w 0 v 218 j = v j; unfold ins; rw [if_pos (by omega), Nat.sub_zero])
      · rw [q4, u2_o (by decide), w1.1 (x + 169) (by omega)]; exact b2
      · rw [q4, u2_g]; rfl
      · exact Or.inr ⟨v, rfl, by rw [e0]; exact c2, c3.mv (fun q hq => eI q (by omega) (by omega)), ⟨B, N, E, hG, hS⟩⟩
      · obtain ⟨v, v1, v2⟩ := vv
        exact ⟨v, v1, by rw [eI _ (by omega) (by omega)]; exact v2⟩
      · rw [e0, eI (x + 510) (by omega) (by omega)]; exact bfv
      · rw [e0]; exact l1
      · rw [e0]; exact l2
      · show D + 60 * bf.length ≤ 60 * (n + 1); have : D + 60 * bf.length ≤ 60 * n := hB1; omega
      · show U + bf.length ≤ n + 1; have : U + bf.length ≤ n := hB2; omega
    · have hR' := h'.2.2.2.2.2
      obtain ⟨r1, ⟨f, f1, f2, f3, f4, f5⟩, r3, ⟨r41, r42, r43, r44⟩, ⟨r51, r52, r53, r54⟩, r6, r7⟩ := hR'
      rcases r3 with ⟨z, -⟩ | ⟨v2, z, z2, z3⟩
      · exact absurd z (by simp)
      have hv2 : v = v2 := Option.some.inj z
      subst hv2
      refine ⟨_, ⟨fun _ => congrArg Value.int ((z3 2 (by decide)).trans hG.N.1), ⟨_, rfl⟩⟩, 6, by decide, (c_restore__o h'.2.1 z2).imp (fun r X'' T'' I'' q => ?_)⟩
      obtain ⟨q1, q2, q3, q4⟩ := q
      subst q2; subst q3
      have eM : ∀ j, j ≠ 0 → j ≠ 5 → j ≠ 6 → I'' M j = I' M j := fun j h0 h5 h6 => by rw [q4, rsI, sr_n (by omega), u2_o h6, u2_o h5, u2_o h0]
      have eo : ∀ q, q ≠ M → q ≠ M + 1 → I'' q = I' q := fun q h0 h1 => by rw [q4, rsI, sr_n h1, u2_r h0, u2_r h0, u2_r h0]
      refine ⟨q1, rfl, rfl, fun _ => ?_, h'.rF (fun q hq => eo q (by omega) (by omega)) ⟨?_, ⟨0, by decide, ?_, ?_, Nat.zero_le _, fun k u' hk j hj => absurd (show (none : Option (Nat → Int32)) = some u' from hk) (by simp)⟩, Or.inr ⟨v, rfl, (eM 7 (by decide) (by decide) (by decide)).trans z2, fun j hj => by rw [eo _ (by omega) (by omega)]; exact z3 j hj⟩, ⟨(eM 9 (by decide) (by decide) (by decide)).trans r41, r42, fun j hj => by rw [eo _ (by omega) (by omega)]; exact r43 j hj, r44⟩, ⟨(eM 11 (by decide) (by decide) (by decide)).trans r51, r52, fun j hj => by rw [eo _ (by omega) (by omega)]; exact r53 j hj, r54⟩, (eM 13 (by decide) (by decide) (by decide)).trans r6, (eM 14 (by decide) (by decide) (by decide)).trans r7⟩⟩
      · rw [q4, rsI, sr_n (by omega), u2_o (by decide), u2_o (by decide), u2_g]
      · show I'' (M + 1) = ins w 0 v 218
        rw [q4, rsI, sr_s, u2_r (by omega), u2_r (by omega), r1]
        funext j
        unfold ins
        by_cases hj : 0 ≤ j ∧ j < 0 + 218
        · rw [if_pos hj, if_pos hj]
          exact z3 (j - 0) (by omega)
        · rw [if_neg hj, if_neg hj]
      · rw [q4, rsI, sr_n (by omega), u2_g]
      · rw [q4, rsI, sr_n (by omega), u2_o (by decide), u2_g]; rfl
theorem op_save (h : Iv x M T I s s n) (hn : n < 512) : Op g x M n s yX9_save cX9_save 1 (some .int) yX10_save cX10_save 2 (some .int) [] [] X T I := by
  have hI := h
  obtain ⟨hcl, hmd, hxM, ⟨D, U, hC, hB1, hB2⟩, hSB, hR⟩ := h
  obtain ⟨a1, ⟨B, N, E, hG, hS⟩, a3, a4, ⟨pa, a5⟩, a6, ⟨m, b1, b2, b3, b4, b5⟩, c, vv, bfv, l1, l2, l3, l4⟩ := hC
  obtain ⟨w, us, sv, ln, bf, ea, fa⟩ := s
  obtain ⟨pb, hV⟩ := a1.dv hG
  have hq := q_save (g := g) (X := X) hcl hG.B.1 hG.N.1 hV a5
  refine ⟨0, .int (nI N), (w, us, some w, ln, bf, ea, fa), ⟨Nat.zero_le _, fun _ => ⟨_, rfl⟩⟩, OpC.val hq ⟨by decide, by decide, by decide⟩ (fun r X' T' I' q => ?_), fun X9 T' I' h' => ?_⟩
  · obtain ⟨q1, q2, q3, I1, w1, q4⟩ := q
    refine ⟨q1, q2, ?_⟩
    subst q3
    have eI : ∀ q, ¬ (x + 127 ≤ q ∧ q < x + 169) → q ≠ x → I' q = I q := fun q h1 h2 => by rw [q4, u2_r h2, w1.1 q (by omega)]
    have e0 : ∀ j, j ≠ 9 → I' x j = I x j := fun j hj => by rw [q4, u2_o hj, w1.1 x (by omega)]
    refine hI.cF (sC' := (w, us, some w, ln, bf, ea, fa)) (fun q hq => eI q (by omega) (by omega)) (D := D) (U := U) ⟨a1.mv (fun q hq => eI q (by omega) (by omega)), ⟨B, N, E, hG, hS⟩, PmOk.ex a3 (eI _ (by omega) (by omega)), PmOk.ex a4 (eI _ (by omega) (by omega)), ⟨pa, w1.toV.pk.mv (by rw [q4, u2_r (by omega)])⟩, fun i hi => PmOk.ex (a6 i hi) (eI _ (by omega) (by omega)), ⟨m, b1, by rw [eI _ (by omega) (by omega)]; exact b2, by rw [eI _ (by omega) (by omega)]; exact b3, b4, fun k u hu => ⟨(b5 k u hu).1.mv (fun q hq => eI q (by omega) (by omega)), (b5 k u hu).2⟩⟩, Or.inr ⟨w, rfl, by rw [q4, u2_g], (DkH.of w1.toV hG).mv (fun q hq => by rw [q4, u2_r (by omega)]), ⟨B, N, E, hG, hS⟩⟩, ?_, ?_, (e0 10 (by decide)).trans l1, (e0 11 (by decide)).trans l2, l3, l4⟩ ⟨?_, ?_⟩ rfl
    · obtain ⟨v, v1, v2⟩ := vv
      exact ⟨v, v1, by rw [eI _ (by omega) (by omega)]; exact v2⟩
    · rw [e0 8 (by decide), eI (x + 510) (by omega) (by omega)]; exact bfv
    · show D + 60 * bf.length ≤ 60 * (n + 1); have : D + 60 * bf.length ≤ 60 * n := hB1; omega
    · show U + bf.length ≤ n + 1; have : U + bf.length ≤ n := hB2; omega
  · have hR' := h'.2.2.2.2.2
    obtain ⟨r1, ⟨f, f1, f2, f3, f4, f5⟩, r3, ⟨r41, r42, r43, r44⟩, ⟨r51, r52, r53, r54⟩, r6, r7⟩ := hR'
    have r1' : I' (M + 1) = w := r1
    refine ⟨_, ⟨fun _ => congrArg Value.int ((congrFun r1' 2).trans hG.N.1), ⟨_, rfl⟩⟩, 6, by decide, (c_save h'.2.1).imp (fun r X'' T'' I'' q => ?_)⟩
    obtain ⟨q1, q2, q3, q4⟩ := q
    subst q2; subst q3
    have eM : ∀ j, j ≠ 0 → j ≠ 7 → I'' M j = I' M j := fun j h0 h7 => by rw [q4, svI, sr_n (by omega), u2_o h7, u2_o h0]
    have eo : ∀ q, q ≠ M → q ≠ M + 3 → I'' q = I' q := fun q h0 h1 => by rw [q4, svI, sr_n h1, u2_r h0, u2_r h0]
    refine ⟨q1, rfl, rfl, fun z => absurd rfl z, h'.rF (fun q hq => eo q (by omega) (by omega)) ⟨(eo _ (by omega) (by omega)).trans r1, ⟨f, f1, (eM 6 (by decide) (by decide)).trans f2, (eM 5 (by decide) (by decide)).trans f3, f4, fun k u' hk j hj => by rw [eo _ (by omega) (by omega)]; exact f5 k u' hk j hj⟩, Or.inr ⟨w, rfl, ?_, fun j hj => ?_⟩, ⟨(eM 9 (by decide) (by decide)).trans r41, r42, fun j hj => by rw [eo _ (by omega) (by omega)]; exact r43 j hj, r44⟩, ⟨(eM 11 (by decide) (by decide)).trans r51, r52, fun j hj => by rw [eo _ (by omega) (by omega)]; exact r53 j hj, r54⟩, (eM 13 (by decide) (by decide)).trans r6, (eM 14 (by decide) (by decide)).trans r7⟩⟩
    · rw [q4, svI, sr_n (by omega), u2_g]
    · rw [q4, svI, sr_s]
      unfold ins
      rw [if_pos (by omega), u2_r (by omega), r1', Nat.sub_zero]
end G9C
