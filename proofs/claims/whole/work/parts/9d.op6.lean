/-! Input, run, a loan's line on both sides. -/
theorem CSt.inp {I I' : II} {x : Nat} {s : AS} {D U : Nat} {w' : Nat → Int32} {bf' : List Nat} {ea' fa' : Option Nat} (h : CSt I x s D U) (hw : DkH I' (x + 1) w') (hG : Gx w' D U) (p43 : ∃ p, PmOk I' (x + 43) p) (e : ∀ q, x + 85 ≤ q → q < x + 507 → I' q = I q) (h9 : I' x 9 = I x 9) (ev : ∃ v, v < 9 ∧ I' (x + 507) 1 = nI v) (hbf : I' x 8 = nI bf'.length ∧ bf'.length ≤ 60 ∧ (∀ j, j < bf'.length → I' (x + 510) j = nI (bf'.getD j 0)) ∧ ∀ j, j < bf'.length → bf'.getD j 0 < 128) (k1 : I' x 10 = oI ea') (k2 : I' x 11 = oI fa') (k3 : ∀ z, ea' = some z → z ≤ 60) (k4 : ∀ z, fa' = some z → z ≤ 61) : CSt I' x (w', s.us, s.sv, s.ln, bf', ea', fa') D U := by
  obtain ⟨a1, a2, a3, a4, a5, a6, ⟨n, b1, b2, b3, b4, b5⟩, c, -, -, -⟩ := h
  refine ⟨hw, hG, p43, PmOk.ex a4 (e _ (by omega) (by omega)), PmOk.ex a5 (e _ (by omega) (by omega)), fun i hi => PmOk.ex (a6 i hi) (e _ (by omega) (by omega)), ⟨n, b1, by rw [e _ (by omega) (by omega)]; exact b2, by rw [e _ (by omega) (by omega)]; exact b3, b4, fun k u hu => ⟨(b5 k u hu).1.mv (fun q hq => e q (by omega) (by omega)), (b5 k u hu).2⟩⟩, ?_, ev, hbf, k1, k2, k3, k4⟩
  rcases c with ⟨c1, c2⟩ | ⟨w, c1, c2, c3, c4⟩
  · exact Or.inl ⟨c1, h9.trans c2⟩
  · exact Or.inr ⟨w, c1, h9.trans c2, c3.mv (fun q hq => e q (by omega) (by omega)), c4⟩
theorem RS.inp' {I I' : II} {M : Nat} {s : AS} {w' : Nat → Int32} {bf' : List Nat} {ea' fa' : Option Nat} (h : RS I M s) (e1 : I' (M + 1) = w') (e2 : I' (M + 2) = I (M + 2)) (e3 : I' (M + 3) = I (M + 3)) (e5 : I' (M + 5) = I (M + 5)) (e0 : ∀ j, j = 5 ∨ j = 6 ∨ j = 7 ∨ j = 9 → I' M j = I M j) (hbf : I' M 11 = nI bf'.length ∧ bf'.length ≤ 60 ∧ (∀ j, j < bf'.length → I' (M + 6) j = nI (bf'.getD j 0)) ∧ ∀ j, j < bf'.length → bf'.getD j 0 < 128) (k1 : I' M 13 = oI ea') (k2 : I' M 14 = oI fa') : RS I' M (w', s.us, s.sv, s.ln, bf', ea', fa') := by
  obtain ⟨a, ⟨f, b1, b2, b3, b4, b5⟩, c, ⟨d1, d2, d3, d4⟩, -, -⟩ := h
  refine ⟨e1, ⟨f, b1, (e0 6 (by decide)).trans b2, (e0 5 (by decide)).trans b3, b4, fun k u hu j hj => by rw [e2]; exact b5 k u hu j hj⟩, ?_, ⟨(e0 9 (by decide)).trans d1, d2, fun j hj => by rw [e5]; exact d3 j hj, d4⟩, hbf, k1, k2⟩
  rcases c with ⟨c1, c2⟩ | ⟨v, c1, c2, c3⟩
  · exact Or.inl ⟨c1, (e0 7 (by decide)).trans c2⟩
  · exact Or.inr ⟨v, c1, (e0 7 (by decide)).trans c2, fun j hj => by rw [e3]; exact c3 j hj⟩
theorem getD_app {l : List Nat} {q j : Nat} : (l ++ [q]).getD j 0 = if j < l.length then l.getD j 0 else if j = l.length then q else 0 := by
  simp only [List.getD_eq_getElem?_getD]
  by_cases h : j < l.length
  · rw [if_pos h, List.getElem?_append_left h]
  · rw [if_neg h, List.getElem?_append_right (by omega)]
    by_cases h2 : j = l.length
    · subst h2; simp
    · rw [if_neg h2, List.getElem?_eq_none (by simp; omega)]; rfl
section G9D
variable {g : GG} {X : va_W} {T : TT} {I : II} {x M n : Nat} {s : AS}
theorem op_append (h : Iv x M T I s s n) (hn : n < 512) (a : Int32) : Op g x M n s yX9_append cX9_append 2 (some .int) yX10_append cX10_append 2 (some .int) [.int a] [3, 4] X T I := by
  have hI := h
  have hu := h.up (Nat.le_succ n)
  obtain ⟨hcl, hmd, hxM, ⟨D, U, hC, hB1, hB2⟩, hSB, hR⟩ := h
  have hC0 := hC
  obtain ⟨a1, hGx, a3, a4, a5, a6, hr, c, vv, ⟨k1, k2, k3, k4⟩, l1, l2, l3, l4⟩ := hC
  by_cases ha : okR 32 126 a
  · by_cases h60 : s.bf.length = 60
    · refine ⟨2, .null, s, ⟨by decide, fun z => absurd z (by decide)⟩, OpC.xe (q_append__x2 hcl ha (by rw [k1, h60])) (by decide) (by decide) hu, fun X9 T' I' h' => ?_⟩
      exact ⟨_, ⟨fun z => absurd z (by decide), ⟨_, rfl⟩⟩, OpR.r0 (k := 2) h' (by decide) (c_append__x2 h'.2.1 ha (by rw [h'.2.2.2.2.2.inp.1, h60]))⟩
    · obtain ⟨q, q1, q2, rfl⟩ := okR_of (by decide) (by decide) ha
      have hlt : s.bf.length < 60 := by omega
      have hll : (s.bf ++ [q]).length = s.bf.length + 1 := by simp
      refine ⟨0, .int (nI (s.bf.length + 1)), (s.w, s.us, s.sv, s.ln, s.bf ++ [q], s.ea, s.fa), ⟨Nat.zero_le _, fun _ => ⟨_, rfl⟩⟩, OpC.val (q_append__o hcl ⟨q1, q2⟩ k1 hlt) ⟨by decide, by decide, by decide⟩ (fun r X' T' I' qq => ?_), fun X9 T' I' h' => ?_⟩
      · obtain ⟨p1, p2, p3, p4⟩ := qq
        refine ⟨p1, p2, ?_⟩
        subst p3
        have eI : ∀ q, q ≠ x → q ≠ x + 510 → I' q = I q := fun q h1 h2 => by rw [p4, u2_r h1, u2_r h2]
        have e0 : ∀ j, j ≠ 8 → I' x j = I x j := fun j hj => by rw [p4, u2_o hj, u2_r (by omega)]
        refine hI.cF (fun q hq => eI q (by omega) (by omega)) (hC0.inp (a1.mv (fun q hq => eI q (by omega) (by omega))) hGx (PmOk.ex a3 (eI _ (by omega) (by omega))) (fun q h1 h2 => eI q (by omega) (by omega)) (e0 9 (by decide)) ?_ ⟨?_, by omega, fun j hj => ?_, fun j hj => ?_⟩ ((e0 10 (by decide)).trans l1) ((e0 11 (by decide)).trans l2) l3 l4) ⟨?_, ?_⟩ rfl
        · obtain ⟨v, v1, v2⟩ := vv
          exact ⟨v, v1, by rw [eI _ (by omega) (by omega)]; exact v2⟩
        · rw [p4, u2_g, hll]
        · rw [p4, u2_r (by omega), getD_app]
          by_cases hj2 : j < s.bf.length
          · rw [u2_o (by omega), if_pos hj2]; exact k3 j hj2
          · rw [show j = s.bf.length by omega, u2_g, if_neg (by omega), if_pos rfl]
        · rw [getD_app]
          by_cases hj2 : j < s.bf.length
          · rw [if_pos hj2]; exact k4 j hj2
          · rw [if_neg hj2]; split <;> omega
        · show D + 60 * (s.bf ++ [q]).length ≤ 60 * (n + 1); omega
        · show U + (s.bf ++ [q]).length ≤ n + 1; omega
      · have hR' := h'.2.2.2.2.2
        have hR0 := hR'
        obtain ⟨r1, -, -, -, ⟨r51, r52, r53, r54⟩, r6, r7⟩ := hR'
        refine ⟨_, ⟨fun _ => rfl, ⟨_, rfl⟩⟩, 6, by decide, (c_append__o h'.2.1 ⟨q1, q2⟩ r51 hlt).imp (fun r X'' T'' I'' qq => ?_)⟩
        obtain ⟨p1, p2, p3, p4⟩ := qq
        subst p2; subst p3
        have eM : ∀ j, j ≠ 0 → j ≠ 11 → I'' M j = I' M j := fun j h0 h7 => by rw [p4, u2_o h7, u2_r (by omega), u2_o h0]
        have eo : ∀ q, q ≠ M → q ≠ M + 6 → I'' q = I' q := fun q h0 h1 => by rw [p4, u2_r h0, u2_r h1, u2_r h0]
        refine ⟨p1, rfl, rfl, fun _ => ?_, h'.rF (fun q hq => eo q (by omega) (by omega)) (hR0.inp' ((eo _ (by omega) (by omega)).trans r1) (eo _ (by omega) (by omega)) (eo _ (by omega) (by omega)) (eo _ (by omega) (by omega)) (fun j hj => eM j (by omega) (by omega)) ⟨?_, by omega, fun j hj => ?_, fun j hj => ?_⟩ ((eM 13 (by decide) (by decide)).trans r6) ((eM 14 (by decide) (by decide)).trans r7))⟩
        · rw [p4, u2_o (by decide), u2_r (by omega), u2_g]
        · rw [p4, u2_g, hll]
        · rw [p4, u2_r (by omega), getD_app]
          by_cases hj2 : j < s.bf.length
          · rw [u2_o (by omega), if_pos hj2, u2_r (by omega)]; exact r53 j hj2
          · rw [show j = s.bf.length by omega, u2_g, if_neg (by omega), if_pos rfl]
        · rw [getD_app]
          by_cases hj2 : j < s.bf.length
          · rw [if_pos hj2]; exact r54 j hj2
          · rw [if_neg hj2]; split <;> omega
  · refine ⟨1, .null, s, ⟨by decide, fun z => absurd z (by decide)⟩, OpC.xe (q_append__x1 hcl ha) (by decide) (by decide) hu, fun X9 T' I' h' => ?_⟩
    exact ⟨_, ⟨fun z => absurd z (by decide), ⟨_, rfl⟩⟩, OpR.r0 (k := 1) h' (by decide) (c_append__x1 h'.2.1 ha)⟩
theorem nil_bf {P : Nat → Prop} : ∀ j, j < ([] : List Nat).length → P j := fun j hj => absurd hj (Nat.not_lt_zero j)
theorem op_run (h : Iv x M T I s s n) (hn : n < 512) : Op g x M n s yX9_run cX9_run 4 (some .int) yX10_run cX10_run 2 (some .int) [] [3, 4] X T I := by
  have hI := h
  obtain ⟨hcl, hmd, hxM, ⟨D, U, hC, hB1, hB2⟩, hSB, hR⟩ := h
  have hC0 := hC
  obtain ⟨a1, ⟨B, N, E, hG, hS⟩, ⟨p43, a3⟩, a4, a5, a6, ⟨m, b1, b2, b3, b4, b5⟩, c, ⟨v0, v01, v02⟩, ⟨k1, k2, k3, k4⟩, l1, l2, l3, l4⟩ := hC
  obtain ⟨pm, hV⟩ := a1.dv hG
  obtain ⟨ph, a6m⟩ := a6 m b1
  have hDD : D + 6000 ≤ 100000 ∧ U + 100 ≤ 10000 := by omega
  have hRle := prV_le (c := fun j => s.bf.getD j 0) (L := s.bf.length) 61 0 0 (Nat.zero_le _)
  have hEle := exV_cle (c := fun j => s.bf.getD j 0) (L := s.bf.length) 61 0 0 s.w
  by_cases hok : (prV (fun j => s.bf.getD j 0) s.bf.length 61 0 0).1 = true
  · by_cases hev : (exV (fun j => s.bf.getD j 0) s.bf.length 61 0 0 s.w).1 = true
    · obtain ⟨B2, N2, E2, g1, g2⟩ := exV_gd 61 0 0 s.w B N E D U (Nat.zero_le _) hok hev hG hS (by omega) (by omega)
      have hcn := pe_cnt 61 0 0 s.w hok hev
      refine ⟨0, .int (nI (prV (fun j => s.bf.getD j 0) s.bf.length 61 0 0).2.2), ((exV (fun j => s.bf.getD j 0) s.bf.length 61 0 0 s.w).2.2, p8 s.w s.us, s.sv, s.ln, [], s.ea, s.fa), ⟨Nat.zero_le _, fun _ => ⟨_, rfl⟩⟩, OpC.val (q_run__o hcl k2 k3 k4 v01 v02 k1 hV hG hS hDD.1 hDD.2 a3 b1 b4 b2 b3 a6m hok hev) ⟨by decide, by decide, by decide⟩ (fun r X' T' I' q => ?_), fun X9 T' I' h' => ?_⟩
      · obtain ⟨q1, q2, q3, v, nm, vb, J1, J2, J3, B3, N3, E3, pm', hv9, hb9, w1, e12, eb, w2, g3, g4, w3, q4⟩ := q
        refine ⟨q1, q2, ?_⟩
        subst q3
        have eI : ∀ q, q ≠ x + 169 → I' q = J3 q := fun q hq => by rw [q4, u2_r hq, u2_r hq]
        have eJ : ∀ q, ¬ (x + 1 ≤ q ∧ q < x + 85) → q ≠ x → ¬ (x + 507 ≤ q ∧ q < x + 510) → q ≠ x + 169 → ¬ (x + 169 + 2 + 42 * m ≤ q ∧ q < x + 169 + 2 + 42 * m + 42) → I' q = I q := fun q h1 h0 h5 h2 h3 => by rw [eI q h2, w3.1 q h3, e12 q (by omega) (by omega) (by omega) (by omega), w1.1 q (by omega), rn_o h0 (by omega) (by omega) (by omega)]
        have e0 : I' x = u2 I x 8 (nI 0) x := by rw [eI x (by omega), w3.1 x (by omega), e12 x (by omega) (by omega) (by omega) (by omega), w1.1 x (by omega), rn_x]
        refine hI.cF (fun q hq => eJ q (by omega) (by omega) (by omega) (by omega) (by omega)) (hC0.push (D' := D + 60 * (s.bf.length - 0)) (U' := U + (s.bf.length - 0)) b1 b2 ((DkH.of w2 g3).mv (fun q hq => by rw [eI q (by omega), w3.1 q (by omega)])) ⟨_, _, _, g1, g2⟩ (by omega) (by omega) (by omega) (by omega) ⟨p43, w1.toV.pk.mv (by rw [eI _ (by omega), w3.1 _ (by omega), e12 _ (by omega) (by omega) (by omega) (by omega)])⟩ ((DkH.of w3.toV hG).mv (fun q hq => eI q (by omega))) (by rw [q4, u2_o (by decide), u2_g]) (by rw [q4, u2_g]) (fun q h1 h2 h3 h4 => eJ q (by omega) (by omega) (by omega) h4 h3) ⟨vb, hb9, by rw [eI _ (by omega), w3.1 _ (by omega)]; exact eb⟩ ⟨by rw [e0, u2_g]; rfl, Nat.zero_le _, nil_bf, nil_bf⟩ (fun j hj => by rw [e0, u2_o hj])) ⟨?_, ?_⟩ rfl
        · show D + 60 * (s.bf.length - 0) + 60 * 0 ≤ 60 * (n + 1); omega
        · show U + (s.bf.length - 0) + 0 ≤ n + 1; omega
      · have hR' := h'.2.2.2.2.2
        have hR0 := hR'
        obtain ⟨r1, ⟨f, f1, f2, f3, f4, f5⟩, -, -, -, -, -⟩ := hR'
        have hi := hR0.inp
        refine ⟨.int (nI (exV (fun j => s.bf.getD j 0) s.bf.length 61 0 0 s.w).2.1), ⟨fun _ => by rw [hcn], ⟨_, rfl⟩⟩, 9, by decide, (c_run__o h'.2.1 hi (by rw [r1]; exact hG) (by rw [r1]; exact hS) hDD.1 hDD.2 hok (by rw [r1]; exact hev) f3 f2 f1 f4).imp (fun r X'' T'' I'' q => ?_)⟩
        obtain ⟨q1, q2, q3, p, s1, s2, nm1, nm, q4⟩ := q
        subst q2; subst q3
        rw [r1] at q1 q4
        have eo : ∀ q, q ≠ M → q ≠ M + 1 → q ≠ M + 4 → q ≠ M + 7 → rnF I' M (prV (fun j => s.bf.getD j 0) s.bf.length 61 0 0).2.1 (exV (fun j => s.bf.getD j 0) s.bf.length 61 0 0 s.w).2.1 p s1 s2 nm1 nm (exV (fun j => s.bf.getD j 0) s.bf.length 61 0 0 s.w).2.2 q = I' q := fun q h0 h1 h4 h7 => by
          rw [rnF, u2_r h0, psI_o h0 h7, exI, sr_n h1, u2_r h0, cpI, sr_n h4, psI_o h0 h7, u2_r h0]
        refine ⟨q1, rfl, rfl, fun _ => ?_, h'.rF (fun q hq => ?_) ?_⟩
        · rw [q4, kp_f (by decide) (by decide), rnF, u2_o (by decide), psI_f (by decide) (by decide), exI_f (by decide), cpI_f, psI_f (by decide) (by decide), u2_g]
        · rw [q4, kp_o (by omega) (by omega), eo q (by omega) (by omega) (by omega) (by omega)]
        · rw [q4]
          refine hR0.push f1 f2 f5 (fun j j0 j1 j2 j6 j7 => rnF_f j0 j1 j2 j6 j7) ?_ (eo _ (by omega) (by omega) (by omega) (by omega)) (eo _ (by omega) (by omega) (by omega) (by omega)) (fun j hj => ?_) (eo _ (by omega) (by omega) (by omega) (by omega)) ⟨by rw [rnF, u2_g]; rfl, Nat.zero_le _, nil_bf, nil_bf⟩
          · rw [rnF, u2_r (by omega), psI_o (by omega) (by omega), exI, sr_s]
          · rw [rnF, u2_r (by omega), psI_o (by omega) (by omega), exI, sr_n (by omega), u2_r (by omega), cpI, sr_s]
            unfold ins
            rw [if_pos (by omega), psI_o (by omega) (by omega), u2_r (by omega), r1, Nat.sub_zero]
    · have hev' : (exV (fun j => s.bf.getD j 0) s.bf.length 61 0 0 s.w).1 = false := by
        rcases Bool.eq_false_or_eq_true (exV (fun j => s.bf.getD j 0) s.bf.length 61 0 0 s.w).1 with z | z
        · exact absurd z hev
        · exact z
      refine ⟨2, .null, (ins (exV (fun j => s.bf.getD j 0) s.bf.length 61 0 0 s.w).2.2 0 s.w 218, s.us, s.sv, s.ln, [], s.ea, some (exV (fun j => s.bf.getD j 0) s.bf.length 61 0 0 s.w).2.1), ⟨by decide, fun z => absurd z (by decide)⟩, OpC.thr (q_run__x2 hcl k2 k3 k4 v01 v02 k1 hV hG hS hDD.1 hDD.2 a3 hok hev') (by decide) ⟨by decide, by decide, by decide⟩ (fun c' X' T' I' q => ?_), fun X9 T' I' h' => ?_⟩
      · obtain ⟨q1, q2, q3, v, nm, vb, J1, J2, J3, pm', hv9, hb9, w1, e12, eb, w3, q4⟩ := q
        refine ⟨q1, q2, ?_⟩
        subst q3
        have eI : ∀ q, q ≠ x → I' q = J3 q := fun q hq => by rw [q4, u2_r hq]
        have eJ : ∀ q, ¬ (x + 1 ≤ q ∧ q < x + 85) → q ≠ x → ¬ (x + 507 ≤ q ∧ q < x + 510) → I' q = I q := fun q h1 h0 h5 => by rw [eI q h0, w3.1 q (by omega), e12 q (by omega) (by omega) (by omega) (by omega), w1.1 q (by omega), rn_o h0 (by omega) (by omega) (by omega)]
        have e0 : J3 x = u2 I x 8 (nI 0) x := by rw [w3.1 x (by omega), e12 x (by omega) (by omega) (by omega) (by omega), w1.1 x (by omega), rn_x]
        have e0' : ∀ j, j ≠ 8 → j ≠ 11 → I' x j = I x j := fun j h8 h11 => by rw [q4, u2_o h11, e0, u2_o h8]
        have hag : ∀ j, j < 218 → ins (exV (fun j => s.bf.getD j 0) s.bf.length 61 0 0 s.w).2.2 0 s.w 218 j = s.w j := fun j hj => by unfold ins; rw [if_pos (by omega), Nat.sub_zero]
        refine hI.cF (D := D) (U := U) (fun q hq => eJ q (by omega) (by omega) (by omega)) (hC0.inp (((DkH.of w3.toV hG).mv (fun q hq => eI q (by omega))).ag hag) (Gx.ag ⟨B, N, E, hG, hS⟩ hag) ⟨p43, w1.toV.pk.mv (by rw [eI _ (by omega), w3.1 _ (by omega), e12 _ (by omega) (by omega) (by omega) (by omega)])⟩ (fun q h1 h2 => eJ q (by omega) (by omega) (by omega)) (e0' 9 (by decide) (by decide)) ⟨vb, hb9, by rw [eI _ (by omega), w3.1 _ (by omega)]; exact eb⟩ ⟨by rw [q4, u2_o (by decide), e0, u2_g]; rfl, Nat.zero_le _, nil_bf, nil_bf⟩ ((e0' 10 (by decide) (by decide)).trans l1) (by rw [q4, u2_g]; rfl) l3 (fun z hz => by have := Option.some.inj hz; omega)) ⟨?_, ?_⟩ rfl
        · show D + 60 * 0 ≤ 60 * (n + 1); omega
        · show U + 0 ≤ n + 1; omega
      · have hR' := h'.2.2.2.2.2
        have hR0 := hR'
        obtain ⟨r1, -, -, -, -, r6, r7⟩ := hR'
        have hi := hR0.inp
        refine ⟨.int (nI 0), ⟨fun z => absurd z (by decide), ⟨_, rfl⟩⟩, 9, by decide, (c_run__x2 h'.2.1 hi (by rw [r1]; exact hG) (by rw [r1]; exact hS) hDD.1 hDD.2 hok (by rw [r1]; exact hev')).imp (fun r X'' T'' I'' q => ?_)⟩
        obtain ⟨q1, q2, q3, p, s1, s2, nm1, nm, q4⟩ := q
        subst q2; subst q3
        rw [r1] at q4
        have eo : ∀ q, q ≠ M → q ≠ M + 1 → q ≠ M + 4 → q ≠ M + 7 → I'' q = I' q := fun q h0 h1 h4 h7 => by
          rw [q4, u2_r h0, u2_r h0, gbI, sr_n h1, rnF, u2_r h0, psI_o h0 h7, exI, sr_n h1, u2_r h0, cpI, sr_n h4, psI_o h0 h7, u2_r h0]
        have eM : ∀ j, j ≠ 0 → j ≠ 11 → j ≠ 12 → j ≠ 14 → j ≠ 16 → j ≠ 17 → I'' M j = I' M j := fun j h0 h11 h12 h14 h16 h17 => by
          rw [q4, u2_o h0, u2_o h14, gbI, sr_n (by omega), rnF_f h0 h11 h12 h16 h17]
        refine ⟨q1, rfl, rfl, fun _ => by rw [q4, u2_g], h'.rF (fun q hq => eo q (by omega) (by omega) (by omega) (by omega)) (hR0.inp' ?_ (eo _ (by omega) (by omega) (by omega) (by omega)) (eo _ (by omega) (by omega) (by omega) (by omega)) (eo _ (by omega) (by omega) (by omega) (by omega)) (fun j hj => eM j (by omega) (by omega) (by omega) (by omega) (by omega) (by omega)) ⟨?_, Nat.zero_le _, nil_bf, nil_bf⟩ ((eM 13 (by decide) (by decide) (by decide) (by decide) (by decide) (by decide)).trans r6) (by rw [q4, u2_o (by decide), u2_g]; rfl))⟩
        · rw [q4, u2_r (by omega), u2_r (by omega), gbI, sr_s, rnF, u2_r (by omega), psI_o (by omega) (by omega), exI, sr_s, u2_r (by omega), psI_o (by omega) (by omega), sr_n (by omega), u2_r (by omega), cpI, sr_s]
          funext j
          unfold ins
          by_cases hj : 0 ≤ j ∧ j < 0 + 218
          · rw [if_pos hj, if_pos hj, if_pos (by omega), psI_o (by omega) (by omega), u2_r (by omega), r1, Nat.sub_zero, Nat.sub_zero]
          · rw [if_neg hj, if_neg hj]
        · rw [q4, u2_o (by decide), u2_o (by decide), gbI, sr_n (by omega), rnF, u2_g]; rfl
  · refine ⟨1, .null, (s.w, s.us, s.sv, s.ln, [], some (prV (fun j => s.bf.getD j 0) s.bf.length 61 0 0).2.1, s.fa), ⟨by decide, fun z => absurd z (by decide)⟩, OpC.thr (q_run__x1 hcl k2 k3 k4 v01 v02 k1 hok) (by decide) ⟨by decide, by decide, by decide⟩ (fun c' X' T' I' q => ?_), fun X9 T' I' h' => ?_⟩
    · obtain ⟨q1, q2, q3, v, nm, hv9, q4⟩ := q
      refine ⟨q1, q2, ?_⟩
      subst q3
      have eI : ∀ q, q ≠ x → ¬ (x + 507 ≤ q ∧ q < x + 510) → I' q = I q := fun q hq h5 => by rw [q4, u2_r hq, rn_o hq (by omega) (by omega) (by omega)]
      have e0' : ∀ j, j ≠ 8 → j ≠ 10 → I' x j = I x j := fun j h8 h10 => by rw [q4, u2_o h10, rn_x, u2_o h8]
      refine hI.cF (D := D) (U := U) (fun q hq => eI q (by omega) (by omega)) (hC0.inp (a1.mv (fun q hq => eI q (by omega) (by omega))) ⟨B, N, E, hG, hS⟩ ⟨p43, a3.mv (eI _ (by omega) (by omega))⟩ (fun q h1 h2 => eI q (by omega) (by omega)) (e0' 9 (by decide) (by decide)) ⟨v, hv9, by rw [q4, u2_r (by omega), rn_1]⟩ ⟨by rw [q4, u2_o (by decide), rn_x, u2_g]; rfl, Nat.zero_le _, nil_bf, nil_bf⟩ (by rw [q4, u2_g]; rfl) ((e0' 11 (by decide) (by decide)).trans l2) (fun z hz => by have := Option.some.inj hz; omega) l4) ⟨?_, ?_⟩ rfl
      · show D + 60 * 0 ≤ 60 * (n + 1); omega
      · show U + 0 ≤ n + 1; omega
    · have hR' := h'.2.2.2.2.2
      have hR0 := hR'
      obtain ⟨r1, -, -, -, -, r6, r7⟩ := hR'
      have hi := hR0.inp
      refine ⟨.int (nI 0), ⟨fun z => absurd z (by decide), ⟨_, rfl⟩⟩, 9, by decide, (c_run__x1 h'.2.1 hi hok).imp (fun r X'' T'' I'' q => ?_)⟩
      obtain ⟨q1, q2, q3, s1, nm, q4⟩ := q
      subst q2; subst q3
      have eo : ∀ q, q ≠ M → q ≠ M + 7 → I'' q = I' q := fun q h0 h7 => by
        rw [q4, u2_r h0, u2_r h0, u2_r h0, psI_o h0 h7, u2_r h0]
      have eM : ∀ j, j ≠ 0 → j ≠ 11 → j ≠ 12 → j ≠ 13 → j ≠ 16 → I'' M j = I' M j := fun j h0 h11 h12 h13 h16 => by
        rw [q4, u2_o h0, u2_o h11, u2_o h13, psI_f h12 h16, u2_o h0]
      exact ⟨q1, rfl, rfl, fun _ => by rw [q4, u2_g], h'.rF (fun q hq => eo q (by omega) (by omega)) (hR0.inp' ((eo _ (by omega) (by omega)).trans r1) (eo _ (by omega) (by omega)) (eo _ (by omega) (by omega)) (eo _ (by omega) (by omega)) (fun j hj => eM j (by omega) (by omega) (by omega) (by omega) (by omega)) ⟨by rw [q4, u2_o (by decide), u2_g]; rfl, Nat.zero_le _, nil_bf, nil_bf⟩ (by rw [q4, u2_o (by decide), u2_o (by decide), u2_g]; rfl) ((eM 14 (by decide) (by decide) (by decide) (by decide) (by decide)).trans r7))⟩
end G9D
