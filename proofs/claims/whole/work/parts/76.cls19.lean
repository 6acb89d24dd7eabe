theorem prV_cnt {c : Nat → Nat} {L : Nat} : ∀ (f p n : Nat), (prV c L f p n).1 = true → n < (prV c L f p n).2.2
  | 0, p, n, h => absurd h Bool.false_ne_true
  | f + 1, p, n, h => by
    have ok := prV_ok h
    by_cases h2 : has c L (cmV c L p).2.1 59
    · rw [prV_go ok h2] at h ⊢
      have := prV_cnt (c := c) (L := L) f _ _ h
      omega
    · rw [prV_end ok h2]
      exact Nat.lt_succ_self _
theorem ft_any {w x : Nat → Int32} {B N i : Nat} (hi : i < 9) (h0 : cdV w B N i x ≠ 0) : 1 ≤ ftV i (cdV w B N i x) ∧ ftV i (cdV w B N i x) ≤ 4 := match i, hi, h0 with
  | 0, _, h0 => ft_0 h0
  | 1, _, h0 => ft_1 h0
  | 2, _, h0 => ft_2 h0
  | 3, _, h0 => ft_3 h0
  | 4, _, h0 => ft_4 h0
  | 5, _, h0 => ft_5 h0
  | 6, _, h0 => ft_6 h0
  | 7, _, h0 => ft_7 h0
  | 8, _, h0 => ft_8 h0
/-- the class in the midst of a program: all is as in I but the desk and the reader -/
def EJ (I J : II) (x L p vb : Nat) (c : Nat → Nat) (v : Nat → Int32) (B N E : Nat) (pm : Nat → Nat) : Prop := (∀ y, ¬ (x + 1 ≤ y ∧ y < x + 43) → y ≠ x + 507 → y ≠ x + 507 + 1 → y ≠ x + 507 + 2 → J y = I y) ∧ J (x + 507) 0 = nI p ∧ J (x + 507) 1 = nI vb ∧ Rdr J (x + 507) L c ∧ DV J (x + 1) v B N E pm
theorem EJ.st {I J J2 : II} {x L p vb e v2 B N E B2 N2 E2 : Nat} {c : Nat → Nat} {v w2 : Nat → Int32} {pm pm2 : Nat → Nat} {an : Int32} {nm : Nat → Int32} (h : EJ I J x L p vb c v B N E pm) (h2 : DW (rI J (x + 507) e v2 nm) J2 (x + 1) w2 B2 N2 E2 pm2 an) : EJ I J2 x L e v2 c w2 B2 N2 E2 pm2 := by
  obtain ⟨h1, -, -, hR, -⟩ := h
  have hR2 := hR.of (p := e) (v := v2) (nm := nm)
  have e1 := h2.1 (x + 507) (by omega)
  have e2 := h2.1 (x + 507 + 2) (by omega)
  refine ⟨fun y a1 a2 a3 a4 => (h2.1 y (by omega)).trans ((rI_o a2 a3).trans (h1 y a1 a2 a3 a4)), by rw [e1]; exact rI_0, by rw [e1]; exact rI_1, ⟨by rw [e1]; exact hR2.1, hR2.2.1, fun j hj => by rw [e2]; exact hR2.2.2.1 j hj, hR2.2.2.2⟩, h2.toV⟩
/-- what doing a program leaves -/
def EXp (I0 : II) (x : Nat) (EV : Bool × Nat × (Nat → Int32)) (D U : Nat) (X : va_W) (T : TT) : PhiT := fun r' X' T' I' => X' = X ∧ T' = T ∧ (∀ y, ¬ (x + 1 ≤ y ∧ y < x + 43) → y ≠ x + 507 → y ≠ x + 507 + 1 → y ≠ x + 507 + 2 → I' y = I0 y) ∧ (∃ vb, vb < 9 ∧ I' (x + 507) 1 = nI vb) ∧ ((EV.1 = true ∧ r' = some (.int (-1)) ∧ ∃ B N E pm, DV I' (x + 1) EV.2.2 B N E pm ∧ Gd EV.2.2 B N E (D + 60 * 61) (U + 61) ∧ Sd EV.2.2 N) ∨ (EV.1 = false ∧ r' = some (.int (nI EV.2.1)) ∧ ∃ pm, PmOk I' (x + 1) pm))
set_option maxHeartbeats 1000000 in
theorem q_executeCommands {g : GG} {X : va_W} {T : TT} {I : II} {x : Nat} (hcl : isCl T x) {L v0 : Nat} {c : Nat → Nat} (hL : L ≤ 60) (hc : ∀ j, j < L → I (x + 510) j = nI (c j)) (hc2 : ∀ j, j < L → c j < 128) (hv0 : v0 < 9) (hv1 : I (x + 507) 1 = nI v0) {w : Nat → Int32} {B N E : Nat} {pm : Nat → Nat} (hV : DV I (x + 1) w B N E pm) {D U : Nat} (hG : Gd w B N E D U) (hS : Sd w N) (hDD : D + 6000 ≤ 100000) (hUU : U + 100 ≤ 10000) (hok0 : (prV c L 61 0 0).1 = true) {cnt : Nat} (hcnt : (prV c L 61 0 0).2.2 = cnt) (h61 : cnt ≤ 61) : Mc g yX9_executeCommands cX9_executeCommands 4 (some .int) 9 0 0 [.ref x, .int (nI L), .int (nI cnt)] X T I (EXp I x (exV c L 61 0 0 w) D U X T) := by
  have hd := hcl.2.1
  refine Mc.of (by decide) (Nat.le_of_ble_eq_true rfl) (fun k hfl C => ?_)
  refine r_lo (lo' := [(0, _), (1, _), (2, _)]) rfl ?_
  refine r_aload_n (pc := 0) C 0 dX9_executeCommands_0 rfl rfl ?_
  refine r_getR (pc := 1) (x := x + 507) C f_X9_35 hcl.1 rfl rfl dX9_executeCommands_1 ?_
  refine r_aload_n (pc := 4) C 0 dX9_executeCommands_4 rfl rfl ?_
  refine r_getR (pc := 5) (x := x + 510) C f_X9_39 hcl.1 rfl rfl dX9_executeCommands_5 ?_
  refine r_iload_n (pc := 8) C 1 dX9_executeCommands_8 rfl rfl ?_
  refine r_c9v (pc := 9) C hfl k_X9_403 (c_open hcl.2.2.2.2.2.2.1 hcl.2.2.2.2.2.2.2 (by omega) hL hc hc2) hcl.2.2.2.2.2.2.1.1 ca_X2 rfl rfl (Nat.le_of_ble_eq_true rfl) (by decide) (by decide) dX9_executeCommands_9 ?_
  have hR0 : Rdr (opI I (x + 507) (x + 510) L) (x + 507) L c := opI_R (by omega) hL hc hc2
  have hE0 : EJ I (opI I (x + 507) (x + 510) L) x L 0 v0 c w B N E pm := ⟨fun y a1 a2 a3 a4 => opI_o a2 a4, opI_0, opI_1.trans hv1, hR0, hV.mv (fun y hy => opI_o (by omega) (by omega))⟩
  refine r_iconst (pc := 12) (v := 0) C dX9_executeCommands_12 rfl ?_
  refine r_istore_n (pc := 13) (lo' := [(3, _), (0, _), (1, _), (2, _)]) C dX9_executeCommands_13 rfl (by decide) rfl ?_
  have loop_14 : ∀ (n_14 : Nat) (k_ p vb : Nat) (v : Nat → Int32) (B N E : Nat) (J : II) (pm : Nat → Nat), cnt - k_ < n_14 → (k_ ≤ cnt) → (p ≤ L) → (vb < 9) → (EJ I J x L p vb c v B N E pm) → (Gd v B N E (D + 60 * k_) (U + k_)) → (Sd v N) → ((k_ < (prV c L 61 0 0).2.2 ∧ ∃ q, ((p = 0 ∧ q = 0) ∨ (0 < p ∧ has c L p 59 ∧ q = p + 1)) ∧ q ≤ L ∧ k_ ≤ q ∧ prV c L (61 - k_) q k_ = prV c L 61 0 0 ∧ exV c L (61 - k_) q k_ v = (exV c L 61 0 0 w)) ∨ (k_ = (prV c L 61 0 0).2.2 ∧ (exV c L 61 0 0 w) = (true, k_, v))) → Go g k 4 (Qm g k (EXp I x (exV c L 61 0 0 w) D U X T) 0 0) 0 0 14 [(0, .ref x), (1, .int (nI L)), (2, .int (nI cnt)), (3, .int (nI k_))] [] X T J := by
    intro n_14
    induction n_14 with
    | zero => intro _ _ _ _ _ _ _ _ _ h_; exact absurd h_ (Nat.not_lt_zero _)
    | succ n_14 ih_14 =>
      intro k_ p vb v B N E J pm hq hkc hpL hvb hJ hG9 hS9 hinv
      refine r_iload_n (pc := 14) C 3 dX9_executeCommands_14 rfl rfl ?_
      refine r_iload_n (pc := 15) C 2 dX9_executeCommands_15 rfl rfl ?_
      refine r_cgeN (pc := 16) (tgt := 64) C dX9_executeCommands_16 rfl (by omega) (by omega) (fun c_16 => ?_) (fun c_16 => ?_)
      · skip
        refine r_iconstm (pc := 64) C dX9_executeCommands_64 rfl ?_
        exact r_iret (pc := 65) C dX9_executeCommands_65 (by obtain ⟨hk1, hex⟩ := hinv.resolve_left (fun z => absurd z.1 (by omega)); exact ⟨rfl, rfl, hJ.1, ⟨vb, hvb, hJ.2.2.1⟩, Or.inl (by rw [hex]; exact ⟨rfl, rfl, B, N, E, pm, hJ.2.2.2.2, hG9.w (by omega) (by omega) (by omega) (by omega), hS9⟩)⟩) (by decide)
      · skip
        refine r_aload_n (pc := 19) C 0 dX9_executeCommands_19 rfl rfl ?_
        refine r_getR (pc := 20) (x := x + 507) C f_X9_35 hcl.1 rfl rfl dX9_executeCommands_20 ?_
        obtain ⟨-, q, hq0, hqL, hkq, hpr, hex⟩ := hinv.resolve_right (fun z => by omega)
        clear hinv
        obtain ⟨-, hJ0, hJ1, hJR, hJV⟩ := id hJ
        have hM : Mc g yX2_readCommand cX2_readCommand 1 (some .boolean) 6 0 0 [.ref (x + 507)] X T (rI J (x + 507) p vb (J (x + 507 + 1))) (RC J (x + 507) (cmV c L q) X T) := by
          rcases hq0 with ⟨h1, h2⟩ | ⟨h1, h2, h3⟩
          · subst h1; subst h2
            exact c_cmd0 hcl.2.2.2.2.2.2.1 hJR hvb
          · subst h3
            exact c_cmd1 hcl.2.2.2.2.2.2.1 hJR hvb h1 h2
        have hf : 61 - k_ = (60 - k_) + 1 := by omega
        rw [hf] at hpr hex
        have ok := prV_ok (f := 60 - k_) (p := q) (n := k_) (by rw [hpr]; exact hok0)
        refine r_I (rI_id hJ0 hJ1).symm ?_
        refine r_callV9 (pc := 23) C hfl k_X9_407 hM hcl.2.2.2.2.2.2.1.1 ca_X2 rfl rfl (Nat.le_of_ble_eq_true rfl) (by decide) (by decide) dX9_executeCommands_23 (fun r2 X2 T2 I2 h2 => ?_)
        obtain ⟨e1, e2, e3, v2, nm2, hv2, e4, hok⟩ := h2
        subst X2
        subst T2
        subst r2
        subst I2
        refine r_st (st' := [.int _]) rfl ?_
        obtain ⟨hi, hnm⟩ := hok ok
        have q1 := cmV_le (c := c) hqL
        obtain ⟨g1, g2, g3⟩ := gd_cts hG9
        have hnm3 : ∀ k2, k2 < (shL v2).length → nm2 k2 = cmx (cmV c L q).2.2.2 k2 := fun k2 hk2 => hnm k2 (by rw [cmV_len ok, ← hi]; exact hk2)
        have ec : cdW v (cmV c L q).2.2.1 (cmx (cmV c L q).2.2.2) = cdV v B N v2 nm2 := by rw [cdW, g1, g2, ← hi]; exact (cdV_c hv2 hnm3).symm
        have er : chW v (cmV c L q).2.2.1 (cmx (cmV c L q).2.2.2) = chR v B N E v2 nm2 := by rw [chW, g1, g2, g3, ← hi]; exact (chR_c hv2 hnm3).symm
        
        refine r_ifeqB (pc := 26) (tgt := 56) C dX9_executeCommands_26 rfl (fun c_26 => False.elim (by exact c_26 ok)) (fun c_26 => ?_)
        refine r_aload_n (pc := 29) C 0 dX9_executeCommands_29 rfl rfl ?_
        refine r_getR (pc := 30) (x := x + 1) C f_X9_10 hcl.1 rfl rfl dX9_executeCommands_30 ?_
        refine r_aload_n (pc := 33) C 0 dX9_executeCommands_33 rfl rfl ?_
        refine r_getR (pc := 34) (x := x + 507) C f_X9_35 hcl.1 rfl rfl dX9_executeCommands_34 ?_
        refine r_get9V (pc := 37) (i := v2) C f_X9_413 hcl.2.2.2.2.2.2.1.1 rI_1 hv2 dX9_executeCommands_37 ?_
        refine r_aload_n (pc := 40) C 0 dX9_executeCommands_40 rfl rfl ?_
        refine r_getR (pc := 41) (x := x + 507) C f_X9_35 hcl.1 rfl rfl dX9_executeCommands_41 ?_
        refine r_get9R (pc := 44) (x := x + 507 + 1) C f_X9_417 hcl.2.2.2.2.2.2.1.1 (Or.inl rfl) rfl dX9_executeCommands_44 ?_
        refine r_callV (pc := 47) C hfl k_X9_420 (c_obey hd (hJV.mv (fun y hy => rI_o (by omega) (by omega))) hG9 hS9 (by omega) (i := v2) hv2 hcl.2.2.2.2.2.2.1.2.1) (Dk_0 hd) ca_X3 rfl rfl (Nat.le_of_ble_eq_true rfl) (by decide) (by decide) dX9_executeCommands_47 (fun r3 X3 T3 J2 h3 => ?_)
        unfold CHx at h3
        rw [rI_a] at h3
        obtain ⟨e5, e6, ⟨h0, e7, e8⟩ | ⟨h0, e7, pm2, hW2⟩⟩ := h3
        · subst X3
          subst T3
          subst r3
          subst J2
          obtain ⟨f1, f4⟩ := ft_any hv2 h0
          refine r_st (st' := [.ref _]) rfl ?_
          refine r_flt (pc := 50) C (by decide) kf_X9_424 dX9_executeCommands_50 ?_
          refine r_aeq (pc := 53) (tgt := 58) C dX9_executeCommands_53 rfl (fun c_53 => False.elim (by exact absurd (C.Z.2.2.2.2.2.2.1 _ 0 (by omega) (by decide) c_53) (by omega))) (fun c_53 => ?_)
          refine r_iload_n (pc := 56) C 3 dX9_executeCommands_56 rfl rfl ?_
          exact r_iret (pc := 57) C dX9_executeCommands_57 ⟨rfl, rfl, fun y a1 a2 a3 a4 => (rI_o a2 a3).trans (hJ.1 y a1 a2 a3 a4), ⟨v2, hv2, rI_1⟩, Or.inr (by rw [← hex, exV_no (by rw [ec]; exact h0)]; exact ⟨rfl, rfl, pm, hJV.pk.mv (rI_o (by omega) (by omega))⟩)⟩ (by decide)
        · subst X3
          subst T3
          subst r3
          refine r_st (st' := [.ref _]) rfl ?_
          refine r_flt (pc := 50) C (by decide) kf_X9_424 dX9_executeCommands_50 ?_
          refine r_aeq (pc := 53) (tgt := 58) C dX9_executeCommands_53 rfl (fun c_53 => ?_) (fun c_53 => False.elim (by exact c_53 rfl))
          refine r_iincN (pc := 58) (m := 1) (lo' := [(3, _), (0, _), (1, _), (2, _)]) C 3 dX9_executeCommands_58 rfl rfl (by decide) rfl ?_
          refine r_goto (pc := 61) (tgt := 14) C dX9_executeCommands_61 rfl ?_
          refine r_ls [1, 2, 3, 0] rfl ?_
          obtain ⟨hG3, hS3⟩ := hG9.chx hS9 h0 hv2 (by omega) (by omega)
          have hc1 := prV_cnt (c := c) (L := L) ((60 - k_) + 1) q k_ (by rw [hpr]; exact hok0)
          rw [hpr] at hc1
          have hm1 : cnt - (k_ + 1) < n_14 := by omega
          have hm2 : k_ + 1 ≤ cnt := by omega
          have hm3 : D + 60 * (k_ + 1) = D + 60 * k_ + 60 := by omega
          have hm4 : U + (k_ + 1) = U + k_ + 1 := by omega
          have hstep : (k_ + 1 < (prV c L 61 0 0).2.2 ∧ ∃ q2, (((cmV c L q).2.1 = 0 ∧ q2 = 0) ∨ (0 < (cmV c L q).2.1 ∧ has c L (cmV c L q).2.1 59 ∧ q2 = (cmV c L q).2.1 + 1)) ∧ q2 ≤ L ∧ k_ + 1 ≤ q2 ∧ prV c L (61 - (k_ + 1)) q2 (k_ + 1) = prV c L 61 0 0 ∧ exV c L (61 - (k_ + 1)) q2 (k_ + 1) (chR v B N E v2 nm2) = (exV c L 61 0 0 w)) ∨ (k_ + 1 = (prV c L 61 0 0).2.2 ∧ (exV c L 61 0 0 w) = (true, k_ + 1, chR v B N E v2 nm2)) := by
            by_cases hs : has c L (cmV c L q).2.1 59
            · have hp2 := hpr
              rw [prV_go ok hs] at hp2
              have hc2' := prV_cnt (c := c) (L := L) _ _ _ (show (prV c L (60 - k_) ((cmV c L q).2.1 + 1) (k_ + 1)).1 = true by rw [hp2]; exact hok0)
              rw [hp2] at hc2'
              have hx2 := hex
              rw [exV_go (by rw [ec]; exact h0) hs, er] at hx2
              exact Or.inl ⟨hc2', _, Or.inr ⟨by have := (q1.2 ok).1; omega, hs, rfl⟩, by have := hs.1; omega, by have := (q1.2 ok).1; omega, by rw [show 61 - (k_ + 1) = 60 - k_ by omega]; exact hp2, by rw [show 61 - (k_ + 1) = 60 - k_ by omega]; exact hx2⟩
            · have hp2 := hpr
              rw [prV_end ok hs] at hp2
              have hx2 := hex
              rw [exV_end (by rw [ec]; exact h0) hs, er] at hx2
              exact Or.inr ⟨by rw [← hp2], hx2.symm⟩
          exact ih_14 (k_ + 1) _ _ _ _ _ _ _ _ hm1 hm2 q1.1 hv2 (hJ.st hW2) (by rw [hm3, hm4]; exact hG3) hS3 hstep
        
  refine r_ls [1, 2, 3, 0] rfl ?_
  exact loop_14 (cnt + 1) 0 0 v0 w B N E _ pm (by omega) (by omega) (by omega) hv0 hE0 hG hS (Or.inl ⟨by have := prV_cnt (c := c) (L := L) _ _ _ hok0; omega, 0, Or.inl ⟨rfl, rfl⟩, by omega, by omega, rfl, rfl⟩)
