/-- the days that a copy of the desk passes until the loan is gone, as the trial counts them -/
def trV (id : Int32) (v : Nat → Int32) (L : Nat) : Nat → Nat → Nat
  | 0, k => k
  | f + 1, k => if slV v L id = -1 then k else trV id (dyV v L).1 (dyV v L).2.1 f (k + 1)
theorem trV_go {id : Int32} {v : Nat → Int32} {L k : Nat} (hk : k ≤ 60) (h : ¬ slV v L id = -1) : trV id v L (61 - k) k = trV id (dyV v L).1 (dyV v L).2.1 (61 - (k + 1)) (k + 1) := by
  rw [show 61 - k = (61 - (k + 1)) + 1 by omega, trV, if_neg h]
theorem trV_no {id : Int32} {v : Nat → Int32} {L k : Nat} (hk : k ≤ 60) (h : slV v L id = -1) : trV id v L (61 - k) k = k := by
  rw [show 61 - k = (61 - (k + 1)) + 1 by omega, trV, if_pos h]
theorem trV_end {id : Int32} {v : Nat → Int32} {L k : Nat} (hk : ¬ k ≤ 60) : trV id v L (61 - k) k = k := by
  rw [show 61 - k = 0 by omega]; rfl
theorem trV_le {id : Int32} : ∀ (f k : Nat) (v : Nat → Int32) (L : Nat), trV id v L f k ≤ k + f
  | 0, _, _, _ => Nat.le_refl _
  | f + 1, k, v, L => by
    rw [trV]
    split
    · omega
    · have := trV_le (id := id) f (k + 1) (dyV v L).1 (dyV v L).2.1
      omega
/-- what a trial leaves -/
def TV (I0 : II) (x K : Nat) (X : va_W) (T : TT) : PhiT := fun r X' T' I' => r = some (.int (nI K)) ∧ X' = X ∧ T' = T ∧ (∀ y, ¬ (x + 85 ≤ y ∧ y < x + 85 + 42) → I' y = I0 y) ∧ ∃ pt, PmOk I' (x + 85) pt
set_option maxHeartbeats 1000000 in
theorem q_daysLeftByTrial {g : GG} {X : va_W} {T : TT} {I : II} {x : Nat} (hcl : isCl T x) {w : Nat → Int32} {B N E : Nat} {pm : Nat → Nat} (hV : DV I (x + 1) w B N E pm) {D U : Nat} (hG : Gd w B N E D U) (hS : Sd w N) (hDx : D + 61 ≤ 100000) {p85 : Nat → Nat} (hp85 : PmOk I (x + 85) p85) {id : Int32} : Mx g yX9_daysLeftByTrial cX9_daysLeftByTrial 3 (some .int) 8 0 0 [.ref x, .int id] X T I (TV I x (trV id w N 61 0) X T) NoX := by
  have hd := hcl.2.1
  have hB := hG.B.1
  have hN := hG.N.1
  have hB6 := hG.B.2
  have hN10 := hG.N.2
  refine Mx.of (by decide) (Nat.le_of_ble_eq_true rfl) (fun k hfl hxt C => ?_)
  refine r_lo (lo' := [(0, _), (1, _)]) rfl ?_
  refine r_aload_n (pc := 0) C 0 dX9_daysLeftByTrial_0 rfl rfl ?_
  refine r_getR (pc := 1) (x := x + 85) C f_X9_19 hcl.1 rfl rfl dX9_daysLeftByTrial_1 ?_
  refine r_aload_n (pc := 4) C 0 dX9_daysLeftByTrial_4 rfl rfl ?_
  refine r_getR (pc := 5) (x := x + 1) C f_X9_10 hcl.1 rfl rfl dX9_daysLeftByTrial_5 ?_
  refine r_callV (pc := 8) C hfl k_X9_64 (c_X3_copyFrom hcl.2.2.2.1 hd hV hp85 (by omega) hB hN) (Dk_0 hcl.2.2.2.1) ca_X3 rfl rfl (Nat.le_of_ble_eq_true rfl) (by decide) (by decide) dX9_daysLeftByTrial_8 (fun r1 X1 T1 J1 h1 => ?_)
  obtain ⟨e1, e2, e3, hW1⟩ := h1
  subst r1
  subst X1
  subst T1
  refine r_st (st' := _) rfl ?_
  refine r_iconst (pc := 11) (v := 0) C dX9_daysLeftByTrial_11 rfl ?_
  refine r_istore_n (pc := 12) (lo' := [(2, _), (0, _), (1, _)]) C dX9_daysLeftByTrial_12 rfl (by decide) rfl ?_
  have loop_13 : ∀ (n_13 : Nat) (k_ : Nat) (v : Nat → Int32) (L : Nat) (J : II) (pt : Nat → Nat), 61 - k_ < n_13 → (k_ ≤ 61) → (trV id v L (61 - k_) k_ = (trV id w N 61 0)) → (Gd v B L E (D + k_) U) → (Sd v L) → (DW I J (x + 85) v B L E pt (I (x + 85) 9)) → Go g k 3 (Qx g k (TV I x (trV id w N 61 0) X T) NoX 0 0) 0 0 13 [(0, .ref x), (1, .int id), (2, .int (nI k_))] [] X T J := by
    intro n_13
    induction n_13 with
    | zero => intro _ _ _ _ _ h_; exact absurd h_ (Nat.not_lt_zero _)
    | succ n_13 ih_13 =>
      intro k_ v L J pt hq hk hinv hG9 hS9 hJ
      refine r_iload_n (pc := 13) C 2 dX9_daysLeftByTrial_13 rfl rfl ?_
      refine r_bipush (pc := 14) (v := 60) C dX9_daysLeftByTrial_14 rfl ?_
      refine r_cgtN (pc := 16) (tgt := 43) C dX9_daysLeftByTrial_16 rfl (by omega) (by omega) (fun c_16 => ?_) (fun c_16 => ?_)
      · skip
        refine r_iload_n (pc := 43) C 2 dX9_daysLeftByTrial_43 rfl rfl ?_
        refine r_xret ?_
        exact r_iret (pc := 44) C dX9_daysLeftByTrial_44 (by rw [show trV id w N 61 0 = k_ by rw [← hinv, trV_end (Nat.not_le.mpr c_16)]]; exact ⟨rfl, rfl, rfl, hJ.1, pt, hJ.toV.pk⟩) (by decide)
      · skip
        refine r_aload_n (pc := 19) C 0 dX9_daysLeftByTrial_19 rfl rfl ?_
        refine r_getR (pc := 20) (x := x + 85) C f_X9_19 hcl.1 rfl rfl dX9_daysLeftByTrial_20 ?_
        refine r_iload_n (pc := 23) C 1 dX9_daysLeftByTrial_23 rfl rfl ?_
        have ha := slV_at v L id
        have hN9 := hG9.N.1
        have hL9 := hG9.N.2
        rcases atS_or ha with ⟨s, s1, s2, -⟩ | s2
        · rw [s2] at ha
          refine r_cVr (pc := 24) C hfl k_X9_203 (c_X3_loanWithId__s hcl.2.2.2.1 hJ.toV hN9 s1 ha) (Dk_0 hcl.2.2.2.1) ca_X3 rfl rfl (Nat.le_of_ble_eq_true rfl) (by decide) (by decide) dX9_daysLeftByTrial_24 ?_
          refine r_ifnullR (pc := 27) C dX9_daysLeftByTrial_27 ?_
          refine r_aload_n (pc := 30) C 0 dX9_daysLeftByTrial_30 rfl rfl ?_
          refine r_getR (pc := 31) (x := x + 85) C f_X9_19 hcl.1 rfl rfl dX9_daysLeftByTrial_31 ?_
          refine r_callV (pc := 34) C hfl k_X9_261 (c_X3_letOneDayPass hcl.2.2.2.1 hJ.toV hG9 hS9 (by omega)) (Dk_0 hcl.2.2.2.1) ca_X3 rfl rfl (Nat.le_of_ble_eq_true rfl) (by decide) (by decide) dX9_daysLeftByTrial_34 (fun r2 X2 T2 J2 h2 => ?_)
          obtain ⟨rfl, rfl, rfl, pt2, hP2⟩ := h2
          refine r_st (st' := _) rfl ?_
          rw [hJ.han] at hP2
          have hJ2 := DW.tr hJ.1 hP2
          refine r_iincN (pc := 37) (m := 1) (lo' := [(2, _), (0, _), (1, _)]) C 2 dX9_daysLeftByTrial_37 rfl rfl (by decide) rfl ?_
          refine r_goto (pc := 40) (tgt := 13) C dX9_daysLeftByTrial_40 rfl ?_
          refine r_ls [1, 2, 0] rfl ?_
          exact ih_13 (k_ + 1) _ _ _ _ (by omega) (by omega) (by rw [← hinv, trV_go (v := v) (L := L) (k := k_) (by omega) (fun z => by rw [s2] at z; exact absurd (show nI s < 0 by rw [z]; decide) (nI_pos (by omega)))]) (hG9.dy hS9 (by omega)).1 (hG9.dy hS9 (by omega)).2.1 hJ2
        · rw [s2] at ha
          refine r_cVr (pc := 24) C hfl k_X9_203 (c_X3_loanWithId__n hcl.2.2.2.1 hJ.toV hN9 ha) (Dk_0 hcl.2.2.2.1) ca_X3 rfl rfl (Nat.le_of_ble_eq_true rfl) (by decide) (by decide) dX9_daysLeftByTrial_24 ?_
          refine r_ifnullN (pc := 27) (tgt := 43) C dX9_daysLeftByTrial_27 rfl ?_
          refine r_iload_n (pc := 43) C 2 dX9_daysLeftByTrial_43 rfl rfl ?_
          refine r_xret ?_
          exact r_iret (pc := 44) C dX9_daysLeftByTrial_44 (by rw [show trV id w N 61 0 = k_ by rw [← hinv, trV_no (by omega) s2]]; exact ⟨rfl, rfl, rfl, hJ.1, pt, hJ.toV.pk⟩) (by decide)
        
  refine r_ls [1, 2, 0] rfl ?_
  exact loop_13 62 0 w N _ _ (by omega) (by omega) rfl hG hS hW1
