/-! Programs run: commands one behind the other on a row. -/
section G7
variable {g : GG} {k : KK} {nL : Nat} {cc : ByteArray} {own : String} {rt : Option FieldType} {D mc ms : Nat} {Q : State → Prop} {cells slots pc : Nat} {lo : List (Nat × Value)} {st : List Value} {X : va_W} {T : TT} {I : II}
theorem r_tblI (C : Cx g k nL cc own rt D mc ms) {dflt lo' hi off : Int} {offs : Array Int} {len tgt : Nat} {x : Int32} (d : decode cc pc = .ok (.tableswitch dflt lo' hi offs, len)) (h1 : ¬ x.toInt < lo') (h2 : ¬ hi < x.toInt) (ho : offs[(x.toInt - lo').toNat]? = some off) (ht : (pc : Int) + off = (tgt : Int)) (kk : Go g k nL Q cells slots tgt lo st X T I) : Go g k nL Q cells slots pc lo (.int x :: st) X T I :=
  fun ls H locs a1 a2 a3 => lv_tableIn C.x C.b d h1 h2 ho ht (kk ls H locs a1 a2 a3)
theorem r_tblO (C : Cx g k nL cc own rt D mc ms) {dflt lo' hi : Int} {offs : Array Int} {len tgt : Nat} {x : Int32} (d : decode cc pc = .ok (.tableswitch dflt lo' hi offs, len)) (h : x.toInt < lo' ∨ hi < x.toInt) (ht : (pc : Int) + dflt = (tgt : Int)) (kk : Go g k nL Q cells slots tgt lo st X T I) : Go g k nL Q cells slots pc lo (.int x :: st) X T I :=
  fun ls H locs a1 a2 a3 => lv_tableOut C.x C.b d h ht (kk ls H locs a1 a2 a3)
end G7
/-- what readsAll says -/
def RA (I : II) (M : Nat) (X : va_W) (T : TT) (R : Bool × Nat × Nat) : PhiT := fun r X' T' I' => r = some (.int (bI (R.1 = true))) ∧ X' = X ∧ T' = T ∧ ∃ (s : Int32) (nm : Nat → Int32), I' = psI I M R.2.1 s nm
theorem prV_no {c : Nat → Nat} {L f p n : Nat} (h : ¬ (cmV c L p).1 = true) : prV c L (f + 1) p n = (false, (cmV c L p).2.1, n) := by rw [prV, if_neg h]
theorem prV_go {c : Nat → Nat} {L f p n : Nat} (h : (cmV c L p).1 = true) (h2 : has c L (cmV c L p).2.1 59) : prV c L (f + 1) p n = prV c L f ((cmV c L p).2.1 + 1) (n + 1) := by rw [prV, if_pos h, if_pos h2]
theorem prV_end {c : Nat → Nat} {L f p n : Nat} (h : (cmV c L p).1 = true) (h2 : ¬ has c L (cmV c L p).2.1 59) : prV c L (f + 1) p n = (decide ((cmV c L p).2.1 = L), (cmV c L p).2.1, n + 1) := by rw [prV, if_pos h, if_neg h2]
theorem RA_no {I : II} {M : Nat} {X : va_W} {T : TT} {R : Bool × Nat × Nat} {c : Nat → Nat} {L f p n : Nat} {s : Int32} {nm : Nat → Int32} (hR : prV c L (f + 1) p n = R) (h : ¬ (cmV c L p).1 = true) : RA I M X T R (some (.int (nI 0))) X T (psI I M (cmV c L p).2.1 s nm) := by
  rw [prV_no h] at hR
  rw [← hR]
  exact ⟨rfl, rfl, rfl, s, nm, rfl⟩
theorem RA_t {I : II} {M : Nat} {X : va_W} {T : TT} {R : Bool × Nat × Nat} {c : Nat → Nat} {L f p n : Nat} {s : Int32} {nm : Nat → Int32} (hR : prV c L (f + 1) p n = R) (h : (cmV c L p).1 = true) (h2 : ¬ has c L (cmV c L p).2.1 59) (h3 : (cmV c L p).2.1 = L) : RA I M X T R (some (.int (nI 1))) X T (psI I M (cmV c L p).2.1 s nm) := by
  rw [prV_end h h2] at hR
  rw [← hR]
  exact ⟨congrArg (fun z => some (Value.int z)) (bI_t (decide_eq_true h3)).symm, rfl, rfl, s, nm, rfl⟩
theorem RA_f {I : II} {M : Nat} {X : va_W} {T : TT} {R : Bool × Nat × Nat} {c : Nat → Nat} {L f p n : Nat} {s : Int32} {nm : Nat → Int32} (hR : prV c L (f + 1) p n = R) (h : (cmV c L p).1 = true) (h2 : ¬ has c L (cmV c L p).2.1 59) (h3 : ¬ (cmV c L p).2.1 = L) : RA I M X T R (some (.int (nI 0))) X T (psI I M (cmV c L p).2.1 s nm) := by
  rw [prV_end h h2] at hR
  rw [← hR]
  exact ⟨congrArg (fun z => some (Value.int z)) (bI_f (fun z => h3 (of_decide_eq_true z))).symm, rfl, rfl, s, nm, rfl⟩
def bB (w : Nat → Int32) : Nat := cl (w 1)
def nN (w : Nat → Int32) : Nat := cl (w 2)
def eE (w : Nat → Int32) : Nat := cl (w 5)
theorem gd_cts {w : Nat → Int32} {B N E D U : Nat} (h : Gd w B N E D U) : bB w = B ∧ nN w = N ∧ eE w = E := by
  have h1 := h.B
  have h2 := h.N
  have h3 := h.E
  exact ⟨by rw [bB, h1.1, cl, nI_clamp (by omega)], by rw [nN, h2.1, cl, nI_clamp (by omega)], by rw [eE, h3.1, cl, nI_clamp (by omega)]⟩
def cdW (w : Nat → Int32) (i : Nat) (x : Nat → Int32) : Nat := cdV w (bB w) (nN w) i x
def chW (w : Nat → Int32) (i : Nat) (x : Nat → Int32) : Nat → Int32 := chR w (bB w) (nN w) (eE w) i x
def cmx (a : List Nat) : Nat → Int32 := fun k => nI (a.getD k 0)
def exV (c : Nat → Nat) (L : Nat) : Nat → Nat → Nat → (Nat → Int32) → Bool × Nat × (Nat → Int32)
  | 0, _, n, w => (false, n, w)
  | f + 1, p, n, w => if cdW w (cmV c L p).2.2.1 (cmx (cmV c L p).2.2.2) = 0 then
      (if has c L (cmV c L p).2.1 59 then exV c L f ((cmV c L p).2.1 + 1) (n + 1) (chW w (cmV c L p).2.2.1 (cmx (cmV c L p).2.2.2))
        else (true, n + 1, chW w (cmV c L p).2.2.1 (cmx (cmV c L p).2.2.2)))
      else (false, n, w)
theorem exV_no {c : Nat → Nat} {L f p n : Nat} {w : Nat → Int32} (h : ¬ cdW w (cmV c L p).2.2.1 (cmx (cmV c L p).2.2.2) = 0) : exV c L (f + 1) p n w = (false, n, w) := by rw [exV, if_neg h]
theorem exV_go {c : Nat → Nat} {L f p n : Nat} {w : Nat → Int32} (h : cdW w (cmV c L p).2.2.1 (cmx (cmV c L p).2.2.2) = 0) (h2 : has c L (cmV c L p).2.1 59) : exV c L (f + 1) p n w = exV c L f ((cmV c L p).2.1 + 1) (n + 1) (chW w (cmV c L p).2.2.1 (cmx (cmV c L p).2.2.2)) := by rw [exV, if_pos h, if_pos h2]
theorem exV_end {c : Nat → Nat} {L f p n : Nat} {w : Nat → Int32} (h : cdW w (cmV c L p).2.2.1 (cmx (cmV c L p).2.2.2) = 0) (h2 : ¬ has c L (cmV c L p).2.1 59) : exV c L (f + 1) p n w = (true, n + 1, chW w (cmV c L p).2.2.1 (cmx (cmV c L p).2.2.2)) := by rw [exV, if_pos h, if_neg h2]
theorem Gd.cw {w : Nat → Int32} {B N E D U i : Nat} {x : Nat → Int32} (h : Gd w B N E D U) (hs : Sd w N) (hc : cdW w i x = 0) (hi : i < 9) (hD : D + 60 ≤ 100000) (hU : U + 1 ≤ 10000) : ∃ B' N' E', Gd (chW w i x) B' N' E' (D + 60) (U + 1) ∧ Sd (chW w i x) N' := by
  obtain ⟨e1, e2, e3⟩ := gd_cts h
  unfold cdW at hc
  unfold chW
  rw [e1, e2] at hc
  rw [e1, e2, e3]
  exact h.ch hs hc hi hD hU
/-- the arguments of a command are as many as it takes -/
theorem agv_len {c : Nat → Nat} {L : Nat} : ∀ (t : List Nat) (p : Nat), (agv c L t p).1 = true → (agv c L t p).2.2.length = t.length
  | [], _, _ => rfl
  | m :: t, p, h => by
    rw [agv] at h ⊢
    split at h
    · exact absurd h Bool.false_ne_true
    · rename_i h1
      rw [if_neg h1]
      split at h
      · rename_i h2
        rw [if_pos h2, h2]; rfl
      · rename_i h2
        rw [if_neg h2]
        split at h
        · rename_i h3
          rw [if_pos h3]
          exact congrArg (· + 1) (agv_len t _ h)
        · exact absurd h Bool.false_ne_true
theorem cmV_len {c : Nat → Nat} {L p : Nat} (h : (cmV c L p).1 = true) : (cmV c L p).2.2.2.length = (shL (cmV c L p).2.2.1).length := by
  unfold cmV at *
  split at h
  · exact absurd h Bool.false_ne_true
  · exact agv_len _ _ h
/-- the places of the reference that nobody reads but itself -/
def Vz (I J : II) (M : Nat) : Prop := (∀ j, j ≠ 12 → j ≠ 16 → j ≠ 17 → I M j = J M j) ∧ (∀ b, b ≠ M → b ≠ M + 4 → b ≠ M + 7 → I b = J b)
theorem Vz_rfl {I : II} {M : Nat} : Vz I I M := ⟨fun _ _ _ _ => rfl, fun _ _ _ _ => rfl⟩
theorem Vz.tr {I J K : II} {M : Nat} (h : Vz I J M) (h2 : Vz J K M) : Vz I K M := ⟨fun j a b c => (h.1 j a b c).trans (h2.1 j a b c), fun b a1 a2 a3 => (h.2 b a1 a2 a3).trans (h2.2 b a1 a2 a3)⟩
theorem Vz.ps {I : II} {M p : Nat} {s : Int32} {nm : Nat → Int32} : Vz (psI I M p s nm) I M := ⟨fun j h1 h2 _ => psI_f h1 h2, fun b h1 _ h3 => psI_o h1 h3⟩
theorem Vz.u {I J : II} {M j : Nat} {v : Int32} (h : Vz I J M) : Vz (u2 I M j v) (u2 J M j v) M := by
  refine ⟨fun l h1 h2 h3 => ?_, fun b h1 h2 h3 => ?_⟩
  · by_cases e : l = j
    · subst e; rw [u2_g, u2_g]
    · rw [u2_o e, u2_o e]; exact h.1 l h1 h2 h3
  · rw [u2_r h1, u2_r h1]; exact h.2 b h1 h2 h3
theorem Vz.n {I : II} {M j : Nat} {v : Int32} (hj : j = 12 ∨ j = 16 ∨ j = 17) : Vz (u2 I M j v) I M := ⟨fun l h1 h2 h3 => u2_o (by omega), fun b h1 h2 h3 => u2_r h1⟩
theorem Vz.s {I J : II} {M b : Nat} {f : Nat → Int32} (h : Vz I J M) (hb : b ≠ M) : Vz (sr I b f) (sr J b f) M := by
  refine ⟨fun l h1 h2 h3 => ?_, fun a h1 h2 h3 => ?_⟩
  · rw [sr_n hb.symm, sr_n hb.symm]; exact h.1 l h1 h2 h3
  · by_cases e : a = b
    · subst e; rw [sr_s, sr_s]
    · rw [sr_n e, sr_n e]; exact h.2 a h1 h2 h3
theorem Vz.b {I : II} {M : Nat} {f : Nat → Int32} {a : Nat} (ha : a = M + 4 ∨ a = M + 7) : Vz (sr I a f) I M := ⟨fun l h1 h2 h3 => by rw [sr_n (show M ≠ a by omega)], fun b h1 h2 h3 => sr_n (by omega)⟩
theorem psI_sr {I : II} {M p : Nat} {s : Int32} {nm w : Nat → Int32} : psI (sr I (M + 1) w) M p s nm = sr (psI I M p s nm) (M + 1) w := by
  unfold psI
  rw [u2_n (show M ≠ M + 1 by omega), u2_n (show M ≠ M + 1 by omega), sr_cm (show M + 1 ≠ M + 7 by omega)]
theorem Inp.v {I J : II} {M L : Nat} {c : Nat → Nat} (h : Inp I M L c) (h1 : J M 11 = I M 11) (h2 : J (M + 6) = I (M + 6)) : Inp J M L c := ⟨h1.trans h.1, h.2.1, fun j hj => by rw [h2]; exact h.2.2.1 j hj, h.2.2.2⟩
/-- so many commands are done, the row is w -/
def exI (I : II) (M n : Nat) (w : Nat → Int32) : II := sr (u2 I M 17 (nI n)) (M + 1) w
theorem exI_0 {I : II} {M : Nat} : u2 (u2 I M 17 (nI 0)) M 12 (nI 0) = psI (exI I M 0 (I (M + 1))) M 0 (exI I M 0 (I (M + 1)) M 16) (exI I M 0 (I (M + 1)) (M + 7)) := by
  have e : exI I M 0 (I (M + 1)) = u2 I M 17 (nI 0) := by
    have h : I (M + 1) = u2 I M 17 (nI 0) (M + 1) := (u2_r (by omega)).symm
    rw [exI, h, sr_id]
  rw [e, psI_id]
theorem exI_d {I : II} {M n p : Nat} {s : Int32} {nm w w' : Nat → Int32} : u2 (sr (psI (u2 I M 17 (nI n)) M p s nm) (M + 1) w') M 17 (nI (n + 1)) = psI (exI I M (n + 1) w') M p s nm := by
  rw [exI, psI_sr, u2_n (show M ≠ M + 1 by omega)]
  congr 1
  unfold psI
  rw [u2_n (show M ≠ M + 7 by omega), u2_cm (show (16 : Nat) ≠ 17 by decide), u2_cm (show (12 : Nat) ≠ 17 by decide), u2_u2]
theorem exI_s {I : II} {M n p : Nat} {s : Int32} {nm w : Nat → Int32} : psI (exI I M n w) M p s nm = sr (psI (u2 I M 17 (nI n)) M p s nm) (M + 1) w := psI_sr
theorem cdV_c {w : Nat → Int32} {B N i : Nat} {x y : Nat → Int32} (hi : i < 9) (h : ∀ k, k < (shL i).length → x k = y k) : cdV w B N i x = cdV w B N i y := by
  match i, hi, h with
  | 0, _, h => simp only [cdV]; rw [h 0 (by decide)]
  | 1, _, h => simp only [cdV]; rw [h 0 (by decide), h 1 (by decide), h 2 (by decide)]
  | 2, _, h => simp only [cdV]; rw [h 0 (by decide), h 1 (by decide)]
  | 3, _, h => simp only [cdV]; rw [h 0 (by decide), h 1 (by decide), h 2 (by decide), h 3 (by decide), h 4 (by decide)]
  | 4, _, h => simp only [cdV]; rw [h 0 (by decide), h 1 (by decide), h 2 (by decide)]
  | 5, _, h => simp only [cdV]; rw [h 0 (by decide), h 1 (by decide), h 2 (by decide)]
  | 6, _, h => simp only [cdV]; rw [h 0 (by decide), h 1 (by decide)]
  | 7, _, h => simp only [cdV]; rw [h 0 (by decide), h 1 (by decide), h 2 (by decide)]
  | 8, _, h => simp only [cdV]; rw [h 0 (by decide)]
  | i + 9, hi, _ => omega
theorem chR_c {w : Nat → Int32} {B N E i : Nat} {x y : Nat → Int32} (hi : i < 9) (h : ∀ k, k < (shL i).length → x k = y k) : chR w B N E i x = chR w B N E i y := by
  match i, hi, h with
  | 0, _, h => simp only [chR]; rw [h 0 (by decide)]
  | 1, _, h => simp only [chR]; rw [h 0 (by decide), h 1 (by decide), h 2 (by decide)]
  | 2, _, h => simp only [chR]; rw [h 0 (by decide), h 1 (by decide)]
  | 3, _, h => simp only [chR]; rw [h 0 (by decide), h 1 (by decide), h 2 (by decide), h 3 (by decide), h 4 (by decide)]
  | 4, _, h => simp only [chR]; rw [h 0 (by decide), h 1 (by decide), h 2 (by decide)]
  | 5, _, h => simp only [chR]; rw [h 0 (by decide), h 1 (by decide), h 2 (by decide)]
  | 6, _, h => simp only [chR]; rw [h 0 (by decide), h 1 (by decide)]
  | 7, _, h => simp only [chR]; rw [h 0 (by decide), h 1 (by decide), h 2 (by decide)]
  | 8, _, h => simp only [chR]; rw [h 0 (by decide)]
  | i + 9, hi, _ => omega
theorem cdV_le {w : Nat → Int32} {B N i : Nat} {x : Nat → Int32} : cdV w B N i x ≤ 4 := by
  unfold cdV
  split
  · exact Nat.le_trans (fBorrower_le _ _) (by decide)
  · exact Nat.le_trans (fBring_le _ _ _ _ _) (by decide)
  · exact Nat.le_trans (fPrice_le _ _) (by decide)
  · exact Nat.le_trans (fLend_le _ _ _ _ _ _ _ _) (by decide)
  · exact fPledge_le _ _ _ _
  · exact fRelease_le _ _ _ _
  · exact Nat.le_trans (fRepay_le _ _ _) (by decide)
  · exact Nat.le_trans (fBuy_le _ _ _ _ _) (by decide)
  · exact Nat.le_trans (fPass_le _) (by decide)
/-- what doesAll says -/
def DA (I : II) (M : Nat) (X : va_W) (T : TT) (R : Bool × Nat × (Nat → Int32)) : PhiT := fun r X' T' I' => r = some (.int (bI (R.1 = true))) ∧ X' = X ∧ T' = T ∧ ∃ (p : Nat) (s : Int32) (nm : Nat → Int32), I' = psI (exI I M R.2.1 R.2.2) M p s nm
theorem DA_no {I : II} {M : Nat} {X : va_W} {T : TT} {R : Bool × Nat × (Nat → Int32)} {n p : Nat} {s : Int32} {nm w : Nat → Int32} (hR : (false, n, w) = R) : DA I M X T R (some (.int (nI 0))) X T (psI (exI I M n w) M p s nm) := by
  rw [← hR]
  exact ⟨rfl, rfl, rfl, p, s, nm, rfl⟩
theorem DA_ok {I : II} {M : Nat} {X : va_W} {T : TT} {R : Bool × Nat × (Nat → Int32)} {n p : Nat} {s : Int32} {nm w : Nat → Int32} (hR : (true, n, w) = R) : DA I M X T R (some (.int (nI 1))) X T (psI (exI I M n w) M p s nm) := by
  rw [← hR]
  exact ⟨rfl, rfl, rfl, p, s, nm, rfl⟩
theorem prV_ok {c : Nat → Nat} {L f p n : Nat} (h : (prV c L (f + 1) p n).1 = true) : (cmV c L p).1 = true := by
  rcases Bool.eq_false_or_eq_true (cmV c L p).1 with h1 | h1
  · exact h1
  · rw [prV_no (by rw [h1]; exact Bool.false_ne_true)] at h
    exact absurd h Bool.false_ne_true
