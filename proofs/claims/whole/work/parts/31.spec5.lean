/-! Programs: what a command at a place of the text is. c: the characters, L: how many. -/
abbrev has (c : Nat → Nat) (L p x : Nat) : Prop := p < L ∧ c p = x
abbrev isd (c : Nat → Nat) (L p : Nat) : Prop := p < L ∧ 48 ≤ c p ∧ c p ≤ 57
def chV (c : Nat → Nat) (L p : Nat) : Int32 := if p < L then nI (c p) else -1
/-- how far a word goes on from p -/
def mtc (c : Nat → Nat) (L : Nat) : List Nat → Nat → Nat
  | [], _ => 0
  | x :: t, p => if has c L p x then mtc c L t (p + 1) + 1 else 0
/-- at most so many digits from p on: where they end, the number behind a -/
def nmv (c : Nat → Nat) (L : Nat) : Nat → Nat → Nat → Nat × Nat
  | 0, p, a => (p, a)
  | f + 1, p, a => if isd c L p then nmv c L f (p + 1) (10 * a + (c p - 48)) else (p, a)
/-- arguments: at most so many digits each, blanks between -/
def agv (c : Nat → Nat) (L : Nat) : List Nat → Nat → Bool × Nat × List Nat
  | [], p => (true, p, [])
  | m :: t, p => if (nmv c L m p 0).1 = p then (false, p, []) else
    if t = [] then (true, (nmv c L m p 0).1, [(nmv c L m p 0).2]) else
    if has c L (nmv c L m p 0).1 32 then ((agv c L t ((nmv c L m p 0).1 + 1)).1, (agv c L t ((nmv c L m p 0).1 + 1)).2.1, (nmv c L m p 0).2 :: (agv c L t ((nmv c L m p 0).1 + 1)).2.2)
    else (false, (nmv c L m p 0).1, [])
def kwL : Nat → List Nat
  | 0 => [98, 111, 114, 114, 111, 119, 101, 114, 32]
  | 1 => [98, 114, 105, 110, 103, 32]
  | 2 => [112, 114, 105, 99, 101, 32]
  | 3 => [108, 101, 110, 100, 32]
  | 4 => [112, 108, 101, 100, 103, 101, 32]
  | 5 => [114, 101, 108, 101, 97, 115, 101, 32]
  | 6 => [114, 101, 112, 97, 121, 32]
  | 7 => [98, 117, 121, 32]
  | _ => [100, 97, 121, 115, 32]
def shL : Nat → List Nat
  | 0 => [3]
  | 1 => [1, 1, 3]
  | 2 => [1, 3]
  | 3 => [1, 1, 3, 3, 3]
  | 4 => [3, 1, 3]
  | 5 => [3, 1, 3]
  | 6 => [3, 3]
  | 7 => [1, 1, 3]
  | _ => [3]
/-- the first word from i on that stands at p; how far one of them goes -/
def vbv (c : Nat → Nat) (L p : Nat) : Nat → Nat → Option Nat
  | 0, _ => none
  | f + 1, i => if mtc c L (kwL i) p = (kwL i).length then some i else vbv c L p f (i + 1)
def fur (c : Nat → Nat) (L p : Nat) : Nat → Nat → Nat → Nat
  | 0, _, a => a
  | f + 1, i, a => fur c L p f (i + 1) (if a < mtc c L (kwL i) p then mtc c L (kwL i) p else a)
/-- a command at p: whether, where it ends or errs, which, its arguments -/
def cmV (c : Nat → Nat) (L p : Nat) : Bool × Nat × Nat × List Nat := match vbv c L p 9 0 with
  | none => (false, p + fur c L p 9 0 0, 9, [])
  | some i => ((agv c L (shL i) (p + (kwL i).length)).1, (agv c L (shL i) (p + (kwL i).length)).2.1, i, (agv c L (shL i) (p + (kwL i).length)).2.2)
/-- commands one behind the other, with semicolons between: whether, where it ends or errs, how many -/
def prV (c : Nat → Nat) (L : Nat) : Nat → Nat → Nat → Bool × Nat × Nat
  | 0, p, n => (false, p, n)
  | f + 1, p, n => if (cmV c L p).1 = true then (if has c L (cmV c L p).2.1 59 then prV c L f ((cmV c L p).2.1 + 1) (n + 1) else (decide ((cmV c L p).2.1 = L), (cmV c L p).2.1, n + 1)) else (false, (cmV c L p).2.1, n)
/-- the reference's sorts of commands -/
def srt : Nat → Nat
  | 0 => 111
  | 1 => 103
  | 2 => 112
  | 3 => 108
  | 4 => 101
  | 5 => 97
  | 6 => 121
  | 7 => 117
  | _ => 100
theorem chV_has {c : Nat → Nat} {L p x : Nat} (hc : ∀ j, j < L → c j < 128) (hx : x < 128) : chV c L p = nI x ↔ has c L p x := by
  unfold chV has
  by_cases h : p < L
  · rw [if_pos h, nI_eq (by have := hc p h; omega) (by omega)]
    exact ⟨fun z => ⟨h, z⟩, fun z => z.2⟩
  · rw [if_neg h]
    constructor
    · intro z
      exfalso
      have h1 := congrArg Int32.toInt z
      rw [nI_toInt (by omega)] at h1
      have h2 : (-1 : Int32).toInt = -1 := by decide
      omega
    · intro z
      exact absurd z.1 h
theorem chV_isd {c : Nat → Nat} {L p : Nat} (hc : ∀ j, j < L → c j < 128) : (nI 48 ≤ chV c L p ∧ chV c L p ≤ nI 57) ↔ isd c L p := by
  unfold chV isd
  by_cases h : p < L
  · rw [if_pos h, nI_leI (by omega) (by have := hc p h; omega), nI_leI (by have := hc p h; omega) (by omega)]
    exact ⟨fun z => ⟨h, z⟩, fun z => z.2⟩
  · rw [if_neg h]
    constructor
    · intro z
      exact absurd z.1 (by decide)
    · intro z
      exact absurd z.1 h
/-- the reader's place p, the sort s, the numbers nm -/
def psI (I : II) (M p : Nat) (s : Int32) (nm : Nat → Int32) : II := sr (u2 (u2 I M 12 (nI p)) M 16 s) (M + 7) nm
theorem psI_12 {I : II} {M p : Nat} {s : Int32} {nm : Nat → Int32} : psI I M p s nm M 12 = nI p := by
  rw [psI, sr_n (show M ≠ M + 7 by omega), u2_o (by decide), u2_g]
theorem psI_16 {I : II} {M p : Nat} {s : Int32} {nm : Nat → Int32} : psI I M p s nm M 16 = s := by
  rw [psI, sr_n (show M ≠ M + 7 by omega), u2_g]
theorem psI_7 {I : II} {M p : Nat} {s : Int32} {nm : Nat → Int32} : psI I M p s nm (M + 7) = nm := sr_s
theorem psI_f {I : II} {M p j : Nat} {s : Int32} {nm : Nat → Int32} (h1 : j ≠ 12) (h2 : j ≠ 16) : psI I M p s nm M j = I M j := by
  rw [psI, sr_n (show M ≠ M + 7 by omega), u2_o h2, u2_o h1]
theorem psI_o {I : II} {M p b : Nat} {s : Int32} {nm : Nat → Int32} (h1 : b ≠ M) (h2 : b ≠ M + 7) : psI I M p s nm b = I b := by
  rw [psI, sr_n h2, u2_r h1, u2_r h1]
theorem u2_cm {I : II} {a j k : Nat} {x y : Int32} (h : j ≠ k) : u2 (u2 I a j x) a k y = u2 (u2 I a k y) a j x := by
  simp only [u2, sr_s, sr_sr]
  congr 1
  funext q
  simp only [upd]
  by_cases h1 : q = k
  · subst h1; rw [if_pos rfl, if_neg (fun z => h z.symm), if_pos rfl]
  · rw [if_neg h1, if_neg h1]
theorem psI_go {I : II} {M p q : Nat} {s : Int32} {nm : Nat → Int32} : u2 (psI I M p s nm) M 12 (nI q) = psI I M q s nm := by
  unfold psI
  rw [u2_n (show M ≠ M + 7 by omega), u2_cm (show (16 : Nat) ≠ 12 by decide), u2_u2]
theorem psI_st {I : II} {M p : Nat} {s r : Int32} {nm : Nat → Int32} : u2 (psI I M p s nm) M 16 r = psI I M p r nm := by
  unfold psI
  rw [u2_n (show M ≠ M + 7 by omega), u2_u2]
theorem psI_nm {I : II} {M p k : Nat} {s x : Int32} {nm : Nat → Int32} : u2 (psI I M p s nm) (M + 7) k x = psI I M p s (upd nm k x) := by
  unfold psI
  rw [u2_s]
theorem psI_id {I : II} {M : Nat} : psI I M 0 (I M 16) (I (M + 7)) = u2 I M 12 (nI 0) := by
  unfold psI
  have e : u2 (u2 I M 12 (nI 0)) M 16 (I M 16) = u2 I M 12 (nI 0) := by
    funext a b
    by_cases h1 : a = M
    · subst h1
      by_cases h2 : b = 16
      · subst h2; simp [u2, sr, upd]
      · simp [u2, sr, upd, h2]
    · simp [u2, sr, h1]
  rw [e]
  have e2 : I (M + 7) = u2 I M 12 (nI 0) (M + 7) := (u2_r (by omega)).symm
  rw [e2, sr_id]
/-- what the reference's reader finds of the text -/
def Inp (I : II) (M L : Nat) (c : Nat → Nat) : Prop := I M 11 = nI L ∧ L ≤ 60 ∧ (∀ j, j < L → I (M + 6) j = nI (c j)) ∧ ∀ j, j < L → c j < 128
/-- a digit behind a blank; a number behind a blank -/
def rdD (c : Nat → Nat) (L p : Nat) : Bool × Nat × Nat := if has c L p 32 then (if isd c L (p + 1) then (true, p + 1 + 1, c (p + 1) - 48) else (false, p + 1, 0)) else (false, p, 0)
def rdN (c : Nat → Nat) (L p : Nat) : Bool × Nat × Nat := if (rdD c L p).1 = true then (true, nmv c L 2 (rdD c L p).2.1 (rdD c L p).2.2) else (false, (rdD c L p).2.1, 0)
def updB (nm : Nat → Int32) (k : Nat) (r : Bool × Nat × Nat) : Nat → Int32 := if r.1 = true then upd nm k (nI r.2.2) else nm
theorem nmv_go {c : Nat → Nat} {L f p a : Nat} (h : isd c L p) : nmv c L (f + 1) p a = nmv c L f (p + 1) (10 * a + (c p - 48)) := if_pos h
theorem nmv_st {c : Nat → Nat} {L f p a : Nat} (h : ¬ isd c L p) : nmv c L (f + 1) p a = (p, a) := if_neg h
theorem nmv_le {c : Nat → Nat} {L : Nat} : ∀ (f p a : Nat), p ≤ (nmv c L f p a).1 ∧ (p ≤ L → (nmv c L f p a).1 ≤ L) ∧ (a < 100 → f ≤ 2 → (nmv c L f p a).2 < 100 * 10 ^ f)
  | 0, p, a => ⟨Nat.le_refl _, fun h => h, fun h _ => by rw [Nat.pow_zero]; exact (by omega : a < 100 * 1)⟩
  | f + 1, p, a => by
    by_cases h : isd c L p
    · rw [nmv_go h]
      obtain ⟨h1, h2, h3⟩ := nmv_le (c := c) (L := L) f (p + 1) (10 * a + (c p - 48))
      refine ⟨by omega, fun _ => h2 (by have := h.1; omega), fun ha hf => ?_⟩
      obtain ⟨-, h4, h5⟩ := h
      match f, hf with
      | 0, _ => rw [nmv]; show 10 * a + (c p - 48) < 100 * 10 ^ 1; omega
      | 1, _ =>
        rw [nmv]
        split
        · rename_i h6
          obtain ⟨-, h7, h8⟩ := h6
          rw [nmv]; show 10 * (10 * a + (c p - 48)) + (c (p + 1) - 48) < 100 * 10 ^ 2; omega
        · show 10 * a + (c p - 48) < 100 * 10 ^ 2; omega
    · rw [nmv_st h]
      exact ⟨Nat.le_refl _, fun h => h, fun ha hf => by
        have : 1 ≤ 10 ^ (f + 1) := Nat.pow_pos (by decide)
        show a < _
        omega⟩

theorem psI_pos {I : II} {M p x L : Nat} {c : Nat → Nat} {s : Int32} {nm : Nat → Int32} (h : has c L p x) : psI I M (if has c L p x then p + 1 else p) s nm = psI I M (p + 1) s nm := by rw [if_pos h]
theorem psI_neg {I : II} {M p x L : Nat} {c : Nat → Nat} {s : Int32} {nm : Nat → Int32} (h : ¬ has c L p x) : psI I M (if has c L p x then p + 1 else p) s nm = psI I M p s nm := by rw [if_neg h]
theorem psI_ok {I : II} {M k : Nat} {r : Bool × Nat × Nat} {s : Int32} {nm : Nat → Int32} (h : r.1 = true) : psI I M r.2.1 s (updB nm k r) = psI I M r.2.1 s (upd nm k (nI r.2.2)) := by rw [updB, if_pos h]
theorem rdD_le {c : Nat → Nat} {L p : Nat} (h : (rdD c L p).1 = true) : (rdD c L p).2.1 ≤ L := by
  unfold rdD at *
  split at h
  · rename_i h1
    split at h
    · rename_i h2
      rw [if_pos h1, if_pos h2]
      have := h2.1
      show p + 1 + 1 ≤ L
      omega
    · exact absurd h Bool.false_ne_true
  · exact absurd h Bool.false_ne_true
theorem rdN_le {c : Nat → Nat} {L p : Nat} (h : (rdN c L p).1 = true) : (rdN c L p).2.1 ≤ L := by
  unfold rdN at *
  split at h
  · rename_i h1
    rw [if_pos h1]
    exact (nmv_le 2 _ _).2.1 (rdD_le h1)
  · exact absurd h Bool.false_ne_true
def rdX (c : Nat → Nat) (L m q : Nat) : Bool × Nat × Nat := if m = 1 then rdD c L q else rdN c L q
def arR (c : Nat → Nat) (L : Nat) : List Nat → Nat → Bool × Nat × List Nat
  | [], q => (true, q, [])
  | m :: t, q => if (rdX c L m q).1 = true then ((arR c L t (rdX c L m q).2.1).1, (arR c L t (rdX c L m q).2.1).2.1, (rdX c L m q).2.2 :: (arR c L t (rdX c L m q).2.1).2.2) else (false, (rdX c L m q).2.1, [])
theorem rdX_no {c : Nat → Nat} {L m q : Nat} (h : ¬ has c L q 32) : rdX c L m q = (false, q, 0) := by
  have h1 : rdD c L q = (false, q, 0) := by rw [rdD, if_neg h]
  unfold rdX
  split
  · exact h1
  · rw [rdN, h1]; rfl
theorem rdX_d {c : Nat → Nat} {L m q : Nat} (h : has c L q 32) (hm : m = 1 ∨ m = 3) (hd : isd c L (q + 1)) : rdX c L m q = (true, nmv c L m (q + 1) 0) ∧ (nmv c L m (q + 1) 0).1 ≠ q + 1 := by
  have h1 : rdD c L q = (true, q + 1 + 1, c (q + 1) - 48) := by rw [rdD, if_pos h, if_pos hd]
  have e : ∀ f, nmv c L (f + 1) (q + 1) 0 = nmv c L f (q + 1 + 1) (c (q + 1) - 48) := fun f => by rw [nmv_go hd, Nat.mul_zero, Nat.zero_add]
  have h2 : ∀ f, (nmv c L f (q + 1 + 1) (c (q + 1) - 48)).1 ≠ q + 1 := fun f z => by
    have := (nmv_le (c := c) (L := L) f (q + 1 + 1) (c (q + 1) - 48)).1
    omega
  rcases hm with rfl | rfl
  · refine ⟨?_, by rw [e 0]; exact h2 0⟩
    rw [rdX, if_pos rfl, h1, e 0]; rfl
  · refine ⟨?_, by rw [e 2]; exact h2 2⟩
    rw [rdX, if_neg (by decide), rdN, h1, e 2]; rfl
theorem rdX_nd {c : Nat → Nat} {L m q : Nat} (h : has c L q 32) (hm : m = 1 ∨ m = 3) (hd : ¬ isd c L (q + 1)) : rdX c L m q = (false, q + 1, 0) ∧ (nmv c L m (q + 1) 0).1 = q + 1 := by
  have h1 : rdD c L q = (false, q + 1, 0) := by rw [rdD, if_pos h, if_neg hd]
  have e : ∀ f, nmv c L (f + 1) (q + 1) 0 = (q + 1, 0) := fun f => nmv_st hd
  rcases hm with rfl | rfl
  · refine ⟨?_, by rw [e 0]⟩
    rw [rdX, if_pos rfl, h1]
  · refine ⟨?_, by rw [e 2]⟩
    rw [rdX, if_neg (by decide), rdN, h1]; rfl
theorem arR_agv {c : Nat → Nat} {L : Nat} : ∀ (t : List Nat) (m q : Nat), (∀ x ∈ m :: t, x = 1 ∨ x = 3) → has c L q 32 → (arR c L (m :: t) q).1 = (agv c L (m :: t) (q + 1)).1 ∧ (arR c L (m :: t) q).2.1 = (agv c L (m :: t) (q + 1)).2.1 ∧ ((arR c L (m :: t) q).1 = true → (arR c L (m :: t) q).2.2 = (agv c L (m :: t) (q + 1)).2.2) := by
  intro t
  induction t with
  | nil =>
    intro m q hm h
    by_cases hd : isd c L (q + 1)
    · obtain ⟨h1, h2⟩ := rdX_d h (hm m (List.mem_cons_self)) hd
      simp only [arR, agv, h1, if_neg h2, if_true]
      exact ⟨trivial, trivial, fun _ => trivial⟩
    · obtain ⟨h1, h2⟩ := rdX_nd h (hm m (List.mem_cons_self)) hd
      simp only [arR, agv, h1, if_pos h2]
      exact ⟨rfl, rfl, fun _ => rfl⟩
  | cons x t ih =>
    intro m q hm h
    by_cases hd : isd c L (q + 1)
    · obtain ⟨h1, h2⟩ := rdX_d h (hm m (List.mem_cons_self)) hd
      rw [arR, agv, h1, if_neg h2, if_pos rfl, if_neg (List.cons_ne_nil x t)]
      by_cases h3 : has c L (nmv c L m (q + 1) 0).1 32
      · rw [if_pos h3]
        obtain ⟨a1, a2, a3⟩ := ih x _ (fun y hy => hm y (List.mem_cons_of_mem _ hy)) h3
        exact ⟨a1, a2, fun z => congrArg (List.cons _) (a3 z)⟩
      · have e : arR c L (x :: t) (nmv c L m (q + 1) 0).1 = (false, (nmv c L m (q + 1) 0).1, []) := by rw [arR, rdX_no h3]; rfl
        rw [if_neg h3]
        dsimp only
        rw [e]
        exact ⟨rfl, rfl, fun z => absurd z Bool.false_ne_true⟩
    · obtain ⟨h1, h2⟩ := rdX_nd h (hm m (List.mem_cons_self)) hd
      simp only [arR, agv, h1, if_pos h2]
      exact ⟨rfl, rfl, fun _ => rfl⟩
/-- the word i stands at p up to the blank at q -/
def CmA (c : Nat → Nat) (L p i q : Nat) : Prop := (cmV c L p).1 = (arR c L (shL i) q).1 ∧ (cmV c L p).2.1 = (arR c L (shL i) q).2.1 ∧ ((arR c L (shL i) q).1 = true → (cmV c L p).2.2 = (i, (arR c L (shL i) q).2.2))
theorem cm_of {c : Nat → Nat} {L p i q m : Nat} {t : List Nat} (hsh : shL i = m :: t) (hm : ∀ x ∈ m :: t, x = 1 ∨ x = 3) (hq : p + (kwL i).length = q + 1) (hv : has c L q 32 → vbv c L p 9 0 = some i) (hn : ¬ has c L q 32 → vbv c L p 9 0 = none ∧ p + fur c L p 9 0 0 = q) : CmA c L p i q := by
  unfold CmA
  by_cases h : has c L q 32
  · obtain ⟨a1, a2, a3⟩ := arR_agv t m q hm h
    have e : cmV c L p = ((agv c L (shL i) (p + (kwL i).length)).1, (agv c L (shL i) (p + (kwL i).length)).2.1, i, (agv c L (shL i) (p + (kwL i).length)).2.2) := by rw [cmV, hv h]
    rw [e, hq, hsh]
    exact ⟨a1.symm, a2.symm, fun z => congrArg (Prod.mk i) (a3 z).symm⟩
  · obtain ⟨h1, h2⟩ := hn h
    have e : cmV c L p = (false, q, 9, []) := by rw [cmV, h1, ← h2]
    have e2 : arR c L (shL i) q = (false, q, []) := by rw [hsh, arR, rdX_no h]; rfl
    rw [e, e2]
    exact ⟨rfl, rfl, fun z => absurd z Bool.false_ne_true⟩
def PC (I : II) (M : Nat) (X : va_W) (T : TT) (c : Nat → Nat) (L p : Nat) : PhiT := fun r X' T' I' => r = some (.int (bI ((cmV c L p).1 = true))) ∧ X' = X ∧ T' = T ∧ ∃ (s : Int32) (nm : Nat → Int32), I' = psI I M (cmV c L p).2.1 s nm ∧ ((cmV c L p).1 = true → s = nI (srt (cmV c L p).2.2.1) ∧ ∀ k, k < (cmV c L p).2.2.2.length → nm k = nI ((cmV c L p).2.2.2.getD k 0))
def PA (I : II) (M : Nat) (X : va_W) (T : TT) (c : Nat → Nat) (L : Nat) (ms : List Nat) (q k : Nat) (s : Int32) (nm : Nat → Int32) : PhiT := fun r X' T' I' => r = some (.int (bI ((arR c L ms q).1 = true))) ∧ X' = X ∧ T' = T ∧ ∃ nm' : Nat → Int32, I' = psI I M (arR c L ms q).2.1 s nm' ∧ ((arR c L ms q).1 = true → (∀ j, j < k → nm' j = nm j) ∧ ∀ j, j < (arR c L ms q).2.2.length → nm' (k + j) = nI ((arR c L ms q).2.2.getD j 0))
section PCs
variable {I : II} {M : Nat} {X : va_W} {T : TT} {c : Nat → Nat} {L p q k m i : Nat} {t : List Nat} {s : Int32} {nm nm' : Nat → Int32} {r : Option Value} {X' : va_W} {T' : TT} {I' : II}
theorem PA_nil : PA I M X T c L [] q k s nm (some (.int (nI 1))) X T (psI I M q s nm) :=
  ⟨rfl, rfl, rfl, nm, rfl, fun _ => ⟨fun _ _ => rfl, fun j hj => absurd hj (Nat.not_lt_zero j)⟩⟩
theorem PA_no (h : ¬ (rdX c L m q).1 = true) : PA I M X T c L (m :: t) q k s nm (some (.int (nI 0))) X T (psI I M (rdX c L m q).2.1 s nm') := by
  unfold PA
  rw [arR, if_neg h]
  exact ⟨rfl, rfl, rfl, nm', rfl, fun z => absurd z Bool.false_ne_true⟩
theorem PA_go (h : (rdX c L m q).1 = true) (hh : PA I M X T c L t (rdX c L m q).2.1 (k + 1) s (upd nm k (nI (rdX c L m q).2.2)) r X' T' I') : PA I M X T c L (m :: t) q k s nm r X' T' I' := by
  obtain ⟨h1, h2, h3, nm', h4, h5⟩ := hh
  unfold PA
  rw [arR, if_pos h]
  refine ⟨h1, h2, h3, nm', h4, fun z => ?_⟩
  obtain ⟨a1, a2⟩ := h5 z
  refine ⟨fun j hj => (a1 j (by omega)).trans (upd_n (by omega)), fun j hj => ?_⟩
  match j, hj with
  | 0, _ => exact (a1 k (by omega)).trans upd_e
  | j + 1, hj =>
    have h9 := a2 j (by simpa using hj)
    rw [show k + (j + 1) = k + 1 + j by omega, h9]
    rfl
theorem PC_no (h1 : vbv c L p 9 0 = none) (h2 : p + fur c L p 9 0 0 = q) : PC I M X T c L p (some (.int (nI 0))) X T (psI I M q s nm) := by
  have e : cmV c L p = (false, q, 9, []) := by rw [cmV, h1, ← h2]
  unfold PC
  rw [e]
  exact ⟨rfl, rfl, rfl, s, nm, rfl, fun z => absurd z Bool.false_ne_true⟩
theorem PA_PC (hc : CmA c L p i q) (hs : s = nI (srt i)) (h : PA I M X T c L (shL i) q 0 s nm r X' T' I') : PC I M X T c L p r X' T' I' := by
  obtain ⟨h1, h2, h3, nm', h4, h5⟩ := h
  obtain ⟨c1, c2, c3⟩ := hc
  unfold PC
  rw [c1, c2]
  refine ⟨h1, h2, h3, s, nm', h4, fun z => ?_⟩
  rw [c3 z]
  exact ⟨hs, fun k hk => by have h9 := (h5 z).2 k hk; rw [Nat.zero_add] at h9; exact h9⟩
end PCs
theorem mtc_le {c : Nat → Nat} {L : Nat} : ∀ (k : List Nat) (p : Nat), p ≤ L → p + mtc c L k p ≤ L
  | [], p, h => h
  | x :: t, p, h => by
    rw [mtc]
    split
    · rename_i h1
      have := mtc_le (c := c) (L := L) t (p + 1) (by have := h1.1; omega)
      omega
    · exact h
theorem fur_le {c : Nat → Nat} {L p : Nat} (h : p ≤ L) : ∀ (f i a : Nat), p + a ≤ L → p + fur c L p f i a ≤ L
  | 0, _, _, h1 => h1
  | f + 1, i, a, h1 => by
    rw [fur]
    refine fur_le h f (i + 1) _ ?_
    split
    · exact mtc_le _ _ h
    · exact h1
theorem agv_le {c : Nat → Nat} {L : Nat} : ∀ (t : List Nat) (p : Nat), p ≤ L → (agv c L t p).2.1 ≤ L ∧ p ≤ (agv c L t p).2.1
  | [], p, h => ⟨h, Nat.le_refl _⟩
  | m :: t, p, h => by
    obtain ⟨h1, h2, -⟩ := nmv_le (c := c) (L := L) m p 0
    rw [agv]
    split
    · exact ⟨h, Nat.le_refl _⟩
    · split
      · exact ⟨h2 h, h1⟩
      · split
        · rename_i h3
          obtain ⟨a1, a2⟩ := agv_le (c := c) (L := L) t ((nmv c L m p 0).1 + 1) (by have := h3.1; omega)
          exact ⟨a1, by show p ≤ (agv c L t ((nmv c L m p 0).1 + 1)).2.1; omega⟩
        · exact ⟨h2 h, h1⟩
theorem vbv_at {c : Nat → Nat} {L p : Nat} : ∀ (f i j : Nat), vbv c L p f i = some j → mtc c L (kwL j) p = (kwL j).length ∧ i ≤ j ∧ j < i + f
  | 0, _, _, h => by exact absurd h (by simp [vbv])
  | f + 1, i, j, h => by
    rw [vbv] at h
    split at h
    · rename_i h1
      obtain rfl : i = j := Option.some.inj h
      exact ⟨h1, by omega, by omega⟩
    · obtain ⟨a1, a2, a3⟩ := vbv_at f (i + 1) j h
      exact ⟨a1, by omega, by omega⟩
theorem kwL_len {i : Nat} (h : i < 9) : 1 ≤ (kwL i).length := by
  match i, h with
  | 0, _ => decide
  | 1, _ => decide
  | 2, _ => decide
  | 3, _ => decide
  | 4, _ => decide
  | 5, _ => decide
  | 6, _ => decide
  | 7, _ => decide
  | 8, _ => decide
theorem cmV_le {c : Nat → Nat} {L p : Nat} (h : p ≤ L) : (cmV c L p).2.1 ≤ L ∧ ((cmV c L p).1 = true → p < (cmV c L p).2.1 ∧ (cmV c L p).2.2.1 < 9) := by
  cases hv : vbv c L p 9 0 with
  | none =>
    have e : cmV c L p = (false, p + fur c L p 9 0 0, 9, []) := by rw [cmV, hv]
    rw [e]
    exact ⟨fur_le h 9 0 0 h, fun z => absurd z Bool.false_ne_true⟩
  | some i =>
    have e : cmV c L p = ((agv c L (shL i) (p + (kwL i).length)).1, (agv c L (shL i) (p + (kwL i).length)).2.1, i, (agv c L (shL i) (p + (kwL i).length)).2.2) := by rw [cmV, hv]
    obtain ⟨a1, -, a2⟩ := vbv_at 9 0 i hv
    have h1 := mtc_le (c := c) (kwL i) p h
    rw [a1] at h1
    obtain ⟨b1, b2⟩ := agv_le (c := c) (shL i) (p + (kwL i).length) h1
    have h9 := kwL_len (i := i) (by omega)
    rw [e]
    exact ⟨b1, fun _ => ⟨by show p < (agv c L (shL i) (p + (kwL i).length)).2.1; omega, by show i < 9; omega⟩⟩
theorem cm_0 {c : Nat → Nat} {L p : Nat} (e0 : has c L p 98) (e1 : has c L (p + 1) 111) (e2 : has c L (p + 1 + 1) 114) (e3 : has c L (p + 1 + 1 + 1) 114) (e4 : has c L (p + 1 + 1 + 1 + 1) 111) (e5 : has c L (p + 1 + 1 + 1 + 1 + 1) 119) (e6 : has c L (p + 1 + 1 + 1 + 1 + 1 + 1) 101) (e7 : has c L (p + 1 + 1 + 1 + 1 + 1 + 1 + 1) 114) : CmA c L p 0 (p + 1 + 1 + 1 + 1 + 1 + 1 + 1 + 1) :=
  cm_of (m := 3) (t := []) rfl (by decide) rfl (fun h => by have h1 := h.1; have h2 := h.2; simp [vbv, kwL, mtc, has, e0.1, e0.2, e1.1, e1.2, e2.1, e2.2, e3.1, e3.2, e4.1, e4.2, e5.1, e5.2, e6.1, e6.2, e7.1, e7.2, h1, h2]) (fun h => ⟨by simp only [vbv, kwL, mtc, List.length_cons, List.length_nil, has, e0.1, e0.2, e1.1, e1.2, e2.1, e2.2, e3.1, e3.2, e4.1, e4.2, e5.1, e5.2, e6.1, e6.2, e7.1, e7.2, h]; simp, by rw [show fur c L p 9 0 0 = 8 from by simp only [fur, vbv, kwL, mtc, List.length_cons, List.length_nil, has, e0.1, e0.2, e1.1, e1.2, e2.1, e2.2, e3.1, e3.2, e4.1, e4.2, e5.1, e5.2, e6.1, e6.2, e7.1, e7.2, h]; simp]⟩)
theorem cm_1 {c : Nat → Nat} {L p : Nat} (e0 : has c L p 98) (e1 : has c L (p + 1) 114) (e2 : has c L (p + 1 + 1) 105) (e3 : has c L (p + 1 + 1 + 1) 110) (e4 : has c L (p + 1 + 1 + 1 + 1) 103) : CmA c L p 1 (p + 1 + 1 + 1 + 1 + 1) :=
  cm_of (m := 1) (t := [1, 3]) rfl (by decide) rfl (fun h => by have h1 := h.1; have h2 := h.2; simp [vbv, kwL, mtc, has, e0.1, e0.2, e1.1, e1.2, e2.1, e2.2, e3.1, e3.2, e4.1, e4.2, h1, h2]) (fun h => ⟨by simp only [vbv, kwL, mtc, List.length_cons, List.length_nil, has, e0.1, e0.2, e1.1, e1.2, e2.1, e2.2, e3.1, e3.2, e4.1, e4.2, h]; simp, by rw [show fur c L p 9 0 0 = 5 from by simp only [fur, vbv, kwL, mtc, List.length_cons, List.length_nil, has, e0.1, e0.2, e1.1, e1.2, e2.1, e2.2, e3.1, e3.2, e4.1, e4.2, h]; simp]⟩)
theorem cm_2 {c : Nat → Nat} {L p : Nat} (e0 : has c L p 112) (e1 : has c L (p + 1) 114) (e2 : has c L (p + 1 + 1) 105) (e3 : has c L (p + 1 + 1 + 1) 99) (e4 : has c L (p + 1 + 1 + 1 + 1) 101) : CmA c L p 2 (p + 1 + 1 + 1 + 1 + 1) :=
  cm_of (m := 1) (t := [3]) rfl (by decide) rfl (fun h => by have h1 := h.1; have h2 := h.2; simp [vbv, kwL, mtc, has, e0.1, e0.2, e1.1, e1.2, e2.1, e2.2, e3.1, e3.2, e4.1, e4.2, h1, h2]) (fun h => ⟨by simp only [vbv, kwL, mtc, List.length_cons, List.length_nil, has, e0.1, e0.2, e1.1, e1.2, e2.1, e2.2, e3.1, e3.2, e4.1, e4.2, h]; simp, by rw [show fur c L p 9 0 0 = 5 from by simp only [fur, vbv, kwL, mtc, List.length_cons, List.length_nil, has, e0.1, e0.2, e1.1, e1.2, e2.1, e2.2, e3.1, e3.2, e4.1, e4.2, h]; simp]⟩)
theorem cm_3 {c : Nat → Nat} {L p : Nat} (e0 : has c L p 108) (e1 : has c L (p + 1) 101) (e2 : has c L (p + 1 + 1) 110) (e3 : has c L (p + 1 + 1 + 1) 100) : CmA c L p 3 (p + 1 + 1 + 1 + 1) :=
  cm_of (m := 1) (t := [1, 3, 3, 3]) rfl (by decide) rfl (fun h => by have h1 := h.1; have h2 := h.2; simp [vbv, kwL, mtc, has, e0.1, e0.2, e1.1, e1.2, e2.1, e2.2, e3.1, e3.2, h1, h2]) (fun h => ⟨by simp only [vbv, kwL, mtc, List.length_cons, List.length_nil, has, e0.1, e0.2, e1.1, e1.2, e2.1, e2.2, e3.1, e3.2, h]; simp, by rw [show fur c L p 9 0 0 = 4 from by simp only [fur, vbv, kwL, mtc, List.length_cons, List.length_nil, has, e0.1, e0.2, e1.1, e1.2, e2.1, e2.2, e3.1, e3.2, h]; simp]⟩)
theorem cm_4 {c : Nat → Nat} {L p : Nat} (e0 : has c L p 112) (e1 : has c L (p + 1) 108) (e2 : has c L (p + 1 + 1) 101) (e3 : has c L (p + 1 + 1 + 1) 100) (e4 : has c L (p + 1 + 1 + 1 + 1) 103) (e5 : has c L (p + 1 + 1 + 1 + 1 + 1) 101) : CmA c L p 4 (p + 1 + 1 + 1 + 1 + 1 + 1) :=
  cm_of (m := 3) (t := [1, 3]) rfl (by decide) rfl (fun h => by have h1 := h.1; have h2 := h.2; simp [vbv, kwL, mtc, has, e0.1, e0.2, e1.1, e1.2, e2.1, e2.2, e3.1, e3.2, e4.1, e4.2, e5.1, e5.2, h1, h2]) (fun h => ⟨by simp only [vbv, kwL, mtc, List.length_cons, List.length_nil, has, e0.1, e0.2, e1.1, e1.2, e2.1, e2.2, e3.1, e3.2, e4.1, e4.2, e5.1, e5.2, h]; simp, by rw [show fur c L p 9 0 0 = 6 from by simp only [fur, vbv, kwL, mtc, List.length_cons, List.length_nil, has, e0.1, e0.2, e1.1, e1.2, e2.1, e2.2, e3.1, e3.2, e4.1, e4.2, e5.1, e5.2, h]; simp]⟩)
theorem cm_5 {c : Nat → Nat} {L p : Nat} (e0 : has c L p 114) (e1 : has c L (p + 1) 101) (e2 : has c L (p + 1 + 1) 108) (e3 : has c L (p + 1 + 1 + 1) 101) (e4 : has c L (p + 1 + 1 + 1 + 1) 97) (e5 : has c L (p + 1 + 1 + 1 + 1 + 1) 115) (e6 : has c L (p + 1 + 1 + 1 + 1 + 1 + 1) 101) : CmA c L p 5 (p + 1 + 1 + 1 + 1 + 1 + 1 + 1) :=
  cm_of (m := 3) (t := [1, 3]) rfl (by decide) rfl (fun h => by have h1 := h.1; have h2 := h.2; simp [vbv, kwL, mtc, has, e0.1, e0.2, e1.1, e1.2, e2.1, e2.2, e3.1, e3.2, e4.1, e4.2, e5.1, e5.2, e6.1, e6.2, h1, h2]) (fun h => ⟨by simp only [vbv, kwL, mtc, List.length_cons, List.length_nil, has, e0.1, e0.2, e1.1, e1.2, e2.1, e2.2, e3.1, e3.2, e4.1, e4.2, e5.1, e5.2, e6.1, e6.2, h]; simp, by rw [show fur c L p 9 0 0 = 7 from by simp only [fur, vbv, kwL, mtc, List.length_cons, List.length_nil, has, e0.1, e0.2, e1.1, e1.2, e2.1, e2.2, e3.1, e3.2, e4.1, e4.2, e5.1, e5.2, e6.1, e6.2, h]; simp]⟩)
theorem cm_6 {c : Nat → Nat} {L p : Nat} (e0 : has c L p 114) (e1 : has c L (p + 1) 101) (e2 : has c L (p + 1 + 1) 112) (e3 : has c L (p + 1 + 1 + 1) 97) (e4 : has c L (p + 1 + 1 + 1 + 1) 121) : CmA c L p 6 (p + 1 + 1 + 1 + 1 + 1) :=
  cm_of (m := 3) (t := [3]) rfl (by decide) rfl (fun h => by have h1 := h.1; have h2 := h.2; simp [vbv, kwL, mtc, has, e0.1, e0.2, e1.1, e1.2, e2.1, e2.2, e3.1, e3.2, e4.1, e4.2, h1, h2]) (fun h => ⟨by simp only [vbv, kwL, mtc, List.length_cons, List.length_nil, has, e0.1, e0.2, e1.1, e1.2, e2.1, e2.2, e3.1, e3.2, e4.1, e4.2, h]; simp, by rw [show fur c L p 9 0 0 = 5 from by simp only [fur, vbv, kwL, mtc, List.length_cons, List.length_nil, has, e0.1, e0.2, e1.1, e1.2, e2.1, e2.2, e3.1, e3.2, e4.1, e4.2, h]; simp]⟩)
theorem cm_7 {c : Nat → Nat} {L p : Nat} (e0 : has c L p 98) (e1 : has c L (p + 1) 117) (e2 : has c L (p + 1 + 1) 121) : CmA c L p 7 (p + 1 + 1 + 1) :=
  cm_of (m := 1) (t := [1, 3]) rfl (by decide) rfl (fun h => by have h1 := h.1; have h2 := h.2; simp [vbv, kwL, mtc, has, e0.1, e0.2, e1.1, e1.2, e2.1, e2.2, h1, h2]) (fun h => ⟨by simp only [vbv, kwL, mtc, List.length_cons, List.length_nil, has, e0.1, e0.2, e1.1, e1.2, e2.1, e2.2, h]; simp, by rw [show fur c L p 9 0 0 = 3 from by simp only [fur, vbv, kwL, mtc, List.length_cons, List.length_nil, has, e0.1, e0.2, e1.1, e1.2, e2.1, e2.2, h]; simp]⟩)
theorem cm_8 {c : Nat → Nat} {L p : Nat} (e0 : has c L p 100) (e1 : has c L (p + 1) 97) (e2 : has c L (p + 1 + 1) 121) (e3 : has c L (p + 1 + 1 + 1) 115) : CmA c L p 8 (p + 1 + 1 + 1 + 1) :=
  cm_of (m := 3) (t := []) rfl (by decide) rfl (fun h => by have h1 := h.1; have h2 := h.2; simp [vbv, kwL, mtc, has, e0.1, e0.2, e1.1, e1.2, e2.1, e2.2, e3.1, e3.2, h1, h2]) (fun h => ⟨by simp only [vbv, kwL, mtc, List.length_cons, List.length_nil, has, e0.1, e0.2, e1.1, e1.2, e2.1, e2.2, e3.1, e3.2, h]; simp, by rw [show fur c L p 9 0 0 = 4 from by simp only [fur, vbv, kwL, mtc, List.length_cons, List.length_nil, has, e0.1, e0.2, e1.1, e1.2, e2.1, e2.2, e3.1, e3.2, h]; simp]⟩)
