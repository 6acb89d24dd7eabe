/-! What a run of calls has made of a desk, on either side. -/
abbrev AS : Type := (Nat → Int32) × List (Nat → Int32) × Option (Nat → Int32) × List Nat × List Nat × Option Nat × Option Nat
abbrev AS.w (s : AS) : Nat → Int32 := s.1
abbrev AS.us (s : AS) : List (Nat → Int32) := s.2.1
abbrev AS.sv (s : AS) : Option (Nat → Int32) := s.2.2.1
abbrev AS.ln (s : AS) : List Nat := s.2.2.2.1
abbrev AS.bf (s : AS) : List Nat := s.2.2.2.2.1
abbrev AS.ea (s : AS) : Option Nat := s.2.2.2.2.2.1
abbrev AS.fa (s : AS) : Option Nat := s.2.2.2.2.2.2
def oI (o : Option Nat) : Int32 := match o with
  | none => -1
  | some e => nI e
def Gx (w : Nat → Int32) (D U : Nat) : Prop := ∃ B N E, Gd w B N E D U ∧ Sd w N
/-- a desk at b that holds the row w -/
def DkH (I : II) (b : Nat) (w : Nat → Int32) : Prop := ∃ pm, DV I b w (bB w) (nN w) (eE w) pm
theorem DkH.of {I : II} {b : Nat} {w : Nat → Int32} {B N E D U : Nat} {pm : Nat → Nat} (h : DV I b w B N E pm) (hG : Gd w B N E D U) : DkH I b w := by
  obtain ⟨e1, e2, e3⟩ := gd_cts hG
  exact ⟨pm, by rw [e1, e2, e3]; exact h⟩
theorem DkH.dv {I : II} {b : Nat} {w : Nat → Int32} {B N E D U : Nat} (h : DkH I b w) (hG : Gd w B N E D U) : ∃ pm, DV I b w B N E pm := by
  obtain ⟨pm, h⟩ := h
  obtain ⟨e1, e2, e3⟩ := gd_cts hG
  rw [e1, e2, e3] at h
  exact ⟨pm, h⟩
theorem DkH.mv {I0 I : II} {b : Nat} {w : Nat → Int32} (h : DkH I0 b w) (e : ∀ x, b ≤ x ∧ x < b + 42 → I x = I0 x) : DkH I b w := by
  obtain ⟨pm, h⟩ := h
  exact ⟨pm, h.mv e⟩
/-- the class's object at x has come to s; the line is told apart -/
def CSt (I : II) (x : Nat) (s : AS) (D U : Nat) : Prop :=
  DkH I (x + 1) s.w ∧ Gx s.w D U ∧ (∃ p, PmOk I (x + 43) p) ∧ (∃ p, PmOk I (x + 85) p) ∧ (∃ p, PmOk I (x + 127) p) ∧ (∀ i, i < 8 → ∃ p, PmOk I (x + 169 + 2 + 42 * i) p) ∧
  (∃ n, n < 8 ∧ I (x + 169) 1 = nI n ∧ I (x + 169) 0 = nI s.us.length ∧ s.us.length ≤ 8 ∧ ∀ k u, s.us[k]? = some u → DkH I (x + 169 + 2 + 42 * ((n + 7 - k) % 8)) u ∧ Gx u D U) ∧
  ((s.sv = none ∧ I x 9 = nI 0) ∨ ∃ v, s.sv = some v ∧ I x 9 = nI 1 ∧ DkH I (x + 127) v ∧ Gx v D U) ∧
  (∃ v, v < 9 ∧ I (x + 507) 1 = nI v) ∧
  (I x 8 = nI s.bf.length ∧ s.bf.length ≤ 60 ∧ (∀ j, j < s.bf.length → I (x + 510) j = nI (s.bf.getD j 0)) ∧ ∀ j, j < s.bf.length → s.bf.getD j 0 < 128) ∧
  I x 10 = oI s.ea ∧ I x 11 = oI s.fa ∧ (∀ e, s.ea = some e → e ≤ 60) ∧ ∀ e, s.fa = some e → e ≤ 61
/-- a row has nothing behind its 218 places -/
def Rz (w : Nat → Int32) : Prop := ∀ j, 218 ≤ j → w j = 0
/-- the reference's object at M has come to s -/
def RSt (I : II) (M : Nat) (s : AS) : Prop :=
  I (M + 1) = s.w ∧ Rz s.w ∧
  (∃ f, f < 8 ∧ I M 6 = nI f ∧ I M 5 = nI s.us.length ∧ s.us.length ≤ 8 ∧ ∀ k u, s.us[k]? = some u → (∀ j, j < 218 → I (M + 2) (218 * ((f + (s.us.length - 1 - k)) % 8) + j) = u j) ∧ Rz u) ∧
  ((s.sv = none ∧ I M 7 = nI 0) ∨ ∃ v, s.sv = some v ∧ I M 7 = nI 1 ∧ (∀ j, j < 218 → I (M + 3) j = v j) ∧ Rz v) ∧
  (I M 9 = nI s.ln.length ∧ s.ln.length ≤ 100 ∧ (∀ j, j < s.ln.length → I (M + 5) j = nI (s.ln.getD j 0)) ∧ ∀ j, j < s.ln.length → s.ln.getD j 0 < 65536) ∧
  (I M 11 = nI s.bf.length ∧ s.bf.length ≤ 60 ∧ (∀ j, j < s.bf.length → I (M + 6) j = nI (s.bf.getD j 0)) ∧ ∀ j, j < s.bf.length → s.bf.getD j 0 < 128) ∧
  I M 13 = oI s.ea ∧ I M 14 = oI s.fa
theorem RSt.inp {I : II} {M : Nat} {s : AS} (h : RSt I M s) : Inp I M s.bf.length (fun j => s.bf.getD j 0) := by
  obtain ⟨-, -, -, -, -, ⟨h1, h2, h3, h4⟩, -⟩ := h
  exact ⟨h1, h2, h3, h4⟩
