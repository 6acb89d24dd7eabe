/-! Booleans; a row of the store in view. -/
def bI (p : Prop) [Decidable p] : Int32 := if p then nI 1 else nI 0
theorem bI_t {p : Prop} [Decidable p] (h : p) : bI p = nI 1 := if_pos h
theorem bI_f {p : Prop} [Decidable p] (h : ¬ p) : bI p = nI 0 := if_neg h
theorem bI_0 {p : Prop} [Decidable p] : bI p = 0 ↔ ¬ p := by
  by_cases h : p
  · rw [bI_t h]; exact ⟨fun z => absurd z (by decide), fun z => absurd h z⟩
  · rw [bI_f h]; exact ⟨fun _ => h, fun _ => rfl⟩
theorem bI_c {p q : Prop} [Decidable p] [Decidable q] (h : p ↔ q) : bI p = bI q := by
  by_cases hp : p
  · rw [bI_t hp, bI_t (h.mp hp)]
  · rw [bI_f hp, bI_f (fun z => hp (h.mpr z))]
theorem bI_n {p : Prop} [Decidable p] : narrow .boolean (.int (bI p)) = .int (bI p) := by
  by_cases h : p
  · rw [bI_t h]; rfl
  · rw [bI_f h]; rfl
def nr : Nat → Option Nat := fun _ => none
section G5
variable {g : GG} {k : KK} {nL : Nat} {cc : ByteArray} {own : String} {rt : Option FieldType} {D mc ms : Nat} {Q : State → Prop} {cells slots pc : Nat} {lo : List (Nat × Value)} {st : List Value} {X : va_W} {T : TT} {I : II}
theorem r_ifeqB (C : Cx g k nL cc own rt D mc ms) {p : Prop} [Decidable p] {off : Int} {tgt : Nat} (d : decode cc pc = .ok (.ifCond .eq off, 3)) (ht : (pc : Int) + off = (tgt : Int)) (kt : ¬ p → Go g k nL Q cells slots tgt lo st X T I) (kf : p → Go g k nL Q cells slots (pc + 3) lo st X T I) : Go g k nL Q cells slots pc lo (.int (bI p) :: st) X T I :=
  r_ifeq C d ht (fun c => kt (bI_0.mp c)) (fun c => kf (Decidable.not_not.mp fun z => c (bI_0.mpr z)))
theorem r_ifneB (C : Cx g k nL cc own rt D mc ms) {p : Prop} [Decidable p] {off : Int} {tgt : Nat} (d : decode cc pc = .ok (.ifCond .ne off, 3)) (ht : (pc : Int) + off = (tgt : Int)) (kt : p → Go g k nL Q cells slots tgt lo st X T I) (kf : ¬ p → Go g k nL Q cells slots (pc + 3) lo st X T I) : Go g k nL Q cells slots pc lo (.int (bI p) :: st) X T I :=
  r_ifne C d ht (fun c => kt (Decidable.not_not.mp fun z => c (bI_0.mpr z))) (fun c => kf (bI_0.mp c))
theorem r_idec (C : Cx g k nL cc own rt D mc ms) {i : Nat} {n : Int} {x : Nat} {lo' : List (Nat × Value)} (q : Nat) (d : decode cc pc = .ok (.iinc i n, 3)) (hk : lo[q]? = some (i, .int (nI x))) (hm : Int32.ofInt n = -1) (h0 : 0 < x) (hn : i < nL) (hl : sl lo i (.int (nI (x - 1))) = lo') (kk : Go g k nL Q cells slots (pc + 3) lo' st X T I) : Go g k nL Q cells slots pc lo st X T I :=
  r_iinc C q d hk (by obtain ⟨y, rfl⟩ : ∃ y, x = y + 1 := ⟨x - 1, by omega⟩; rw [hm, pk_m1]; rfl) hn hl kk
/-- a place of the row in view -/
theorem r_wld {a n x : Nat} {rf : Nat → Option Nat} {i : Int32} {w : Nat → Int32} (C : Cx g k nL cc own rt D mc ms) (hT : T a = (2, n, rf)) (hi : i = nI x) (hx : x < n) (hn : n < 2 ^ 31) (d : decode cc pc = .ok (.iaload, 1)) (kk : Go g k nL Q cells slots (pc + 1) lo (.int (w x) :: st) X T (sr I a w)) : Go g k nL Q cells slots pc lo (.int i :: .ref a :: st) X T (sr I a w) :=
  r_iald C hT hi hx hn d (by rw [sr_s]; exact kk)
theorem u2_s {a j : Nat} {v : Int32} {w : Nat → Int32} : u2 (sr I a w) a j v = sr I a (upd w j v) := by
  simp only [u2, sr_s, sr_sr]
theorem u2_n {a b j : Nat} {v : Int32} {w : Nat → Int32} (h : a ≠ b) : u2 (sr I b w) a j v = sr (u2 I a j v) b w := by
  simp only [u2, sr_n h]
  rw [sr_cm h]
theorem r_wst {a n x : Nat} {rf : Nat → Option Nat} {i v : Int32} {w : Nat → Int32} (C : Cx g k nL cc own rt D mc ms) (hT : T a = (2, n, rf)) (hi : i = nI x) (hx : x < n) (hn : n < 2 ^ 31) (d : decode cc pc = .ok (.iastore, 1)) (kk : Go g k nL Q cells slots (pc + 1) lo st X T (sr I a (upd w x v))) : Go g k nL Q cells slots pc lo (.int v :: .int i :: .ref a :: st) X T (sr I a w) :=
  r_iast C hT hi hx hn d (by rw [u2_s]; exact kk)
theorem r_wget {b idx ci j a : Nat} {rf : Nat → Option Nat} {ty : FieldType} {fin : Bool} {w : Nat → Int32} (hab : a ≠ b) (C : Cx g k nL cc own rt D mc ms) (F : Fld own idx ci j ty fin) (hT : T a = (1, ci, rf)) (hs : (shp ci)[j]? = some true) (d : decode cc pc = .ok (.getfield idx, 3)) (kk : Go g k nL Q cells slots (pc + 3) lo (.int (I a j) :: st) X T (sr I b w)) : Go g k nL Q cells slots pc lo (.ref a :: st) X T (sr I b w) :=
  r_getI C F hT hs d (by rw [sr_n hab]; exact kk)
theorem r_wput {b idx ci j a : Nat} {rf : Nat → Option Nat} {ty : FieldType} {v : Int32} {w : Nat → Int32} (hab : a ≠ b) (C : Cx g k nL cc own rt D mc ms) (F : Fld own idx ci j ty false) (hT : T a = (1, ci, rf)) (hs : (shp ci)[j]? = some true) (hn : narrow ty (.int v) = .int v) (hf : fits ty (.int v) = true) (d : decode cc pc = .ok (.putfield idx, 3)) (kk : Go g k nL Q cells slots (pc + 3) lo st X T (sr (u2 I a j v) b w)) : Go g k nL Q cells slots pc lo (.int v :: .ref a :: st) X T (sr I b w) :=
  r_putI C F hT hs hn hf d (by rw [u2_n hab]; exact kk)
end G5
/-- the reference's object, its arrays behind it -/
def rfM (M : Nat) : Nat → Option Nat := fun k => match k with
  | 1 => some (M + 1)
  | 2 => some (M + 2)
  | 3 => some (M + 3)
  | 4 => some (M + 4)
  | 8 => some (M + 5)
  | 10 => some (M + 6)
  | 15 => some (M + 7)
  | _ => none
def isMd (T : TT) (M : Nat) : Prop := T M = (1, 11, rfM M) ∧ T (M + 1) = (2, 218, nr) ∧ T (M + 2) = (2, 1744, nr) ∧ T (M + 3) = (2, 218, nr) ∧ T (M + 4) = (2, 218, nr) ∧ T (M + 5) = (3, 100, nr) ∧ T (M + 6) = (3, 60, nr) ∧ T (M + 7) = (2, 5, nr)
/-- the first of n places from k on where p holds, or their end -/
def fnd (p : Nat → Bool) : Nat → Nat → Nat
  | 0, k => k
  | n + 1, k => if p k then k else fnd p n (k + 1)
/-- a sum as a loop makes it -/
def sm (f : Nat → Int32) : Nat → Nat → Int32 → Int32
  | 0, _, a => a
  | n + 1, k, a => sm f n (k + 1) (a + f k)
def debtV (w : Nat → Int32) (s : Nat) : Int32 := w (58 + 10 * s + 2) + w (58 + 10 * s + 3)
def val4 (u p : Nat → Int32) : Int32 := nI 0 + u 0 * p 0 + u 1 * p 1 + u 2 * p 2 + u 3 * p 3
def valV (w : Nat → Int32) (s : Nat) : Int32 := val4 (fun k => w (58 + 10 * s + (6 + k))) (fun k => w (10 + k))
/-- r is the place of the loan with this id, or -1 -/
def atS (w : Nat → Int32) (N : Nat) (id r : Int32) : Prop := (∃ j, j < N ∧ w (58 + 10 * j + 0) = id ∧ (∀ i, i < j → w (58 + 10 * i + 0) ≠ id) ∧ r = nI j) ∨ ((∀ i, i < N → w (58 + 10 * i + 0) ≠ id) ∧ r = -1)
