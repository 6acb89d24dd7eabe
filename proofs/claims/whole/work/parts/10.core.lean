/-! The store: every object and array that the law's run makes, by its address: what kind it is (T), what its int places hold (I). -/
abbrev Kd : Type := Nat × Nat × (Nat → Option Nat)
abbrev GG : Type := va_G × (Nat → ClassId) × Nat × (Nat → Nat)
abbrev II : Type := Nat → Nat → Int32
abbrev TT : Type := Nat → Kd
def gD (g : GG) : va_G := g.1
def gA (g : GG) : Nat → ClassId := g.2.1
def g0 (g : GG) : Nat := g.2.2.1
def ga (g : GG) : Nat → Nat := g.2.2.2
def Ab (g : GG) : Nat → Prop := fun q => g0 g ≤ q
def tysG (g : GG) : List (ClassId × FieldType) := [(gA g 0, .int), (gA g 1, .char), (gA g 2, .byte), (gA g 3, .object "LendingDesk$Borrower"), (gA g 4, .object "LendingDesk$Loan"), (gA g 5, .object "LendingDesk$Desk"), (gA g 6, .long), (gA g 7, .double)]
/-- the places of a class's objects: true an int, false a reference -/
def shp : Nat → List Bool
  | 1 => [false, true, true, true]
  | 4 => [true, true, false]
  | 5 => [true, false, false, false, true]
  | 6 => [true, true, true, true, true, true, true, true, true, true, false, false, false, false, false, false]
  | 7 => [true, true, false]
  | 8 => [true, false, false, false]
  | 9 => [true, true, true, true, true, true, false]
  | 10 => [false, false, false, false, false, false, false, false, true, true, true, true]
  | 11 => [true, false, false, false, false, true, true, true, false, true, false, true, true, true, true, false, true, true]
  | _ => []
def fl (I : Nat → Int32) (rf : Nat → Option Nat) : List Bool → Nat → List Value
  | [], _ => []
  | b :: t, i => (if b then .int (I i) else va_rf (rf i)) :: fl I rf t (i + 1)
theorem fl_len (I : Nat → Int32) (rf : Nat → Option Nat) : ∀ (sh : List Bool) (i : Nat), (fl I rf sh i).length = sh.length
  | [], _ => rfl
  | _ :: t, i => by simp [fl, fl_len I rf t (i + 1)]
theorem fl_get (I : Nat → Int32) (rf : Nat → Option Nat) : ∀ (sh : List Bool) (i k : Nat) (b : Bool), sh[k]? = some b → (fl I rf sh i)[k]? = some (if b then .int (I (i + k)) else va_rf (rf (i + k)))
  | [], _, _, _, h => by simp at h
  | c :: t, i, 0, b, h => by
    simp at h
    subst h
    simp [fl]
  | c :: t, i, k + 1, b, h => by
    have h2 : t[k]? = some b := by simpa using h
    have h3 := fl_get I rf t (i + 1) k b h2
    rw [show i + 1 + k = i + (k + 1) by omega] at h3
    simpa [fl] using h3
theorem fl_set_lt (I : Nat → Int32) (rf : Nat → Option Nat) (j : Nat) (v : Int32) : ∀ (sh : List Bool) (i : Nat), j < i → fl (upd I j v) rf sh i = fl I rf sh i
  | [], _, _ => rfl
  | c :: t, i, h => by
    have h2 := fl_set_lt I rf j v t (i + 1) (by omega)
    have h3 : upd I j v i = I i := by simp [upd]; omega
    simp [fl, h2, h3]
theorem fl_set (I : Nat → Int32) (rf : Nat → Option Nat) (v : Int32) : ∀ (sh : List Bool) (i k : Nat), sh[k]? = some true → (fl I rf sh i).set k (.int v) = fl (upd I (i + k) v) rf sh i
  | [], _, _, h => by simp at h
  | c :: t, i, 0, h => by
    simp at h
    subst h
    simp [fl, fl_set_lt I rf i v t (i + 1) (by omega), upd]
  | c :: t, i, k + 1, h => by
    have h2 : t[k]? = some true := by simpa using h
    have h3 := fl_set I rf v t (i + 1) k h2
    rw [show i + 1 + k = i + (k + 1) by omega] at h3
    have h4 : upd I (i + (k + 1)) v i = I i := by simp [upd]
    simp [fl, h3, h4]
theorem fl_setr_lt (I : Nat → Int32) (rf : Nat → Option Nat) (j : Nat) (v : Option Nat) : ∀ (sh : List Bool) (i : Nat), j < i → fl I (va_up rf j v) sh i = fl I rf sh i
  | [], _, _ => rfl
  | c :: t, i, h => by
    have h2 := fl_setr_lt I rf j v t (i + 1) (by omega)
    have h3 : va_up rf j v i = rf i := by simp [va_up]; omega
    simp [fl, h2, h3]
theorem fl_setr (I : Nat → Int32) (rf : Nat → Option Nat) (v : Option Nat) : ∀ (sh : List Bool) (i k : Nat), sh[k]? = some false → (fl I rf sh i).set k (va_rf v) = fl I (va_up rf (i + k) v) sh i
  | [], _, _, h => by simp at h
  | c :: t, i, 0, h => by
    simp at h
    subst h
    simp [fl, fl_setr_lt I rf i v t (i + 1) (by omega), va_up]
  | c :: t, i, k + 1, h => by
    have h2 : t[k]? = some false := by simpa using h
    have h3 := fl_setr I rf v t (i + 1) k h2
    rw [show i + 1 + k = i + (k + 1) by omega] at h3
    have h4 : va_up rf (i + (k + 1)) v i = rf i := by simp [va_up]
    simp [fl, h3, h4]
/-- one row of the store changed -/
def sr (I : II) (a : Nat) (f : Nat → Int32) : II := fun q => if q = a then f else I q
/-- one place of the store changed -/
def u2 (I : II) (a k : Nat) (v : Int32) : II := sr I a (upd (I a) k v)
theorem sr_s {I : II} {a : Nat} {f : Nat → Int32} : sr I a f a = f := by simp [sr]
theorem sr_n {I : II} {a b : Nat} {f : Nat → Int32} (h : b ≠ a) : sr I a f b = I b := by simp [sr, h]
theorem sr_sr {I : II} {a : Nat} {f f' : Nat → Int32} : sr (sr I a f) a f' = sr I a f' := by
  funext q; simp only [sr]; split <;> rfl
theorem sr_id {I : II} {a : Nat} : sr I a (I a) = I := by
  funext q; simp only [sr]; split <;> simp_all
theorem sr_cm {I : II} {a b : Nat} {f f' : Nat → Int32} (h : a ≠ b) : sr (sr I a f) b f' = sr (sr I b f') a f := by
  funext q; simp only [sr]; split <;> split <;> simp_all
def cellOf (g : GG) (T : TT) (I : II) (a : Nat) : va_E := match (T a).1 with
  | 1 => .inr ((T a).2.1, fl (I a) (T a).2.2 (shp (T a).2.1) 0)
  | 2 => .inl (gA g 0, (T a).2.1, .inl (I a))
  | 3 => .inl (gA g 1, (T a).2.1, .inl (I a))
  | 4 => .inl (gA g 2, (T a).2.1, .inl (I a))
  | 5 => .inl (gA g 3, (T a).2.1, .inr (.inr (.inr (.inr (T a).2.2))))
  | 6 => .inl (gA g 4, (T a).2.1, .inr (.inr (.inr (.inr (T a).2.2))))
  | 7 => .inl (gA g 5, (T a).2.1, .inr (.inr (.inr (.inr (T a).2.2))))
  | 8 => .inl (gA g 4, 10, .inr (.inr (.inr (.inr (fun i => some (a + 17 + 2 * (I a i).toNatClampNeg))))))
  | 9 => .inr (5, [.int (I a 0), .ref (ga g (10 + (I a 1).toNatClampNeg)), va_rf ((T a).2.2 2), va_rf ((T a).2.2 3), .int (I a 4)])
  | _ => .inr (0, [])
theorem cell_congr {g : GG} {T : TT} {I J : II} {a : Nat} (h : I a = J a) : cellOf g T I a = cellOf g T J a := by
  simp only [cellOf, h]
def Pw (g : GG) (X : va_W) (T : TT) (I : II) (H : Heap) : Prop := ∃ L : List Nat, (∀ a, a ∈ L ↔ (T a).1 ≠ 0) ∧ va_P (gD g) vwCl (X ++ va_pl L (cellOf g T I)) H ∧ va_D (Ab g) (X ++ va_pl L (cellOf g T I))
theorem Pw.at {g : GG} {X : va_W} {T : TT} {I : II} {H : Heap} (h : Pw g X T I H) {a : Nat} (ha : (T a).1 ≠ 0) : va_at (gD g) vwCl (a, cellOf g T I a) H := by
  obtain ⟨L, h1, h2, h3⟩ := h
  obtain ⟨k, hk⟩ := va_pl_get (X := X) (f := cellOf g T I) ((h1 a).mpr ha)
  exact h2 k _ hk
/-- a cell of the store changed: the store behind it -/
theorem Pw.put {g : GG} {X : va_W} {T : TT} {I : II} {H H1 : Heap} (h : Pw g X T I H) {a : Nat} (ha : (T a).1 ≠ 0) {T' : TT} {I' : II} (hT : ∀ q, (T' q).1 ≠ 0 ↔ (T q).1 ≠ 0) (hne : ∀ q, q ≠ a → cellOf g T' I' q = cellOf g T I q) (hat : va_at (gD g) vwCl (a, cellOf g T' I' a) H1) (oq : ∀ q : Nat, q ≠ a → H1[q]? = H[q]?) : Pw g X T' I' H1 := by
  obtain ⟨L, h1, h2, h3⟩ := h
  obtain ⟨k, hk⟩ := va_pl_get (X := X) (f := cellOf g T I) ((h1 a).mpr ha)
  have e : (X ++ va_pl L (cellOf g T I)).set k (a, cellOf g T' I' a) = X ++ va_pl L (cellOf g T' I') := by
    rw [va_pl_set h3 ((h1 a).mpr ha) hk]
    refine congrArg (fun l => X ++ l) (va_pl_congr fun b => ?_)
    by_cases hb : b = a
    · subst hb; simp [va_up]
    · simp [va_up, hb, hne b hb]
  refine ⟨L, fun q => (h1 q).trans (hT q).symm, ?_, ?_⟩
  · rw [← e]; exact h2.set h3 hk hat oq
  · rw [← e]; exact h3.set hk
