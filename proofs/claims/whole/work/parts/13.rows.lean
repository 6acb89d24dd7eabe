/-! Rows over the store. -/
/-- a class of the table, by its place: its words, its types -/
def ClsOk (ci : Nat) (Cn : String) (F : u_T) (N : Nat) : Prop := vwCl[ci]? = some (Cn, F, N) ∧ (∀ w ∈ u_ws Cn F N, w ∈ gw) ∧ (∃ ty : Nat → FieldType, ∀ k, k < N → parseFieldDescriptor (F k).2.2.1 = some (ty k)) ∧ (∀ a, a < N → ∀ b, b < N → a ≠ b → (F a).2.1 ≠ (F b).2.1)
/-- a field as own's class file links it -/
def Fld (own : String) (idx ci k : Nat) (ty : FieldType) (fin : Bool) : Prop := ∃ (Cn : String) (F : u_T) (N : Nat), ClsOk ci Cn F N ∧ k < N ∧ (F k).1 = Cn ∧ Cond.fieldLink own idx Cn (F k).2.1 (F k).2.2.1 ∈ gw ∧ (F k).2.2.2 = fin ∧ parseFieldDescriptor (F k).2.2.1 = some ty ∧ N = (shp ci).length
/-- a class for calls on its objects -/
def ClsAt (ci : Nat) (Cn : String) : Prop := ∃ (F : u_T) (N : Nat), vwCl[ci]? = some (Cn, F, N)
theorem cell_obj {g : GG} {T : TT} {I : II} {a ci : Nat} {rf : Nat → Option Nat} (h : T a = (1, ci, rf)) : cellOf g T I a = .inr (ci, fl (I a) rf (shp ci) 0) := by simp [cellOf, h]
theorem nz {T : TT} {a c : Nat} {x : Nat × (Nat → Option Nat)} (h : T a = (c, x)) (hc : c ≠ 0) : (T a).1 ≠ 0 := by rw [h]; exact hc
section G2
variable {g : GG} {k : KK} {nL : Nat} {cc : ByteArray} {own : String} {rt : Option FieldType} {D mc ms : Nat} {Q : State → Prop} {cells slots pc : Nat} {lo : List (Nat × Value)} {st : List Value} {X : va_W} {T : TT} {I : II}
theorem r_get {idx ci j a : Nat} {rf : Nat → Option Nat} {ty : FieldType} {fin b : Bool} {v : Value} (C : Cx g k nL cc own rt D mc ms) (F : Fld own idx ci j ty fin) (hT : T a = (1, ci, rf)) (hs : (shp ci)[j]? = some b) (hv : (if b then .int (I a j) else va_rf (rf j)) = v) (d : decode cc pc = .ok (.getfield idx, 3)) (kk : Go g k nL Q cells slots (pc + 3) lo (v :: st) X T I) : Go g k nL Q cells slots pc lo (.ref a :: st) X T I := by
  intro ls H locs h1 h2 h3
  obtain ⟨Cn, F, N, ⟨hc, hin, -, -⟩, hk, hd, hl, -, -, -⟩ := F
  obtain ⟨L, p1, p2, p3⟩ := id h2
  obtain ⟨q, hq⟩ := va_pl_get (X := X) (f := cellOf g T I) ((p1 a).mpr (nz hT (by decide)))
  have hq' : (X ++ va_pl L (cellOf g T I))[q]? = some (a, .inr (ci, fl (I a) rf (shp ci) 0)) := by rw [hq, cell_obj hT]
  refine va_get C.x C.b C.ts hin C.ow C.K p2 q hq' hc j hk (C.ts _ hl) (fun x h => by rw [← hd]; exact h) (v := v) ?_ d (kk ls H locs h1 h2 h3)
  rw [fl_get _ _ _ _ _ _ hs, Nat.zero_add, hv]
theorem r_getI {idx ci j a : Nat} {rf : Nat → Option Nat} {ty : FieldType} {fin : Bool} (C : Cx g k nL cc own rt D mc ms) (F : Fld own idx ci j ty fin) (hT : T a = (1, ci, rf)) (hs : (shp ci)[j]? = some true) (d : decode cc pc = .ok (.getfield idx, 3)) (kk : Go g k nL Q cells slots (pc + 3) lo (.int (I a j) :: st) X T I) : Go g k nL Q cells slots pc lo (.ref a :: st) X T I :=
  r_get C F hT hs (by simp) d kk
theorem r_getR {idx ci j a x : Nat} {rf : Nat → Option Nat} {ty : FieldType} {fin : Bool} (C : Cx g k nL cc own rt D mc ms) (F : Fld own idx ci j ty fin) (hT : T a = (1, ci, rf)) (hs : (shp ci)[j]? = some false) (hv : rf j = some x) (d : decode cc pc = .ok (.getfield idx, 3)) (kk : Go g k nL Q cells slots (pc + 3) lo (.ref x :: st) X T I) : Go g k nL Q cells slots pc lo (.ref a :: st) X T I :=
  r_get C F hT hs (by simp [hv, va_rf]) d kk
theorem r_putI {idx ci j a : Nat} {rf : Nat → Option Nat} {ty : FieldType} {v : Int32} (C : Cx g k nL cc own rt D mc ms) (F : Fld own idx ci j ty false) (hT : T a = (1, ci, rf)) (hs : (shp ci)[j]? = some true) (hn : narrow ty (.int v) = .int v) (hf : fits ty (.int v) = true) (d : decode cc pc = .ok (.putfield idx, 3)) (kk : Go g k nL Q cells slots (pc + 3) lo st X T (u2 I a j v)) : Go g k nL Q cells slots pc lo (.int v :: .ref a :: st) X T I := by
  intro ls H locs h1 h2 h3
  obtain ⟨Cn, F, N, ⟨hc, hin, ⟨ty0, hty⟩, hnm⟩, hk, hd, hl, hfin, hpd, hN⟩ := F
  obtain ⟨L, p1, p2, p3⟩ := id h2
  obtain ⟨q, hq⟩ := va_pl_get (X := X) (f := cellOf g T I) ((p1 a).mpr (nz hT (by decide)))
  have hq' : (X ++ va_pl L (cellOf g T I))[q]? = some (a, .inr (ci, fl (I a) rf (shp ci) 0)) := by rw [hq, cell_obj hT]
  refine va_put C.x C.b C.ts hin ty0 hty hnm C.ow C.K p2 p3 h3 q hq' hc j hk (C.ts _ hl) (fun x h => by rw [← hd]; exact h) hfin hpd hn hf (by rw [fl_len, ← hN]; exact hk) d (fun H1 locs1 e1 e2 e3 => kk ls H1 locs1 h1 ?_ e3)
  have e : (X ++ va_pl L (cellOf g T I)).set q (a, .inr (ci, (fl (I a) rf (shp ci) 0).set j (.int v))) = X ++ va_pl L (cellOf g T (u2 I a j v)) := by
    rw [va_pl_set p3 ((p1 a).mpr (nz hT (by decide))) hq]
    refine congrArg (fun l => X ++ l) (va_pl_congr fun b => ?_)
    by_cases hb : b = a
    · subst hb
      rw [va_up_self, cell_obj hT, u2, sr_s, fl_set _ _ _ _ _ _ hs, Nat.zero_add]
    · rw [va_up_ne _ _ hb]
      exact cell_congr (by rw [u2, sr_n hb])
  exact ⟨L, p1, by rw [← e]; exact e1, by rw [← e]; exact e2⟩
/-- arrays of ints, chars, bytes -/
theorem r_iald {a n x : Nat} {rf : Nat → Option Nat} {i : Int32} (C : Cx g k nL cc own rt D mc ms) (hT : T a = (2, n, rf)) (hi : i = nI x) (hx : x < n) (hn : n < 2 ^ 31) (d : decode cc pc = .ok (.iaload, 1)) (kk : Go g k nL Q cells slots (pc + 1) lo (.int (I a x) :: st) X T I) : Go g k nL Q cells slots pc lo (.int i :: .ref a :: st) X T I := by
  intro ls H locs h1 h2 h3
  subst hi
  obtain ⟨L, p1, p2, p3⟩ := id h2
  obtain ⟨q, hq⟩ := va_pl_get (X := X) (f := cellOf g T I) ((p1 a).mpr (nz hT (by decide)))
  have hq' : (X ++ va_pl L (cellOf g T I))[q]? = some (a, .inl (gA g 0, n, .inl (I a))) := by rw [hq]; simp [cellOf, hT]
  refine va_iald C.x C.b C.K p2 q 0 hq' rfl (vp_in_nI hx hn) d ?_
  rw [nI_clamp (Nat.lt_trans hx hn)]
  exact kk ls H locs h1 h2 h3
theorem r_cald {a n x : Nat} {rf : Nat → Option Nat} {i : Int32} (C : Cx g k nL cc own rt D mc ms) (hT : T a = (3, n, rf)) (hi : i = nI x) (hx : x < n) (hn : n < 2 ^ 31) (d : decode cc pc = .ok (.caload, 1)) (kk : Go g k nL Q cells slots (pc + 1) lo (.int (I a x) :: st) X T I) : Go g k nL Q cells slots pc lo (.int i :: .ref a :: st) X T I := by
  intro ls H locs h1 h2 h3
  subst hi
  obtain ⟨L, p1, p2, p3⟩ := id h2
  obtain ⟨q, hq⟩ := va_pl_get (X := X) (f := cellOf g T I) ((p1 a).mpr (nz hT (by decide)))
  have hq' : (X ++ va_pl L (cellOf g T I))[q]? = some (a, .inl (gA g 1, n, .inl (I a))) := by rw [hq]; simp [cellOf, hT]
  refine va_cald C.x C.b C.K p2 q 1 hq' rfl (vp_in_nI hx hn) d ?_
  rw [nI_clamp (Nat.lt_trans hx hn)]
  exact kk ls H locs h1 h2 h3
theorem Go.arr {a n : Nat} {rf : Nat → Option Nat} {f : Nat → Int32} {L : List Nat} {q c : Nat} {H1 : Heap} (hc : c = 2 ∨ c = 3 ∨ c = 4) (hT : T a = (c, n, rf)) (p1 : ∀ a, a ∈ L ↔ (T a).1 ≠ 0) (p3 : va_D (Ab g) (X ++ va_pl L (cellOf g T I))) (hq : (X ++ va_pl L (cellOf g T I))[q]? = some (a, cellOf g T I a))
    (e1 : va_P (gD g) vwCl ((X ++ va_pl L (cellOf g T I)).set q (a, .inl (gA g (c - 2), n, .inl f))) H1) (e2 : va_D (Ab g) ((X ++ va_pl L (cellOf g T I)).set q (a, .inl (gA g (c - 2), n, .inl f)))) : Pw g X T (sr I a f) H1 := by
  have hz : (T a).1 ≠ 0 := nz hT (by rcases hc with rfl | rfl | rfl <;> decide)
  have e : (X ++ va_pl L (cellOf g T I)).set q (a, .inl (gA g (c - 2), n, .inl f)) = X ++ va_pl L (cellOf g T (sr I a f)) := by
    rw [va_pl_set p3 ((p1 a).mpr hz) hq]
    refine congrArg (fun l => X ++ l) (va_pl_congr fun b => ?_)
    by_cases hb : b = a
    · subst hb
      rw [va_up_self]
      rcases hc with rfl | rfl | rfl <;> simp [cellOf, hT, sr_s]
    · rw [va_up_ne _ _ hb]
      exact cell_congr (by rw [sr_n hb])
  exact ⟨L, p1, by rw [← e]; exact e1, by rw [← e]; exact e2⟩
theorem r_iast {a n x : Nat} {rf : Nat → Option Nat} {i v : Int32} (C : Cx g k nL cc own rt D mc ms) (hT : T a = (2, n, rf)) (hi : i = nI x) (hx : x < n) (hn : n < 2 ^ 31) (d : decode cc pc = .ok (.iastore, 1)) (kk : Go g k nL Q cells slots (pc + 1) lo st X T (u2 I a x v)) : Go g k nL Q cells slots pc lo (.int v :: .int i :: .ref a :: st) X T I := by
  intro ls H locs h1 h2 h3
  subst hi
  obtain ⟨L, p1, p2, p3⟩ := id h2
  obtain ⟨q, hq⟩ := va_pl_get (X := X) (f := cellOf g T I) ((p1 a).mpr (nz hT (by decide)))
  have hq' : (X ++ va_pl L (cellOf g T I))[q]? = some (a, .inl (gA g 0, n, .inl (I a))) := by rw [hq]; simp [cellOf, hT]
  refine va_iast C.x C.b C.K p2 p3 h3 q 0 hq' rfl (vp_in_nI hx hn) d (fun H1 locs1 e1 e2 e3 => ?_)
  rw [nI_clamp (Nat.lt_trans hx hn)] at e1 e2
  exact kk ls H1 locs1 h1 (Go.arr (Or.inl rfl) hT p1 p3 hq e1 e2) e3
theorem r_cast {a n x : Nat} {rf : Nat → Option Nat} {i v : Int32} (C : Cx g k nL cc own rt D mc ms) (hT : T a = (3, n, rf)) (hi : i = nI x) (hx : x < n) (hn : n < 2 ^ 31) (hv : vp_nar .char v = v) (d : decode cc pc = .ok (.castore, 1)) (kk : Go g k nL Q cells slots (pc + 1) lo st X T (u2 I a x v)) : Go g k nL Q cells slots pc lo (.int v :: .int i :: .ref a :: st) X T I := by
  intro ls H locs h1 h2 h3
  subst hi
  obtain ⟨L, p1, p2, p3⟩ := id h2
  obtain ⟨q, hq⟩ := va_pl_get (X := X) (f := cellOf g T I) ((p1 a).mpr (nz hT (by decide)))
  have hq' : (X ++ va_pl L (cellOf g T I))[q]? = some (a, .inl (gA g 1, n, .inl (I a))) := by rw [hq]; simp [cellOf, hT]
  refine va_cast C.x C.b C.K p2 p3 h3 q 1 hq' rfl (vp_in_nI hx hn) d (fun H1 locs1 e1 e2 e3 => ?_)
  rw [nI_clamp (Nat.lt_trans hx hn), hv] at e1 e2
  exact kk ls H1 locs1 h1 (Go.arr (Or.inr (Or.inl rfl)) hT p1 p3 hq e1 e2) e3
theorem r_alen {a n c : Nat} {rf : Nat → Option Nat} (C : Cx g k nL cc own rt D mc ms) (hT : T a = (c, n, rf)) (hc : c = 2 ∨ c = 3 ∨ c = 4) (d : decode cc pc = .ok (.arraylength, 1)) (kk : Go g k nL Q cells slots (pc + 1) lo (.int (nI n) :: st) X T I) : Go g k nL Q cells slots pc lo (.ref a :: st) X T I := by
  intro ls H locs h1 h2 h3
  obtain ⟨L, p1, p2, p3⟩ := id h2
  have hz : (T a).1 ≠ 0 := nz hT (by rcases hc with rfl | rfl | rfl <;> decide)
  obtain ⟨q, hq⟩ := va_pl_get (X := X) (f := cellOf g T I) ((p1 a).mpr hz)
  rcases hc with rfl | rfl | rfl
  · exact va_alen C.x C.b C.K p2 q 0 (x := (n, .inl (I a))) (cA := gA g 0) (by rw [hq]; simp [cellOf, hT]) rfl rfl d (kk ls H locs h1 h2 h3)
  · exact va_alen C.x C.b C.K p2 q 1 (x := (n, .inl (I a))) (cA := gA g 1) (by rw [hq]; simp [cellOf, hT]) rfl rfl d (kk ls H locs h1 h2 h3)
  · exact va_alen C.x C.b C.K p2 q 2 (x := (n, .inl (I a))) (cA := gA g 2) (by rw [hq]; simp [cellOf, hT]) rfl rfl d (kk ls H locs h1 h2 h3)
/-- arrays of references that stay: of borrowers, of desks -/
theorem r_aald {a n x y c : Nat} {rf : Nat → Option Nat} {i : Int32} (C : Cx g k nL cc own rt D mc ms) (hT : T a = (c, n, rf)) (hc : c = 5 ∨ c = 6 ∨ c = 7) (hi : i = nI x) (hx : x < n) (hn : n < 2 ^ 31) (hy : rf x = some y) (d : decode cc pc = .ok (.aaload, 1)) (kk : Go g k nL Q cells slots (pc + 1) lo (.ref y :: st) X T I) : Go g k nL Q cells slots pc lo (.int i :: .ref a :: st) X T I := by
  intro ls H locs h1 h2 h3
  subst hi
  obtain ⟨L, p1, p2, p3⟩ := id h2
  have hz : (T a).1 ≠ 0 := nz hT (by rcases hc with rfl | rfl | rfl <;> decide)
  obtain ⟨q, hq⟩ := va_pl_get (X := X) (f := cellOf g T I) ((p1 a).mpr hz)
  have hk := kk ls H locs h1 h2 h3
  have e : va_rf (rf (nI x).toNatClampNeg) = .ref y := by rw [nI_clamp (Nat.lt_trans hx hn), hy]; rfl
  rw [← e] at hk
  rcases hc with rfl | rfl | rfl
  · exact va_aldq C.x C.b C.K p2 q 3 (cA := gA g 3) (n := n) (f := rf) (by rw [hq]; simp [cellOf, hT]) rfl (vp_in_nI hx hn) d hk
  · exact va_aldq C.x C.b C.K p2 q 4 (cA := gA g 4) (n := n) (f := rf) (by rw [hq]; simp [cellOf, hT]) rfl (vp_in_nI hx hn) d hk
  · exact va_aldq C.x C.b C.K p2 q 5 (cA := gA g 5) (n := n) (f := rf) (by rw [hq]; simp [cellOf, hT]) rfl (vp_in_nI hx hn) d hk
/-- the loans of a desk: the row's number stands in the store -/
theorem r_lald {a x p : Nat} {y : Nat × (Nat → Option Nat)} {i : Int32} (C : Cx g k nL cc own rt D mc ms) (hT : T a = (8, y)) (hi : i = nI x) (hx : x < 10) (hp : I a x = nI p) (hp2 : p < 10) (d : decode cc pc = .ok (.aaload, 1)) (kk : Go g k nL Q cells slots (pc + 1) lo (.ref (a + 17 + 2 * p) :: st) X T I) : Go g k nL Q cells slots pc lo (.int i :: .ref a :: st) X T I := by
  intro ls H locs h1 h2 h3
  subst hi
  obtain ⟨L, p1, p2, p3⟩ := id h2
  obtain ⟨q, hq⟩ := va_pl_get (X := X) (f := cellOf g T I) ((p1 a).mpr (nz hT (by decide)))
  have hk := kk ls H locs h1 h2 h3
  have e : va_rf ((fun i => some (a + 17 + 2 * (I a i).toNatClampNeg)) (nI x).toNatClampNeg) = .ref (a + 17 + 2 * p) := by
    show Value.ref _ = _
    rw [nI_clamp (Nat.lt_trans hx (by decide)), hp, nI_clamp (Nat.lt_trans hp2 (by decide))]
  rw [← e] at hk
  exact va_aldq C.x C.b C.K p2 q 4 (cA := gA g 4) (n := 10) (f := fun i => some (a + 17 + 2 * (I a i).toNatClampNeg)) (by rw [hq]; simp [cellOf, hT]) rfl (vp_in_nI hx (by decide)) d hk
theorem r_last {a x p : Nat} {y : Nat × (Nat → Option Nat)} {rf : Nat → Option Nat} {i : Int32} (C : Cx g k nL cc own rt D mc ms) (hT : T a = (8, y)) (hi : i = nI x) (hx : x < 10) (hp2 : p < 10) (hv : T (a + 17 + 2 * p) = (1, 9, rf)) (hc : ClsAt 9 "LendingDesk$Loan") (d : decode cc pc = .ok (.aastore, 1)) (kk : Go g k nL Q cells slots (pc + 1) lo st X T (u2 I a x (nI p))) : Go g k nL Q cells slots pc lo (.ref (a + 17 + 2 * p) :: .int i :: .ref a :: st) X T I := by
  intro ls H locs h1 h2 h3
  subst hi
  obtain ⟨L, p1, p2, p3⟩ := id h2
  obtain ⟨q, hq⟩ := va_pl_get (X := X) (f := cellOf g T I) ((p1 a).mpr (nz hT (by decide)))
  obtain ⟨qv, hqv⟩ := va_pl_get (X := X) (f := cellOf g T I) ((p1 (a + 17 + 2 * p)).mpr (nz hv (by decide)))
  obtain ⟨F9, N9, hc⟩ := hc
  have hq2 : (X ++ va_pl L (cellOf g T I))[q]? = some (a, .inl (gA g 4, 10, .inr (.inr (.inr (.inr (fun i => some (a + 17 + 2 * (I a i).toNatClampNeg))))))) := by rw [hq]; simp [cellOf, hT]
  refine va_astq C.x C.b C.K p2 p3 h3 q 4 qv 9 (r := ("LendingDesk$Loan", F9, N9)) hq2 rfl (by rw [hqv, cell_obj hv]) hc (vp_in_nI hx (by decide)) d (fun H1 locs1 e1 e2 e3 => kk ls H1 locs1 h1 ?_ e3)
  rw [nI_clamp (Nat.lt_trans hx (by decide))] at e1 e2
  have ef : va_up (fun i => some (a + 17 + 2 * (I a i).toNatClampNeg)) x (some (a + 17 + 2 * p)) = (fun i => some (a + 17 + 2 * (u2 I a x (nI p) a i).toNatClampNeg)) := by
    funext j
    by_cases hj : j = x
    · subst hj; simp [va_up, u2, sr, upd, nI_clamp (Nat.lt_trans hp2 (by decide))]
    · simp [va_up, u2, sr, upd, hj]
  rw [ef] at e1 e2
  have e : (X ++ va_pl L (cellOf g T I)).set q (a, .inl (gA g 4, 10, .inr (.inr (.inr (.inr (fun i => some (a + 17 + 2 * (u2 I a x (nI p) a i).toNatClampNeg))))))) = X ++ va_pl L (cellOf g T (u2 I a x (nI p))) := by
    rw [va_pl_set p3 ((p1 a).mpr (nz hT (by decide))) hq]
    refine congrArg (fun l => X ++ l) (va_pl_congr fun b => ?_)
    by_cases hb : b = a
    · subst hb
      rw [va_up_self]
      simp [cellOf, hT]
    · rw [va_up_ne _ _ hb]
      exact cell_congr (by rw [u2, sr_n hb])
  exact ⟨L, p1, by rw [← e]; exact e1, by rw [← e]; exact e2⟩
end G2
