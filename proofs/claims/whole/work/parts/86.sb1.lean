/-! StringBuilder: rows over its object (class 1), new byte arrays, copies of bytes, calls of what it inherits. -/
abbrev RSB : String := "java/lang/StringBuilder"
abbrev RAB : String := "java/lang/AbstractStringBuilder"
theorem lay_J4 : ∀ k, k < 4 → u_lay RJ4 TJ4 k ∈ gw := fun k h => match k, h with | 0, _ => gx 358 (by decide +kernel) (by decide +kernel) | 1, _ => gx 360 (by decide +kernel) (by decide +kernel) | 2, _ => gx 362 (by decide +kernel) (by decide +kernel) | 3, _ => gx 364 (by decide +kernel) (by decide +kernel) | k + 4, h => absurd h (by omega)
theorem cl_J4 : ClsOk 1 RJ4 TJ4 4 := ⟨rfl, u_lay_all lay_J4, ⟨tyJ4, tyJ4_ok⟩, nmJ4⟩
theorem ca_J4 : ClsAt 1 RSB := ⟨TJ4, 4, rfl⟩
/-- a field of the builder as own's class file links it -/
def FdB (own : String) (idx k : Nat) (ty : FieldType) : Prop := k < 4 ∧ Cond.fieldLink own idx (TJ4 k).1 (TJ4 k).2.1 (TJ4 k).2.2.1 ∈ gw ∧ (TJ4 k).2.2.2 = false ∧ parseFieldDescriptor (TJ4 k).2.2.1 = some ty
theorem f_J5_15 : FdB RJ5 15 0 (.array .byte) := ⟨by decide, (gx 353 (by decide +kernel) (by decide +kernel)), rfl, by decide +kernel⟩
theorem f_J5_22 : FdB RJ5 22 1 .byte := ⟨by decide, (gx 354 (by decide +kernel) (by decide +kernel)), rfl, by decide +kernel⟩
theorem f_J5_73 : FdB RJ5 73 2 .boolean := ⟨by decide, (gx 355 (by decide +kernel) (by decide +kernel)), rfl, by decide +kernel⟩
theorem f_J5_79 : FdB RJ5 79 3 .int := ⟨by decide, (gx 357 (by decide +kernel) (by decide +kernel)), rfl, by decide +kernel⟩
/-- the kind of one address changed -/
def tu (T : TT) (a : Nat) (c : Kd) : TT := fun q => if q = a then c else T q
theorem tu_s {T : TT} {a : Nat} {c : Kd} : tu T a c a = c := by simp [tu]
theorem tu_n {T : TT} {a b : Nat} {c : Kd} (h : b ≠ a) : tu T a c b = T b := by simp [tu, h]
theorem cell_ext {g : GG} {T T' : TT} {I I' : II} {a : Nat} (h1 : T' a = T a) (h2 : I' a = I a) : cellOf g T' I' a = cellOf g T I a := by
  simp only [cellOf, h1, h2]
/-- a new cell -/
theorem Pw.new {g : GG} {X : va_W} {T : TT} {I : II} {L : List Nat} {q : Nat} {c : Kd} {f : Nat → Int32} {H1 : Heap} (p1 : ∀ a, a ∈ L ↔ (T a).1 ≠ 0) (hc : c.1 ≠ 0) {e : va_E} (he : e = cellOf g (tu T q c) (sr I q f) q)
    (e1 : va_P (gD g) vwCl ((X ++ va_pl L (cellOf g T I)) ++ [(q, e)]) H1) (e2 : va_D (Ab g) ((X ++ va_pl L (cellOf g T I)) ++ [(q, e)])) : (T q).1 = 0 ∧ Pw g X (tu T q c) (sr I q f) H1 := by
  have hq : (T q).1 = 0 := by
    refine Decidable.byContradiction fun z => ?_
    obtain ⟨k, hk⟩ := va_pl_get (X := X) (f := cellOf g T I) ((p1 q).mpr z)
    have hl := (List.getElem?_eq_some_iff.mp hk).1
    have := e2.1 k (X ++ va_pl L (cellOf g T I)).length (q, cellOf g T I q) (q, e) (by rw [List.getElem?_append_left hl]; exact hk) (by rw [List.getElem?_append_right (Nat.le_refl _), Nat.sub_self]; rfl) rfl
    omega
  have hn : q ∉ L := fun z => absurd hq ((p1 q).mp z)
  have e : (X ++ va_pl L (cellOf g T I)) ++ [(q, e)] = X ++ va_pl (L ++ [q]) (cellOf g (tu T q c) (sr I q f)) := by
    rw [List.append_assoc, va_pl_push hn]
    refine congrArg (fun l => X ++ l) ?_
    refine List.map_congr_left fun b _ => ?_
    by_cases hb : b = q
    · subst hb
      rw [va_up_self, he]
    · rw [va_up_ne _ _ hb, cell_ext (tu_n hb) (sr_n hb)]
  refine ⟨hq, L ++ [q], fun a => ?_, by rw [← e]; exact e1, by rw [← e]; exact e2⟩
  rw [List.mem_append, p1 a, List.mem_singleton]
  by_cases ha : a = q
  · subst ha
    rw [tu_s]
    exact ⟨fun _ => hc, fun _ => Or.inr rfl⟩
  · rw [tu_n ha]
    exact ⟨fun z => z.resolve_right ha, Or.inl⟩
section G86
variable {g : GG} {k : KK} {nL : Nat} {cc : ByteArray} {own : String} {rt : Option FieldType} {D mc ms : Nat} {Q : State → Prop} {cells slots pc : Nat} {lo : List (Nat × Value)} {st : List Value} {X : va_W} {T : TT} {I : II}
theorem r_getB {idx j a : Nat} {rf : Nat → Option Nat} {ty : FieldType} {b : Bool} {v : Value} (C : Cx g k nL cc own rt D mc ms) (F : FdB own idx j ty) (hT : T a = (1, 1, rf)) (hs : (shp 1)[j]? = some b) (hv : (if b then .int (I a j) else va_rf (rf j)) = v) (d : decode cc pc = .ok (.getfield idx, 3)) (kk : Go g k nL Q cells slots (pc + 3) lo (v :: st) X T I) : Go g k nL Q cells slots pc lo (.ref a :: st) X T I := by
  intro ls H locs h1 h2 h3
  obtain ⟨hk, hl, -, -⟩ := F
  obtain ⟨hc, hin, -, -⟩ := cl_J4
  obtain ⟨L, p1, p2, p3⟩ := id h2
  obtain ⟨q, hq⟩ := va_pl_get (X := X) (f := cellOf g T I) ((p1 a).mpr (nz hT (by decide)))
  have hq' : (X ++ va_pl L (cellOf g T I))[q]? = some (a, .inr (1, fl (I a) rf (shp 1) 0)) := by rw [hq, cell_obj hT]
  refine va_get C.x C.b C.ts hin C.ow C.K p2 q hq' hc j hk (C.ts _ hl) (fun x h => h) (v := v) ?_ d (kk ls H locs h1 h2 h3)
  rw [fl_get _ _ _ _ _ _ hs, Nat.zero_add, hv]
theorem r_getBI {idx j a : Nat} {rf : Nat → Option Nat} {ty : FieldType} (C : Cx g k nL cc own rt D mc ms) (F : FdB own idx j ty) (hT : T a = (1, 1, rf)) (hs : (shp 1)[j]? = some true) (d : decode cc pc = .ok (.getfield idx, 3)) (kk : Go g k nL Q cells slots (pc + 3) lo (.int (I a j) :: st) X T I) : Go g k nL Q cells slots pc lo (.ref a :: st) X T I :=
  r_getB C F hT hs (by simp) d kk
theorem r_putBI {idx j a : Nat} {rf : Nat → Option Nat} {ty : FieldType} {v : Int32} (C : Cx g k nL cc own rt D mc ms) (F : FdB own idx j ty) (hT : T a = (1, 1, rf)) (hs : (shp 1)[j]? = some true) (hn : narrow ty (.int v) = .int v) (hf : fits ty (.int v) = true) (d : decode cc pc = .ok (.putfield idx, 3)) (kk : Go g k nL Q cells slots (pc + 3) lo st X T (u2 I a j v)) : Go g k nL Q cells slots pc lo (.int v :: .ref a :: st) X T I := by
  intro ls H locs h1 h2 h3
  obtain ⟨hk, hl, hfin, hpd⟩ := F
  obtain ⟨hc, hin, ⟨ty0, hty⟩, hnm⟩ := cl_J4
  obtain ⟨L, p1, p2, p3⟩ := id h2
  obtain ⟨q, hq⟩ := va_pl_get (X := X) (f := cellOf g T I) ((p1 a).mpr (nz hT (by decide)))
  have hq' : (X ++ va_pl L (cellOf g T I))[q]? = some (a, .inr (1, fl (I a) rf (shp 1) 0)) := by rw [hq, cell_obj hT]
  refine va_put C.x C.b C.ts hin ty0 hty hnm C.ow C.K p2 p3 h3 q hq' hc j hk (C.ts _ hl) (fun x h => h) hfin hpd hn hf (by rw [fl_len]; exact hk) d (fun H1 locs1 e1 e2 e3 => kk ls H1 locs1 h1 ?_ e3)
  have e : (X ++ va_pl L (cellOf g T I)).set q (a, .inr (1, (fl (I a) rf (shp 1) 0).set j (.int v))) = X ++ va_pl L (cellOf g T (u2 I a j v)) := by
    rw [va_pl_set p3 ((p1 a).mpr (nz hT (by decide))) hq]
    refine congrArg (fun l => X ++ l) (va_pl_congr fun b => ?_)
    by_cases hb : b = a
    · subst hb
      rw [va_up_self, cell_obj hT, u2, sr_s, fl_set _ _ _ _ _ _ hs, Nat.zero_add]
    · rw [va_up_ne _ _ hb]
      exact cell_congr (by rw [u2, sr_n hb])
  exact ⟨L, p1, by rw [← e]; exact e1, by rw [← e]; exact e2⟩
/-- a reference put into an object: its kind changes -/
theorem Pw.ref {a ci j x q : Nat} {rf : Nat → Option Nat} {L : List Nat} {H1 : Heap} (hT : T a = (1, ci, rf)) (hs : (shp ci)[j]? = some false) (p1 : ∀ a, a ∈ L ↔ (T a).1 ≠ 0) (p3 : va_D (Ab g) (X ++ va_pl L (cellOf g T I))) (hq : (X ++ va_pl L (cellOf g T I))[q]? = some (a, cellOf g T I a))
    (e1 : va_P (gD g) vwCl ((X ++ va_pl L (cellOf g T I)).set q (a, .inr (ci, (fl (I a) rf (shp ci) 0).set j (.ref x)))) H1) (e2 : va_D (Ab g) ((X ++ va_pl L (cellOf g T I)).set q (a, .inr (ci, (fl (I a) rf (shp ci) 0).set j (.ref x))))) : Pw g X (tu T a (1, ci, va_up rf j (some x))) I H1 := by
  have e : (X ++ va_pl L (cellOf g T I)).set q (a, .inr (ci, (fl (I a) rf (shp ci) 0).set j (.ref x))) = X ++ va_pl L (cellOf g (tu T a (1, ci, va_up rf j (some x))) I) := by
    rw [va_pl_set p3 ((p1 a).mpr (nz hT (by decide))) hq]
    refine congrArg (fun l => X ++ l) (va_pl_congr fun b => ?_)
    by_cases hb : b = a
    · subst hb
      rw [va_up_self, cell_obj (T := tu T b (1, ci, va_up rf j (some x))) tu_s]
      have := fl_setr (I b) rf (some x) (shp ci) 0 j hs
      rw [Nat.zero_add] at this
      rw [← this]
      rfl
    · rw [va_up_ne _ _ hb]
      exact (cell_ext (tu_n hb) rfl).symm
  refine ⟨L, fun b => ?_, by rw [← e]; exact e1, by rw [← e]; exact e2⟩
  rw [p1 b]
  by_cases hb : b = a
  · subst hb
    rw [tu_s, hT]
  · rw [tu_n hb]
theorem r_putBR {idx j a x : Nat} {rf : Nat → Option Nat} {ty : FieldType} (C : Cx g k nL cc own rt D mc ms) (F : FdB own idx j ty) (hT : T a = (1, 1, rf)) (hs : (shp 1)[j]? = some false) (hn : narrow ty (.ref x) = .ref x) (hf : fits ty (.ref x) = true) (d : decode cc pc = .ok (.putfield idx, 3)) (kk : Go g k nL Q cells slots (pc + 3) lo st X (tu T a (1, 1, va_up rf j (some x))) I) : Go g k nL Q cells slots pc lo (.ref x :: .ref a :: st) X T I := by
  intro ls H locs h1 h2 h3
  obtain ⟨hk, hl, hfin, hpd⟩ := F
  obtain ⟨hc, hin, ⟨ty0, hty⟩, hnm⟩ := cl_J4
  obtain ⟨L, p1, p2, p3⟩ := id h2
  obtain ⟨q, hq⟩ := va_pl_get (X := X) (f := cellOf g T I) ((p1 a).mpr (nz hT (by decide)))
  have hq' : (X ++ va_pl L (cellOf g T I))[q]? = some (a, .inr (1, fl (I a) rf (shp 1) 0)) := by rw [hq, cell_obj hT]
  exact va_put C.x C.b C.ts hin ty0 hty hnm C.ow C.K p2 p3 h3 q hq' hc j hk (C.ts _ hl) (fun x h => h) hfin hpd hn hf (by rw [fl_len]; exact hk) d (fun H1 locs1 e1 e2 e3 => kk ls H1 locs1 h1 (Pw.ref hT hs p1 p3 hq e1 e2) e3)
theorem r_ldcI {idx : Nat} {v : Int32} (C : Cx g k nL cc own rt D mc ms) (hw : Cond.constant own idx v ∈ gw) (d : decode cc pc = .ok (.ldc idx, 2)) (kk : Go g k nL Q cells slots (pc + 2) lo (.int v :: st) X T I) : Go g k nL Q cells slots pc lo st X T I :=
  fun ls H locs h1 h2 h3 => lv_ldc C.x C.b C.ow (C.ts _ hw) d (kk ls H locs h1 h2 h3)
theorem r_i2b (C : Cx g k nL cc own rt D mc ms) {x v : Int32} (d : decode cc pc = .ok (.i2b, 1)) (hv : x.toInt8.toInt32 = v) (kk : Go g k nL Q cells slots (pc + 1) lo (.int v :: st) X T I) : Go g k nL Q cells slots pc lo (.int x :: st) X T I :=
  fun ls H locs h1 h2 h3 => lv_i2b C.x C.b d hv (kk ls H locs h1 h2 h3)
theorem r_bald {a n x : Nat} {rf : Nat → Option Nat} {i : Int32} (C : Cx g k nL cc own rt D mc ms) (hT : T a = (4, n, rf)) (hi : i = nI x) (hx : x < n) (hn : n < 2 ^ 31) (d : decode cc pc = .ok (.baload, 1)) (kk : Go g k nL Q cells slots (pc + 1) lo (.int (I a x) :: st) X T I) : Go g k nL Q cells slots pc lo (.int i :: .ref a :: st) X T I := by
  intro ls H locs h1 h2 h3
  subst hi
  obtain ⟨L, p1, p2, p3⟩ := id h2
  obtain ⟨q, hq⟩ := va_pl_get (X := X) (f := cellOf g T I) ((p1 a).mpr (nz hT (by decide)))
  have hq' : (X ++ va_pl L (cellOf g T I))[q]? = some (a, .inl (gA g 2, n, .inl (I a))) := by rw [hq]; simp [cellOf, hT]
  refine va_bald C.x C.b C.K p2 q 2 hq' rfl (vp_in_nI hx hn) d ?_
  rw [nI_clamp (Nat.lt_trans hx hn)]
  exact kk ls H locs h1 h2 h3
theorem r_bast {a n x : Nat} {rf : Nat → Option Nat} {i v : Int32} (C : Cx g k nL cc own rt D mc ms) (hT : T a = (4, n, rf)) (hi : i = nI x) (hx : x < n) (hn : n < 2 ^ 31) (hv : vp_nar .byte v = v) (d : decode cc pc = .ok (.bastore, 1)) (kk : Go g k nL Q cells slots (pc + 1) lo st X T (u2 I a x v)) : Go g k nL Q cells slots pc lo (.int v :: .int i :: .ref a :: st) X T I := by
  intro ls H locs h1 h2 h3
  subst hi
  obtain ⟨L, p1, p2, p3⟩ := id h2
  obtain ⟨q, hq⟩ := va_pl_get (X := X) (f := cellOf g T I) ((p1 a).mpr (nz hT (by decide)))
  have hq' : (X ++ va_pl L (cellOf g T I))[q]? = some (a, .inl (gA g 2, n, .inl (I a))) := by rw [hq]; simp [cellOf, hT]
  refine va_bast C.x C.b C.K p2 p3 h3 q 2 hq' rfl (vp_in_nI hx hn) d (fun H1 locs1 e1 e2 e3 => ?_)
  rw [nI_clamp (Nat.lt_trans hx hn), hv] at e1 e2
  exact kk ls H1 locs1 h1 (Go.arr (Or.inr (Or.inr rfl)) hT p1 p3 hq e1 e2) e3
/-- a new array of bytes -/
theorem r_newB {n : Nat} (C : Cx g k nL cc own rt D mc ms) (hn : n ≤ 65536) (hc : cells + 1 ≤ mc ∧ slots + n ≤ ms) (d : decode cc pc = .ok (.newarray .byte, 2)) (kk : ∀ y, (T y).1 = 0 → Go g k nL Q (cells + 1) (slots + n) (pc + 2) lo (.ref y :: st) X (tu T y (4, n, nr)) (sr I y (fun _ => 0))) : Go g k nL Q cells slots pc lo (.int (nI n) :: st) X T I := by
  intro ls H locs h1 h2 h3
  obtain ⟨L, p1, p2, p3⟩ := id h2
  refine va_newa C.x C.b (atype := .byte) (C.ts _ (gx 367 (by decide +kernel) (by decide +kernel))) rfl C.K p2 p3 h3 C.A (N' := n) (a0 := (n, .inl (fun _ => 0))) (fun cA => rfl) (nI_pos (by omega)) (nI_clamp (by omega)) (by show n * 1 ≤ 536870912; omega) (by rw [C.R]; exact hc.1) (by rw [C.R]; exact hc.2) d (fun q cA H1 hK e1 e2 e3 => ?_)
  have hA1 := (C.K.2 2 (gA g 2, .byte) rfl).2
  have hA2 := (hK.2 8 (cA, .byte) rfl).2
  have hcA : cA = gA g 2 := Option.some.inj (hA2.symm.trans hA1)
  subst hcA
  obtain ⟨f1, f2⟩ := Pw.new (T := T) (I := I) (q := q) (c := (4, n, nr)) (f := fun _ => 0) p1 (show (4 : Nat) ≠ 0 by decide) (e := .inl (gA g 2, n, .inl (fun _ => 0))) (by simp [cellOf, tu_s, sr_s]) e1 e2
  exact kk q f1 ls H1 locs h1 f2 e3
end G86
