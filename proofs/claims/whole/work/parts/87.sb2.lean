/-! Copies of bytes; calls of what the builder inherits: private, virtual, super. -/
section G87
variable {g : GG} {k : KK} {nL : Nat} {cc : ByteArray} {own : String} {rt : Option FieldType} {D mc ms : Nat} {Q : State → Prop} {cells slots pc : Nat} {lo : List (Nat × Value)} {st : List Value} {X : va_W} {T : TT} {I : II}
theorem r_copyB {idx a0 a1 n0 n1 sp dp n : Nat} {rf0 rf1 : Nat → Option Nat} (C : Cx g k nL cc own rt D mc ms) (hl : LkA own idx) (h0 : T a0 = (4, n0, rf0)) (h1 : T a1 = (4, n1, rf1)) (hf : sb_Fit (I a0)) (hs : sp + n ≤ n0) (hd : dp + n ≤ n1) (hn0 : n0 < 2 ^ 31) (hn1 : n1 < 2 ^ 31) (hw : (st.map fun v => v.category).sum ≤ 8) (d : decode cc pc = .ok (.invokestatic idx, 3)) (kk : Go g k nL Q cells slots (pc + 3) lo st X T (sr I a1 (va_cpy (I a0) (I a1) sp dp n))) : Go g k nL Q cells slots pc lo (.int (nI n) :: .int (nI dp) :: .ref a1 :: .int (nI sp) :: .ref a0 :: st) X T I := by
  intro ls H locs b1 b2 b3
  obtain ⟨L, p1, p2, p3⟩ := id b2
  obtain ⟨l1, l2, l3, l4⟩ := hl
  obtain ⟨q0, e0⟩ := va_pl_get (X := X) (f := cellOf g T I) ((p1 a0).mpr (nz h0 (by decide)))
  obtain ⟨q1, e1⟩ := va_pl_get (X := X) (f := cellOf g T I) ((p1 a1).mpr (nz h1 (by decide)))
  have e0' : (X ++ va_pl L (cellOf g T I))[q0]? = some (a0, .inl (gA g 2, n0, .inl (I a0))) := by rw [e0]; simp [cellOf, h0]
  have e1' : (X ++ va_pl L (cellOf g T I))[q1]? = some (a1, .inl (gA g 2, n1, .inl (I a1))) := by rw [e1]; simp [cellOf, h1]
  refine va_copyi C.x C.b (C.ml.trans b1.1.symm) C.ow (C.ts _ l1) (C.ts _ l2) (C.ts _ l3) (C.ts _ l4) C.K p2 p3 b3 q0 q1 2 2 e0' e1' rfl rfl rfl (nI_pos (by omega)) (nI_pos (by omega)) (nI_pos (by omega)) ?_ ?_ (fun _ _ => hf _) ?_ ?_ d (fun H1 locs1 f1 f2 f3 => ?_)
  · rw [nI_clamp (by omega), nI_clamp (by omega)]; exact hs
  · rw [nI_clamp (by omega), nI_clamp (by omega)]; exact hd
  · rw [C.R]; show 1 ≤ 4 * D + 8; omega
  · rw [C.R]; show _ + (5 + 2 + 11) ≤ 100 * D + 200; omega
  · rw [nI_clamp (by omega), nI_clamp (by omega), nI_clamp (by omega)] at f1 f2
    exact kk ls H1 locs1 b1 (Go.arr (Or.inr (Or.inr rfl)) h1 p1 p3 e1 f1 f2) f3
end G87
section H87
variable {g : GG} {k : KK} {nL : Nat} {cc : ByteArray} {own : String} {rt : Option FieldType} {D mc ms : Nat} {Q : State → Prop} {cells slots pc : Nat} {lo : List (Nat × Value)} {st : List Value} {X : va_W} {T : TT} {I : II}
theorem r_copyT {idx a0 a1 n0 n1 sp dp n : Nat} {rf1 : Nat → Option Nat} {f : Nat → Int32} (C : Cx g k nL cc own rt D mc ms) (hl : LkA own idx) (h0 : va_T .byte a0 n0 (fun j => .int (f j)) (Ab g) (ks k) (ks k).heap) (h1 : T a1 = (4, n1, rf1)) (hf : ∀ i, i < n → fits .byte (.int (f (sp + i))) = true) (hs : sp + n ≤ n0) (hd : dp + n ≤ n1) (hn0 : n0 < 2 ^ 31) (hn1 : n1 < 2 ^ 31) (hw : (st.map fun v => v.category).sum ≤ 8) (d : decode cc pc = .ok (.invokestatic idx, 3)) (kk : Go g k nL Q cells slots (pc + 3) lo st X T (sr I a1 (va_cpy f (I a1) sp dp n))) : Go g k nL Q cells slots pc lo (.int (nI n) :: .int (nI dp) :: .ref a1 :: .int (nI sp) :: .ref a0 :: st) X T I := by
  intro ls H locs b1 b2 b3
  obtain ⟨L, p1, p2, p3⟩ := id b2
  obtain ⟨l1, l2, l3, l4⟩ := hl
  obtain ⟨q1, e1⟩ := va_pl_get (X := X) (f := cellOf g T I) ((p1 a1).mpr (nz h1 (by decide)))
  have e1' : (X ++ va_pl L (cellOf g T I))[q1]? = some (a1, .inl (gA g 2, n1, .inl (I a1))) := by rw [e1]; simp [cellOf, h1]
  refine vk_copyt C.x C.b (C.ml.trans b1.1.symm) C.ow (C.ts _ l1) (C.ts _ l2) (C.ts _ l3) (C.ts _ l4) C.K p2 p3 b3 h0 q1 2 e1' rfl (nI_pos (by omega)) (nI_pos (by omega)) (nI_pos (by omega)) ?_ ?_ ?_ ?_ ?_ d (fun H1 locs1 f1 f2 f3 => ?_)
  · rw [nI_clamp (by omega), nI_clamp (by omega)]; exact hs
  · rw [nI_clamp (by omega), nI_clamp (by omega)]; exact hd
  · intro i hi
    rw [nI_clamp (by omega)] at hi ⊢
    exact hf i hi
  · rw [C.R]; show 1 ≤ 4 * D + 8; omega
  · rw [C.R]; show _ + (5 + 2 + 11) ≤ 100 * D + 200; omega
  · rw [nI_clamp (by omega), nI_clamp (by omega), nI_clamp (by omega)] at f1 f2
    exact kk ls H1 locs1 b1 (Go.arr (Or.inr (Or.inr rfl)) h1 p1 p3 e1 f1 f2) f3
/-- a private method of the superclass is what the call of it selects -/
theorem sb_selP {y z : MethodName} {args : Array Value} {s : State} (hy : y.cls = RAB) (hz : z.cls = RAB) (h0 : (Cond.selects RSB z z).before args s = true) (hp : (Cond.privateMethod y).before args s = true) (hi : (Cond.instanceMethod y).before args s = true) : (Cond.selects RSB y y).before args s = true := by
  obtain ⟨c, r, m, hc, hr, hm, -, kP, hkP, hkPi⟩ := Cond.selects_spec h0
  obtain ⟨mk, methM, hnamed, hmethM, -, -⟩ := Cond.instanceMethod_spec hi
  have hfound : s.methodFound? y.cls y.name y.desc = some mk := State.methodFound?_of_named hnamed (by rw [hy]; exact ⟨by decide, by decide⟩)
  have hm2 : m.cls = mk.cls := Option.some.inj ((findClass_of_methodNamed hm).symm.trans ((congrArg s.vm.findClass (hz.trans hy.symm)).trans (findClass_of_methodNamed hnamed)))
  have hsel : selectMethod {} s.vm c mk = .method mk := selectMethod_private hmethM (Cond.privateMethod_at hp mk methM hnamed hmethM)
  rw [hm2] at hkP
  simp only [Cond.before, Cond.holds, Cond.value, hc, hfound, hnamed, hsel, hkP]
  simp; exact hkPi
/-- a method of AbstractStringBuilder on a builder, as own's class file links it -/
def LkU (own : String) (idx : Nat) (y : MethodName) (cc : ByteArray) (ml : Nat) (rt : Option FieldType) (n : Nat) : Prop :=
  y.cls = RAB ∧ Cond.methodLink own idx y ∈ gw ∧ Cond.sameMethod y.cls RAB y.name y.desc ∈ gw ∧ Cond.instanceMethod y ∈ gw ∧ Cond.initialized y.cls ∈ gw ∧ Cond.code y cc ml rt ∈ gw ∧ (Cond.privateMethod y ∈ lw_tbl ∨ Cond.selects RSB y y ∈ gw) ∧ (parseMethodDescriptor y.desc).map (fun d => d.parameters.length) = some n
theorem sb_self (C : Cx g k nL cc own rt D mc ms) {y : MethodName} (hy : y.cls = RAB) (hi : Cond.instanceMethod y ∈ gw) (h : Cond.privateMethod y ∈ lw_tbl ∨ Cond.selects RSB y y ∈ gw) : (Cond.selects RSB y y).before (ka k) (ks k) = true := by
  rcases h with h | h
  · exact sb_selP (z := ⟨RAB, "isLatin1", "()Z"⟩) hy rfl (C.ts _ (gx 1256 (by decide +kernel) (by decide +kernel))) (va_tabs rfl rfl (C.Z.2.2.2.2.2.2.2 _ h rfl)) (C.ts _ hi)
  · exact C.ts _ h
theorem r_callU {idx : Nat} {y : MethodName} {yc : ByteArray} {yl : Nat} {yr : Option FieldType} {n d cm cs b : Nat} {rf : Nat → Option Nat} {As rest : List Value} {P : PhiT} (C : Cx g k nL cc own rt D mc ms) (hfl : (kl k).flags = flags0) (L : LkU own idx y yc yl yr n) (hM : Mc g y yc yl yr d cm cs (.ref b :: As) X T I P) (hT : T b = (1, 1, rf)) (hs : st = As.reverse ++ .ref b :: rest) (hn : As.length = n) (hw : (rest.map fun v => v.category).sum ≤ 8) (hd : d + 1 ≤ D ∧ yl ≤ 60) (hr : cells + cm ≤ mc ∧ slots + cs ≤ ms) (dg : decode cc pc = .ok (.invokevirtual idx, 3))
    (kk : ∀ (r : Option Value) (X' : va_W) (T' : TT) (I' : II), P r X' T' I' → Go g k nL Q (cells + cm) (slots + cs) (pc + 3) lo (r.toList ++ rest) X' T' I') : Go g k nL Q cells slots pc lo st X T I := by
  obtain ⟨l0, l1, l2, l3, l4, l5, l6, l7⟩ := L
  obtain ⟨c1, c2, c3⟩ := C.calls (cm := cm) (cs := cs) l5 hd
  refine r_run (a := (Value.ref b :: As).toArray) (rest := rest) (As := As) (fun H locs h2 h3 ls h1 => ?_) kk
  have hat := h2.at (nz hT (by decide))
  obtain ⟨q', e1, cell, e2, e3, e4, -⟩ := (show va_at (gD g) vwCl (b, .inr (1, fl (I b) rf (shp 1) 0)) H by rw [← cell_obj hT]; exact hat)
  have hc1 : vwCl[1]? = some (RSB, TJ4, 4) := rfl
  cases Option.some.inj (e1.symm.trans hc1)
  have hself := sb_self C l0 l3 l6
  refine va_runU (own := own) (C := RSB) (owner := RAB) (x := y) (y := y) (bytes := yc) (maxL := yl) (ret := yr) (Ts := gw) (n := n) ⟨C.x, C.b, C.ml, C.ow, C.ts⟩ (hM _ hfl) ⟨⟨rfl, rfl, c1, c2, c3, List.mem_cons_self⟩, C.ts _ l5, C.ts _ l4, ⟨by decide, by decide⟩, fun sig h => by rw [h] at l7; exact (Option.some.inj l7).symm, C.ts _ l1, C.ts _ l2, ?_, hself, C.ts _ l3⟩
    ⟨Pre.blind _ _ _ _ _, ⟨cell, e2, by rw [e4]; rfl, by rw [e3]; exact (C.K.1 1 _ hc1).2.1⟩, C.pre h2 h3⟩ rfl hn h1.1 hs (by show 2 * 0 + _ ≤ 8; omega) dg (by rw [C.R]; exact hr)
  have hd0 := va_Decl.of (C.ts _ l3) (C.ts _ l5)
  rw [← l0]
  exact hd0
/-- super.y(..) on a builder -/
def LkP (idx : Nat) (y : MethodName) (cc : ByteArray) (ml : Nat) (rt : Option FieldType) (n : Nat) : Prop :=
  y.cls = RAB ∧ Cond.methodLink RSB idx y ∈ gw ∧ Cond.sameMethod y.cls y.cls y.name y.desc ∈ gw ∧ Cond.instanceMethod y ∈ gw ∧ Cond.initialized y.cls ∈ gw ∧ Cond.code y cc ml rt ∈ gw ∧ y.name ≠ "<init>" ∧ (parseMethodDescriptor y.desc).map (fun d => d.parameters.length) = some n
theorem r_callP {idx : Nat} {y : MethodName} {yc : ByteArray} {yl : Nat} {yr : Option FieldType} {n d cm cs b : Nat} {rf : Nat → Option Nat} {As rest : List Value} {P : PhiT} (C : Cx g k nL cc RSB rt D mc ms) (hfl : (kl k).flags = flags0) (L : LkP idx y yc yl yr n) (hM : Mc g y yc yl yr d cm cs (.ref b :: As) X T I P) (hT : T b = (1, 1, rf)) (hs : st = As.reverse ++ .ref b :: rest) (hn : As.length = n) (hw : (rest.map fun v => v.category).sum ≤ 8) (hd : d + 1 ≤ D ∧ yl ≤ 60) (hr : cells + cm ≤ mc ∧ slots + cs ≤ ms) (dg : decode cc pc = .ok (.invokespecial idx, 3))
    (kk : ∀ (r : Option Value) (X' : va_W) (T' : TT) (I' : II), P r X' T' I' → Go g k nL Q (cells + cm) (slots + cs) (pc + 3) lo (r.toList ++ rest) X' T' I') : Go g k nL Q cells slots pc lo st X T I := by
  obtain ⟨l0, l1, l2, l3, l4, l5, l6, l7⟩ := L
  obtain ⟨c1, c2, c3⟩ := C.calls (cm := cm) (cs := cs) l5 hd
  have l8 : Cond.superclass RSB y.cls ∈ gw := by rw [l0]; exact gx 366 (by decide +kernel) (by decide +kernel)
  refine r_run (a := (Value.ref b :: As).toArray) (rest := rest) (As := As) (fun H locs h2 h3 ls h1 => ?_) kk
  have hat := h2.at (nz hT (by decide))
  obtain ⟨q', e1, cell, e2, e3, e4, -⟩ := (show va_at (gD g) vwCl (b, .inr (1, fl (I b) rf (shp 1) 0)) H by rw [← cell_obj hT]; exact hat)
  have hc1 : vwCl[1]? = some (RSB, TJ4, 4) := rfl
  cases Option.some.inj (e1.symm.trans hc1)
  exact va_runSU (own := RSB) (C := RSB) (bytes := yc) (maxL := yl) (ret := yr) (Ts := gw) (n := n) (C.K.1 1 _ hc1).2 ⟨C.x, C.b, C.ml, C.ow, C.ts⟩ (hM _ hfl) ⟨⟨rfl, rfl, c1, c2, c3, List.mem_cons_self⟩, C.ts _ l1, C.ts _ l2, C.ts _ l8, C.ts _ l3, C.ts _ l4, C.ts _ l5, l6, fun sig h => by rw [h] at l7; exact (Option.some.inj l7).symm⟩
    ⟨Pre.blind _ _ _ _ _, ⟨cell, e2, by rw [e4]; rfl, by rw [e3]; exact (C.K.1 1 _ hc1).2.1⟩, C.pre h2 h3⟩ rfl hn h1.1 hs (by show 2 * 0 + _ ≤ 8; omega) dg (by rw [C.R]; exact hr)
end H87
