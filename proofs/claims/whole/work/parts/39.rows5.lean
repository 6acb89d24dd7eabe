/-! Rows of the class: its faults, copies of arrays, private methods of nest mates. -/
def LkA (own : String) (idx : Nat) : Prop := Cond.methodLink own idx arraycopyName ∈ gw ∧ Cond.native arraycopyName ∈ gw ∧ Cond.static arraycopyName ∈ gw ∧ Cond.initialized "java/lang/System" ∈ gw
def LkSN (own : String) (idx : Nat) (host : String) (y : MethodName) (cc : ByteArray) (ml : Nat) (rt : Option FieldType) (n : Nat) : Prop :=
  Cond.methodLinkNest own idx y host ∈ lw_tbl ∧ Cond.static y ∈ gw ∧ Cond.initialized y.cls ∈ gw ∧ Cond.code y cc ml rt ∈ gw ∧ (y.cls ≠ "java/lang/invoke/MethodHandle" ∧ y.cls ≠ "java/lang/invoke/VarHandle" ∧ (parseMethodDescriptor y.desc).map (fun d => d.parameters.length) = some n)
def LkF (own : String) (idx i : Nat) : Prop := Cond.fieldLink own idx "LendingDesk$Fault" (fnm i) "LLendingDesk$Fault;" ∈ gw
section G9
variable {g : GG} {k : KK} {nL : Nat} {cc : ByteArray} {own : String} {rt : Option FieldType} {D mc ms : Nat} {Q : State → Prop} {cells slots pc : Nat} {lo : List (Nat × Value)} {st : List Value} {X : va_W} {T : TT} {I : II}
theorem r_flt {idx i : Nat} (C : Cx g k nL cc own rt D mc ms) (hi : i < 5) (hl : LkF own idx i) (d : decode cc pc = .ok (.getstatic idx, 3)) (kk : Go g k nL Q cells slots (pc + 3) lo (.ref (ga g i) :: st) X T I) : Go g k nL Q cells slots pc lo st X T I :=
  fun ls H locs h1 h2 h3 => va_gets C.x C.b (C.Z.1.1 i hi) h3 C.ow (C.ts _ hl) (fun _ h => h) d (kk ls H locs h1 h2 h3)
theorem r_acopy {idx a0 a1 n0 n1 sp dp n : Nat} {rf0 rf1 : Nat → Option Nat} (C : Cx g k nL cc own rt D mc ms) (hl : LkA own idx) (h0 : T a0 = (2, n0, rf0)) (h1 : T a1 = (2, n1, rf1)) (hs : sp + n ≤ n0) (hd : dp + n ≤ n1) (hn0 : n0 < 2 ^ 31) (hn1 : n1 < 2 ^ 31) (hw : (st.map fun v => v.category).sum ≤ 8) (d : decode cc pc = .ok (.invokestatic idx, 3)) (kk : Go g k nL Q cells slots (pc + 3) lo st X T (sr I a1 (va_cpy (I a0) (I a1) sp dp n))) : Go g k nL Q cells slots pc lo (.int (nI n) :: .int (nI dp) :: .ref a1 :: .int (nI sp) :: .ref a0 :: st) X T I := by
  intro ls H locs b1 b2 b3
  obtain ⟨L, p1, p2, p3⟩ := id b2
  obtain ⟨l1, l2, l3, l4⟩ := hl
  obtain ⟨q0, e0⟩ := va_pl_get (X := X) (f := cellOf g T I) ((p1 a0).mpr (nz h0 (by decide)))
  obtain ⟨q1, e1⟩ := va_pl_get (X := X) (f := cellOf g T I) ((p1 a1).mpr (nz h1 (by decide)))
  have e0' : (X ++ va_pl L (cellOf g T I))[q0]? = some (a0, .inl (gA g 0, n0, .inl (I a0))) := by rw [e0]; simp [cellOf, h0]
  have e1' : (X ++ va_pl L (cellOf g T I))[q1]? = some (a1, .inl (gA g 0, n1, .inl (I a1))) := by rw [e1]; simp [cellOf, h1]
  refine va_copyi C.x C.b (C.ml.trans b1.1.symm) C.ow (C.ts _ l1) (C.ts _ l2) (C.ts _ l3) (C.ts _ l4) C.K p2 p3 b3 q0 q1 0 0 e0' e1' rfl rfl rfl (nI_pos (by omega)) (nI_pos (by omega)) (nI_pos (by omega)) ?_ ?_ (fun _ _ => rfl) ?_ ?_ d (fun H1 locs1 f1 f2 f3 => ?_)
  · rw [nI_clamp (by omega), nI_clamp (by omega)]; exact hs
  · rw [nI_clamp (by omega), nI_clamp (by omega)]; exact hd
  · rw [C.R]; show 1 ≤ 4 * D + 8; omega
  · rw [C.R]; show _ + (5 + 2 + 11) ≤ 100 * D + 200; omega
  · rw [nI_clamp (by omega), nI_clamp (by omega), nI_clamp (by omega)] at f1 f2
    exact kk ls H1 locs1 b1 (Go.arr (Or.inl rfl) h1 p1 p3 e1 f1 f2) f3
theorem r_callSN {idx : Nat} {host : String} {y : MethodName} {yc : ByteArray} {yl : Nat} {yr : Option FieldType} {n d : Nat} {As rest : List Value} {v : Int32} {X' : va_W} {T' : TT} {I' : II} (C : Cx g k nL cc own rt D mc ms) (hfl : (kl k).flags = flags0) (L : LkSN own idx host y yc yl yr n) (hM : Mc g y yc yl yr d 0 0 As X T I (Ex (some (.int v)) X' T' I')) (hs : st = As.reverse ++ rest) (hn : As.length = n) (hw : (rest.map fun v => v.category).sum ≤ 8) (hd : d + 1 ≤ D ∧ yl ≤ 60) (hr : cells ≤ mc ∧ slots ≤ ms) (dg : decode cc pc = .ok (.invokestatic idx, 3))
    (kk : Go g k nL Q cells slots (pc + 3) lo (.int v :: rest) X' T' I') : Go g k nL Q cells slots pc lo st X T I := by
  obtain ⟨l1, l2, l4, l5, l6⟩ := L
  obtain ⟨c1, c2, c3⟩ := C.calls (cm := 0) (cs := 0) l5 hd
  refine r_run (a := As.toArray) (rest := rest) (As := As) (P := Ex (some (.int v)) X' T' I') (cm := 0) (cs := 0) (fun H locs h2 h3 ls h1 => ?_) (fun r2 X2 T2 I2 h => by obtain ⟨rfl, rfl, rfl, rfl⟩ := h; exact kk)
  have hN : va_Nw (.methodLinkNest own idx y host) (ks k) := C.Z.2.2.2.2.2.2.2 _ l1 rfl
  exact va_runSN (own := own) (host := host) (bytes := yc) (maxL := yl) (ret := yr) (Ts := gw) (n := n) ⟨C.x, C.b, C.ml, C.ow, C.ts⟩ (hM _ hfl) ⟨va_cnB n C.ts (ws := Cond.code y yc yl yr :: gw) (fun w hw => by
      rcases List.mem_cons.mp hw with h | h
      · rw [h]; exact gw_good (fun _ h => h) _ l5
      · exact gw_good (fun _ h => h) _ h) rfl rfl rfl hN (C.ts _ l4) l6 ⟨c1, c2⟩, C.ts _ l2, trivial⟩
    ⟨Pre.blind _ _ _ _ _, C.pre h2 h3⟩ rfl hn h1.1 hs (by show 2 * 0 + _ ≤ 8; omega) dg (by rw [C.R]; exact hr)
/-- the store gets a name -/
theorem r_gen {P : II → Prop} (h : P I) (kk : ∀ I', P I' → Go g k nL Q cells slots pc lo st X T I') : Go g k nL Q cells slots pc lo st X T I := kk I h
end G9
