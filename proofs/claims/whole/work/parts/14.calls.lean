/-! Contracts, calls, returns, throws. -/
abbrev PhiT : Type := Option Value → va_W → TT → II → Prop
def Pre (g : GG) (av : List Value) (X : va_W) (T : TT) (I : II) : Array Value → State → Prop := va_Pc av (fun U => (∀ q, U.heap.size ≤ q → Ab g q) ∧ Pw g X T I U.heap ∧ va_K (gD g) vwCl (tysG g) U ∧ Stc g U U.heap)
def PostR (g : GG) (P : PhiT) : Array Value → State → Outcome → State → Prop := fun _ st oc t => (∃ (r : Option Value) (X : va_W) (T : TT) (I : II), oc = .returned r ∧ P r X T I ∧ Pw g X T I t.heap) ∧ va_F (Ab g) st t
/-- y returns, P says what -/
def Mc (g : GG) (y : MethodName) (cc : ByteArray) (ml : Nat) (rt : Option FieldType) (d mc ms : Nat) (av : List Value) (X : va_W) (T : TT) (I : II) (P : PhiT) : Prop :=
  ∀ l : Launch, l.flags = flags0 → Met l y (.code y cc ml rt :: gw) (rmd d mc ms) (Pre g av X T I) (PostR g P) mc ms (Ab g)
/-- what a throw says: the class, the store -/
def PostX (g : GG) (E : String → va_W → TT → II → Prop) : String → State → State → Prop := fun c st t => (∃ (X : va_W) (T : TT) (I : II), E c X T I ∧ Pw g X T I t.heap) ∧ va_F (Ab g) st t
/-- y returns or throws -/
def Mx (g : GG) (y : MethodName) (cc : ByteArray) (ml : Nat) (rt : Option FieldType) (d mc ms : Nat) (av : List Value) (X : va_W) (T : TT) (I : II) (P : PhiT) (E : String → va_W → TT → II → Prop) : Prop :=
  ∀ l : Launch, l.flags = flags0 → vx_Met l y (.code y cc ml rt :: gw) (rmd d mc ms) (Pre g av X T I) (PostR g P) (PostX g E) mc ms (Ab g)
/-- one answer, one store behind it -/
def Ex (r0 : Option Value) (X0 : va_W) (T0 : TT) (I0 : II) : PhiT := fun r X T I => r = r0 ∧ X = X0 ∧ T = T0 ∧ I = I0
theorem Pre.blind (g : GG) (av : List Value) (X : va_W) (T : TT) (I : II) : FrameBlind (Pre g av X T I) := by
  intro a U gf mk ⟨h1, h2, h3, h4, h5⟩
  exact ⟨h1, h2, h3, va_K.moved (u := U) (U := U.calling gf mk a) (Vm.Alike.refl U.vm) h4, Stc.same (u := U) (U := U.calling gf mk a) rfl h5⟩
def Qm (g : GG) (k : KK) (P : PhiT) (mc ms : Nat) : State → Prop := MQ (kb k) (PostR g P) (ka k) (ks k) mc ms (Ab g)
def Qx (g : GG) (k : KK) (P : PhiT) (E : String → va_W → TT → II → Prop) (mc ms : Nat) : State → Prop := vx_MQ (kb k) (PostR g P) (PostX g E) (ka k) (ks k) mc ms (Ab g)
theorem gw_tail {y : MethodName} {cc : ByteArray} {ml : Nat} {rt : Option FieldType} {args : Array Value} {s : State} (h : ∀ w ∈ (Cond.code y cc ml rt :: gw), w.before args s = true) : ∀ w ∈ gw, w.before args s = true := fun w hw => h w (List.mem_cons_of_mem _ hw)
theorem Mc.of {g : GG} {y : MethodName} {cc : ByteArray} {ml : Nat} {rt : Option FieldType} {d mc ms : Nat} {av : List Value} {X : va_W} {T : TT} {I : II} {P : PhiT} (hy : plainName y.cls = true) (hle : (lg_sl av).length ≤ ml)
    (body : ∀ k : KK, (kl k).flags = flags0 → Cx g k ml cc y.cls rt d mc ms → Go g k ml (Qm g k P mc ms) 0 0 0 (lv_args 0 av) [] X T I) : Mc g y cc ml rt d mc ms av X T I P := by
  intro l hfl
  refine Met.ofW (cc := cc) (maxL := ml) (ret := rt) hy rfl ?_
  intro p e s m args below meth c s₁ B hml hv
  obtain ⟨rfl, hA, hP, hK, hZ⟩ := hv
  have hts := atoms_spec (ws := Cond.code y cc ml rt :: gw) B.pre
  have hl := lv_entry av (n := ml) hle
  rw [lg_entry_eq]
  exact body (p, l, e, rmd d mc ms, s, m, av.toArray, below, meth, c) hfl ⟨B.exec, B.bytes, hml, findClass_of_methodNamed B.named, gw_tail hts, hK, hA, hZ, B.returns, B.notSynchronized, rfl⟩ _ _ _ hl hP va_S.rf
theorem Mx.of {g : GG} {y : MethodName} {cc : ByteArray} {ml : Nat} {rt : Option FieldType} {d mc ms : Nat} {av : List Value} {X : va_W} {T : TT} {I : II} {P : PhiT} {E : String → va_W → TT → II → Prop} (hy : plainName y.cls = true) (hle : (lg_sl av).length ≤ ml)
    (body : ∀ k : KK, (kl k).flags = flags0 → (∀ x ∈ (kc k).exceptionTable.toList, False) → Cx g k ml cc y.cls rt d mc ms → Go g k ml (Qx g k P E mc ms) 0 0 0 (lv_args 0 av) [] X T I) : Mx g y cc ml rt d mc ms av X T I P E := by
  intro l hfl
  refine vx_ofW (cc := cc) (maxL := ml) (ret := rt) hy rfl ?_
  intro p e s m args below meth c s₁ B hml hxt hv
  obtain ⟨rfl, hA, hP, hK, hZ⟩ := hv
  have hts := atoms_spec (ws := Cond.code y cc ml rt :: gw) B.pre
  have hl := lv_entry av (n := ml) hle
  rw [lg_entry_eq]
  exact body (p, l, e, rmd d mc ms, s, m, av.toArray, below, meth, c) hfl hxt ⟨B.exec, B.bytes, hml, findClass_of_methodNamed B.named, gw_tail hts, hK, hA, hZ, B.returns, B.notSynchronized, rfl⟩ _ _ _ hl hP va_S.rf
/-- a method as own's class file links it: of an instance, of none -/
def LkV (own : String) (idx : Nat) (y : MethodName) (cc : ByteArray) (ml : Nat) (rt : Option FieldType) (n : Nat) : Prop :=
  Cond.methodLink own idx y ∈ gw ∧ Cond.instanceMethod y ∈ gw ∧ Cond.selects y.cls y y ∈ gw ∧ Cond.initialized y.cls ∈ gw ∧ Cond.code y cc ml rt ∈ gw ∧ (y.cls = y.cls ∧ y.cls ≠ "java/lang/invoke/MethodHandle" ∧ y.cls ≠ "java/lang/invoke/VarHandle" ∧ (parseMethodDescriptor y.desc).map (fun d => d.parameters.length) = some n)
def LkS (own : String) (idx : Nat) (y : MethodName) (cc : ByteArray) (ml : Nat) (rt : Option FieldType) (n : Nat) : Prop :=
  Cond.methodLink own idx y ∈ gw ∧ Cond.static y ∈ gw ∧ Cond.initialized y.cls ∈ gw ∧ Cond.code y cc ml rt ∈ gw ∧ (y.cls ≠ "java/lang/invoke/MethodHandle" ∧ y.cls ≠ "java/lang/invoke/VarHandle" ∧ (parseMethodDescriptor y.desc).map (fun d => d.parameters.length) = some n)
section G3
variable {g : GG} {k : KK} {nL : Nat} {cc : ByteArray} {own : String} {rt : Option FieldType} {D mc ms : Nat} {Q : State → Prop} {cells slots pc : Nat} {lo : List (Nat × Value)} {st : List Value} {X : va_W} {T : TT} {I : II}
theorem Cx.calls {y : MethodName} {yc : ByteArray} {yl : Nat} {yr : Option FieldType} {d cm cs : Nat} (C : Cx g k nL cc own rt D mc ms) (hcode : Cond.code y yc yl yr ∈ gw) (hd : d + 1 ≤ D ∧ yl ≤ 60) : (rmd d cm cs).frames + 1 ≤ (kR k).frames ∧ 8 + (yl + 11) + (rmd d cm cs).locals ≤ (kR k).locals ∧ (∀ w ∈ (Cond.code y yc yl yr :: gw), ∀ (a' : Array Value) (U : State), (ks k).WarmedH U.vm → w.before a' U = true) := by
  obtain ⟨h1, h2⟩ := hd
  refine ⟨?_, ?_, pay_in C.ts (fun w hw => ?_)⟩
  · rw [C.R]; show 4 * d + 8 + 1 ≤ 4 * D + 8; omega
  · rw [C.R]; show 8 + (yl + 11) + (100 * d + 200) ≤ 100 * D + 200; omega
  · rcases List.mem_cons.mp hw with h | h
    · rw [h]; exact gw_good (fun _ h => h) _ hcode
    · exact gw_good (fun _ h => h) _ h
theorem Cx.pre {av : List Value} {H : Heap} {locs : List Loc} (C : Cx g k nL cc own rt D mc ms) (h2 : Pw g X T I H) (h3 : va_S (Ab g) (ks k).heap H locs) : ∀ U : State, U.heap = H → (ks k).WarmedH U.vm → Pre g av X T I av.toArray U := by
  intro U hU hW
  refine ⟨rfl, fun q hq => C.A q (Nat.le_trans h3.1 (by rw [← hU]; exact hq)), by rw [hU]; exact h2, va_K.moved hW.alike C.K, ?_⟩
  rw [hU]
  exact C.Z.go hW h3.2.1
/-- behind a call -/
theorem r_run {As rest st0 : List Value} {cm cs : Nat} {P : PhiT} {a : Array Value} (hr : ∀ H locs, Pw g X T I H → va_S (Ab g) (ks k).heap H locs → ∀ ls, lv_has ls nL lo → va_Run (kp k) (kl k) (ke k) (kR k) (ks k) (km k) (ka k) (kb k) (kme k) (kc k) H locs cells slots cm cs (F0 (km k) pc ls st0) rest (PostR g P a) (Ab g))
    (kk : ∀ (r : Option Value) (X' : va_W) (T' : TT) (I' : II), P r X' T' I' → Go g k nL Q (cells + cm) (slots + cs) (pc + 3) lo (r.toList ++ rest) X' T' I') : Go g k nL Q cells slots pc lo st0 X T I := by
  intro ls H locs h1 h2 h3 S hT Y
  obtain ⟨v, st₀, t, T', L, h0, Y', hL, e1, e2, ⟨⟨r, X', T2, I', hv, hp, hw⟩, hz, hk⟩, stp⟩ := hr H locs h2 h3 ls h1 S hT Y
  cases hv
  rw [h0] at hz hk
  have h3' : va_S (Ab g) (ks k).heap t.heap (locs ++ L) := ⟨Nat.le_trans h3.1 hz, fun q a1 a2 => by rw [hk q (Nat.lt_of_lt_of_le a1 h3.1) a2]; exact h3.2.1 q a1 a2, fun q hq => by
    rcases List.mem_append.mp hq with h | h
    · exact h3.2.2 q h
    · exact hL q h⟩
  obtain ⟨t2, b1, b2⟩ := kk v X' T2 I' hp ls t.heap (locs ++ L) h1 hw h3' T' e1 Y'
  exact ⟨t2, stp t2 b1, b2⟩
theorem r_callV {idx : Nat} {y : MethodName} {yc : ByteArray} {yl : Nat} {yr : Option FieldType} {n d cm cs b ci : Nat} {rf : Nat → Option Nat} {As rest : List Value} {P : PhiT} (C : Cx g k nL cc own rt D mc ms) (hfl : (kl k).flags = flags0) (L : LkV own idx y yc yl yr n) (hM : Mc g y yc yl yr d cm cs (.ref b :: As) X T I P) (hT : T b = (1, ci, rf)) (hci : ClsAt ci y.cls) (hs : st = As.reverse ++ .ref b :: rest) (hn : As.length = n) (hw : (rest.map fun v => v.category).sum ≤ 8) (hd : d + 1 ≤ D ∧ yl ≤ 60) (hr : cells + cm ≤ mc ∧ slots + cs ≤ ms) (dg : decode cc pc = .ok (.invokevirtual idx, 3))
    (kk : ∀ (r : Option Value) (X' : va_W) (T' : TT) (I' : II), P r X' T' I' → Go g k nL Q (cells + cm) (slots + cs) (pc + 3) lo (r.toList ++ rest) X' T' I') : Go g k nL Q cells slots pc lo st X T I := by
  obtain ⟨l1, l2, l3, l4, l5, l6⟩ := L
  obtain ⟨c1, c2, c3⟩ := C.calls (cm := cm) (cs := cs) l5 hd
  obtain ⟨F, N, hci⟩ := hci
  refine r_run (a := (Value.ref b :: As).toArray) (rest := rest) (As := As) (fun H locs h2 h3 ls h1 => ?_) kk
  have hat := h2.at (nz hT (by decide))
  obtain ⟨q', e1, cell, e2, e3, e4, -⟩ := (show va_at (gD g) vwCl (b, .inr (ci, fl (I b) rf (shp ci) 0)) H by rw [← cell_obj hT]; exact hat)
  cases Option.some.inj (e1.symm.trans hci)
  exact va_runV (own := own) (C := y.cls) (bytes := yc) (maxL := yl) (ret := yr) (Ts := gw) (n := n) ⟨C.x, C.b, C.ml, C.ow, C.ts⟩ (hM _ hfl) ⟨⟨rfl, rfl, c1, c2, c3, List.mem_cons_self, C.ts _ l5, C.ts _ l4, ⟨l6.2.1, l6.2.2.1⟩, fun sig h => by have h2 := l6.2.2.2; rw [h] at h2; exact (Option.some.inj h2).symm, C.ts _ l1⟩, C.ts _ l2, C.ts _ l3⟩
    ⟨Pre.blind _ _ _ _ _, ⟨cell, e2, by rw [e4]; rfl, by rw [e3]; exact (C.K.1 ci _ hci).2.1⟩, C.pre h2 h3⟩ rfl hn h1.1 hs (by show 2 * 0 + _ ≤ 8; omega) dg (by rw [C.R]; exact hr)
theorem r_callS {idx : Nat} {y : MethodName} {yc : ByteArray} {yl : Nat} {yr : Option FieldType} {n d cm cs : Nat} {As rest : List Value} {P : PhiT} (C : Cx g k nL cc own rt D mc ms) (hfl : (kl k).flags = flags0) (L : LkS own idx y yc yl yr n) (hM : Mc g y yc yl yr d cm cs As X T I P) (hs : st = As.reverse ++ rest) (hn : As.length = n) (hw : (rest.map fun v => v.category).sum ≤ 8) (hd : d + 1 ≤ D ∧ yl ≤ 60) (hr : cells + cm ≤ mc ∧ slots + cs ≤ ms) (dg : decode cc pc = .ok (.invokestatic idx, 3))
    (kk : ∀ (r : Option Value) (X' : va_W) (T' : TT) (I' : II), P r X' T' I' → Go g k nL Q (cells + cm) (slots + cs) (pc + 3) lo (r.toList ++ rest) X' T' I') : Go g k nL Q cells slots pc lo st X T I := by
  obtain ⟨l1, l2, l4, l5, l6⟩ := L
  obtain ⟨c1, c2, c3⟩ := C.calls (cm := cm) (cs := cs) l5 hd
  refine r_run (a := As.toArray) (rest := rest) (As := As) (fun H locs h2 h3 ls h1 => ?_) kk
  exact va_runS (own := own) (bytes := yc) (maxL := yl) (ret := yr) (Ts := gw) (n := n) ⟨C.x, C.b, C.ml, C.ow, C.ts⟩ (hM _ hfl) ⟨⟨rfl, rfl, c1, c2, c3, List.mem_cons_self, C.ts _ l5, C.ts _ l4, ⟨l6.1, l6.2.1⟩, fun sig h => by have h2 := l6.2.2; rw [h] at h2; exact (Option.some.inj h2).symm, C.ts _ l1⟩, C.ts _ l2⟩
    ⟨Pre.blind _ _ _ _ _, C.pre h2 h3⟩ rfl hn h1.1 hs (by show 2 * 0 + _ ≤ 8; omega) dg (by rw [C.R]; exact hr)
/-- a call with one answer -/
theorem r_callVx {idx : Nat} {y : MethodName} {yc : ByteArray} {yl : Nat} {yr : Option FieldType} {n d b ci : Nat} {rf : Nat → Option Nat} {As rest : List Value} {r : Option Value} {X' : va_W} {T' : TT} {I' : II} (C : Cx g k nL cc own rt D mc ms) (hfl : (kl k).flags = flags0) (L : LkV own idx y yc yl yr n) (hM : Mc g y yc yl yr d 0 0 (.ref b :: As) X T I (Ex r X' T' I')) (hT : T b = (1, ci, rf)) (hci : ClsAt ci y.cls) (hs : st = As.reverse ++ .ref b :: rest) (hn : As.length = n) (hw : (rest.map fun v => v.category).sum ≤ 8) (hd : d + 1 ≤ D ∧ yl ≤ 60) (hr : cells ≤ mc ∧ slots ≤ ms) (dg : decode cc pc = .ok (.invokevirtual idx, 3))
    (kk : Go g k nL Q cells slots (pc + 3) lo (r.toList ++ rest) X' T' I') : Go g k nL Q cells slots pc lo st X T I :=
  r_callV C hfl L hM hT hci hs hn hw hd hr dg (fun r2 X2 T2 I2 h => by obtain ⟨rfl, rfl, rfl, rfl⟩ := h; exact kk)
theorem r_callSx {idx : Nat} {y : MethodName} {yc : ByteArray} {yl : Nat} {yr : Option FieldType} {n d : Nat} {As rest : List Value} {r : Option Value} {X' : va_W} {T' : TT} {I' : II} (C : Cx g k nL cc own rt D mc ms) (hfl : (kl k).flags = flags0) (L : LkS own idx y yc yl yr n) (hM : Mc g y yc yl yr d 0 0 As X T I (Ex r X' T' I')) (hs : st = As.reverse ++ rest) (hn : As.length = n) (hw : (rest.map fun v => v.category).sum ≤ 8) (hd : d + 1 ≤ D ∧ yl ≤ 60) (hr : cells ≤ mc ∧ slots ≤ ms) (dg : decode cc pc = .ok (.invokestatic idx, 3))
    (kk : Go g k nL Q cells slots (pc + 3) lo (r.toList ++ rest) X' T' I') : Go g k nL Q cells slots pc lo st X T I :=
  r_callS C hfl L hM hs hn hw hd hr dg (fun r2 X2 T2 I2 h => by obtain ⟨rfl, rfl, rfl, rfl⟩ := h; exact kk)
/-- the end of a method -/
theorem r_iret {v : Int32} {P : PhiT} (C : Cx g k nL cc own (some .int) D mc ms) (d : decode cc pc = .ok (.ireturn, 1)) (hp : P (some (.int v)) X T I) (hc : cells ≤ mc ∧ slots ≤ ms) : Go g k nL (Qm g k P mc ms) cells slots pc lo [.int v] X T I := by
  intro ls H locs h1 h2 h3
  exact W.widen hc.1 hc.2 (W.iret C.x C.b C.ret (fun t ht hW => ⟨⟨_, X, T, I, rfl, hp, by rw [ht]; exact h2⟩, h3.F ht⟩) h3.2.2 d C.lk)
theorem r_zret {v : Int32} {P : PhiT} {ty : FieldType} (C : Cx g k nL cc own (some ty) D mc ms) (hn : narrow ty (.int v) = .int v) (d : decode cc pc = .ok (.ireturn, 1)) (hp : P (some (.int v)) X T I) (hc : cells ≤ mc ∧ slots ≤ ms) : Go g k nL (Qm g k P mc ms) cells slots pc lo [.int v] X T I := by
  intro ls H locs h1 h2 h3
  exact W.widen hc.1 hc.2 (W.zret C.x C.b C.ret hn (fun t ht hW => ⟨⟨_, X, T, I, rfl, hp, by rw [ht]; exact h2⟩, h3.F ht⟩) h3.2.2 d C.lk)
theorem r_vret {P : PhiT} (C : Cx g k nL cc own none D mc ms) (d : decode cc pc = .ok (.return_, 1)) (hp : P none X T I) (hc : cells ≤ mc ∧ slots ≤ ms) : Go g k nL (Qm g k P mc ms) cells slots pc lo [] X T I := by
  intro ls H locs h1 h2 h3
  exact W.widen hc.1 hc.2 (W.vret C.x C.b C.ret (fun t ht hW => ⟨⟨_, X, T, I, rfl, hp, by rw [ht]; exact h2⟩, h3.F ht⟩) h3.2.2 d C.lk)
theorem r_aret {v : Value} {ty : FieldType} {P : PhiT} (C : Cx g k nL cc own (some ty) D mc ms) (hty : (∃ n, ty = .object n) ∨ ∃ t, ty = .array t) (hv : v = .null ∨ ∃ a, v = .ref a) (d : decode cc pc = .ok (.areturn, 1)) (hp : P (some v) X T I) (hc : cells ≤ mc ∧ slots ≤ ms) : Go g k nL (Qm g k P mc ms) cells slots pc lo [v] X T I := by
  intro ls H locs h1 h2 h3
  exact W.widen hc.1 hc.2 (W.aret C.x C.b C.ret hty hv (fun t ht hW => ⟨⟨_, X, T, I, rfl, hp, by rw [ht]; exact h2⟩, h3.F ht⟩) h3.2.2 d C.lk)
/-- the end of a method that may throw -/
theorem r_xret {P : PhiT} {E : String → va_W → TT → II → Prop} (kk : Go g k nL (Qm g k P mc ms) cells slots pc lo st X T I) : Go g k nL (Qx g k P E mc ms) cells slots pc lo st X T I := fun ls H locs h1 h2 h3 => vx_ret (kk ls H locs h1 h2 h3)
end G3
