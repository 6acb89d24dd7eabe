/-! New objects and arrays at known addresses: from g0 on every address is taken, one behind the other. -/
def Fu (g : GG) (T : TT) (n : Nat) : Prop := ∀ q, g0 g ≤ q → q < n → (T q).1 ≠ 0
theorem Fu.put {g : GG} {T : TT} {n : Nat} {c : Kd} (h : Fu g T n) (hc : c.1 ≠ 0) : Fu g (tu T n c) (n + 1) := fun q h1 h2 => by
  by_cases e : q = n
  · rw [e, tu_s]; exact hc
  · rw [tu_n e]; exact h q h1 (by omega)
theorem Fu.re {g : GG} {T : TT} {n a : Nat} {c : Kd} (h : Fu g T n) (hc : c.1 ≠ 0) : Fu g (tu T a c) n := fun q h1 h2 => by
  by_cases e : q = a
  · rw [e, tu_s]; exact hc
  · rw [tu_n e]; exact h q h1 h2
theorem Fu.ext {g : GG} {T T' : TT} {b e : Nat} (h : Fu g T b) (hf : ∀ q, ¬ (b ≤ q ∧ q < e) → T' q = T q) (hn : ∀ q, b ≤ q → q < e → (T' q).1 ≠ 0) : Fu g T' e := fun q h1 h2 => by
  by_cases z : b ≤ q
  · exact hn q z h2
  · rw [hf q (by omega)]; exact h q h1 (by omega)
def AOs (U : State) : Prop := va_AO "LendingDesk$Borrower" U ∧ va_AO "LendingDesk$Loan" U ∧ va_AO "LendingDesk$Desk" U
def PreZ (g : GG) (av : List Value) (X : va_W) (T : TT) (I : II) (z : Nat) : Array Value → State → Prop := fun a U => Pre g av X T I a U ∧ U.heap.size ≤ z ∧ AOs U
theorem PreZ.blind (g : GG) (av : List Value) (X : va_W) (T : TT) (I : II) (z : Nat) : FrameBlind (PreZ g av X T I z) := by
  intro a U gf mk ⟨h, hz, h1, h2, h3⟩
  exact ⟨Pre.blind g av X T I a U gf mk h, hz, va_AO.moved (u := U) (U := U.calling gf mk a) (Vm.Alike.refl U.vm) h1, va_AO.moved (u := U) (U := U.calling gf mk a) (Vm.Alike.refl U.vm) h2, va_AO.moved (u := U) (U := U.calling gf mk a) (Vm.Alike.refl U.vm) h3⟩
/-- a constructor: the heap ends at z -/
def McZ (g : GG) (y : MethodName) (cc : ByteArray) (ml d mc ms : Nat) (av : List Value) (X : va_W) (T : TT) (I : II) (z : Nat) (P : PhiT) : Prop :=
  ∀ l : Launch, l.flags = flags0 → Met l y (.code y cc ml none :: gw) (rmd d mc ms) (PreZ g av X T I z) (PostR g P) mc ms (Ab g)
theorem McZ.of {g : GG} {y : MethodName} {cc : ByteArray} {ml : Nat} {d mc ms : Nat} {av : List Value} {X : va_W} {T : TT} {I : II} {z : Nat} {P : PhiT} (hy : plainName y.cls = true) (hi : y.name = "<init>") (hle : (lg_sl av).length ≤ ml)
    (body : ∀ k : KK, (kl k).flags = flags0 → (kme k).name = "<init>" → (ks k).heap.size + 0 ≤ z → AOs (ks k) → Cx g k ml cc y.cls none d mc ms → Go g k ml (Qm g k P mc ms) 0 0 0 (lv_args 0 av) [] X T I) : McZ g y cc ml d mc ms av X T I z P := by
  intro l hfl
  refine Met.ofW (cc := cc) (maxL := ml) (ret := none) hy rfl ?_
  intro p e s m args below meth c s₁ B hml hv
  obtain ⟨⟨rfl, hA, hP, hK, hZ⟩, hsz, hao⟩ := hv
  have hts := atoms_spec (ws := Cond.code y cc ml none :: gw) B.pre
  have hl := lv_entry av (n := ml) hle
  rw [lg_entry_eq]
  exact body (p, l, e, rmd d mc ms, s, m, av.toArray, below, meth, c) hfl ((name_of_methodNamed B.named B.method).1.trans hi) hsz hao ⟨B.exec, B.bytes, hml, findClass_of_methodNamed B.named, gw_tail hts, hK, hA, hZ, B.returns, B.notSynchronized, rfl⟩ _ _ _ hl hP va_S.rf
/-- a new cell lies at the heap's end -/
theorem new_at {g : GG} {X : va_W} {T : TT} {I : II} {L : List Nat} {q z : Nat} {e : va_E} {H1 : Heap} (e1 : va_P (gD g) vwCl ((X ++ va_pl L (cellOf g T I)) ++ [(q, e)]) H1) (e2 : va_D (Ab g) ((X ++ va_pl L (cellOf g T I)) ++ [(q, e)])) (f1 : (T q).1 = 0) (hfu : Fu g T z) (hs : H1.size ≤ z + 1) : q = z := by
  have hg : ((X ++ va_pl L (cellOf g T I)) ++ [(q, e)])[(X ++ va_pl L (cellOf g T I)).length]? = some (q, e) := by rw [List.getElem?_append_right (Nat.le_refl _), Nat.sub_self]; rfl
  have h1 : q < H1.size := (e1 _ _ hg).lt
  have h2 : g0 g ≤ q := e2.2 _ _ hg
  refine Decidable.byContradiction fun hne => ?_
  exact hfu q h2 (by omega) f1
/-- a call at a heap of known size -/
theorem va_Run.sz {p : Program} {l : Launch} {e : Env} {R : Room} {s : State} {m : MethodId} {args : Array Value} {below : List Frame} {meth : Method} {c : Code} {H : Heap} {locs : List Loc} {cells slots cm cs : Nat} {f : JFrame} {rest : List Value} {Qa : State → Outcome → State → Prop} {free : Addr → Prop} (h : H.size ≤ s.heap.size + cells → va_Run p l e R s m args below meth c H locs cells slots cm cs f rest Qa free) : va_Run p l e R s m args below meth c H locs cells slots cm cs f rest Qa free := fun T hT X => h (by rw [← hT]; exact X.heapSize) T hT X
/-- a class as own's class file makes objects of it -/
def NewOk (own : String) (idx ci N : Nat) : Prop := ∃ (Cn : String) (F : u_T), vwCl[ci]? = some (Cn, F, N) ∧ (∀ w ∈ u_ws Cn F N, w ∈ gw) ∧ (∃ ty : Nat → FieldType, (∀ k, k < N → parseFieldDescriptor (F k).2.2.1 = some (ty k)) ∧ ∀ j, j < N → defaultValue (ty j) = vp_V (fl (fun _ => 0) (fun _ => none) (shp ci) 0) j) ∧ Cond.classLink own idx Cn ∈ gw ∧ Cond.instantiable Cn N ∈ gw ∧ Cond.initialized Cn ∈ gw
/-- a final field of own's objects -/
def FdF (own : String) (idx ci k : Nat) (ty : FieldType) : Prop := ∃ (F : u_T) (N : Nat), ClsOk ci own F N ∧ k < N ∧ (F k).1 = own ∧ Cond.fieldLink own idx own (F k).2.1 (F k).2.2.1 ∈ gw ∧ (F k).2.2.2 = true ∧ parseFieldDescriptor (F k).2.2.1 = some ty ∧ N = (shp ci).length
def LkI (own : String) (idx : Nat) (y : MethodName) (cc : ByteArray) (ml n : Nat) : Prop :=
  Cond.methodLink own idx y ∈ gw ∧ Cond.instanceMethod y ∈ gw ∧ Cond.initialized y.cls ∈ gw ∧ Cond.code y cc ml none ∈ gw ∧ y.name = "<init>" ∧ (y.cls ≠ "java/lang/invoke/MethodHandle" ∧ y.cls ≠ "java/lang/invoke/VarHandle" ∧ (parseMethodDescriptor y.desc).map (fun d => d.parameters.length) = some n)
def LkIN (own : String) (idx : Nat) (host : String) (y : MethodName) (cc : ByteArray) (ml n : Nat) : Prop :=
  Cond.methodLinkNest own idx y host ∈ lw_tbl ∧ Cond.instanceMethod y ∈ gw ∧ Cond.initialized y.cls ∈ gw ∧ Cond.code y cc ml none ∈ gw ∧ y.name = "<init>" ∧ (y.cls ≠ "java/lang/invoke/MethodHandle" ∧ y.cls ≠ "java/lang/invoke/VarHandle" ∧ (parseMethodDescriptor y.desc).map (fun d => d.parameters.length) = some n)
section G93
variable {g : GG} {k : KK} {nL : Nat} {cc : ByteArray} {own : String} {rt : Option FieldType} {D mc ms : Nat} {Q : State → Prop} {cells slots pc : Nat} {lo : List (Nat × Value)} {st : List Value} {X : va_W} {T : TT} {I : II}
theorem r_newO {idx ci N z : Nat} (C : Cx g k nL cc own rt D mc ms) (hN : NewOk own idx ci N) (hfu : Fu g T z) (hz : (ks k).heap.size + cells ≤ z) (hc : cells + 1 ≤ mc ∧ slots + N ≤ ms) (d : decode cc pc = .ok (.new idx, 3)) (kk : (T z).1 = 0 → Go g k nL Q (cells + 1) (slots + N) (pc + 3) lo (.ref z :: st) X (tu T z (1, ci, fun _ => none)) (sr I z (fun _ => 0))) : Go g k nL Q cells slots pc lo st X T I := by
  intro ls H locs h1 h2 h3
  obtain ⟨Cn, F, n1, n2, ⟨ty, n3, n4⟩, n5, n6, n7⟩ := hN
  obtain ⟨L, p1, p2, p3⟩ := id h2
  refine va_new C.x C.b C.ts n2 ty n3 C.ow (C.ts _ n5) (C.ts _ n6) (C.ts _ n7) C.K p2 p3 h3 C.A n1 n4 (by rw [C.R]; exact hc.1) (by rw [C.R]; exact hc.2) d (fun q H1 e1 e2 e3 => ?_)
  obtain ⟨f1, f2⟩ := Pw.new (T := T) (I := I) (q := q) (c := (1, ci, fun _ => none)) (f := fun _ => 0) p1 (show (1 : Nat) ≠ 0 by decide) (by rw [cell_obj (T := tu T q (1, ci, fun _ => none)) tu_s, sr_s]) e1 e2
  intro T1 hT1 X1
  have hs1 := X1.heapSize
  rw [hT1] at hs1
  have hq : q = z := new_at e1 e2 f1 hfu (by omega)
  subst hq
  exact kk f1 ls H1 locs h1 f2 e3 T1 hT1 X1

theorem r_newI {z n : Nat} (C : Cx g k nL cc own rt D mc ms) (hn : n ≤ 65536) (hfu : Fu g T z) (hz : (ks k).heap.size + cells ≤ z) (hc : cells + 1 ≤ mc ∧ slots + n ≤ ms) (d : decode cc pc = .ok (.newarray .int, 2)) (kk : (T z).1 = 0 → Go g k nL Q (cells + 1) (slots + n) (pc + 2) lo (.ref z :: st) X (tu T z (2, n, nr)) (sr I z (fun _ => 0))) : Go g k nL Q cells slots pc lo (.int (nI n) :: st) X T I := by
  intro ls H locs h1 h2 h3
  obtain ⟨L, p1, p2, p3⟩ := id h2
  refine va_newa C.x C.b (atype := .int) (C.ts _ (gx 162 (by decide +kernel) (by decide +kernel))) rfl C.K p2 p3 h3 C.A (N' := n) (a0 := (n, .inl (fun _ => 0))) (fun cA => rfl) (nI_pos (by omega)) (nI_clamp (by omega)) (by show n * 4 ≤ 536870912; omega) (by rw [C.R]; exact hc.1) (by rw [C.R]; exact hc.2) d (fun q cA H1 hK e1 e2 e3 => ?_)
  have hA1 := (C.K.2 0 (gA g 0, .int) rfl).2
  have hA2 := (hK.2 8 (cA, .int) rfl).2
  have hcA : cA = gA g 0 := Option.some.inj (hA2.symm.trans hA1)
  subst hcA
  obtain ⟨f1, f2⟩ := Pw.new (T := T) (I := I) (q := q) (c := (2, n, nr)) (f := fun _ => 0) p1 (show (2 : Nat) ≠ 0 by decide) (e := .inl (gA g 0, n, .inl (fun _ => 0))) (by simp [cellOf, tu_s, sr_s]) e1 e2
  intro T1 hT1 X1
  have hs1 := X1.heapSize
  rw [hT1] at hs1
  have hq : q = z := new_at e1 e2 f1 hfu (by omega)
  subst hq
  exact kk f1 ls H1 locs h1 f2 e3 T1 hT1 X1

theorem r_newC {z n : Nat} (C : Cx g k nL cc own rt D mc ms) (hn : n ≤ 65536) (hfu : Fu g T z) (hz : (ks k).heap.size + cells ≤ z) (hc : cells + 1 ≤ mc ∧ slots + n ≤ ms) (d : decode cc pc = .ok (.newarray .char, 2)) (kk : (T z).1 = 0 → Go g k nL Q (cells + 1) (slots + n) (pc + 2) lo (.ref z :: st) X (tu T z (3, n, nr)) (sr I z (fun _ => 0))) : Go g k nL Q cells slots pc lo (.int (nI n) :: st) X T I := by
  intro ls H locs h1 h2 h3
  obtain ⟨L, p1, p2, p3⟩ := id h2
  refine va_newa C.x C.b (atype := .char) (C.ts _ (gx 334 (by decide +kernel) (by decide +kernel))) rfl C.K p2 p3 h3 C.A (N' := n) (a0 := (n, .inl (fun _ => 0))) (fun cA => rfl) (nI_pos (by omega)) (nI_clamp (by omega)) (by show n * 2 ≤ 536870912; omega) (by rw [C.R]; exact hc.1) (by rw [C.R]; exact hc.2) d (fun q cA H1 hK e1 e2 e3 => ?_)
  have hA1 := (C.K.2 1 (gA g 1, .char) rfl).2
  have hA2 := (hK.2 8 (cA, .char) rfl).2
  have hcA : cA = gA g 1 := Option.some.inj (hA2.symm.trans hA1)
  subst hcA
  obtain ⟨f1, f2⟩ := Pw.new (T := T) (I := I) (q := q) (c := (3, n, nr)) (f := fun _ => 0) p1 (show (3 : Nat) ≠ 0 by decide) (e := .inl (gA g 1, n, .inl (fun _ => 0))) (by simp [cellOf, tu_s, sr_s]) e1 e2
  intro T1 hT1 X1
  have hs1 := X1.heapSize
  rw [hT1] at hs1
  have hq : q = z := new_at e1 e2 f1 hfu (by omega)
  subst hq
  exact kk f1 ls H1 locs h1 f2 e3 T1 hT1 X1

theorem r_newZ {z n : Nat} (C : Cx g k nL cc own rt D mc ms) (hn : n ≤ 65536) (hfu : Fu g T z) (hz : (ks k).heap.size + cells ≤ z) (hc : cells + 1 ≤ mc ∧ slots + n ≤ ms) (d : decode cc pc = .ok (.newarray .byte, 2)) (kk : (T z).1 = 0 → Go g k nL Q (cells + 1) (slots + n) (pc + 2) lo (.ref z :: st) X (tu T z (4, n, nr)) (sr I z (fun _ => 0))) : Go g k nL Q cells slots pc lo (.int (nI n) :: st) X T I := by
  intro ls H locs h1 h2 h3
  obtain ⟨L, p1, p2, p3⟩ := id h2
  refine va_newa C.x C.b (atype := .byte) (C.ts _ (gx 367 (by decide +kernel) (by decide +kernel))) rfl C.K p2 p3 h3 C.A (N' := n) (a0 := (n, .inl (fun _ => 0))) (fun cA => rfl) (nI_pos (by omega)) (nI_clamp (by omega)) (by show n * 1 ≤ 536870912; omega) (by rw [C.R]; exact hc.1) (by rw [C.R]; exact hc.2) d (fun q cA H1 hK e1 e2 e3 => ?_)
  have hA1 := (C.K.2 2 (gA g 2, .byte) rfl).2
  have hA2 := (hK.2 8 (cA, .byte) rfl).2
  have hcA : cA = gA g 2 := Option.some.inj (hA2.symm.trans hA1)
  subst hcA
  obtain ⟨f1, f2⟩ := Pw.new (T := T) (I := I) (q := q) (c := (4, n, nr)) (f := fun _ => 0) p1 (show (4 : Nat) ≠ 0 by decide) (e := .inl (gA g 2, n, .inl (fun _ => 0))) (by simp [cellOf, tu_s, sr_s]) e1 e2
  intro T1 hT1 X1
  have hs1 := X1.heapSize
  rw [hT1] at hs1
  have hq : q = z := new_at e1 e2 f1 hfu (by omega)
  subst hq
  exact kk f1 ls H1 locs h1 f2 e3 T1 hT1 X1

theorem r_newRB {idx z n : Nat} (C : Cx g k nL cc own rt D mc ms) (hw : Cond.classLink own idx "LendingDesk$Borrower" ∈ gw) (hao : AOs (ks k)) (hn : n ≤ 65536) (hfu : Fu g T z) (hz : (ks k).heap.size + cells ≤ z) (hc : cells + 1 ≤ mc ∧ slots + n ≤ ms) (d : decode cc pc = .ok (.anewarray idx, 3)) (kk : (T z).1 = 0 → Go g k nL Q (cells + 1) (slots + n) (pc + 3) lo (.ref z :: st) X (tu T z (5, n, fun _ => none)) (sr I z (fun _ => 0))) : Go g k nL Q cells slots pc lo (.int (nI n) :: st) X T I := by
  intro ls H locs h1 h2 h3
  obtain ⟨L, p1, p2, p3⟩ := id h2
  refine va_newq C.x C.b C.ow (C.ts _ hw) hao.1 C.K p2 p3 h3 C.A (N' := n) (nI_pos (by omega)) (nI_clamp (by omega)) (by omega) (by rw [C.R]; exact hc.1) (by rw [C.R]; exact hc.2) d (fun q cA H1 hK e1 e2 e3 => ?_)
  obtain ⟨k1, c1, -, -, -, hA1⟩ := (C.K.2 3 (gA g 3, .object "LendingDesk$Borrower") rfl).2
  obtain ⟨k2, c2, -, -, -, hA2⟩ := (hK.2 8 (cA, .object "LendingDesk$Borrower") rfl).2
  have hcA : cA = gA g 3 := Option.some.inj (hA2.symm.trans hA1)
  subst hcA
  obtain ⟨f1, f2⟩ := Pw.new (T := T) (I := I) (q := q) (c := (5, n, fun _ => none)) (f := fun _ => 0) p1 (show (5 : Nat) ≠ 0 by decide) (e := .inl (gA g 3, n, .inr (.inr (.inr (.inr (fun _ => none)))))) (by simp [cellOf, tu_s]) e1 e2
  intro T1 hT1 X1
  have hs1 := X1.heapSize
  rw [hT1] at hs1
  have hq : q = z := new_at e1 e2 f1 hfu (by omega)
  subst hq
  exact kk f1 ls H1 locs h1 f2 e3 T1 hT1 X1
theorem r_astB {a n x v ci : Nat} {rf rv : Nat → Option Nat} {i : Int32} (C : Cx g k nL cc own rt D mc ms) (hT : T a = (5, n, rf)) (hv : T v = (1, ci, rv)) (hci : ClsAt ci "LendingDesk$Borrower") (hi : i = nI x) (hx : x < n) (hn : n < 2 ^ 31) (d : decode cc pc = .ok (.aastore, 1)) (kk : Go g k nL Q cells slots (pc + 1) lo st X (tu T a (5, n, va_up rf x (some v))) I) : Go g k nL Q cells slots pc lo (.ref v :: .int i :: .ref a :: st) X T I := by
  intro ls H locs h1 h2 h3
  subst hi
  obtain ⟨L, p1, p2, p3⟩ := id h2
  obtain ⟨q, hq⟩ := va_pl_get (X := X) (f := cellOf g T I) ((p1 a).mpr (nz hT (by decide)))
  obtain ⟨qv, hqv⟩ := va_pl_get (X := X) (f := cellOf g T I) ((p1 v).mpr (nz hv (by decide)))
  obtain ⟨F9, N9, hc⟩ := hci
  have hq2 : (X ++ va_pl L (cellOf g T I))[q]? = some (a, .inl (gA g 3, n, .inr (.inr (.inr (.inr rf))))) := by rw [hq]; simp [cellOf, hT]
  refine va_astq C.x C.b C.K p2 p3 h3 q 3 qv ci (r := ("LendingDesk$Borrower", F9, N9)) hq2 rfl (by rw [hqv, cell_obj hv]) hc (vp_in_nI hx hn) d (fun H1 locs1 e1 e2 e3 => kk ls H1 locs1 h1 ?_ e3)
  rw [nI_clamp (Nat.lt_trans hx hn)] at e1 e2
  have e : (X ++ va_pl L (cellOf g T I)).set q (a, .inl (gA g 3, n, .inr (.inr (.inr (.inr (va_up rf x (some v))))))) = X ++ va_pl L (cellOf g (tu T a (5, n, va_up rf x (some v))) I) := by
    rw [va_pl_set p3 ((p1 a).mpr (nz hT (by decide))) hq]
    refine congrArg (fun l => X ++ l) (va_pl_congr fun b => ?_)
    by_cases hb : b = a
    · subst hb
      rw [va_up_self]
      simp [cellOf, tu_s]
    · rw [va_up_ne _ _ hb]
      exact (cell_ext (tu_n hb) rfl).symm
  refine ⟨L, fun b => ?_, by rw [← e]; exact e1, by rw [← e]; exact e2⟩
  rw [p1 b]
  by_cases hb : b = a
  · subst hb
    rw [tu_s, hT]
  · rw [tu_n hb]

theorem r_newRL {idx z n : Nat} (C : Cx g k nL cc own rt D mc ms) (hw : Cond.classLink own idx "LendingDesk$Loan" ∈ gw) (hao : AOs (ks k)) (hn : n ≤ 65536) (hfu : Fu g T z) (hz : (ks k).heap.size + cells ≤ z) (hc : cells + 1 ≤ mc ∧ slots + n ≤ ms) (d : decode cc pc = .ok (.anewarray idx, 3)) (kk : (T z).1 = 0 → Go g k nL Q (cells + 1) (slots + n) (pc + 3) lo (.ref z :: st) X (tu T z (6, n, fun _ => none)) (sr I z (fun _ => 0))) : Go g k nL Q cells slots pc lo (.int (nI n) :: st) X T I := by
  intro ls H locs h1 h2 h3
  obtain ⟨L, p1, p2, p3⟩ := id h2
  refine va_newq C.x C.b C.ow (C.ts _ hw) hao.2.1 C.K p2 p3 h3 C.A (N' := n) (nI_pos (by omega)) (nI_clamp (by omega)) (by omega) (by rw [C.R]; exact hc.1) (by rw [C.R]; exact hc.2) d (fun q cA H1 hK e1 e2 e3 => ?_)
  obtain ⟨k1, c1, -, -, -, hA1⟩ := (C.K.2 4 (gA g 4, .object "LendingDesk$Loan") rfl).2
  obtain ⟨k2, c2, -, -, -, hA2⟩ := (hK.2 8 (cA, .object "LendingDesk$Loan") rfl).2
  have hcA : cA = gA g 4 := Option.some.inj (hA2.symm.trans hA1)
  subst hcA
  obtain ⟨f1, f2⟩ := Pw.new (T := T) (I := I) (q := q) (c := (6, n, fun _ => none)) (f := fun _ => 0) p1 (show (6 : Nat) ≠ 0 by decide) (e := .inl (gA g 4, n, .inr (.inr (.inr (.inr (fun _ => none)))))) (by simp [cellOf, tu_s]) e1 e2
  intro T1 hT1 X1
  have hs1 := X1.heapSize
  rw [hT1] at hs1
  have hq : q = z := new_at e1 e2 f1 hfu (by omega)
  subst hq
  exact kk f1 ls H1 locs h1 f2 e3 T1 hT1 X1
theorem r_astL {a n x v ci : Nat} {rf rv : Nat → Option Nat} {i : Int32} (C : Cx g k nL cc own rt D mc ms) (hT : T a = (6, n, rf)) (hv : T v = (1, ci, rv)) (hci : ClsAt ci "LendingDesk$Loan") (hi : i = nI x) (hx : x < n) (hn : n < 2 ^ 31) (d : decode cc pc = .ok (.aastore, 1)) (kk : Go g k nL Q cells slots (pc + 1) lo st X (tu T a (6, n, va_up rf x (some v))) I) : Go g k nL Q cells slots pc lo (.ref v :: .int i :: .ref a :: st) X T I := by
  intro ls H locs h1 h2 h3
  subst hi
  obtain ⟨L, p1, p2, p3⟩ := id h2
  obtain ⟨q, hq⟩ := va_pl_get (X := X) (f := cellOf g T I) ((p1 a).mpr (nz hT (by decide)))
  obtain ⟨qv, hqv⟩ := va_pl_get (X := X) (f := cellOf g T I) ((p1 v).mpr (nz hv (by decide)))
  obtain ⟨F9, N9, hc⟩ := hci
  have hq2 : (X ++ va_pl L (cellOf g T I))[q]? = some (a, .inl (gA g 4, n, .inr (.inr (.inr (.inr rf))))) := by rw [hq]; simp [cellOf, hT]
  refine va_astq C.x C.b C.K p2 p3 h3 q 4 qv ci (r := ("LendingDesk$Loan", F9, N9)) hq2 rfl (by rw [hqv, cell_obj hv]) hc (vp_in_nI hx hn) d (fun H1 locs1 e1 e2 e3 => kk ls H1 locs1 h1 ?_ e3)
  rw [nI_clamp (Nat.lt_trans hx hn)] at e1 e2
  have e : (X ++ va_pl L (cellOf g T I)).set q (a, .inl (gA g 4, n, .inr (.inr (.inr (.inr (va_up rf x (some v))))))) = X ++ va_pl L (cellOf g (tu T a (6, n, va_up rf x (some v))) I) := by
    rw [va_pl_set p3 ((p1 a).mpr (nz hT (by decide))) hq]
    refine congrArg (fun l => X ++ l) (va_pl_congr fun b => ?_)
    by_cases hb : b = a
    · subst hb
      rw [va_up_self]
      simp [cellOf, tu_s]
    · rw [va_up_ne _ _ hb]
      exact (cell_ext (tu_n hb) rfl).symm
  refine ⟨L, fun b => ?_, by rw [← e]; exact e1, by rw [← e]; exact e2⟩
  rw [p1 b]
  by_cases hb : b = a
  · subst hb
    rw [tu_s, hT]
  · rw [tu_n hb]

theorem r_newRD {idx z n : Nat} (C : Cx g k nL cc own rt D mc ms) (hw : Cond.classLink own idx "LendingDesk$Desk" ∈ gw) (hao : AOs (ks k)) (hn : n ≤ 65536) (hfu : Fu g T z) (hz : (ks k).heap.size + cells ≤ z) (hc : cells + 1 ≤ mc ∧ slots + n ≤ ms) (d : decode cc pc = .ok (.anewarray idx, 3)) (kk : (T z).1 = 0 → Go g k nL Q (cells + 1) (slots + n) (pc + 3) lo (.ref z :: st) X (tu T z (7, n, fun _ => none)) (sr I z (fun _ => 0))) : Go g k nL Q cells slots pc lo (.int (nI n) :: st) X T I := by
  intro ls H locs h1 h2 h3
  obtain ⟨L, p1, p2, p3⟩ := id h2
  refine va_newq C.x C.b C.ow (C.ts _ hw) hao.2.2 C.K p2 p3 h3 C.A (N' := n) (nI_pos (by omega)) (nI_clamp (by omega)) (by omega) (by rw [C.R]; exact hc.1) (by rw [C.R]; exact hc.2) d (fun q cA H1 hK e1 e2 e3 => ?_)
  obtain ⟨k1, c1, -, -, -, hA1⟩ := (C.K.2 5 (gA g 5, .object "LendingDesk$Desk") rfl).2
  obtain ⟨k2, c2, -, -, -, hA2⟩ := (hK.2 8 (cA, .object "LendingDesk$Desk") rfl).2
  have hcA : cA = gA g 5 := Option.some.inj (hA2.symm.trans hA1)
  subst hcA
  obtain ⟨f1, f2⟩ := Pw.new (T := T) (I := I) (q := q) (c := (7, n, fun _ => none)) (f := fun _ => 0) p1 (show (7 : Nat) ≠ 0 by decide) (e := .inl (gA g 5, n, .inr (.inr (.inr (.inr (fun _ => none)))))) (by simp [cellOf, tu_s]) e1 e2
  intro T1 hT1 X1
  have hs1 := X1.heapSize
  rw [hT1] at hs1
  have hq : q = z := new_at e1 e2 f1 hfu (by omega)
  subst hq
  exact kk f1 ls H1 locs h1 f2 e3 T1 hT1 X1
theorem r_astD {a n x v ci : Nat} {rf rv : Nat → Option Nat} {i : Int32} (C : Cx g k nL cc own rt D mc ms) (hT : T a = (7, n, rf)) (hv : T v = (1, ci, rv)) (hci : ClsAt ci "LendingDesk$Desk") (hi : i = nI x) (hx : x < n) (hn : n < 2 ^ 31) (d : decode cc pc = .ok (.aastore, 1)) (kk : Go g k nL Q cells slots (pc + 1) lo st X (tu T a (7, n, va_up rf x (some v))) I) : Go g k nL Q cells slots pc lo (.ref v :: .int i :: .ref a :: st) X T I := by
  intro ls H locs h1 h2 h3
  subst hi
  obtain ⟨L, p1, p2, p3⟩ := id h2
  obtain ⟨q, hq⟩ := va_pl_get (X := X) (f := cellOf g T I) ((p1 a).mpr (nz hT (by decide)))
  obtain ⟨qv, hqv⟩ := va_pl_get (X := X) (f := cellOf g T I) ((p1 v).mpr (nz hv (by decide)))
  obtain ⟨F9, N9, hc⟩ := hci
  have hq2 : (X ++ va_pl L (cellOf g T I))[q]? = some (a, .inl (gA g 5, n, .inr (.inr (.inr (.inr rf))))) := by rw [hq]; simp [cellOf, hT]
  refine va_astq C.x C.b C.K p2 p3 h3 q 5 qv ci (r := ("LendingDesk$Desk", F9, N9)) hq2 rfl (by rw [hqv, cell_obj hv]) hc (vp_in_nI hx hn) d (fun H1 locs1 e1 e2 e3 => kk ls H1 locs1 h1 ?_ e3)
  rw [nI_clamp (Nat.lt_trans hx hn)] at e1 e2
  have e : (X ++ va_pl L (cellOf g T I)).set q (a, .inl (gA g 5, n, .inr (.inr (.inr (.inr (va_up rf x (some v))))))) = X ++ va_pl L (cellOf g (tu T a (7, n, va_up rf x (some v))) I) := by
    rw [va_pl_set p3 ((p1 a).mpr (nz hT (by decide))) hq]
    refine congrArg (fun l => X ++ l) (va_pl_congr fun b => ?_)
    by_cases hb : b = a
    · subst hb
      rw [va_up_self]
      simp [cellOf, tu_s]
    · rw [va_up_ne _ _ hb]
      exact (cell_ext (tu_n hb) rfl).symm
  refine ⟨L, fun b => ?_, by rw [← e]; exact e1, by rw [← e]; exact e2⟩
  rw [p1 b]
  by_cases hb : b = a
  · subst hb
    rw [tu_s, hT]
  · rw [tu_n hb]

theorem r_putRF {idx ci j a x : Nat} {rf : Nat → Option Nat} {ty : FieldType} (C : Cx g k nL cc own rt D mc ms) (hm : (kme k).name = "<init>") (F : FdF own idx ci j ty) (hT : T a = (1, ci, rf)) (hs : (shp ci)[j]? = some false) (hn : narrow ty (.ref x) = .ref x) (hf : fits ty (.ref x) = true) (d : decode cc pc = .ok (.putfield idx, 3)) (kk : Go g k nL Q cells slots (pc + 3) lo st X (tu T a (1, ci, va_up rf j (some x))) I) : Go g k nL Q cells slots pc lo (.ref x :: .ref a :: st) X T I := by
  intro ls H locs h1 h2 h3
  obtain ⟨F, N, ⟨hc, hin, ⟨ty0, hty⟩, hnm⟩, hk, hd, hl, hfin, hpd, hN⟩ := F
  obtain ⟨L, p1, p2, p3⟩ := id h2
  obtain ⟨q, hq⟩ := va_pl_get (X := X) (f := cellOf g T I) ((p1 a).mpr (nz hT (by decide)))
  have hq' : (X ++ va_pl L (cellOf g T I))[q]? = some (a, .inr (ci, fl (I a) rf (shp ci) 0)) := by rw [hq, cell_obj hT]
  exact va_putF C.x C.b C.ts hin ty0 hty hnm C.ow C.K p2 p3 h3 q hq' hc j hk (C.ts _ hl) (fun x h => by rw [← hd]; exact h) hfin hm hd hpd hn hf (by rw [fl_len, ← hN]; exact hk) d (fun H1 locs1 e1 e2 e3 => kk ls H1 locs1 h1 (Pw.ref hT hs p1 p3 hq e1 e2) e3)
theorem r_putRN {idx ci j a x : Nat} {rf : Nat → Option Nat} {ty : FieldType} (C : Cx g k nL cc own rt D mc ms) (F : Fld own idx ci j ty false) (hT : T a = (1, ci, rf)) (hs : (shp ci)[j]? = some false) (hn : narrow ty (.ref x) = .ref x) (hf : fits ty (.ref x) = true) (d : decode cc pc = .ok (.putfield idx, 3)) (kk : Go g k nL Q cells slots (pc + 3) lo st X (tu T a (1, ci, va_up rf j (some x))) I) : Go g k nL Q cells slots pc lo (.ref x :: .ref a :: st) X T I := by
  intro ls H locs h1 h2 h3
  obtain ⟨Cn, F, N, ⟨hc, hin, ⟨ty0, hty⟩, hnm⟩, hk, hd, hl, hfin, hpd, hN⟩ := F
  obtain ⟨L, p1, p2, p3⟩ := id h2
  obtain ⟨q, hq⟩ := va_pl_get (X := X) (f := cellOf g T I) ((p1 a).mpr (nz hT (by decide)))
  have hq' : (X ++ va_pl L (cellOf g T I))[q]? = some (a, .inr (ci, fl (I a) rf (shp ci) 0)) := by rw [hq, cell_obj hT]
  exact va_put C.x C.b C.ts hin ty0 hty hnm C.ow C.K p2 p3 h3 q hq' hc j hk (C.ts _ hl) (fun x h => by rw [← hd]; exact h) hfin hpd hn hf (by rw [fl_len, ← hN]; exact hk) d (fun H1 locs1 e1 e2 e3 => kk ls H1 locs1 h1 (Pw.ref hT hs p1 p3 hq e1 e2) e3)
theorem r_obj {idx a : Nat} (C : Cx g k nL cc own rt D mc ms) (hl : Cond.methodLink own idx Lib.objectInit ∈ gw) (hw : (st.map fun v => v.category).sum ≤ 8) (d : decode cc pc = .ok (.invokespecial idx, 3)) (kk : Go g k nL Q cells slots (pc + 3) lo st X T I) : Go g k nL Q cells slots pc lo (.ref a :: st) X T I := by
  intro ls H locs h1 h2 h3
  exact W.objInit C.x C.b C.ow (C.ts _ hl) (C.ts _ (gx 127 (by decide +kernel) (by decide +kernel))) (C.ts _ (gx 128 (by decide +kernel) (by decide +kernel))) (g := F0 (km k) pc ls (.ref a :: st)) rfl (h1.1.trans C.ml.symm) rfl d (by rw [C.R]; show 1 ≤ 4 * D + 8; omega) (by rw [C.R]; show 2 * 0 + _ + 12 ≤ 100 * D + 200; omega) (kk ls H locs h1 h2 h3)
theorem Cx.preZ {av : List Value} {H : Heap} {locs : List Loc} {z : Nat} (C : Cx g k nL cc own rt D mc ms) (h2 : Pw g X T I H) (h3 : va_S (Ab g) (ks k).heap H locs) (hao : AOs (ks k)) (hz : H.size ≤ z) : ∀ U : State, U.heap = H → (ks k).WarmedH U.vm → PreZ g av X T I z av.toArray U := fun U hU hW => ⟨C.pre h2 h3 U hU hW, by rw [hU]; exact hz, va_AO.moved hW.alike hao.1, va_AO.moved hW.alike hao.2.1, va_AO.moved hW.alike hao.2.2⟩
theorem r_ctor {idx : Nat} {y : MethodName} {yc : ByteArray} {yl n d cm cs b z : Nat} {As rest : List Value} {P : PhiT} (C : Cx g k nL cc own rt D mc ms) (hfl : (kl k).flags = flags0) (hao : AOs (ks k)) (L : LkI own idx y yc yl n) (hM : McZ g y yc yl d cm cs (.ref b :: As) X T I z P) (hz : (ks k).heap.size + cells ≤ z) (hs : st = As.reverse ++ .ref b :: rest) (hn : As.length = n) (hw : (rest.map fun v => v.category).sum ≤ 8) (hd : d + 1 ≤ D ∧ yl ≤ 60) (hr : cells + cm ≤ mc ∧ slots + cs ≤ ms) (dg : decode cc pc = .ok (.invokespecial idx, 3))
    (kk : ∀ (r : Option Value) (X' : va_W) (T' : TT) (I' : II), P r X' T' I' → Go g k nL Q (cells + cm) (slots + cs) (pc + 3) lo (r.toList ++ rest) X' T' I') : Go g k nL Q cells slots pc lo st X T I := by
  obtain ⟨l1, l2, l4, l5, l7, l6⟩ := L
  obtain ⟨c1, c2, c3⟩ := C.calls (cm := cm) (cs := cs) l5 hd
  refine r_run (a := (Value.ref b :: As).toArray) (rest := rest) (As := As) (fun H locs h2 h3 ls h1 => ?_) kk
  refine va_Run.sz (fun hs0 => ?_)
  exact va_runI (own := own) (bytes := yc) (maxL := yl) (Ts := gw) (n := n) ⟨C.x, C.b, C.ml, C.ow, C.ts⟩ (hM _ hfl) ⟨⟨rfl, rfl, c1, c2, c3, List.mem_cons_self, C.ts _ l5, C.ts _ l4, ⟨l6.1, l6.2.1⟩, fun sig h => by have h2 := l6.2.2; rw [h] at h2; exact (Option.some.inj h2).symm, C.ts _ l1⟩, l7, C.ts _ l2⟩
    ⟨PreZ.blind _ _ _ _ _ _, C.preZ h2 h3 hao (by omega)⟩ rfl hn h1.1 hs (by show 2 * 0 + _ ≤ 8; omega) dg (by rw [C.R]; exact hr)
theorem r_ctorN {idx : Nat} {host : String} {y : MethodName} {yc : ByteArray} {yl n d cm cs b z : Nat} {As rest : List Value} {P : PhiT} (C : Cx g k nL cc own rt D mc ms) (hfl : (kl k).flags = flags0) (hao : AOs (ks k)) (L : LkIN own idx host y yc yl n) (hM : McZ g y yc yl d cm cs (.ref b :: As) X T I z P) (hz : (ks k).heap.size + cells ≤ z) (hs : st = As.reverse ++ .ref b :: rest) (hn : As.length = n) (hw : (rest.map fun v => v.category).sum ≤ 8) (hd : d + 1 ≤ D ∧ yl ≤ 60) (hr : cells + cm ≤ mc ∧ slots + cs ≤ ms) (dg : decode cc pc = .ok (.invokespecial idx, 3))
    (kk : ∀ (r : Option Value) (X' : va_W) (T' : TT) (I' : II), P r X' T' I' → Go g k nL Q (cells + cm) (slots + cs) (pc + 3) lo (r.toList ++ rest) X' T' I') : Go g k nL Q cells slots pc lo st X T I := by
  obtain ⟨l1, l2, l4, l5, l7, l6⟩ := L
  obtain ⟨c1, c2, c3⟩ := C.calls (cm := cm) (cs := cs) l5 hd
  refine r_run (a := (Value.ref b :: As).toArray) (rest := rest) (As := As) (fun H locs h2 h3 ls h1 => ?_) kk
  refine va_Run.sz (fun hs0 => ?_)
  have hN : va_Nw (.methodLinkNest own idx y host) (ks k) := C.Z.2.2.2.2.2.2.2 _ l1 rfl
  exact va_runIN (own := own) (host := host) (bytes := yc) (maxL := yl) (Ts := gw) (n := n) ⟨C.x, C.b, C.ml, C.ow, C.ts⟩ (hM _ hfl) ⟨va_cnB n C.ts (ws := Cond.code y yc yl none :: gw) (fun w hw => by
      rcases List.mem_cons.mp hw with h | h
      · rw [h]; exact gw_good (fun _ h => h) _ l5
      · exact gw_good (fun _ h => h) _ h) rfl rfl rfl hN (C.ts _ l4) l6 ⟨c1, c2⟩, l7, C.ts _ l2⟩
    ⟨PreZ.blind _ _ _ _ _ _, C.preZ h2 h3 hao (by omega)⟩ rfl hn h1.1 hs (by show 2 * 0 + _ ≤ 8; omega) dg (by rw [C.R]; exact hr)
end G93
/-- another word for one cell -/
theorem Pw.conv {g : GG} {X : va_W} {T T' : TT} {I I' : II} {H : Heap} {a : Nat} (h : Pw g X T I H) (ha : (T a).1 ≠ 0) (ha' : (T' a).1 ≠ 0) (hne : ∀ q, q ≠ a → T' q = T q ∧ I' q = I q) (hat : va_at (gD g) vwCl (a, cellOf g T I a) H → va_at (gD g) vwCl (a, cellOf g T' I' a) H) : Pw g X T' I' H :=
  h.put ha (fun q => by
    by_cases e : q = a
    · subst e; exact ⟨fun _ => ha, fun _ => ha'⟩
    · rw [(hne q e).1]) (fun q hq => cell_ext (hne q hq).1 (hne q hq).2) (hat (h.at ha)) (fun _ _ => rfl)
theorem r_conv {g : GG} {k : KK} {nL : Nat} {Q : State → Prop} {cells slots pc : Nat} {lo : List (Nat × Value)} {st : List Value} {X : va_W} {T T' : TT} {I I' : II} {a : Nat} (ha : (T a).1 ≠ 0) (ha' : (T' a).1 ≠ 0) (hne : ∀ q, q ≠ a → T' q = T q ∧ I' q = I q) (hat : ∀ H, va_at (gD g) vwCl (a, cellOf g T I a) H → va_at (gD g) vwCl (a, cellOf g T' I' a) H) (kk : Go g k nL Q cells slots pc lo st X T' I') : Go g k nL Q cells slots pc lo st X T I :=
  fun ls H locs h1 h2 h3 => kk ls H locs h1 (h2.conv ha ha' hne (hat H)) h3
theorem refs_eq {cA : ClassId} {n : Nat} {f f' : Nat → Option Nat} (h : ∀ i, i < n → f i = f' i) : vp_cell cA (n, .inr (.inr (.inr (.inr f)))) = vp_cell cA (n, .inr (.inr (.inr (.inr f')))) := by
  rw [vp_cell_q, vp_cell_q]
  unfold arrV
  congr 1
  congr 1
  funext j
  exact congrArg va_rf (h j.val j.isLt)
