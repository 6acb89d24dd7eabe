/-! The law's own rows: longs, its two arrays of one place, its catching calls. -/
/-- the law's two arrays -/
def XO (g : GG) (a : Nat) (f : Nat → Int64) (b : Nat) (h : Nat → UInt64) : va_W := [(a, .inl (gA g 6, 1, .inr (.inl f))), (b, .inl (gA g 7, 1, .inr (.inr (.inr (.inl h)))))]
theorem lv_lcmpE {p : Program} {l : Launch} {e : Env} {R : Room} {s : State} {m : MethodId} {args : Array Value} {below : List Frame} {meth : Method} {c : Code} {H : Heap} {locs : List Loc} {cells slots : Nat} {Q : State → Prop} {cc : ByteArray} {pc : Nat} {ls : Array Slot} {rest : List Value} (hexec : p.tables.exec = Jvm.exec) (hb : c.code = cc) {x : Int64} (hdg : decode cc pc = .ok (.lcmp, 1))
    (k : W p l e R s m args below meth c H locs cells slots Q (F0 m (pc + 1) ls (.int 0 :: rest))) : W p l e R s m args below meth c H locs cells slots Q (F0 m pc ls (.long x :: .long x :: rest)) := by
  intro T hT X
  obtain ⟨t, a, b⟩ := k T hT X
  refine ⟨t, ?_, b⟩
  jvm_step X.here [X.here.top, hexec, hb, hdg, Int64.lt_irrefl]
  exact a
/-- no class of the four is another's -/
def Ncs (U : State) : Prop := ∀ i j, 1 ≤ i → i ≤ 4 → 1 ≤ j → j ≤ 4 → i ≠ j → va_Nc (exc i) (exc j) U
theorem Ncs.moved {u U : State} (h : u.vm.Alike U.vm) (hn : Ncs u) : Ncs U := fun i j h1 h2 h3 h4 h5 => (hn i j h1 h2 h3 h4 h5).moved h
def cTy : Nat → Nat
  | 1 => 34
  | 2 => 21
  | 3 => 13
  | 4 => 15
  | _ => 147
theorem cTy_w : ∀ j, 1 ≤ j → j ≤ 5 → Cond.classLink RL (cTy j) (exc j) ∈ gw
  | 1, _, _ => gx 801 (by decide +kernel) (by decide +kernel)
  | 2, _, _ => gx 724 (by decide +kernel) (by decide +kernel)
  | 3, _, _ => gx 560 (by decide +kernel) (by decide +kernel)
  | 4, _, _ => gx 561 (by decide +kernel) (by decide +kernel)
  | 5, _, _ => gx 1159 (by decide +kernel) (by decide +kernel)
theorem cTy_0 (j : Nat) : cTy j ≠ 0 := by
  unfold cTy
  split <;> decide
theorem cs_w : ∀ j, 1 ≤ j → j ≤ 5 → Cond.castable (exc j) (exc j) ∈ lw_tbl
  | 1, _, _ => List.mem_of_getElem? (i := 594) (by decide +kernel)
  | 2, _, _ => List.mem_of_getElem? (i := 667) (by decide +kernel)
  | 3, _, _ => List.mem_of_getElem? (i := 684) (by decide +kernel)
  | 4, _, _ => List.mem_of_getElem? (i := 701) (by decide +kernel)
  | 5, _, _ => List.mem_of_getElem? (i := 1171) (by decide +kernel)
/-- a wrapper's table: the exceptions by number, their handlers -/
def mkT (en : Nat) : List Nat → List Nat → List (Nat × Nat × Nat × Nat)
  | j :: js, h :: hs => (0, en, h, cTy j) :: mkT en js hs
  | _, _ => []
def rowT (q : Nat × Nat × Nat × Nat) : ExceptionTableEntry := ⟨q.1, q.2.1, q.2.2.1, q.2.2.2⟩
def Tb (c : Code) (hh : List (Nat × Nat × Nat × Nat)) : Prop := c.exceptionTable.toList = hh.map rowT
/-- the table up to the row that catches -/
theorem mkT_split (en : Nat) : ∀ (js hs : List Nat) (i : Nat), js.length = hs.length → i < js.length → ∃ pre suf, mkT en js hs = pre ++ (0, en, hs.getD i 0, cTy (js.getD i 0)) :: suf ∧ ∀ q ∈ pre, ∃ j, j < i ∧ q.2.2.2 = cTy (js.getD j 0)
  | [], _, _, _, h => absurd h (Nat.not_lt_zero _)
  | _ :: _, [], _, h, _ => absurd h (by simp)
  | j :: js, h :: hs, 0, _, _ => ⟨[], mkT en js hs, rfl, fun q hq => absurd hq List.not_mem_nil⟩
  | j :: js, h :: hs, i + 1, hl, hi => by
    obtain ⟨pre, suf, e1, e2⟩ := mkT_split en js hs i (by simpa using hl) (by simpa using hi)
    refine ⟨(0, en, h, cTy j) :: pre, suf, by rw [mkT, e1]; rfl, fun q hq => ?_⟩
    rcases List.mem_cons.mp hq with z | z
    · exact ⟨0, by omega, by rw [z]; rfl⟩
    · obtain ⟨m, m1, m2⟩ := e2 q z
      exact ⟨m + 1, by omega, m2⟩
def PreW (g : GG) (av : List Value) (X : va_W) (T : TT) (I : II) : Array Value → State → Prop := fun a U => Pre g av X T I a U ∧ Ncs U
theorem PreW.blind (g : GG) (av : List Value) (X : va_W) (T : TT) (I : II) : FrameBlind (PreW g av X T I) := by
  intro a U gf mk ⟨h, hn⟩
  exact ⟨Pre.blind g av X T I a U gf mk h, Ncs.moved (u := U) (U := U.calling gf mk a) (Vm.Alike.refl U.vm) hn⟩
/-- a wrapper: it returns an int -/
def McW (g : GG) (y : MethodName) (cc : ByteArray) (ml : Nat) (hh : List (Nat × Nat × Nat × Nat)) (d mc ms : Nat) (av : List Value) (X : va_W) (T : TT) (I : II) (P : PhiT) : Prop :=
  ∀ l : Launch, l.flags = flags0 → Met l y (.codeWith y cc ml (some .int) hh :: gw) (rmd d mc ms) (PreW g av X T I) (PostR g P) mc ms (Ab g)
theorem gw_tailW {y : MethodName} {cc : ByteArray} {ml : Nat} {rt : Option FieldType} {hh : List (Nat × Nat × Nat × Nat)} {args : Array Value} {s : State} (h : ∀ w ∈ (Cond.codeWith y cc ml rt hh :: gw), w.before args s = true) : ∀ w ∈ gw, w.before args s = true := fun w hw => h w (List.mem_cons_of_mem _ hw)
theorem McW.of {g : GG} {y : MethodName} {cc : ByteArray} {ml : Nat} {hh : List (Nat × Nat × Nat × Nat)} {d mc ms : Nat} {av : List Value} {X : va_W} {T : TT} {I : II} {P : PhiT} (hy : plainName y.cls = true) (hle : (lg_sl av).length ≤ ml)
    (body : ∀ k : KK, (kl k).flags = flags0 → Ncs (ks k) → Tb (kc k) hh → Cx g k ml cc y.cls (some .int) d mc ms → Go g k ml (Qm g k P mc ms) 0 0 0 (lv_args 0 av) [] X T I) : McW g y cc ml hh d mc ms av X T I P := by
  intro l hfl
  refine va_MetW (cc := cc) (maxL := ml) (ret := some .int) (hh := hh) hy rfl ?_
  intro p e s m args below meth c s₁ B hml hv
  obtain ⟨⟨rfl, hA, hP, hK, hZ⟩, hn⟩ := hv
  have hts := atoms_spec (ws := Cond.codeWith y cc ml (some .int) hh :: gw) B.pre
  have hl := lv_entry av (n := ml) hle
  have htb : Tb c hh := by
    obtain ⟨m9, meth9, c9, hn9, h1, h2, -, -, h5, -⟩ := Cond.codeWith_spec (hts _ List.mem_cons_self)
    cases Option.some.inj (B.named.symm.trans hn9)
    cases Option.some.inj (h1.symm.trans B.method)
    cases Option.some.inj (h2.symm.trans (Stand.of_body B).code)
    show c.exceptionTable.toList = hh.map rowT
    rw [← h5, List.map_map]
    exact (List.map_id _).symm
  rw [lg_entry_eq]
  exact body (p, l, e, rmd d mc ms, s, m, av.toArray, below, meth, c) hfl hn htb ⟨B.exec, B.bytes, hml, findClass_of_methodNamed B.named, gw_tailW hts, hK, hA, hZ, B.returns, B.notSynchronized, rfl⟩ _ _ _ hl hP va_S.rf
def LkW (own : String) (idx : Nat) (y : MethodName) (cc : ByteArray) (ml : Nat) (hh : List (Nat × Nat × Nat × Nat)) (n : Nat) : Prop :=
  Cond.methodLink own idx y ∈ gw ∧ Cond.static y ∈ gw ∧ Cond.initialized y.cls ∈ gw ∧ Cond.codeWith y cc ml (some .int) hh ∈ gw ∧ (y.cls ≠ "java/lang/invoke/MethodHandle" ∧ y.cls ≠ "java/lang/invoke/VarHandle" ∧ (parseMethodDescriptor y.desc).map (fun d => d.parameters.length) = some n)
/-- no NaN, in the library's core's word -/
theorem own_n64 (x : UInt64) : vf_n64 x ↔ ¬ FP.Core.dIsNaN x = true := by
  have e : (x &&& 0x7fffffffffffffff).toNat = x.toNat % 2 ^ 63 := (UInt64.toNat_and x 0x7fffffffffffffff).trans (Nat.and_two_pow_sub_one_eq_mod x.toNat 63)
  have k : vf_n64 x ↔ (x &&& 0x7fffffffffffffff).toNat ≤ 9218868437227405312 := UInt64.le_iff_toNat_le
  rw [k, e, FP.Core.isNaN_bits, Nat.not_lt]
theorem own_n32 (x : UInt32) : vf_n32 x ↔ ¬ FP.Core.fIsNaN x = true := by
  have e : (x &&& 0x7fffffff).toNat = x.toNat % 2 ^ 31 := (UInt32.toNat_and x 0x7fffffff).trans (Nat.and_two_pow_sub_one_eq_mod x.toNat 31)
  have k : vf_n32 x ↔ (x &&& 0x7fffffff).toNat ≤ 2139095040 := UInt32.le_iff_toNat_le
  rw [k, e, FP.Core.isNaN_bits32, Nat.not_lt]
theorem own_f2d {x : UInt32} (h : vf_n32 x) : vf_n64 (FP.f2d x) :=
  (own_n64 _).mpr fun z => (own_n32 x).mp h (Eq.trans (show FP.Core.fIsNaN x = FP.Core.dIsNaN (FP.f2d x) from (FP.f2d_nan x).symm) z)
theorem own_dcmp {x : UInt64} (h : vf_n64 x) : Op.cmpValue (FP.dcmp x x) .l = 0 := by
  have q : FP.dcmp x x = some .eq := FP.Core.dcmp_self fun z => (own_n64 x).mp h ((FP.Core.dIsNaN_iff x).mpr z)
  rw [q]
  rfl
section G9F
variable {g : GG} {k : KK} {nL : Nat} {cc : ByteArray} {own : String} {rt : Option FieldType} {D mc ms : Nat} {Q : State → Prop} {cells slots pc : Nat} {lo : List (Nat × Value)} {st : List Value} {X : va_W} {T : TT} {I : II} {a b : Nat} {f : Nat → Int64} {h : Nat → UInt64}
theorem r_jald (C : Cx g k nL cc own rt D mc ms) (d : decode cc pc = .ok (.laload, 1)) (kk : Go g k nL Q cells slots (pc + 1) lo (.long (f 0) :: st) (XO g a f b h) T I) : Go g k nL Q cells slots pc lo (.int (nI 0) :: .ref a :: st) (XO g a f b h) T I := by
  intro ls H locs h1 h2 h3
  obtain ⟨L, p1, p2, p3⟩ := id h2
  exact va_lald C.x C.b C.K p2 0 6 (a := a) (f := f) (n := 1) rfl rfl (vp_in_nI (by decide) (by decide)) d (kk ls H locs h1 h2 h3)
theorem r_jast {x : Int64} (C : Cx g k nL cc own rt D mc ms) (d : decode cc pc = .ok (.lastore, 1)) (kk : ∀ f' : Nat → Int64, f' 0 = x → Go g k nL Q cells slots (pc + 1) lo st (XO g a f' b h) T I) : Go g k nL Q cells slots pc lo (.long x :: .int (nI 0) :: .ref a :: st) (XO g a f b h) T I := by
  intro ls H locs h1 h2 h3
  obtain ⟨L, p1, p2, p3⟩ := id h2
  exact va_last C.x C.b C.K p2 p3 h3 0 6 (a := a) (f := f) (n := 1) rfl rfl (vp_in_nI (by decide) (by decide)) d (fun H1 locs1 e1 e2 e3 => kk (vp_updL f 0 x) (by simp [vp_updL]) ls H1 locs1 h1 ⟨L, p1, e1, e2⟩ e3)
theorem r_dald (C : Cx g k nL cc own rt D mc ms) (d : decode cc pc = .ok (.daload, 1)) (kk : Go g k nL Q cells slots (pc + 1) lo (.double (h 0) :: st) (XO g a f b h) T I) : Go g k nL Q cells slots pc lo (.int (nI 0) :: .ref b :: st) (XO g a f b h) T I := by
  intro ls H locs h1 h2 h3
  obtain ⟨L, p1, p2, p3⟩ := id h2
  exact va_dald C.x C.b C.K p2 1 7 (a := b) (f := h) (n := 1) rfl rfl (vp_in_nI (by decide) (by decide)) d (kk ls H locs h1 h2 h3)
theorem r_dast {x : UInt64} (C : Cx g k nL cc own rt D mc ms) (d : decode cc pc = .ok (.dastore, 1)) (kk : ∀ h' : Nat → UInt64, h' 0 = x → Go g k nL Q cells slots (pc + 1) lo st (XO g a f b h') T I) : Go g k nL Q cells slots pc lo (.double x :: .int (nI 0) :: .ref b :: st) (XO g a f b h) T I := by
  intro ls H locs h1 h2 h3
  obtain ⟨L, p1, p2, p3⟩ := id h2
  exact va_dast C.x C.b C.K p2 p3 h3 1 7 (a := b) (f := h) (n := 1) rfl rfl (vp_in_nI (by decide) (by decide)) d (fun H1 locs1 e1 e2 e3 => kk (vf_upd h 0 x) (by simp [vf_upd]) ls H1 locs1 h1 ⟨L, p1, e1, e2⟩ e3)
theorem r_newJ (C : Cx g k nL cc own rt D mc ms) (hc : cells + 1 ≤ mc ∧ slots + 1 ≤ ms) (d : decode cc pc = .ok (.newarray .long, 2)) (kk : ∀ q : Nat, Go g k nL Q (cells + 1) (slots + 1) (pc + 2) lo (.ref q :: st) (X ++ [(q, .inl (gA g 6, 1, .inr (.inl (fun _ => 0))))]) T I) : Go g k nL Q cells slots pc lo (.int (nI 1) :: st) X T I := by
  intro ls H locs h1 h2 h3
  obtain ⟨L, p1, p2, p3⟩ := id h2
  refine va_newa C.x C.b (atype := .long) (C.ts _ (gx 2242 (by decide +kernel) (by decide +kernel))) rfl C.K p2 p3 h3 C.A (N' := 1) (a0 := (1, .inr (.inl (fun _ => 0)))) (fun cA => rfl) (nI_pos (by omega)) (nI_clamp (by omega)) (by decide) (by rw [C.R]; exact hc.1) (by rw [C.R]; exact hc.2) d (fun q cA H1 hK e1 e2 e3 => ?_)
  have hA1 := (C.K.2 6 (gA g 6, .long) rfl).2
  have hA2 := (hK.2 8 (cA, .long) rfl).2
  have hcA : cA = gA g 6 := Option.some.inj (hA2.symm.trans hA1)
  subst hcA
  exact kk q ls H1 locs h1 ⟨L, p1, e1.swap, e2.swap⟩ e3
theorem r_newD1 (C : Cx g k nL cc own rt D mc ms) (hc : cells + 1 ≤ mc ∧ slots + 1 ≤ ms) (d : decode cc pc = .ok (.newarray .double, 2)) (kk : ∀ q : Nat, Go g k nL Q (cells + 1) (slots + 1) (pc + 2) lo (.ref q :: st) (X ++ [(q, .inl (gA g 7, 1, .inr (.inr (.inr (.inl (fun _ => 0))))))]) T I) : Go g k nL Q cells slots pc lo (.int (nI 1) :: st) X T I := by
  intro ls H locs h1 h2 h3
  obtain ⟨L, p1, p2, p3⟩ := id h2
  refine va_newa C.x C.b (atype := .double) (C.ts _ (gx 2243 (by decide +kernel) (by decide +kernel))) rfl C.K p2 p3 h3 C.A (N' := 1) (a0 := (1, .inr (.inr (.inr (.inl (fun _ => 0)))))) (fun cA => rfl) (nI_pos (by omega)) (nI_clamp (by omega)) (by decide) (by rw [C.R]; exact hc.1) (by rw [C.R]; exact hc.2) d (fun q cA H1 hK e1 e2 e3 => ?_)
  have hA1 := (C.K.2 7 (gA g 7, .double) rfl).2
  have hA2 := (hK.2 8 (cA, .double) rfl).2
  have hcA : cA = gA g 7 := Option.some.inj (hA2.symm.trans hA1)
  subst hcA
  exact kk q ls H1 locs h1 ⟨L, p1, e1.swap, e2.swap⟩ e3
theorem r_i2l (C : Cx g k nL cc own rt D mc ms) {x : Int32} (d : decode cc pc = .ok (.i2l, 1)) (kk : Go g k nL Q cells slots (pc + 1) lo (.long x.toInt64 :: st) X T I) : Go g k nL Q cells slots pc lo (.int x :: st) X T I :=
  fun ls H locs h1 h2 h3 => lv_i2l C.x C.b d rfl (kk ls H locs h1 h2 h3)
theorem r_lconst (C : Cx g k nL cc own rt D mc ms) {n : Fin 2} {v : Int64} (d : decode cc pc = .ok (.lconst n, 1)) (hv : Int64.ofNat (n : Nat) = v) (kk : Go g k nL Q cells slots (pc + 1) lo (.long v :: st) X T I) : Go g k nL Q cells slots pc lo st X T I :=
  fun ls H locs h1 h2 h3 => lv_lconst C.x C.b d hv (kk ls H locs h1 h2 h3)
theorem r_lcmpE (C : Cx g k nL cc own rt D mc ms) {x y : Int64} (d : decode cc pc = .ok (.lcmp, 1)) (he : y = x) (kk : Go g k nL Q cells slots (pc + 1) lo (.int 0 :: st) X T I) : Go g k nL Q cells slots pc lo (.long y :: .long x :: st) X T I := by
  subst he
  exact fun ls H locs h1 h2 h3 => lv_lcmpE C.x C.b d (kk ls H locs h1 h2 h3)
theorem r_f2d (C : Cx g k nL cc own rt D mc ms) {x : UInt32} (d : decode cc pc = .ok (.f2d, 1)) (hne : vf_n32 x) (kk : Go g k nL Q cells slots (pc + 1) lo (.double (FP.f2d x) :: st) X T I) : Go g k nL Q cells slots pc lo (.float x :: st) X T I :=
  fun ls H locs h1 h2 h3 => lv_f2d C.x C.b d (own_f2d hne) (kk ls H locs h1 h2 h3)
theorem r_dcmpE (C : Cx g k nL cc own rt D mc ms) {x y : UInt64} (d : decode cc pc = .ok (.dcmp .l, 1)) (he : y = x) (hn : vf_n64 x) (kk : Go g k nL Q cells slots (pc + 1) lo (.int 0 :: st) X T I) : Go g k nL Q cells slots pc lo (.double y :: .double x :: st) X T I := by
  subst he
  refine fun ls H locs h1 h2 h3 => lv_dcmp C.x C.b d ?_
  rw [own_dcmp hn]
  exact kk ls H locs h1 h2 h3
theorem r_dstore (C : Cx g k nL cc own rt D mc ms) {i : Nat} {x : UInt64} {lo' : List (Nat × Value)} (d : decode cc pc = .ok (.dstore i, 2)) (hn : i + 1 < nL) (hl : (i, Value.double x) :: lo.filter (fun q => !(q.1 == i) && (!(q.1 == i + 1) && !(q.1 + 1 == i && q.2.category == 2))) = lo') (kk : Go g k nL Q cells slots (pc + 2) lo' st X T I) : Go g k nL Q cells slots pc lo (.double x :: st) X T I :=
  fun ls H locs h1 h2 h3 => lv_dstore C.x C.b d h1 hn hl (fun ls' h1' => kk ls' H locs h1' h2 h3)
theorem r_fstore (C : Cx g k nL cc own rt D mc ms) {i : Nat} {x : UInt32} {lo' : List (Nat × Value)} (d : decode cc pc = .ok (.fstore i, 2)) (hn : i < nL) (hl : sl lo i (.float x) = lo') (kk : Go g k nL Q cells slots (pc + 2) lo' st X T I) : Go g k nL Q cells slots pc lo (.float x :: st) X T I :=
  fun ls H locs h1 h2 h3 => lv_fstore C.x C.b d h1 hn hl (fun ls' h1' => kk ls' H locs h1' h2 h3)
theorem r_dload (C : Cx g k nL cc own rt D mc ms) {i : Nat} {x : UInt64} (q : Nat) (d : decode cc pc = .ok (.dload i, 2)) (hl : lo[q]? = some (i, .double x)) (kk : Go g k nL Q cells slots (pc + 2) lo (.double x :: st) X T I) : Go g k nL Q cells slots pc lo st X T I :=
  fun ls H locs h1 h2 h3 => lv_dload C.x C.b d (lv_at h1 q hl) (kk ls H locs h1 h2 h3)
theorem r_fload (C : Cx g k nL cc own rt D mc ms) {i : Nat} {x : UInt32} (q : Nat) (d : decode cc pc = .ok (.fload i, 2)) (hl : lo[q]? = some (i, .float x)) (kk : Go g k nL Q cells slots (pc + 2) lo (.float x :: st) X T I) : Go g k nL Q cells slots pc lo st X T I :=
  fun ls H locs h1 h2 h3 => lv_fload C.x C.b d (lv_at h1 q hl) (kk ls H locs h1 h2 h3)
theorem r_sld {b L : Nat} {xs : Nat → Int32} {i : Int32} {x : Nat} (C : Cx g k nL cc own rt D mc ms) (hX : va_X b L xs (ks k) (ks k).heap) (hbl : b < (ks k).heap.size) (hbA : ¬ Ab g b) (hi : i = nI x) (hx : x < L) (hL : L < 2 ^ 31) (d : decode cc pc = .ok (.iaload, 1)) (kk : Go g k nL Q cells slots (pc + 1) lo (.int (xs x) :: st) X T I) : Go g k nL Q cells slots pc lo (.int i :: .ref b :: st) X T I := by
  intro ls H locs h1 h2 h3
  subst hi
  refine va_sld C.x C.b hX hbl hbA h3 (vp_in_nI hx hL) d ?_
  rw [nI_clamp (by omega)]
  exact kk ls H locs h1 h2 h3
theorem r_slen {b L : Nat} {xs : Nat → Int32} (C : Cx g k nL cc own rt D mc ms) (hX : va_X b L xs (ks k) (ks k).heap) (hbl : b < (ks k).heap.size) (hbA : ¬ Ab g b) (d : decode cc pc = .ok (.arraylength, 1)) (kk : Go g k nL Q cells slots (pc + 1) lo (.int (nI L) :: st) X T I) : Go g k nL Q cells slots pc lo (.ref b :: st) X T I :=
  fun ls H locs h1 h2 h3 => va_slen C.x C.b hX hbl hbA h3 d (kk ls H locs h1 h2 h3)
theorem Cx.callsW {y : MethodName} {yc : ByteArray} {yl : Nat} {hh : List (Nat × Nat × Nat × Nat)} {d cm cs : Nat} (C : Cx g k nL cc own rt D mc ms) (hcode : Cond.codeWith y yc yl (some .int) hh ∈ gw) (hd : d + 1 ≤ D ∧ yl ≤ 60) : (rmd d cm cs).frames + 1 ≤ (kR k).frames ∧ 8 + (yl + 11) + (rmd d cm cs).locals ≤ (kR k).locals ∧ (∀ w ∈ (Cond.codeWith y yc yl (some .int) hh :: gw), ∀ (a' : Array Value) (U : State), (ks k).WarmedH U.vm → w.before a' U = true) := by
  obtain ⟨h1, h2⟩ := hd
  refine ⟨?_, ?_, pay_in C.ts (fun w hw => ?_)⟩
  · rw [C.R]; show 4 * d + 8 + 1 ≤ 4 * D + 8; omega
  · rw [C.R]; show 8 + (yl + 11) + (100 * d + 200) ≤ 100 * D + 200; omega
  · rcases List.mem_cons.mp hw with h | h
    · rw [h]; exact gw_good (fun _ h => h) _ hcode
    · exact gw_good (fun _ h => h) _ h
theorem r_callW {idx : Nat} {y : MethodName} {yc : ByteArray} {yl : Nat} {hh : List (Nat × Nat × Nat × Nat)} {n d cm cs : Nat} {As rest : List Value} {P : PhiT} (C : Cx g k nL cc own rt D mc ms) (hfl : (kl k).flags = flags0) (hnc : Ncs (ks k)) (L : LkW own idx y yc yl hh n) (hM : McW g y yc yl hh d cm cs As X T I P) (hs : st = As.reverse ++ rest) (hn : As.length = n) (hw : (rest.map fun v => v.category).sum ≤ 8) (hd : d + 1 ≤ D ∧ yl ≤ 60) (hr : cells + cm ≤ mc ∧ slots + cs ≤ ms) (dg : decode cc pc = .ok (.invokestatic idx, 3))
    (kk : ∀ (r : Option Value) (X' : va_W) (T' : TT) (I' : II), P r X' T' I' → Go g k nL Q (cells + cm) (slots + cs) (pc + 3) lo (r.toList ++ rest) X' T' I') : Go g k nL Q cells slots pc lo st X T I := by
  obtain ⟨l1, l2, l4, l5, l6⟩ := L
  obtain ⟨c1, c2, c3⟩ := C.callsW (cm := cm) (cs := cs) l5 hd
  refine r_run (a := As.toArray) (rest := rest) (As := As) (fun H locs h2 h3 ls h1 => ?_) kk
  exact vx_runSW (own := own) (bytes := yc) (maxL := yl) (ret := some .int) (hh := hh) (Ts := gw) (n := n) ⟨C.x, C.b, C.ml, C.ow, C.ts⟩ (hM _ hfl) ⟨⟨rfl, rfl, c1, c2, c3, List.mem_cons_self⟩, C.ts _ l5, C.ts _ l4, ⟨l6.1, l6.2.1⟩, fun sig h => by have h2 := l6.2.2; rw [h] at h2; exact (Option.some.inj h2).symm, C.ts _ l1, C.ts _ l2⟩
    ⟨PreW.blind _ _ _ _ _, fun U hU hW => ⟨C.pre h2 h3 U hU hW, hnc.moved hW.alike⟩⟩ rfl hn h1.1 hs (by show 2 * 0 + _ ≤ 8; omega) dg (by rw [C.R]; exact hr)
/-- a call of the class whose throws a table catches -/
theorem r_xVc {idx : Nat} {y : MethodName} {yc : ByteArray} {yl : Nat} {yr : Option FieldType} {n d cm cs b ci kx en : Nat} {v : Value} {codes hs : List Nat} {rf : Nat → Option Nat} {As rest : List Value} {P : TT → II → Prop} (C : Cx g k nL cc RL rt D mc ms) (hfl : (kl k).flags = flags0) (hnc : Ncs (ks k)) (htb : Tb (kc k) (mkT en codes hs)) (hlen : codes.length = hs.length) (hcd : ∀ i, i < codes.length → 1 ≤ codes.getD i 0 ∧ codes.getD i 0 ≤ 5 ∧ ∀ j, j < i → 1 ≤ codes.getD i 0 ∧ codes.getD i 0 ≤ 4 ∧ 1 ≤ codes.getD j 0 ∧ codes.getD j 0 ≤ 4 ∧ codes.getD i 0 ≠ codes.getD j 0) (hpc : pc < en) (L : LkV RL idx y yc yl yr n) (hM : Mx g y yc yl yr d cm cs (.ref b :: As) X T I (fun r X' T' I' => kx = 0 ∧ r = some v ∧ X' = X ∧ P T' I') (fun c' X' T' I' => kx ≠ 0 ∧ c' = exc (codes.getD (kx - 1) 0) ∧ X' = X ∧ P T' I')) (hk : kx ≤ codes.length) (hT : T b = (1, ci, rf)) (hci : ClsAt ci y.cls) (hs' : st = As.reverse ++ .ref b :: rest) (hn : As.length = n) (hw : (rest.map fun v => v.category).sum ≤ 8) (hd : d + 1 ≤ D ∧ yl ≤ 60) (hr : cells + cm ≤ mc ∧ slots + cs ≤ ms) (dg : decode cc pc = .ok (.invokevirtual idx, 3))
    (kk : kx = 0 → ∀ (T' : TT) (I' : II), P T' I' → Go g k nL Q (cells + cm) (slots + cs) (pc + 3) lo (v :: rest) X T' I')
    (kq : kx ≠ 0 → ∀ (T' : TT) (I' : II) (q : Nat), P T' I' → Go g k nL Q (cells + cm) (slots + cs) (hs.getD (kx - 1) 0) lo [.ref q] X T' I') : Go g k nL Q cells slots pc lo st X T I := by
  obtain ⟨l1, l2, l3, l4, l5, l6⟩ := L
  obtain ⟨c1, c2, c3⟩ := C.calls (cm := cm) (cs := cs) l5 hd
  obtain ⟨F, N, hci⟩ := hci
  intro ls H locs h1 h2 h3 S hTS Y
  have hat := h2.at (nz hT (by decide))
  obtain ⟨q', e1, cell, e2, e3, e4, -⟩ := (show va_at (gD g) vwCl (b, .inr (ci, fl (I b) rf (shp ci) 0)) H by rw [← cell_obj hT]; exact hat)
  cases Option.some.inj (e1.symm.trans hci)
  have hS' : ∀ (t : State) (L : List Loc), H.size ≤ t.heap.size → (∀ q, q < H.size → ¬ Ab g q → t.heap[q]? = H[q]?) → (∀ q ∈ L, Ab g q.base) → va_S (Ab g) (ks k).heap t.heap (locs ++ L) := fun t L hz hk hL => ⟨Nat.le_trans h3.1 hz, fun q a1 a2 => by rw [hk q (Nat.lt_of_lt_of_le a1 h3.1) a2]; exact h3.2.1 q a1 a2, fun q hq => by
    rcases List.mem_append.mp hq with h | h
    · exact h3.2.2 q h
    · exact hL q h⟩
  rcases vx_runV (own := RL) (C := y.cls) (bytes := yc) (maxL := yl) (ret := yr) (Ts := gw) (n := n) (cells := cells) (slots := slots) (g := F0 (km k) pc ls st) (rest := rest) (locs := locs) ⟨C.x, C.b, C.ml, C.ow, C.ts⟩ (hM _ hfl) ⟨⟨rfl, rfl, c1, c2, c3, List.mem_cons_self, C.ts _ l5, C.ts _ l4, ⟨l6.2.1, l6.2.2.1⟩, fun sig h => by have h2 := l6.2.2.2; rw [h] at h2; exact (Option.some.inj h2).symm, C.ts _ l1⟩, C.ts _ l2, C.ts _ l3⟩
    ⟨Pre.blind _ _ _ _ _, ⟨cell, e2, by rw [e4]; rfl, by rw [e3]; exact (C.K.1 ci _ hci).2.1⟩, C.pre h2 h3⟩ rfl hn h1.1 hs' (by show 2 * 0 + _ ≤ 8; omega) dg (by rw [C.R]; exact hr) S hTS Y with ⟨v0, st₀, t, T', L, h0, Y', hL, f1, f2, ⟨⟨r, X', T2, I', hv, hp, hw2⟩, hz, hk2⟩, stp⟩ | ⟨q, st₀, t, T', L, Ec, ce, h0, Y', hL, f1, f2, ⟨⟨X', T2, I', hp, hw2⟩, hz, hk2⟩, hce, hcv, hcl, stp⟩
  · cases hv
    rw [h0] at hz hk2
    obtain ⟨p1, p2, p3, p4⟩ := hp
    subst p2; subst p3
    obtain ⟨t2, b1, b2⟩ := kk p1 T2 I' p4 ls t.heap (locs ++ L) h1 hw2 (hS' t L hz hk2 hL) T' f1 Y'
    exact ⟨t2, stp t2 b1, b2⟩
  · rw [h0] at hz hk2
    obtain ⟨p1, p2, p3, p4⟩ := hp
    subst p2; subst p3
    have h9 := hS' t L hz hk2 hL
    obtain ⟨pre, suf, s1, s2⟩ := mkT_split en codes hs (kx - 1) hlen (by omega)
    obtain ⟨d1, d2, d3⟩ := hcd (kx - 1) (by omega)
    have hsp : (kc k).exceptionTable.toList = pre.map rowT ++ rowT (0, en, hs.getD (kx - 1) 0, cTy (codes.getD (kx - 1) 0)) :: suf.map rowT := by
      rw [show (kc k).exceptionTable.toList = (mkT en codes hs).map rowT from htb, s1, List.map_append, List.map_cons]
    have hpass : ∀ z ∈ pre.map rowT, covers z pc = false ∨ (z.catchType ≠ 0 ∧ ∃ nm : String, (Cond.classLink RL z.catchType nm).before (ka k) (ks k) = true ∧ va_Nc (exc (codes.getD (kx - 1) 0)) nm (ks k)) := by
      intro z hz2
      obtain ⟨q2, q21, rfl⟩ := List.mem_map.mp hz2
      obtain ⟨j, j1, j2⟩ := s2 q2 q21
      obtain ⟨w1, w2, w3, w4, w5⟩ := d3 j j1
      refine Or.inr ⟨by show q2.2.2.2 ≠ 0; rw [j2]; exact cTy_0 _, exc (codes.getD j 0), ?_, hnc _ _ w1 w2 w3 w4 w5⟩
      show (Cond.classLink RL q2.2.2.2 _).before _ _ = true
      rw [j2]
      exact C.ts _ (cTy_w _ w3 (by omega))
    obtain ⟨t2, b1, b2⟩ := vx_catch (own := RL) (name := exc (codes.getD (kx - 1) 0)) (pc := pc) (ls := ls) (rest := rest) (H := T'.heap) (locs := locs ++ L) (cells := cells + cm) (slots := slots + cs) (q := q) C.ow _ _ _ hsp hpass (by simp [covers, rowT, hpc]) (cTy_0 _) (C.ts _ (cTy_w _ d1 d2)) (va_Nw.use rfl (C.Z.2.2.2.2.2.2.2 _ (cs_w _ d1 d2) rfl)) (by rw [f1]; exact hce) hcv hcl (kq p1 T2 I' q p4 ls T'.heap (locs ++ L) h1 (by rw [f1]; exact hw2) (by rw [f1]; exact h9)) T' rfl Y'
    exact ⟨t2, stp.trans b1, b2⟩
end G9F
