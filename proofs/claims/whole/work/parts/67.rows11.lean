/-! Calls of methods that may throw, where nothing catches; the class's own object. -/
def No : PhiT := fun _ _ _ _ => False
def NoX : String → va_W → TT → II → Prop := fun _ _ _ _ => False
def Th (c : String) (X : va_W) (T : TT) (I : II) : String → va_W → TT → II → Prop := fun c' X' T' I' => c' = c ∧ X' = X ∧ T' = T ∧ I' = I
def exc : Nat → String
  | 1 => "java/util/NoSuchElementException"
  | 2 => "java/lang/IndexOutOfBoundsException"
  | 3 => "java/lang/IllegalArgumentException"
  | 4 => "java/lang/IllegalStateException"
  | _ => "java/lang/ArithmeticException"
section G67
variable {g : GG} {k : KK} {nL : Nat} {cc : ByteArray} {own : String} {rt : Option FieldType} {D mc ms : Nat} {cells slots pc : Nat} {lo : List (Nat × Value)} {st : List Value} {X : va_W} {T : TT} {I : II} {P2 : PhiT} {E : String → va_W → TT → II → Prop}
theorem r_xrun {As rest st0 : List Value} {cm cs : Nat} {P : PhiT} {E1 : String → va_W → TT → II → Prop} {a : Array Value} (C : Cx g k nL cc own rt D mc ms) (hxt : ∀ x ∈ (kc k).exceptionTable.toList, False) (hr : ∀ H locs, Pw g X T I H → va_S (Ab g) (ks k).heap H locs → ∀ ls, lv_has ls nL lo → vx_Run (kp k) (kl k) (ke k) (kR k) (ks k) (km k) (ka k) (kb k) (kme k) (kc k) H locs cells slots cm cs (F0 (km k) pc ls st0) rest (PostR g P a) (PostX g E1) (Ab g))
    (hE : ∀ c X' T' I', E1 c X' T' I' → E c X' T' I') (hc : cells + cm ≤ mc ∧ slots + cs ≤ ms)
    (kk : ∀ (r : Option Value) (X' : va_W) (T' : TT) (I' : II), P r X' T' I' → Go g k nL (Qx g k P2 E mc ms) (cells + cm) (slots + cs) (pc + 3) lo (r.toList ++ rest) X' T' I') : Go g k nL (Qx g k P2 E mc ms) cells slots pc lo st0 X T I := by
  intro ls H locs h1 h2 h3 S hT Y
  have hS' : ∀ (t : State) (L : List Loc), H.size ≤ t.heap.size → (∀ q, q < H.size → ¬ Ab g q → t.heap[q]? = H[q]?) → (∀ q ∈ L, Ab g q.base) → va_S (Ab g) (ks k).heap t.heap (locs ++ L) := fun t L hz hk hL => ⟨Nat.le_trans h3.1 hz, fun q a1 a2 => by rw [hk q (Nat.lt_of_lt_of_le a1 h3.1) a2]; exact h3.2.1 q a1 a2, fun q hq => by
    rcases List.mem_append.mp hq with h | h
    · exact h3.2.2 q h
    · exact hL q h⟩
  rcases hr H locs h2 h3 ls h1 S hT Y with ⟨v, st₀, t, T', L, h0, Y', hL, e1, e2, ⟨⟨r, X', T2, I', hv, hp, hw⟩, hz, hk⟩, stp⟩ | ⟨q, st₀, t, T', L, Ec, ce, h0, Y', hL, e1, e2, ⟨⟨X', T2, I', hp, hw⟩, hz, hk⟩, hce, hcv, hcl, stp⟩
  · cases hv
    rw [h0] at hz hk
    obtain ⟨t2, b1, b2⟩ := kk v X' T2 I' hp ls t.heap (locs ++ L) h1 hw (hS' t L hz hk hL) T' e1 Y'
    exact ⟨t2, stp t2 b1, b2⟩
  · rw [h0] at hz hk
    have h9 := hS' t L hz hk hL
    obtain ⟨t2, b1, b2⟩ := vx_out (pc := pc) (ls := ls) (rest := rest) (H := T'.heap) (XC := PostX g E) (Qc := PostR g P2) (free := Ab g) (mc := mc) (ms := ms) (fun x hx => (hxt x hx).elim) C.lk (by rw [e1]; exact hce) hcv hcl (fun t' ht' ha => ⟨⟨X', T2, I', hE _ _ _ _ hp, by rw [ht', e1]; exact hw⟩, by rw [ht', e1]; exact h9.1, fun q hq1 hq2 => by rw [ht', e1]; exact h9.2.1 q hq1 hq2⟩) (fun z hz => h9.2.2 z hz) hc.1 hc.2 T' rfl Y'
    exact ⟨t2, stp.trans b1, b2⟩
theorem r_xV {idx : Nat} {y : MethodName} {yc : ByteArray} {yl : Nat} {yr : Option FieldType} {n d cm cs b ci : Nat} {rf : Nat → Option Nat} {As rest : List Value} {P : PhiT} {E1 : String → va_W → TT → II → Prop} (C : Cx g k nL cc own rt D mc ms) (hfl : (kl k).flags = flags0) (hxt : ∀ x ∈ (kc k).exceptionTable.toList, False) (L : LkV own idx y yc yl yr n) (hM : Mx g y yc yl yr d cm cs (.ref b :: As) X T I P E1) (hE : ∀ c X' T' I', E1 c X' T' I' → E c X' T' I') (hT : T b = (1, ci, rf)) (hci : ClsAt ci y.cls) (hs : st = As.reverse ++ .ref b :: rest) (hn : As.length = n) (hw : (rest.map fun v => v.category).sum ≤ 8) (hd : d + 1 ≤ D ∧ yl ≤ 60) (hr : cells + cm ≤ mc ∧ slots + cs ≤ ms) (dg : decode cc pc = .ok (.invokevirtual idx, 3))
    (kk : ∀ (r : Option Value) (X' : va_W) (T' : TT) (I' : II), P r X' T' I' → Go g k nL (Qx g k P2 E mc ms) (cells + cm) (slots + cs) (pc + 3) lo (r.toList ++ rest) X' T' I') : Go g k nL (Qx g k P2 E mc ms) cells slots pc lo st X T I := by
  obtain ⟨l1, l2, l3, l4, l5, l6⟩ := L
  obtain ⟨c1, c2, c3⟩ := C.calls (cm := cm) (cs := cs) l5 hd
  obtain ⟨F, N, hci⟩ := hci
  refine r_xrun (a := (Value.ref b :: As).toArray) (rest := rest) (As := As) C hxt (fun H locs h2 h3 ls h1 => ?_) hE hr kk
  have hat := h2.at (nz hT (by decide))
  obtain ⟨q', e1, cell, e2, e3, e4, -⟩ := (show va_at (gD g) vwCl (b, .inr (ci, fl (I b) rf (shp ci) 0)) H by rw [← cell_obj hT]; exact hat)
  cases Option.some.inj (e1.symm.trans hci)
  exact vx_runV (own := own) (C := y.cls) (bytes := yc) (maxL := yl) (ret := yr) (Ts := gw) (n := n) ⟨C.x, C.b, C.ml, C.ow, C.ts⟩ (hM _ hfl) ⟨⟨rfl, rfl, c1, c2, c3, List.mem_cons_self, C.ts _ l5, C.ts _ l4, ⟨l6.2.1, l6.2.2.1⟩, fun sig h => by have h2 := l6.2.2.2; rw [h] at h2; exact (Option.some.inj h2).symm, C.ts _ l1⟩, C.ts _ l2, C.ts _ l3⟩
    ⟨Pre.blind _ _ _ _ _, ⟨cell, e2, by rw [e4]; rfl, by rw [e3]; exact (C.K.1 ci _ hci).2.1⟩, C.pre h2 h3⟩ rfl hn h1.1 hs (by show 2 * 0 + _ ≤ 8; omega) dg (by rw [C.R]; exact hr)
theorem r_xS {idx : Nat} {y : MethodName} {yc : ByteArray} {yl : Nat} {yr : Option FieldType} {n d cm cs : Nat} {As rest : List Value} {P : PhiT} {E1 : String → va_W → TT → II → Prop} (C : Cx g k nL cc own rt D mc ms) (hfl : (kl k).flags = flags0) (hxt : ∀ x ∈ (kc k).exceptionTable.toList, False) (L : LkS own idx y yc yl yr n) (hM : Mx g y yc yl yr d cm cs As X T I P E1) (hE : ∀ c X' T' I', E1 c X' T' I' → E c X' T' I') (hs : st = As.reverse ++ rest) (hn : As.length = n) (hw : (rest.map fun v => v.category).sum ≤ 8) (hd : d + 1 ≤ D ∧ yl ≤ 60) (hr : cells + cm ≤ mc ∧ slots + cs ≤ ms) (dg : decode cc pc = .ok (.invokestatic idx, 3))
    (kk : ∀ (r : Option Value) (X' : va_W) (T' : TT) (I' : II), P r X' T' I' → Go g k nL (Qx g k P2 E mc ms) (cells + cm) (slots + cs) (pc + 3) lo (r.toList ++ rest) X' T' I') : Go g k nL (Qx g k P2 E mc ms) cells slots pc lo st X T I := by
  obtain ⟨l1, l2, l4, l5, l6⟩ := L
  obtain ⟨c1, c2, c3⟩ := C.calls (cm := cm) (cs := cs) l5 hd
  refine r_xrun (a := As.toArray) (rest := rest) (As := As) C hxt (fun H locs h2 h3 ls h1 => ?_) hE hr kk
  exact vx_runS (own := own) (bytes := yc) (maxL := yl) (ret := yr) (Ts := gw) (n := n) ⟨C.x, C.b, C.ml, C.ow, C.ts⟩ (hM _ hfl) ⟨⟨rfl, rfl, c1, c2, c3, List.mem_cons_self, C.ts _ l5, C.ts _ l4, ⟨l6.1, l6.2.1⟩, fun sig h => by have h2 := l6.2.2; rw [h] at h2; exact (Option.some.inj h2).symm, C.ts _ l1⟩, C.ts _ l2⟩
    ⟨Pre.blind _ _ _ _ _, C.pre h2 h3⟩ rfl hn h1.1 hs (by show 2 * 0 + _ ≤ 8; omega) dg (by rw [C.R]; exact hr)
end G67
def rfC (x : Nat) : Nat → Option Nat := fun k => match k with
  | 0 => some (x + 1)
  | 1 => some (x + 43)
  | 2 => some (x + 85)
  | 3 => some (x + 127)
  | 4 => some (x + 169)
  | 5 => some (x + 507)
  | 6 => some (x + 510)
  | 7 => some (x + 511)
  | _ => none
/-- the class's object at x: its desk, the copies, the history, the reader, the buffer -/
def isCl (T : TT) (x : Nat) : Prop := T x = (1, 10, rfC x) ∧ isDk T (x + 1) ∧ isDk T (x + 43) ∧ isDk T (x + 85) ∧ isDk T (x + 127) ∧ isHs T (x + 169) ∧ isRd T (x + 507) ∧ T (x + 510) = (3, 60, nr)
