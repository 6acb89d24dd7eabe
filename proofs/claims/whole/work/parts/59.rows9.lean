/-! Rows of the command reader's object: its verb is a constant. -/
def rdC (g : GG) (f : Nat → Int32) (rf : Nat → Option Nat) : List Value := [.int (f 0), .ref (ga g (10 + (f 1).toNatClampNeg)), va_rf (rf 2), va_rf (rf 3), .int (f 4)]
theorem cell_9 {g : GG} {T : TT} {I : II} {a n : Nat} {rf : Nat → Option Nat} (h : T a = (9, n, rf)) : cellOf g T I a = .inr (5, rdC g (I a) rf) := by simp [cellOf, h, rdC]
section G59
variable {g : GG} {k : KK} {nL : Nat} {cc : ByteArray} {own : String} {rt : Option FieldType} {D mc ms : Nat} {Q : State → Prop} {cells slots pc : Nat} {lo : List (Nat × Value)} {st : List Value} {X : va_W} {T : TT} {I : II}
theorem r_get9 {idx j a n : Nat} {rf : Nat → Option Nat} {ty : FieldType} {fin : Bool} {v : Value} (C : Cx g k nL cc own rt D mc ms) (F : Fld own idx 5 j ty fin) (hT : T a = (9, n, rf)) (hv : (rdC g (I a) rf)[j]? = some v) (d : decode cc pc = .ok (.getfield idx, 3)) (kk : Go g k nL Q cells slots (pc + 3) lo (v :: st) X T I) : Go g k nL Q cells slots pc lo (.ref a :: st) X T I := by
  intro ls H locs h1 h2 h3
  obtain ⟨Cn, F, N, ⟨hc, hin, -, -⟩, hk, hd, hl, -, -, -⟩ := F
  obtain ⟨L, p1, p2, p3⟩ := id h2
  obtain ⟨q, hq⟩ := va_pl_get (X := X) (f := cellOf g T I) ((p1 a).mpr (nz hT (by decide)))
  have hq' : (X ++ va_pl L (cellOf g T I))[q]? = some (a, .inr (5, rdC g (I a) rf)) := by rw [hq, cell_9 hT]
  exact va_get C.x C.b C.ts hin C.ow C.K p2 q hq' hc j hk (C.ts _ hl) (fun x h => by rw [← hd]; exact h) (v := v) hv d (kk ls H locs h1 h2 h3)
theorem r_put9 {idx j a n : Nat} {rf : Nat → Option Nat} {ty : FieldType} {v : Value} {I' : II} (C : Cx g k nL cc own rt D mc ms) (F : Fld own idx 5 j ty false) (hT : T a = (9, n, rf)) (hj : j < 5) (he : (rdC g (I a) rf).set j v = rdC g (I' a) rf) (hI : ∀ b, b ≠ a → I' b = I b) (hn : narrow ty v = v) (hf : fits ty v = true) (d : decode cc pc = .ok (.putfield idx, 3)) (kk : Go g k nL Q cells slots (pc + 3) lo st X T I') : Go g k nL Q cells slots pc lo (v :: .ref a :: st) X T I := by
  intro ls H locs h1 h2 h3
  obtain ⟨Cn, F, N, ⟨hc, hin, ⟨ty0, hty⟩, hnm⟩, hk, hd, hl, hfin, hpd, hN⟩ := F
  obtain ⟨L, p1, p2, p3⟩ := id h2
  obtain ⟨q, hq⟩ := va_pl_get (X := X) (f := cellOf g T I) ((p1 a).mpr (nz hT (by decide)))
  have hq' : (X ++ va_pl L (cellOf g T I))[q]? = some (a, .inr (5, rdC g (I a) rf)) := by rw [hq, cell_9 hT]
  refine va_put C.x C.b C.ts hin ty0 hty hnm C.ow C.K p2 p3 h3 q hq' hc j hk (C.ts _ hl) (fun x h => by rw [← hd]; exact h) hfin hpd hn hf hj d (fun H1 locs1 e1 e2 e3 => kk ls H1 locs1 h1 ?_ e3)
  have e : (X ++ va_pl L (cellOf g T I)).set q (a, .inr (5, (rdC g (I a) rf).set j v)) = X ++ va_pl L (cellOf g T I') := by
    rw [va_pl_set p3 ((p1 a).mpr (nz hT (by decide))) hq]
    refine congrArg (fun l => X ++ l) (va_pl_congr fun b => ?_)
    by_cases hb : b = a
    · subst hb
      rw [va_up_self, cell_9 hT, he]
    · rw [va_up_ne _ _ hb]
      exact cell_congr (hI b hb).symm
  exact ⟨L, p1, by rw [← e]; exact e1, by rw [← e]; exact e2⟩
theorem r_get9I {idx a n : Nat} {j : Nat} {rf : Nat → Option Nat} {ty : FieldType} {fin : Bool} (C : Cx g k nL cc own rt D mc ms) (F : Fld own idx 5 j ty fin) (hT : T a = (9, n, rf)) (hj : j = 0 ∨ j = 4) (d : decode cc pc = .ok (.getfield idx, 3)) (kk : Go g k nL Q cells slots (pc + 3) lo (.int (I a j) :: st) X T I) : Go g k nL Q cells slots pc lo (.ref a :: st) X T I :=
  r_get9 C F hT (by rcases hj with rfl | rfl <;> rfl) d kk
theorem r_get9R {idx a n x : Nat} {j : Nat} {rf : Nat → Option Nat} {ty : FieldType} {fin : Bool} (C : Cx g k nL cc own rt D mc ms) (F : Fld own idx 5 j ty fin) (hT : T a = (9, n, rf)) (hj : j = 2 ∨ j = 3) (hx : rf j = some x) (d : decode cc pc = .ok (.getfield idx, 3)) (kk : Go g k nL Q cells slots (pc + 3) lo (.ref x :: st) X T I) : Go g k nL Q cells slots pc lo (.ref a :: st) X T I :=
  r_get9 C F hT (by rcases hj with rfl | rfl <;> simp [rdC, hx, va_rf]) d kk
theorem r_get9V {idx a n i : Nat} {rf : Nat → Option Nat} {ty : FieldType} {fin : Bool} (C : Cx g k nL cc own rt D mc ms) (F : Fld own idx 5 1 ty fin) (hT : T a = (9, n, rf)) (hi : I a 1 = nI i) (h9 : i < 9) (d : decode cc pc = .ok (.getfield idx, 3)) (kk : Go g k nL Q cells slots (pc + 3) lo (.ref (ga g (10 + i)) :: st) X T I) : Go g k nL Q cells slots pc lo (.ref a :: st) X T I :=
  r_get9 C F hT (by simp only [rdC, hi, nI_clamp (show i < 2 ^ 31 by omega)]; rfl) d kk
theorem r_put9I {idx a n : Nat} {j : Nat} {rf : Nat → Option Nat} {v : Int32} (C : Cx g k nL cc own rt D mc ms) (F : Fld own idx 5 j .int false) (hT : T a = (9, n, rf)) (hj : j = 0 ∨ j = 4) (d : decode cc pc = .ok (.putfield idx, 3)) (kk : Go g k nL Q cells slots (pc + 3) lo st X T (u2 I a j v)) : Go g k nL Q cells slots pc lo (.int v :: .ref a :: st) X T I :=
  r_put9 C F hT (by omega) (by rcases hj with rfl | rfl <;> simp [rdC, u2, sr, upd]) (fun b hb => u2_r hb) rfl rfl d kk
theorem r_put9V {idx a n i : Nat} {rf : Nat → Option Nat} {ct : String} (C : Cx g k nL cc own rt D mc ms) (F : Fld own idx 5 1 (.object ct) false) (hT : T a = (9, n, rf)) (h9 : i < 9) (d : decode cc pc = .ok (.putfield idx, 3)) (kk : Go g k nL Q cells slots (pc + 3) lo st X T (u2 I a 1 (nI i))) : Go g k nL Q cells slots pc lo (.ref (ga g (10 + i)) :: .ref a :: st) X T I :=
  r_put9 C F hT (by decide) (by simp [rdC, u2, sr, upd, nI_clamp (show i < 2 ^ 31 by omega)]) (fun b hb => u2_r hb) rfl rfl d kk
theorem r_callV9 {idx : Nat} {y : MethodName} {yc : ByteArray} {yl : Nat} {yr : Option FieldType} {n d cm cs b bn : Nat} {rf : Nat → Option Nat} {As rest : List Value} {P : PhiT} (C : Cx g k nL cc own rt D mc ms) (hfl : (kl k).flags = flags0) (L : LkV own idx y yc yl yr n) (hM : Mc g y yc yl yr d cm cs (.ref b :: As) X T I P) (hT : T b = (9, bn, rf)) (hci : ClsAt 5 y.cls) (hs : st = As.reverse ++ .ref b :: rest) (hn : As.length = n) (hw : (rest.map fun v => v.category).sum ≤ 8) (hd : d + 1 ≤ D ∧ yl ≤ 60) (hr : cells + cm ≤ mc ∧ slots + cs ≤ ms) (dg : decode cc pc = .ok (.invokevirtual idx, 3))
    (kk : ∀ (r : Option Value) (X' : va_W) (T' : TT) (I' : II), P r X' T' I' → Go g k nL Q (cells + cm) (slots + cs) (pc + 3) lo (r.toList ++ rest) X' T' I') : Go g k nL Q cells slots pc lo st X T I := by
  obtain ⟨l1, l2, l3, l4, l5, l6⟩ := L
  obtain ⟨c1, c2, c3⟩ := C.calls (cm := cm) (cs := cs) l5 hd
  obtain ⟨F, N, hci⟩ := hci
  refine r_run (a := (Value.ref b :: As).toArray) (rest := rest) (As := As) (fun H locs h2 h3 ls h1 => ?_) kk
  have hat := h2.at (nz hT (by decide))
  obtain ⟨q', e1, cell, e2, e3, e4, -⟩ := (show va_at (gD g) vwCl (b, .inr (5, rdC g (I b) rf)) H by rw [← cell_9 hT]; exact hat)
  cases Option.some.inj (e1.symm.trans hci)
  exact va_runV (own := own) (C := y.cls) (bytes := yc) (maxL := yl) (ret := yr) (Ts := gw) (n := n) ⟨C.x, C.b, C.ml, C.ow, C.ts⟩ (hM _ hfl) ⟨⟨rfl, rfl, c1, c2, c3, List.mem_cons_self, C.ts _ l5, C.ts _ l4, ⟨l6.2.1, l6.2.2.1⟩, fun sig h => by have h2 := l6.2.2.2; rw [h] at h2; exact (Option.some.inj h2).symm, C.ts _ l1⟩, C.ts _ l2, C.ts _ l3⟩
    ⟨Pre.blind _ _ _ _ _, ⟨cell, e2, by rw [e4]; rfl, by rw [e3]; exact (C.K.1 5 _ hci).2.1⟩, C.pre h2 h3⟩ rfl hn h1.1 hs (by show 2 * 0 + _ ≤ 8; omega) dg (by rw [C.R]; exact hr)
theorem r_c9i {idx : Nat} {y : MethodName} {yc : ByteArray} {yl : Nat} {yr : Option FieldType} {n d b bn : Nat} {rf : Nat → Option Nat} {As rest : List Value} {v : Int32} {X' : va_W} {T' : TT} {I' : II} (C : Cx g k nL cc own rt D mc ms) (hfl : (kl k).flags = flags0) (L : LkV own idx y yc yl yr n) (hM : Mc g y yc yl yr d 0 0 (.ref b :: As) X T I (Ex (some (.int v)) X' T' I')) (hT : T b = (9, bn, rf)) (hci : ClsAt 5 y.cls) (hs : st = As.reverse ++ .ref b :: rest) (hn : As.length = n) (hw : (rest.map fun v => v.category).sum ≤ 8) (hd : d + 1 ≤ D ∧ yl ≤ 60) (hr : cells ≤ mc ∧ slots ≤ ms) (dg : decode cc pc = .ok (.invokevirtual idx, 3))
    (kk : Go g k nL Q cells slots (pc + 3) lo (.int v :: rest) X' T' I') : Go g k nL Q cells slots pc lo st X T I :=
  r_callV9 (cm := 0) (cs := 0) C hfl L hM hT hci hs hn hw hd hr dg (fun r2 X2 T2 I2 h => by obtain ⟨rfl, rfl, rfl, rfl⟩ := h; exact kk)
theorem r_c9v {idx : Nat} {y : MethodName} {yc : ByteArray} {yl : Nat} {yr : Option FieldType} {n d b bn : Nat} {rf : Nat → Option Nat} {As rest : List Value} {X' : va_W} {T' : TT} {I' : II} (C : Cx g k nL cc own rt D mc ms) (hfl : (kl k).flags = flags0) (L : LkV own idx y yc yl yr n) (hM : Mc g y yc yl yr d 0 0 (.ref b :: As) X T I (Ex none X' T' I')) (hT : T b = (9, bn, rf)) (hci : ClsAt 5 y.cls) (hs : st = As.reverse ++ .ref b :: rest) (hn : As.length = n) (hw : (rest.map fun v => v.category).sum ≤ 8) (hd : d + 1 ≤ D ∧ yl ≤ 60) (hr : cells ≤ mc ∧ slots ≤ ms) (dg : decode cc pc = .ok (.invokevirtual idx, 3))
    (kk : Go g k nL Q cells slots (pc + 3) lo rest X' T' I') : Go g k nL Q cells slots pc lo st X T I :=
  r_callV9 (cm := 0) (cs := 0) C hfl L hM hT hci hs hn hw hd hr dg (fun r2 X2 T2 I2 h => by obtain ⟨rfl, rfl, rfl, rfl⟩ := h; exact kk)
end G59
/-! The reader's own: at r, its arguments r + 1, its text r + 2. -/
def rfR (r : Nat) : Nat → Option Nat := fun k => match k with
  | 2 => some (r + 1)
  | 3 => some (r + 2)
  | _ => none
def isRd (T : TT) (r : Nat) : Prop := T r = (9, 5, rfR r) ∧ T (r + 1) = (2, 5, nr) ∧ T (r + 2) = (3, 60, nr)
/-- the text c of L letters lies in the reader -/
def Rdr (I : II) (r L : Nat) (c : Nat → Nat) : Prop := I r 4 = nI L ∧ L ≤ 60 ∧ (∀ j, j < L → I (r + 2) j = nI (c j)) ∧ ∀ j, j < L → c j < 128
/-- the reader's place p, verb v, arguments nm -/
def rI (I : II) (r p v : Nat) (nm : Nat → Int32) : II := sr (u2 (u2 I r 0 (nI p)) r 1 (nI v)) (r + 1) nm
theorem rI_0 {I : II} {r p v : Nat} {nm : Nat → Int32} : rI I r p v nm r 0 = nI p := by rw [rI, sr_n (show r ≠ r + 1 by omega), u2_o (by decide), u2_g]
theorem rI_1 {I : II} {r p v : Nat} {nm : Nat → Int32} : rI I r p v nm r 1 = nI v := by rw [rI, sr_n (show r ≠ r + 1 by omega), u2_g]
theorem rI_a {I : II} {r p v : Nat} {nm : Nat → Int32} : rI I r p v nm (r + 1) = nm := sr_s
theorem rI_f {I : II} {r p v j : Nat} {nm : Nat → Int32} (h0 : j ≠ 0) (h1 : j ≠ 1) : rI I r p v nm r j = I r j := by rw [rI, sr_n (show r ≠ r + 1 by omega), u2_o h1, u2_o h0]
theorem rI_o {I : II} {r p v b : Nat} {nm : Nat → Int32} (h0 : b ≠ r) (h1 : b ≠ r + 1) : rI I r p v nm b = I b := by rw [rI, sr_n h1, u2_r h0, u2_r h0]
theorem rI_p {I : II} {r p q v : Nat} {nm : Nat → Int32} : u2 (rI I r p v nm) r 0 (nI q) = rI I r q v nm := by
  rw [rI, rI, u2_n (show r ≠ r + 1 by omega), u2_cm (show (1 : Nat) ≠ 0 by decide), u2_u2]
theorem rI_v {I : II} {r p u v : Nat} {nm : Nat → Int32} : u2 (rI I r p v nm) r 1 (nI u) = rI I r p u nm := by
  rw [rI, rI, u2_n (show r ≠ r + 1 by omega), u2_u2]
theorem rI_n {I : II} {r p v : Nat} {nm nm' : Nat → Int32} : sr (rI I r p v nm) (r + 1) nm' = rI I r p v nm' := by rw [rI, rI, sr_sr]
theorem Rdr.of {I : II} {r L p v : Nat} {c : Nat → Nat} {nm : Nat → Int32} (h : Rdr I r L c) : Rdr (rI I r p v nm) r L c := ⟨(rI_f (by decide) (by decide)).trans h.1, h.2.1, fun j hj => (congrFun (rI_o (by omega) (by omega)) j).trans (h.2.2.1 j hj), h.2.2.2⟩
