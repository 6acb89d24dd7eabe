/-! Doubles and floats. -/
section G8
variable {g : GG} {k : KK} {nL : Nat} {cc : ByteArray} {own : String} {rt : Option FieldType} {D mc ms : Nat} {Q : State → Prop} {cells slots pc : Nat} {lo : List (Nat × Value)} {st : List Value} {X : va_W} {T : TT} {I : II}
theorem r_i2d (C : Cx g k nL cc own rt D mc ms) {x : Int32} (d : decode cc pc = .ok (.i2d, 1)) (kk : Go g k nL Q cells slots (pc + 1) lo (.double (FP.i2d x) :: st) X T I) : Go g k nL Q cells slots pc lo (.int x :: st) X T I :=
  fun ls H locs h1 h2 h3 => lv_i2d C.x C.b d (kk ls H locs h1 h2 h3)
theorem r_ddiv (C : Cx g k nL cc own rt D mc ms) {x y : UInt64} (d : decode cc pc = .ok (.ddiv, 1)) (hne : vf_n64 (FP.ddiv x y)) (kk : Go g k nL Q cells slots (pc + 1) lo (.double (FP.ddiv x y) :: st) X T I) : Go g k nL Q cells slots pc lo (.double y :: .double x :: st) X T I :=
  fun ls H locs h1 h2 h3 => lv_ddiv C.x C.b d hne (kk ls H locs h1 h2 h3)
theorem r_i2f (C : Cx g k nL cc own rt D mc ms) {x : Int32} (d : decode cc pc = .ok (.i2f, 1)) (kk : Go g k nL Q cells slots (pc + 1) lo (.float (FP.i2f x) :: st) X T I) : Go g k nL Q cells slots pc lo (.int x :: st) X T I :=
  fun ls H locs h1 h2 h3 => lv_i2f C.x C.b d (kk ls H locs h1 h2 h3)
theorem r_fdiv (C : Cx g k nL cc own rt D mc ms) {x y : UInt32} (d : decode cc pc = .ok (.fdiv, 1)) (hne : vf_n32 (FP.fdiv x y)) (kk : Go g k nL Q cells slots (pc + 1) lo (.float (FP.fdiv x y) :: st) X T I) : Go g k nL Q cells slots pc lo (.float y :: .float x :: st) X T I :=
  fun ls H locs h1 h2 h3 => lv_fdiv C.x C.b d hne (kk ls H locs h1 h2 h3)
theorem r_dret {v : UInt64} {P : PhiT} (C : Cx g k nL cc own (some .double) D mc ms) (d : decode cc pc = .ok (.dreturn, 1)) (hp : P (some (.double v)) X T I) (hc : cells ≤ mc ∧ slots ≤ ms) : Go g k nL (Qm g k P mc ms) cells slots pc lo [.double v] X T I := by
  intro ls H locs h1 h2 h3
  exact W.widen hc.1 hc.2 (W.dret C.x C.b C.ret (fun t ht hW => ⟨⟨_, X, T, I, rfl, hp, by rw [ht]; exact h2⟩, h3.F ht⟩) h3.2.2 d C.lk)
theorem r_fret {v : UInt32} {P : PhiT} (C : Cx g k nL cc own (some .float) D mc ms) (d : decode cc pc = .ok (.freturn, 1)) (hp : P (some (.float v)) X T I) (hc : cells ≤ mc ∧ slots ≤ ms) : Go g k nL (Qm g k P mc ms) cells slots pc lo [.float v] X T I := by
  intro ls H locs h1 h2 h3
  exact W.widen hc.1 hc.2 (W.fret C.x C.b C.ret (fun t ht hW => ⟨⟨_, X, T, I, rfl, hp, by rw [ht]; exact h2⟩, h3.F ht⟩) h3.2.2 d C.lk)
end G8
theorem n64_of {r : UInt64} (h : r.toNat % 2 ^ 63 < 2047 * 2 ^ 52) : vf_n64 r := by
  show r &&& 0x7fffffffffffffff ≤ 0x7ff0000000000000
  rw [UInt64.le_iff_toNat_le, UInt64.toNat_and]
  rw [show (0x7fffffffffffffff : UInt64).toNat = 2 ^ 63 - 1 from rfl, Nat.and_two_pow_sub_one_eq_mod]
  show _ ≤ 2047 * 2 ^ 52
  omega
theorem n32_of {r : UInt32} (h : r.toNat % 2 ^ 31 < 255 * 2 ^ 23) : vf_n32 r := by
  show r &&& 0x7fffffff ≤ 0x7f800000
  rw [UInt32.le_iff_toNat_le, UInt32.toNat_and]
  rw [show (0x7fffffff : UInt32).toNat = 2 ^ 31 - 1 from rfl, Nat.and_two_pow_sub_one_eq_mod]
  show _ ≤ 255 * 2 ^ 23
  omega
theorem nI_i0 {n : Nat} (h0 : 0 < n) (h : n < 2 ^ 31) : (nI n).toInt ≠ 0 := by rw [nI_toInt h]; omega
/-- a quotient of ints as doubles, as floats -/
def dqV (a b : Int32) : UInt64 := FP.ddiv (FP.i2d a) (FP.i2d b)
def fqV (a b : Int32) : UInt32 := FP.fdiv (FP.i2f a) (FP.i2f b)
theorem dq_mag {a b : Int32} (h : b.toInt ≠ 0) : (dqV a b).toNat % 2 ^ 63 < 1057 * 2 ^ 52 := by
  obtain ⟨h1, h2⟩ := Jvm.FP.Core.i2d_big h
  have h3 : (dqV a b).toNat % 2 ^ 63 < (1056 + (1074 - 52 - 1) - 1023 + 3) * 2 ^ 52 := Jvm.FP.Core.ddiv_mag (Jvm.FP.Core.i2d_mag a) h1 h2 (by omega) (by omega)
  omega
theorem fq_mag {a b : Int32} (h : b.toInt ≠ 0) : (fqV a b).toNat % 2 ^ 31 < 161 * 2 ^ 23 := by
  obtain ⟨h1, h2⟩ := Jvm.FP.Core.i2f_big h
  have h3 : (fqV a b).toNat % 2 ^ 31 < (160 + (149 - 23 - 1) - 127 + 3) * 2 ^ 23 := Jvm.FP.Core.fdiv_mag (Jvm.FP.Core.i2f_mag a) h1 h2 (by omega) (by omega)
  omega
theorem dq_n {a b : Int32} (h : b.toInt ≠ 0) : vf_n64 (dqV a b) := n64_of (by have := dq_mag (a := a) h; omega)
theorem fq_n {a b : Int32} (h : b.toInt ≠ 0) : vf_n32 (fqV a b) := n32_of (by have := fq_mag (a := a) h; omega)
