/-! Constant strings: their length, their letters, as the JDK's code tells them; the table of verbs. -/
def sch (i q : Nat) : Nat := ((strs.getD i []).getD q 0).toNatClampNeg
def sln (i : Nat) : Nat := (strs.getD i []).length
theorem sch_ok : ∀ i, i < 18 → ∀ q, q < sln i → (strs.getD i []).getD q 0 = nI (sch i q) ∧ sch i q < 128 := by decide +kernel
theorem sln_lt : ∀ i, i < 18 → sln i < 12 := by decide +kernel
theorem ch_and : ∀ c, c < 128 → nI c &&& 255 = nI c ∧ ((nI c).toUInt32 % 65536).toInt32 = nI c := by decide +kernel
section G58
variable {g : GG} {k : KK} {nL : Nat} {cc : ByteArray} {own : String} {rt : Option FieldType} {D mc ms : Nat} {Q : State → Prop} {cells slots pc : Nat} {lo : List (Nat × Value)} {st : List Value} {X : va_W} {T : TT} {I : II}
theorem r_ishr (C : Cx g k nL cc own rt D mc ms) {x y : Int32} (d : decode cc pc = .ok (.ishr, 1)) (kk : Go g k nL Q cells slots (pc + 1) lo (.int (x >>> (y &&& 31)) :: st) X T I) : Go g k nL Q cells slots pc lo (.int y :: .int x :: st) X T I :=
  fun ls H locs h1 h2 h3 => lv_ishr C.x C.b d (kk ls H locs h1 h2 h3)
theorem r_ishl (C : Cx g k nL cc own rt D mc ms) {x y : Int32} (d : decode cc pc = .ok (.ishl, 1)) (kk : Go g k nL Q cells slots (pc + 1) lo (.int (x <<< (y &&& 31)) :: st) X T I) : Go g k nL Q cells slots pc lo (.int y :: .int x :: st) X T I :=
  fun ls H locs h1 h2 h3 => lv_ishl C.x C.b d (kk ls H locs h1 h2 h3)
theorem r_iand (C : Cx g k nL cc own rt D mc ms) {x y : Int32} (d : decode cc pc = .ok (.iand, 1)) (kk : Go g k nL Q cells slots (pc + 1) lo (.int (x &&& y) :: st) X T I) : Go g k nL Q cells slots pc lo (.int y :: .int x :: st) X T I :=
  fun ls H locs h1 h2 h3 => lv_iand C.x C.b d (kk ls H locs h1 h2 h3)
theorem r_gets {idx : Nat} {cl nm ds : String} {v : Value} (C : Cx g k nL cc own rt D mc ms) (hZ : va_Z cl nm ds v (Ab g) (ks k) (ks k).heap) (hl : Cond.fieldLink own idx cl nm ds ∈ gw) (d : decode cc pc = .ok (.getstatic idx, 3)) (kk : Go g k nL Q cells slots (pc + 3) lo (v :: st) X T I) : Go g k nL Q cells slots pc lo st X T I :=
  fun ls H locs h1 h2 h3 => va_gets C.x C.b hZ h3 C.ow (C.ts _ hl) (fun _ h => h) d (kk ls H locs h1 h2 h3)
theorem r_getsN {idx : Nat} {cl nm ds host : String} {v : Value} (C : Cx g k nL cc own rt D mc ms) (hZ : va_Z cl nm ds v (Ab g) (ks k) (ks k).heap) (hl : Cond.fieldLinkNest own idx cl nm ds host ∈ lw_tbl) (d : decode cc pc = .ok (.getstatic idx, 3)) (kk : Go g k nL Q cells slots (pc + 3) lo (v :: st) X T I) : Go g k nL Q cells slots pc lo st X T I :=
  fun ls H locs h1 h2 h3 => va_getsN C.x C.b hZ h3 C.ow (va_tabs rfl rfl (C.Z.2.2.2.2.2.2.2 _ hl rfl)) (fun _ h => h) d (kk ls H locs h1 h2 h3)
theorem r_getsQ {idx : Nat} {cl nm ds : String} (C : Cx g k nL cc own rt D mc ms) (hZ : va_Zq cl nm ds (Ab g) (ks k) (ks k).heap) (hl : Cond.fieldLink own idx cl nm ds ∈ gw) (d : decode cc pc = .ok (.getstatic idx, 3)) (kk : ∀ v : Value, (v = .null ∨ ∃ t, v = .ref t) → Go g k nL Q cells slots (pc + 3) lo (v :: st) X T I) : Go g k nL Q cells slots pc lo st X T I := by
  rcases hZ with h | ⟨t, h⟩
  · exact r_gets C h hl d (kk _ (Or.inl rfl))
  · exact r_gets C h hl d (kk _ (Or.inr ⟨t, rfl⟩))
theorem r_getO {idx q : Nat} {cl nm ds : String} {v : Value} (C : Cx g k nL cc own rt D mc ms) (hE : va_OF cl nm ds v q (Ab g) (ks k) (ks k).heap) (hl : Cond.fieldLink own idx cl nm ds ∈ gw) (d : decode cc pc = .ok (.getfield idx, 3)) (kk : Go g k nL Q cells slots (pc + 3) lo (v :: st) X T I) : Go g k nL Q cells slots pc lo (.ref q :: st) X T I :=
  fun ls H locs h1 h2 h3 => vk_getf C.x C.b hE h3 C.ow (C.ts _ hl) (fun _ h => h) d (kk ls H locs h1 h2 h3)
theorem r_tlen {t N : Nat} {ty : FieldType} {f : Nat → Value} (C : Cx g k nL cc own rt D mc ms) (hT : va_T ty t N f (Ab g) (ks k) (ks k).heap) (d : decode cc pc = .ok (.arraylength, 1)) (kk : Go g k nL Q cells slots (pc + 1) lo (.int (nI N) :: st) X T I) : Go g k nL Q cells slots pc lo (.ref t :: st) X T I :=
  fun ls H locs h1 h2 h3 => va_tlen C.x C.b hT h3 rfl d (kk ls H locs h1 h2 h3)
theorem vp_nI {q N : Nat} (h : q < N) (hN : N < 2 ^ 31) : vp_in (nI q) N := fun z => by
  rcases z with z | z
  · exact absurd z (nI_pos (by omega))
  · rw [nI_clamp (by omega)] at z; omega
theorem r_tb {t N q : Nat} {f : Nat → Value} (C : Cx g k nL cc own rt D mc ms) (hT : va_T .byte t N f (Ab g) (ks k) (ks k).heap) (hq : q < N) (hN : N < 2 ^ 31) (d : decode cc pc = .ok (.baload, 1)) (kk : Go g k nL Q cells slots (pc + 1) lo (f q :: st) X T I) : Go g k nL Q cells slots pc lo (.int (nI q) :: .ref t :: st) X T I :=
  fun ls H locs h1 h2 h3 => va_tb C.x C.b hT h3 (vp_nI hq hN) (congrArg f (nI_clamp (by omega))) d (kk ls H locs h1 h2 h3)
theorem r_tq {t N q : Nat} {cl : String} {f : Nat → Value} (C : Cx g k nL cc own rt D mc ms) (hT : va_T (.object cl) t N f (Ab g) (ks k) (ks k).heap) (hq : q < N) (hN : N < 2 ^ 31) (d : decode cc pc = .ok (.aaload, 1)) (kk : Go g k nL Q cells slots (pc + 1) lo (f q :: st) X T I) : Go g k nL Q cells slots pc lo (.int (nI q) :: .ref t :: st) X T I :=
  fun ls H locs h1 h2 h3 => vb_tq C.x C.b hT h3 (vp_nI hq hN) (congrArg f (nI_clamp (by omega))) d (kk ls H locs h1 h2 h3)
/-- an int of an object that stands fast -/
theorem r_cKi {idx : Nat} {y : MethodName} {yc : ByteArray} {yl : Nat} {yr : Option FieldType} {n d b : Nat} {As rest : List Value} {v : Int32} (C : Cx g k nL cc own rt D mc ms) (hfl : (kl k).flags = flags0) (L : LkV own idx y yc yl yr n) (hM : Mc g y yc yl yr d 0 0 (.ref b :: As) X T I (Ex (some (.int v)) X T I)) (hO : va_O y.cls b (Ab g) (ks k) (ks k).heap) (hs : st = As.reverse ++ .ref b :: rest) (hn : As.length = n) (hw : (rest.map fun v => v.category).sum ≤ 8) (hd : d + 1 ≤ D ∧ yl ≤ 60) (hr : cells ≤ mc ∧ slots ≤ ms) (dg : decode cc pc = .ok (.invokevirtual idx, 3))
    (kk : Go g k nL Q cells slots (pc + 3) lo (.int v :: rest) X T I) : Go g k nL Q cells slots pc lo st X T I := by
  obtain ⟨l1, l2, l3, l4, l5, l6⟩ := L
  obtain ⟨c1, c2, c3⟩ := C.calls (cm := 0) (cs := 0) l5 hd
  refine r_run (a := (Value.ref b :: As).toArray) (rest := rest) (As := As) (P := Ex (some (.int v)) X T I) (cm := 0) (cs := 0) (fun H locs h2 h3 ls h1 => ?_) (fun r2 X2 T2 I2 h => by obtain ⟨rfl, rfl, rfl, rfl⟩ := h; exact kk)
  obtain ⟨cell, e1, e2, e3, -⟩ := hO.kept h3.2.1
  exact va_runV (own := own) (C := y.cls) (bytes := yc) (maxL := yl) (ret := yr) (Ts := gw) (n := n) ⟨C.x, C.b, C.ml, C.ow, C.ts⟩ (hM _ hfl) ⟨⟨rfl, rfl, c1, c2, c3, List.mem_cons_self, C.ts _ l5, C.ts _ l4, ⟨l6.2.1, l6.2.2.1⟩, fun sig h => by have h2 := l6.2.2.2; rw [h] at h2; exact (Option.some.inj h2).symm, C.ts _ l1⟩, C.ts _ l2, C.ts _ l3⟩
    ⟨Pre.blind _ _ _ _ _, ⟨cell, e1, e2, e3⟩, C.pre h2 h3⟩ rfl hn h1.1 hs (by show 2 * 0 + _ ≤ 8; omega) dg (by rw [C.R]; exact hr)
/-- a static method that gives nothing -/
theorem r_cSv {idx : Nat} {y : MethodName} {yc : ByteArray} {yl : Nat} {yr : Option FieldType} {n d : Nat} {As rest : List Value} {X' : va_W} {T' : TT} {I' : II} (C : Cx g k nL cc own rt D mc ms) (hfl : (kl k).flags = flags0) (L : LkS own idx y yc yl yr n) (hM : Mc g y yc yl yr d 0 0 As X T I (Ex none X' T' I')) (hs : st = As.reverse ++ rest) (hn : As.length = n) (hw : (rest.map fun v => v.category).sum ≤ 8) (hd : d + 1 ≤ D ∧ yl ≤ 60) (hr : cells ≤ mc ∧ slots ≤ ms) (dg : decode cc pc = .ok (.invokestatic idx, 3))
    (kk : Go g k nL Q cells slots (pc + 3) lo rest X' T' I') : Go g k nL Q cells slots pc lo st X T I :=
  r_callS (cm := 0) (cs := 0) C hfl L hM hs hn hw hd hr dg (fun r2 X2 T2 I2 h => by obtain ⟨rfl, rfl, rfl, rfl⟩ := h; exact kk)
theorem c_pChk {i n : Nat} (hi : i < n) (hn : n < 2 ^ 31) {v : Value} (hv : v = .null ∨ ∃ t, v = .ref t) : Mc g yJ3_checkIndex_8e157 cJ3_checkIndex_8e157 3 (some .int) 0 0 0 [.int (nI i), .int (nI n), v] X T I (Ex (some (.int (nI i))) X T I) := by
  rcases hv with rfl | ⟨t, rfl⟩ <;> (
  refine Mc.of (by decide) (Nat.le_of_ble_eq_true rfl) (fun k hfl C => ?_)
  refine r_lo (lo' := [(0, _), (1, _), (2, _)]) rfl ?_
  refine r_iload_n (pc := 0) C 0 dJ3_checkIndex_8e157_0 rfl rfl ?_
  refine r_ifltN (pc := 1) C dJ3_checkIndex_8e157_1 (by omega) ?_
  refine r_iload_n (pc := 4) C 0 dJ3_checkIndex_8e157_4 rfl rfl ?_
  refine r_iload_n (pc := 5) C 1 dJ3_checkIndex_8e157_5 rfl rfl ?_
  refine r_cltN (pc := 6) (tgt := 16) C dJ3_checkIndex_8e157_6 rfl (by omega) (by omega) (fun _ => ?_) (fun c => absurd hi (Nat.not_lt.mpr c))
  refine r_iload_n (pc := 16) C 0 dJ3_checkIndex_8e157_16 rfl rfl ?_
  exact r_iret (pc := 17) C dJ3_checkIndex_8e157_17 ⟨rfl, rfl, rfl, rfl⟩ (by decide))
theorem c_sChk {i n : Nat} (hi : i < n) (hn : n < 2 ^ 31) : Mc g yJ0_checkIndex_df160 cJ0_checkIndex_df160 2 none 1 0 0 [.int (nI i), .int (nI n)] X T I (Ex none X T I) := by
  refine Mc.of (by decide) (Nat.le_of_ble_eq_true rfl) (fun k hfl C => ?_)
  refine r_lo (lo' := [(0, _), (1, _)]) rfl ?_
  refine r_iload_n (pc := 0) C 0 dJ0_checkIndex_df160_0 rfl rfl ?_
  refine r_iload_n (pc := 1) C 1 dJ0_checkIndex_df160_1 rfl rfl ?_
  refine r_getsQ (pc := 2) C C.Z.2.2.2.1.2.2 (gx 1270 (by decide +kernel) (by decide +kernel)) dJ0_checkIndex_df160_2 (fun v hv => ?_)
  refine r_cSi (pc := 5) C hfl k_J0_1059 (c_pChk hi hn hv) rfl rfl (Nat.le_of_ble_eq_true rfl) (by decide) (by decide) dJ0_checkIndex_df160_5 ?_
  refine r_pop (pc := 8) C dJ0_checkIndex_df160_8 rfl ?_
  exact r_vret (pc := 9) C dJ0_checkIndex_df160_9 ⟨rfl, rfl, rfl, rfl⟩ (by decide)
theorem c_lat {i q : Nat} (hi : i < 18) (hq : q < sln i) : Mc g yJ1_charAt_3b067 cJ1_charAt_3b067 2 (some .char) 2 0 0 [.ref (ga g (200 + i)), .int (nI q)] X T I (Ex (some (.int (nI (sch i q)))) X T I) := by
  have hl := sln_lt i hi
  obtain ⟨e1, e2⟩ := sch_ok i hi q hq
  obtain ⟨e3, e4⟩ := ch_and _ e2
  refine Mc.of (by decide) (Nat.le_of_ble_eq_true rfl) (fun k hfl C => ?_)
  have hT := (C.Z.2.2.2.2.1 i hi).2.2.2
  refine r_lo (lo' := [(0, _), (1, _)]) rfl ?_
  refine r_iload_n (pc := 0) C 1 dJ1_charAt_3b067_0 rfl rfl ?_
  refine r_aload_n (pc := 1) C 0 dJ1_charAt_3b067_1 rfl rfl ?_
  refine r_tlen (pc := 2) C hT dJ1_charAt_3b067_2 ?_
  refine r_cSv (pc := 3) C hfl k_J1_9 (c_sChk hq (by omega)) rfl rfl (Nat.le_of_ble_eq_true rfl) (by decide) (by decide) dJ1_charAt_3b067_3 ?_
  refine r_aload_n (pc := 6) C 0 dJ1_charAt_3b067_6 rfl rfl ?_
  refine r_iload_n (pc := 7) C 1 dJ1_charAt_3b067_7 rfl rfl ?_
  refine r_tb (pc := 8) C hT hq (by show sln i < _; omega) dJ1_charAt_3b067_8 ?_
  refine r_sipush (pc := 9) (v := 255) C dJ1_charAt_3b067_9 rfl ?_
  refine r_iand (pc := 12) C dJ1_charAt_3b067_12 ?_
  refine r_t (y := nI (sch i q)) (by rw [e1]; exact e3) ?_
  refine r_i2c (pc := 13) C dJ1_charAt_3b067_13 e4 ?_
  exact r_zret (pc := 14) C (pk_charN (by omega)).1 dJ1_charAt_3b067_14 ⟨rfl, rfl, rfl, rfl⟩ (by decide)
theorem c_isL {i : Nat} (hi : i < 18) : Mc g yJ0_isLatin1_aae02 cJ0_isLatin1_aae02 1 (some .boolean) 0 0 0 [.ref (ga g (100 + i))] X T I (Ex (some (.int (nI 1))) X T I) := by
  refine Mc.of (by decide) (Nat.le_of_ble_eq_true rfl) (fun k hfl C => ?_)
  refine r_lo (lo' := [(0, _)]) rfl ?_
  refine r_gets (pc := 0) C C.Z.1.2.2.2.2.1 (gx 1292 (by decide +kernel) (by decide +kernel)) dJ0_isLatin1_aae02_0 ?_
  refine r_ifeq (pc := 3) (tgt := 17) C dJ0_isLatin1_aae02_3 rfl (fun c => absurd c (by decide)) (fun _ => ?_)
  refine r_aload_n (pc := 6) C 0 dJ0_isLatin1_aae02_6 rfl rfl ?_
  refine r_getO (pc := 7) C (C.Z.2.2.2.2.1 i hi).2.1 (gx 1409 (by decide +kernel) (by decide +kernel)) dJ0_isLatin1_aae02_7 ?_
  refine r_ifne (pc := 10) (tgt := 17) C dJ0_isLatin1_aae02_10 rfl (fun c => absurd rfl c) (fun _ => ?_)
  refine r_iconst (pc := 13) (v := 1) C dJ0_isLatin1_aae02_13 rfl ?_
  refine r_goto (pc := 14) (tgt := 18) C dJ0_isLatin1_aae02_14 rfl ?_
  exact r_zret (pc := 18) C rfl dJ0_isLatin1_aae02_18 ⟨rfl, rfl, rfl, rfl⟩ (by decide)
theorem c_coder {i : Nat} (hi : i < 18) : Mc g yJ0_coder_7d493 cJ0_coder_7d493 1 (some .byte) 0 0 0 [.ref (ga g (100 + i))] X T I (Ex (some (.int 0)) X T I) := by
  refine Mc.of (by decide) (Nat.le_of_ble_eq_true rfl) (fun k hfl C => ?_)
  refine r_lo (lo' := [(0, _)]) rfl ?_
  refine r_gets (pc := 0) C C.Z.1.2.2.2.2.1 (gx 1292 (by decide +kernel) (by decide +kernel)) dJ0_coder_7d493_0 ?_
  refine r_ifeq (pc := 3) (tgt := 13) C dJ0_coder_7d493_3 rfl (fun c => absurd c (by decide)) (fun _ => ?_)
  refine r_aload_n (pc := 6) C 0 dJ0_coder_7d493_6 rfl rfl ?_
  refine r_getO (pc := 7) C (C.Z.2.2.2.2.1 i hi).2.1 (gx 1409 (by decide +kernel) (by decide +kernel)) dJ0_coder_7d493_7 ?_
  refine r_goto (pc := 10) (tgt := 14) C dJ0_coder_7d493_10 rfl ?_
  exact r_zret (pc := 14) C rfl dJ0_coder_7d493_14 ⟨rfl, rfl, rfl, rfl⟩ (by decide)
theorem c_slen {i : Nat} (hi : i < 18) : Mc g yJ0_length_8abf5 cJ0_length_8abf5 1 (some .int) 1 0 0 [.ref (ga g (100 + i))] X T I (Ex (some (.int (nI (sln i)))) X T I) := by
  refine Mc.of (by decide) (Nat.le_of_ble_eq_true rfl) (fun k hfl C => ?_)
  have hO := C.Z.2.2.2.2.1 i hi
  refine r_lo (lo' := [(0, _)]) rfl ?_
  refine r_aload_n (pc := 0) C 0 dJ0_length_8abf5_0 rfl rfl ?_
  refine r_getO (pc := 1) C hO.2.2.1 (gx 1408 (by decide +kernel) (by decide +kernel)) dJ0_length_8abf5_1 ?_
  refine r_tlen (pc := 4) C hO.2.2.2 dJ0_length_8abf5_4 ?_
  refine r_aload_n (pc := 5) C 0 dJ0_length_8abf5_5 rfl rfl ?_
  refine r_cKi (pc := 6) C hfl k_J0_335 (c_coder hi) hO.1 (As := []) rfl rfl (Nat.le_of_ble_eq_true rfl) (by decide) (by decide) dJ0_length_8abf5_6 ?_
  refine r_ishr (pc := 9) C dJ0_length_8abf5_9 ?_
  refine r_t (y := nI (sln i)) (sb_shr0 _) ?_
  exact r_iret (pc := 10) C dJ0_length_8abf5_10 ⟨rfl, rfl, rfl, rfl⟩ (by decide)
theorem c_schar {i q : Nat} (hi : i < 18) (hq : q < sln i) : Mc g yJ0_charAt_5068e cJ0_charAt_5068e 2 (some .char) 3 0 0 [.ref (ga g (100 + i)), .int (nI q)] X T I (Ex (some (.int (nI (sch i q)))) X T I) := by
  obtain ⟨-, e2⟩ := sch_ok i hi q hq
  refine Mc.of (by decide) (Nat.le_of_ble_eq_true rfl) (fun k hfl C => ?_)
  have hO := C.Z.2.2.2.2.1 i hi
  refine r_lo (lo' := [(0, _), (1, _)]) rfl ?_
  refine r_aload_n (pc := 0) C 0 dJ0_charAt_5068e_0 rfl rfl ?_
  refine r_cKi (pc := 1) C hfl k_J0_492 (c_isL hi) hO.1 (As := []) rfl rfl (Nat.le_of_ble_eq_true rfl) (by decide) (by decide) dJ0_charAt_5068e_1 ?_
  refine r_ifeq (pc := 4) (tgt := 16) C dJ0_charAt_5068e_4 rfl (fun c => absurd c (by decide)) (fun _ => ?_)
  refine r_aload_n (pc := 7) C 0 dJ0_charAt_5068e_7 rfl rfl ?_
  refine r_getO (pc := 8) C hO.2.2.1 (gx 1408 (by decide +kernel) (by decide +kernel)) dJ0_charAt_5068e_8 ?_
  refine r_iload_n (pc := 11) C 1 dJ0_charAt_5068e_11 rfl rfl ?_
  refine r_cSi (pc := 12) C hfl k_J0_495 (c_lat hi hq) rfl rfl (Nat.le_of_ble_eq_true rfl) (by decide) (by decide) dJ0_charAt_5068e_12 ?_
  exact r_zret (pc := 15) C (pk_charN (by omega)).1 dJ0_charAt_5068e_15 ⟨rfl, rfl, rfl, rfl⟩ (by decide)
end G58
