/-! The builder's own methods, inside: capacity. -/
theorem kU_J5_83 : LkU RJ5 83 yJ5_isLatin1_aae02 cJ5_isLatin1_aae02 1 (some .boolean) 0 := ⟨rfl, (gx 1253 (by decide +kernel) (by decide +kernel)), (gx 1255 (by decide +kernel) (by decide +kernel)), (gx 1254 (by decide +kernel) (by decide +kernel)), (gx 96 (by decide +kernel) (by decide +kernel)), (gx 1257 (by decide +kernel) (by decide +kernel)), Or.inr (gx 1256 (by decide +kernel) (by decide +kernel)), by decide +kernel⟩
theorem kU_J5_100 : LkU RJ5 100 yJ5_ensureCapacityInternal_d00df cJ5_ensureCapacityInternal_d00df 3 none 1 := ⟨rfl, (gx 1224 (by decide +kernel) (by decide +kernel)), (gx 2248 (by decide +kernel) (by decide +kernel)), (gx 1226 (by decide +kernel) (by decide +kernel)), (gx 96 (by decide +kernel) (by decide +kernel)), (gx 1227 (by decide +kernel) (by decide +kernel)), Or.inl (List.mem_of_getElem? (i := 1225) (by decide +kernel)), by decide +kernel⟩
theorem kU_J5_104 : LkU RJ5 104 yJ5_newCapacity_0f7a4 cJ5_newCapacity_0f7a4 6 (some .int) 1 := ⟨rfl, (gx 1228 (by decide +kernel) (by decide +kernel)), (gx 2249 (by decide +kernel) (by decide +kernel)), (gx 1230 (by decide +kernel) (by decide +kernel)), (gx 96 (by decide +kernel) (by decide +kernel)), (gx 1231 (by decide +kernel) (by decide +kernel)), Or.inl (List.mem_of_getElem? (i := 1229) (by decide +kernel)), by decide +kernel⟩
theorem kU_J5_208 : LkU RJ5 208 yJ5_putStringAt_47b60 cJ5_putStringAt_47b60 3 none 2 := ⟨rfl, (gx 1293 (by decide +kernel) (by decide +kernel)), (gx 2250 (by decide +kernel) (by decide +kernel)), (gx 1295 (by decide +kernel) (by decide +kernel)), (gx 96 (by decide +kernel) (by decide +kernel)), (gx 1296 (by decide +kernel) (by decide +kernel)), Or.inl (List.mem_of_getElem? (i := 1294) (by decide +kernel)), by decide +kernel⟩
theorem kU_J5_397 : LkU RJ5 397 yJ5_inflateIfNeededFor_a7421 cJ5_inflateIfNeededFor_a7421 2 none 1 := ⟨rfl, (gx 1297 (by decide +kernel) (by decide +kernel)), (gx 2251 (by decide +kernel) (by decide +kernel)), (gx 1299 (by decide +kernel) (by decide +kernel)), (gx 96 (by decide +kernel) (by decide +kernel)), (gx 1300 (by decide +kernel) (by decide +kernel)), Or.inl (List.mem_of_getElem? (i := 1298) (by decide +kernel)), by decide +kernel⟩
theorem kP_333 : LkP 333 yJ5_setLength_d00df cJ5_setLength_d00df 2 none 1 := ⟨rfl, (gx 1202 (by decide +kernel) (by decide +kernel)), (gx 2245 (by decide +kernel) (by decide +kernel)), (gx 1203 (by decide +kernel) (by decide +kernel)), (gx 96 (by decide +kernel) (by decide +kernel)), (gx 1204 (by decide +kernel) (by decide +kernel)), by decide, by decide +kernel⟩
theorem kP_29 : LkP 29 yJ5_append_cf1ce cJ5_append_cf1ce 3 (some (.object "java/lang/AbstractStringBuilder")) 1 := ⟨rfl, (gx 1217 (by decide +kernel) (by decide +kernel)), (gx 2246 (by decide +kernel) (by decide +kernel)), (gx 1218 (by decide +kernel) (by decide +kernel)), (gx 96 (by decide +kernel) (by decide +kernel)), (gx 1219 (by decide +kernel) (by decide +kernel)), by decide, by decide +kernel⟩
theorem kP_53 : LkP 53 yJ5_append_c97b9 cJ5_append_c97b9 4 (some (.object "java/lang/AbstractStringBuilder")) 1 := ⟨rfl, (gx 1331 (by decide +kernel) (by decide +kernel)), (gx 2253 (by decide +kernel) (by decide +kernel)), (gx 1332 (by decide +kernel) (by decide +kernel)), (gx 96 (by decide +kernel) (by decide +kernel)), (gx 1333 (by decide +kernel) (by decide +kernel)), by decide, by decide +kernel⟩
theorem kP_50 : LkP 50 yJ5_append_3fe6f cJ5_append_3fe6f 2 (some (.object "java/lang/AbstractStringBuilder")) 1 := ⟨rfl, (gx 1453 (by decide +kernel) (by decide +kernel)), (gx 2254 (by decide +kernel) (by decide +kernel)), (gx 1454 (by decide +kernel) (by decide +kernel)), (gx 96 (by decide +kernel) (by decide +kernel)), (gx 1455 (by decide +kernel) (by decide +kernel)), by decide, by decide +kernel⟩
theorem kP_343 : LkP 343 yJ5_length_8abf5 cJ5_length_8abf5 1 (some .int) 0 := ⟨rfl, (gx 1375 (by decide +kernel) (by decide +kernel)), (gx 1371 (by decide +kernel) (by decide +kernel)), (gx 1370 (by decide +kernel) (by decide +kernel)), (gx 96 (by decide +kernel) (by decide +kernel)), (gx 1376 (by decide +kernel) (by decide +kernel)), by decide, by decide +kernel⟩
theorem kP_329 : LkP 329 yJ5_charAt_5068e cJ5_charAt_5068e 5 (some .char) 1 := ⟨rfl, (gx 1489 (by decide +kernel) (by decide +kernel)), (gx 2256 (by decide +kernel) (by decide +kernel)), (gx 1490 (by decide +kernel) (by decide +kernel)), (gx 96 (by decide +kernel) (by decide +kernel)), (gx 1491 (by decide +kernel) (by decide +kernel)), by decide, by decide +kernel⟩
theorem kA_J0_212 : LkA RJ0 212 := ⟨(gx 1325 (by decide +kernel) (by decide +kernel)), (gx 505 (by decide +kernel) (by decide +kernel)), (gx 504 (by decide +kernel) (by decide +kernel)), (gx 101 (by decide +kernel) (by decide +kernel))⟩
theorem kA_J7_150 : LkA RJ7 150 := ⟨(gx 1252 (by decide +kernel) (by decide +kernel)), (gx 505 (by decide +kernel) (by decide +kernel)), (gx 504 (by decide +kernel) (by decide +kernel)), (gx 101 (by decide +kernel) (by decide +kernel))⟩
def rfS (y : Nat) : Nat → Option Nat := fun k => match k with
  | 0 => some y
  | _ => none
theorem rfS_up {y z : Nat} : va_up (rfS y) 0 (some z) = rfS z := by
  funext j
  match j with
  | 0 => rfl
  | j + 1 => rfl
/-- the builder at s, its bytes at y, m of them, holds the letters l -/
def SB (T : TT) (I : II) (s y m : Nat) (l : List Nat) : Prop := T s = (1, 1, rfS y) ∧ T y = (4, m, nr) ∧ I s 1 = nI 0 ∧ I s 3 = nI l.length ∧ l.length ≤ m ∧ (m = 16 ∨ m = 34 ∨ m = 70 ∨ m = 142) ∧ sb_Lat (tx l) l.length (I y) ∧ sb_Fit (I y)
theorem SB.ne {T : TT} {I : II} {s y m : Nat} {l : List Nat} (h : SB T I s y m l) : s ≠ y := fun e => by
  have h1 := h.1
  rw [e, h.2.1] at h1
  exact absurd (congrArg Prod.fst h1) (show (4 : Nat) ≠ 1 by decide)
theorem SB.mm {T : TT} {I : II} {s y m : Nat} {l : List Nat} (h : SB T I s y m l) : 16 ≤ m ∧ m ≤ 142 := by
  have := h.2.2.2.2.2.1
  omega
theorem k_ne {T : TT} {q c d : Nat} {y : Nat × (Nat → Option Nat)} (h : T q = (c, y)) (hc : c ≠ d) : (T q).1 ≠ d := by rw [h]; exact hc
/-- what a change of the builder may have done: byte arrays alone are of kind 4 -/
def EXT (s : Nat) (T : TT) (I : II) (T' : TT) (I' : II) : Prop := (∀ q, q ≠ s → (T q).1 ≠ 0 → T' q = T q) ∧ ∀ q, q ≠ s → (T q).1 ≠ 0 → (T q).1 ≠ 4 → I' q = I q
theorem EXT.rf {s : Nat} {T : TT} {I : II} : EXT s T I T I := ⟨fun _ _ _ => rfl, fun _ _ _ _ => rfl⟩
theorem EXT.tr {s : Nat} {T T1 T2 : TT} {I I1 I2 : II} (h : EXT s T I T1 I1) (h2 : EXT s T1 I1 T2 I2) : EXT s T I T2 I2 :=
  ⟨fun q hq hz => by rw [h2.1 q hq (by rw [h.1 q hq hz]; exact hz), h.1 q hq hz], fun q hq hz h4 => by rw [h2.2 q hq (by rw [h.1 q hq hz]; exact hz) (by rw [h.1 q hq hz]; exact h4), h.2 q hq hz h4]⟩
theorem EXT.u {s : Nat} {T T1 : TT} {I I1 I2 : II} (h : EXT s T I T1 I1) (h2 : ∀ q, q ≠ s → (T1 q).1 ≠ 4 → I2 q = I1 q) : EXT s T I T1 I2 :=
  ⟨h.1, fun q hq hz h4 => by rw [h2 q hq (by rw [h.1 q hq hz]; exact h4), h.2 q hq hz h4]⟩
theorem mx_le {a b : Nat} (h : a ≤ b) (hb : b < 2 ^ 31) : mxV (nI a) (nI b) = nI b := by
  rw [mxV]
  by_cases e : a < b
  · rw [if_pos (nI_lt e hb)]
  · rw [if_neg (nI_nlt (by omega) (by omega)), show a = b by omega]
theorem mn_lt {a b : Nat} (h : a ≤ b) (hb : b < 2 ^ 31) : mnV (nI a) (nI b) = nI a := by
  rw [mnV, if_neg (nI_nlt h hb)]

set_option maxHeartbeats 1000000 in
theorem c_sbLat {g : GG} {X : va_W} {T : TT} {I : II} {s y m : Nat} {l : List Nat} (h : SB T I s y m l)  : Mc g yJ5_isLatin1_aae02 cJ5_isLatin1_aae02 1 (some .boolean) 0 0 0 [.ref s] X T I (Ex (some (.int (nI 1))) X T I) := by
  refine Mc.of (by decide) (Nat.le_of_ble_eq_true rfl) (fun k hfl C => ?_)
  refine r_lo (lo' := [(0, _)]) rfl ?_
  refine r_gets (pc := 0) C C.Z.1.2.2.2.2.1 (gx 344 (by decide +kernel) (by decide +kernel)) dJ5_isLatin1_aae02_0 ?_
  refine r_ifeq (pc := 3) (tgt := 17) C dJ5_isLatin1_aae02_3 rfl (fun c => absurd c (by decide)) (fun _ => ?_)
  refine r_aload_n (pc := 6) C 0 dJ5_isLatin1_aae02_6 rfl rfl ?_
  refine r_getBI (pc := 7) C f_J5_22 h.1 rfl dJ5_isLatin1_aae02_7 ?_
  refine r_ifne (pc := 10) (tgt := 17) C dJ5_isLatin1_aae02_10 rfl (fun c => absurd h.2.2.1 c) (fun _ => ?_)
  refine r_iconst (pc := 13) (v := 1) C dJ5_isLatin1_aae02_13 rfl ?_
  refine r_goto (pc := 14) (tgt := 18) C dJ5_isLatin1_aae02_14 rfl ?_
  exact r_zret (pc := 18) C rfl dJ5_isLatin1_aae02_18 ⟨rfl, rfl, rfl, rfl⟩ (by decide)

set_option maxHeartbeats 1000000 in
theorem c_newLen {g : GG} {X : va_W} {T : TT} {I : II} {m a b : Nat} (h1 : a ≤ b) (h2 : 0 < m + b) (h3 : m + b < 2147483639) : Mc g yJ8_newLength_cabcc cJ8_newLength_cabcc 4 (some .int) 0 0 0 [.int (nI m), .int (nI a), .int (nI b)] X T I (Ex (some (.int (nI (m + b)))) X T I) := by
  refine Mc.of (by decide) (Nat.le_of_ble_eq_true rfl) (fun k hfl C => ?_)
  refine r_lo (lo' := [(0, _), (1, _), (2, _)]) rfl ?_
  refine r_iload_n (pc := 0) C 0 dJ8_newLength_cabcc_0 rfl rfl ?_
  refine r_iload_n (pc := 1) C 1 dJ8_newLength_cabcc_1 rfl rfl ?_
  refine r_iload_n (pc := 2) C 2 dJ8_newLength_cabcc_2 rfl rfl ?_
  refine r_max (pc := 3) C k_J8_194 (Nat.le_of_ble_eq_true rfl) (by decide) dJ8_newLength_cabcc_3 ?_
  refine r_t (y := nI b) (mx_le h1 (by omega)) ?_
  refine r_iaddN (pc := 6) C dJ8_newLength_cabcc_6 ?_
  refine r_istore_n (pc := 7) (lo' := [(3, _), (0, _), (1, _), (2, _)]) C dJ8_newLength_cabcc_7 rfl (by decide) rfl ?_
  refine r_iconst (pc := 8) (v := 0) C dJ8_newLength_cabcc_8 rfl ?_
  refine r_iload_n (pc := 9) C 0 dJ8_newLength_cabcc_9 rfl rfl ?_
  refine r_cgeN (pc := 10) (tgt := 21) C dJ8_newLength_cabcc_10 rfl (by omega) (by omega) (fun c => False.elim (by omega)) (fun _ => ?_)
  refine r_iload_n (pc := 13) C 0 dJ8_newLength_cabcc_13 rfl rfl ?_
  refine r_ldcI (pc := 14) (v := 2147483639) C (gx 1236 (by decide +kernel) (by decide +kernel)) dJ8_newLength_cabcc_14 ?_
  refine r_t (y := nI 2147483639) rfl ?_
  refine r_cgtN (pc := 16) (tgt := 21) C dJ8_newLength_cabcc_16 rfl (by omega) (by omega) (fun c => False.elim (by omega)) (fun _ => ?_)
  refine r_iload_n (pc := 19) C 0 dJ8_newLength_cabcc_19 rfl rfl ?_
  exact r_iret (pc := 20) C dJ8_newLength_cabcc_20 ⟨rfl, rfl, rfl, rfl⟩ (by decide)

set_option maxHeartbeats 1000000 in
theorem c_sbCap {g : GG} {X : va_W} {T : TT} {I : II} {s y m : Nat} {l : List Nat} (h : SB T I s y m l) {q : Nat} (h1 : m < q) (h2 : q ≤ m + 11) : Mc g yJ5_newCapacity_0f7a4 cJ5_newCapacity_0f7a4 6 (some .int) 2 0 0 [.ref s, .int (nI q)] X T I (Ex (some (.int (nI (2 * m + 2)))) X T I) := by
  have hm := h.mm
  obtain ⟨a1, a2, a3, -⟩ := h
  refine Mc.of (by decide) (Nat.le_of_ble_eq_true rfl) (fun k hfl C => ?_)
  refine r_lo (lo' := [(0, _), (1, _)]) rfl ?_
  refine r_aload_n (pc := 0) C 0 dJ5_newCapacity_0f7a4_0 rfl rfl ?_
  refine r_getB (pc := 1) (v := .ref y) C f_J5_15 a1 rfl rfl dJ5_newCapacity_0f7a4_1 ?_
  refine r_alen (pc := 4) C a2 (Or.inr (Or.inr rfl)) dJ5_newCapacity_0f7a4_4 ?_
  refine r_istore_n (pc := 5) (lo' := [(2, _), (0, _), (1, _)]) C dJ5_newCapacity_0f7a4_5 rfl (by decide) rfl ?_
  refine r_iload_n (pc := 6) C 2 dJ5_newCapacity_0f7a4_6 rfl rfl ?_
  refine r_aload_n (pc := 7) C 1 dJ5_newCapacity_0f7a4_7 rfl rfl ?_
  refine r_getBI (pc := 8) C f_J5_22 a1 rfl dJ5_newCapacity_0f7a4_8 ?_
  refine r_ishl (pc := 11) C dJ5_newCapacity_0f7a4_11 ?_
  refine r_t (y := nI q) (by rw [a3]; exact sb_shl0 _) ?_
  refine r_istore_n (pc := 12) (lo' := [(3, _), (2, _), (0, _), (1, _)]) C dJ5_newCapacity_0f7a4_12 rfl (by decide) rfl ?_
  refine r_iload_n (pc := 13) C 0 dJ5_newCapacity_0f7a4_13 rfl rfl ?_
  refine r_iload_n (pc := 14) C 1 dJ5_newCapacity_0f7a4_14 rfl rfl ?_
  refine r_isub (pc := 15) C dJ5_newCapacity_0f7a4_15 ?_
  refine r_t (y := nI (q - m)) (pk_sub (by omega)) ?_
  refine r_istore (pc := 16) (lo' := [(4, _), (3, _), (2, _), (0, _), (1, _)]) C dJ5_newCapacity_0f7a4_16 (by decide) rfl ?_
  refine r_iload_n (pc := 18) C 2 dJ5_newCapacity_0f7a4_18 rfl rfl ?_
  refine r_iload (pc := 19) C 0 dJ5_newCapacity_0f7a4_19 rfl ?_
  refine r_iload_n (pc := 21) C 2 dJ5_newCapacity_0f7a4_21 rfl rfl ?_
  refine r_iconst (pc := 22) (v := 2) C dJ5_newCapacity_0f7a4_22 rfl ?_
  refine r_aload_n (pc := 23) C 3 dJ5_newCapacity_0f7a4_23 rfl rfl ?_
  refine r_getBI (pc := 24) C f_J5_22 a1 rfl dJ5_newCapacity_0f7a4_24 ?_
  refine r_ishl (pc := 27) C dJ5_newCapacity_0f7a4_27 ?_
  refine r_t (y := nI 2) (by rw [a3]; exact sb_shl0 _) ?_
  refine r_iaddN (pc := 28) C dJ5_newCapacity_0f7a4_28 ?_
  refine r_cSi (pc := 29) C hfl k_J5_114 (c_newLen (by omega) (by omega) (by omega)) rfl rfl (Nat.le_of_ble_eq_true rfl) (by decide) (by decide) dJ5_newCapacity_0f7a4_29 ?_
  refine r_istore (pc := 32) (lo' := [(5, _), (4, _), (3, _), (2, _), (0, _), (1, _)]) C dJ5_newCapacity_0f7a4_32 (by decide) rfl ?_
  refine r_iload (pc := 34) C 0 dJ5_newCapacity_0f7a4_34 rfl ?_
  refine r_ldcI (pc := 36) (v := 2147483647) C (gx 1240 (by decide +kernel) (by decide +kernel)) dJ5_newCapacity_0f7a4_36 ?_
  refine r_cne (pc := 38) (tgt := 51) C dJ5_newCapacity_0f7a4_38 rfl (fun _ => ?_) (fun c => False.elim (by have c2 := (nI_eq (a := m + (m + 2)) (b := 2147483647) (by omega) (by omega)).mp c; omega))
  refine r_iload (pc := 51) C 0 dJ5_newCapacity_0f7a4_51 rfl ?_
  refine r_aload_n (pc := 53) C 4 dJ5_newCapacity_0f7a4_53 rfl rfl ?_
  refine r_getBI (pc := 54) C f_J5_22 a1 rfl dJ5_newCapacity_0f7a4_54 ?_
  refine r_ishr (pc := 57) C dJ5_newCapacity_0f7a4_57 ?_
  refine r_t (y := nI (2 * m + 2)) (by rw [a3, show 2 * m + 2 = m + (m + 2) by omega]; exact sb_shr0 _) ?_
  exact r_iret (pc := 58) C dJ5_newCapacity_0f7a4_58 ⟨rfl, rfl, rfl, rfl⟩ (by decide)

/-- a copy of the bytes at y, with room for m2 -/
def CPY (y m m2 : Nat) (X : va_W) (T : TT) (I : II) : PhiT := fun r X' T' I' => X' = X ∧ ∃ z, (T z).1 = 0 ∧ r = some (.ref z) ∧ T' = tu T z (4, m2, nr) ∧ I' = sr I z (va_cpy (I y) (fun _ => 0) 0 0 m)

set_option maxHeartbeats 1000000 in
theorem c_bcopy {g : GG} {X : va_W} {T : TT} {I : II} {y m m2 : Nat} {rf : Nat → Option Nat} (hT : T y = (4, m, rf)) (hf : sb_Fit (I y)) (h1 : m < m2) (h2 : m2 ≤ 142) : Mc g yJ7_copyOf_9075b cJ7_copyOf_9075b 3 (some (.array .byte)) 1 1 142 [.ref y, .int (nI m2)] X T I (CPY y m m2 X T I) := by
  refine Mc.of (by decide) (Nat.le_of_ble_eq_true rfl) (fun k hfl C => ?_)
  refine r_lo (lo' := [(0, _), (1, _)]) rfl ?_
  refine r_iload_n (pc := 0) C 1 dJ7_copyOf_9075b_0 rfl rfl ?_
  refine r_aload_n (pc := 1) C 0 dJ7_copyOf_9075b_1 rfl rfl ?_
  refine r_alen (pc := 2) C hT (Or.inr (Or.inr rfl)) dJ7_copyOf_9075b_2 ?_
  refine r_cneN (pc := 3) (tgt := 14) C dJ7_copyOf_9075b_3 rfl (by omega) (by omega) (fun _ => ?_) (fun c => False.elim (by omega))
  refine r_iload_n (pc := 14) C 1 dJ7_copyOf_9075b_14 rfl rfl ?_
  refine r_newB (pc := 15) (n := m2) C (by omega) ⟨by decide, by omega⟩ dJ7_copyOf_9075b_15 (fun z hz => ?_)
  have hyz : y ≠ z := fun e => by rw [e] at hT; rw [hT] at hz; exact absurd hz (show (4 : Nat) ≠ 0 by decide)
  have hT1 : tu T z (4, m2, nr) y = (4, m, rf) := (tu_n hyz).trans hT
  refine r_astore_n (pc := 17) (lo' := [(2, _), (0, _), (1, _)]) C dJ7_copyOf_9075b_17 rfl (by decide) rfl ?_
  refine r_aload_n (pc := 18) C 1 dJ7_copyOf_9075b_18 rfl rfl ?_
  refine r_iconst (pc := 19) (v := 0) C dJ7_copyOf_9075b_19 rfl ?_
  refine r_aload_n (pc := 20) C 0 dJ7_copyOf_9075b_20 rfl rfl ?_
  refine r_iconst (pc := 21) (v := 0) C dJ7_copyOf_9075b_21 rfl ?_
  refine r_aload_n (pc := 22) C 1 dJ7_copyOf_9075b_22 rfl rfl ?_
  refine r_alen (pc := 23) C hT1 (Or.inr (Or.inr rfl)) dJ7_copyOf_9075b_23 ?_
  refine r_iload_n (pc := 24) C 2 dJ7_copyOf_9075b_24 rfl rfl ?_
  refine r_min (pc := 25) C k_J7_304 (Nat.le_of_ble_eq_true rfl) ⟨by decide, by omega⟩ dJ7_copyOf_9075b_25 ?_
  refine r_t (y := nI m) (mn_lt (by omega) (by omega)) ?_
  refine r_copyB (pc := 28) C kA_J7_150 hT1 tu_s (by rw [sr_n hyz]; exact hf) (by omega) (by omega) (by omega) (by omega) (Nat.le_of_ble_eq_true rfl) dJ7_copyOf_9075b_28 ?_
  refine r_aload_n (pc := 31) C 0 dJ7_copyOf_9075b_31 rfl rfl ?_
  exact r_aret (pc := 32) C (Or.inr ⟨_, rfl⟩) (Or.inr ⟨_, rfl⟩) dJ7_copyOf_9075b_32 ⟨rfl, z, hz, rfl, rfl, by rw [sr_n hyz, sr_s, sr_sr]⟩ ⟨by decide, by omega⟩

/-- room has been made for q letters -/
def PEN (s q : Nat) (X : va_W) (T : TT) (I : II) (l : List Nat) : PhiT := fun r X' T' I' => r = none ∧ X' = X ∧ ∃ y' m', SB T' I' s y' m' l ∧ q ≤ m' ∧ EXT s T I T' I'
theorem SB.grow {T : TT} {I : II} {s y m z : Nat} {l : List Nat} (h : SB T I s y m l) (hz : (T z).1 = 0) (hm : m ≠ 142) : SB (tu (tu T z (4, 2 * m + 2, nr)) s (1, 1, va_up (rfS y) 0 (some z))) (sr I z (va_cpy (I y) (fun _ => 0) 0 0 m)) s z (2 * m + 2) l ∧ EXT s T I (tu (tu T z (4, 2 * m + 2, nr)) s (1, 1, va_up (rfS y) 0 (some z))) (sr I z (va_cpy (I y) (fun _ => 0) 0 0 m)) := by
  obtain ⟨a1, a2, a3, a4, a5, a6, a7, a8⟩ := h
  have hzs : s ≠ z := fun e => by rw [← e, a1] at hz; exact absurd hz (show (1 : Nat) ≠ 0 by decide)
  refine ⟨⟨by rw [tu_s, rfS_up], by rw [tu_n (Ne.symm hzs), tu_s], by rw [sr_n hzs]; exact a3, by rw [sr_n hzs]; exact a4, by omega, by omega, ?_, ?_⟩, fun q hq hz2 => ?_, fun q hq hz2 _ => ?_⟩
  · rw [sr_s]
    exact sb_latKeep a7 (fun j hj => sb_cpy0 (by omega))
  · rw [sr_s]
    exact sb_fitC a8 sb_fit0
  · rw [tu_n hq, tu_n (fun e => hz2 (by rw [e]; exact hz))]
  · rw [sr_n (fun e => hz2 (by rw [e]; exact hz))]

set_option maxHeartbeats 1000000 in
theorem c_ensure {g : GG} {X : va_W} {T : TT} {I : II} {s y m : Nat} {l : List Nat} (h : SB T I s y m l) {q : Nat} (h2 : q ≤ m + 11) (h3 : q ≤ 142) : Mc g yJ5_ensureCapacityInternal_d00df cJ5_ensureCapacityInternal_d00df 3 none 3 1 142 [.ref s, .int (nI q)] X T I (PEN s q X T I l) := by
  have hm := h.mm
  obtain ⟨a1, a2, a3, a4, a5, a6, a7, a8⟩ := id h
  have e1 : (nI q - nI m).toInt = (q : Int) - m := pk_sub_toInt (by omega) (by omega)
  refine Mc.of (by decide) (Nat.le_of_ble_eq_true rfl) (fun k hfl C => ?_)
  refine r_lo (lo' := [(0, _), (1, _)]) rfl ?_
  refine r_aload_n (pc := 0) C 0 dJ5_ensureCapacityInternal_d00df_0 rfl rfl ?_
  refine r_getB (pc := 1) (v := .ref y) C f_J5_15 a1 rfl rfl dJ5_ensureCapacityInternal_d00df_1 ?_
  refine r_alen (pc := 4) C a2 (Or.inr (Or.inr rfl)) dJ5_ensureCapacityInternal_d00df_4 ?_
  refine r_aload_n (pc := 5) C 0 dJ5_ensureCapacityInternal_d00df_5 rfl rfl ?_
  refine r_getBI (pc := 6) C f_J5_22 a1 rfl dJ5_ensureCapacityInternal_d00df_6 ?_
  refine r_ishr (pc := 9) C dJ5_ensureCapacityInternal_d00df_9 ?_
  refine r_t (y := nI m) (by rw [a3]; exact sb_shr0 _) ?_
  refine r_istore_n (pc := 10) (lo' := [(2, _), (0, _), (1, _)]) C dJ5_ensureCapacityInternal_d00df_10 rfl (by decide) rfl ?_
  refine r_iload_n (pc := 11) C 2 dJ5_ensureCapacityInternal_d00df_11 rfl rfl ?_
  refine r_iload_n (pc := 12) C 0 dJ5_ensureCapacityInternal_d00df_12 rfl rfl ?_
  refine r_isub (pc := 13) C dJ5_ensureCapacityInternal_d00df_13 ?_
  refine r_ifle (pc := 14) (tgt := 38) C dJ5_ensureCapacityInternal_d00df_14 rfl (fun c => ?_) (fun c => ?_)
  · have hq : q ≤ m := by rw [Int32.le_iff_toInt_le, e1, Int32.toInt_zero] at c; omega
    exact r_vret (pc := 38) C dJ5_ensureCapacityInternal_d00df_38 ⟨rfl, rfl, y, m, h, hq, EXT.rf⟩ (by decide)
  · have hq : m < q := by rw [Int32.le_iff_toInt_le, e1, Int32.toInt_zero] at c; omega
    refine r_aload_n (pc := 17) C 1 dJ5_ensureCapacityInternal_d00df_17 rfl rfl ?_
    refine r_aload_n (pc := 18) C 1 dJ5_ensureCapacityInternal_d00df_18 rfl rfl ?_
    refine r_getB (pc := 19) (v := .ref y) C f_J5_15 a1 rfl rfl dJ5_ensureCapacityInternal_d00df_19 ?_
    refine r_aload_n (pc := 22) C 1 dJ5_ensureCapacityInternal_d00df_22 rfl rfl ?_
    refine r_iload_n (pc := 23) C 2 dJ5_ensureCapacityInternal_d00df_23 rfl rfl ?_
    refine r_callU (pc := 24) C hfl kU_J5_104 (c_sbCap h hq h2) a1 rfl rfl (Nat.le_of_ble_eq_true rfl) (by decide) (by decide) dJ5_ensureCapacityInternal_d00df_24 (fun r1 X1 T1 I1 e => ?_)
    obtain ⟨e1, e2, e3, e4⟩ := e
    subst r1
    subst X1
    subst T1
    subst I1
    refine r_st (st' := .int (nI (2 * m + 2)) :: .ref y :: .ref s :: []) rfl ?_
    refine r_aload_n (pc := 27) C 1 dJ5_ensureCapacityInternal_d00df_27 rfl rfl ?_
    refine r_getBI (pc := 28) C f_J5_22 a1 rfl dJ5_ensureCapacityInternal_d00df_28 ?_
    refine r_ishl (pc := 31) C dJ5_ensureCapacityInternal_d00df_31 ?_
    refine r_t (y := nI (2 * m + 2)) (by rw [a3]; exact sb_shl0 _) ?_
    refine r_callS (pc := 32) C hfl k_J5_108 (c_bcopy a2 a8 (by omega) (by omega)) rfl rfl (Nat.le_of_ble_eq_true rfl) (by decide) (by decide) dJ5_ensureCapacityInternal_d00df_32 (fun r2 X2 T2 I2 e => ?_)
    obtain ⟨e1, z, hz, e2, e3, e4⟩ := e
    subst r2
    subst X2
    subst T2
    subst I2
    refine r_st (st' := [.ref z, .ref s]) rfl ?_
    have hsz : s ≠ z := fun e => by rw [← e, a1] at hz; exact absurd hz (show (1 : Nat) ≠ 0 by decide)
    obtain ⟨g1, g2⟩ := h.grow hz (by omega)
    refine r_putBR (pc := 35) C f_J5_15 ((tu_n hsz).trans a1) rfl rfl rfl dJ5_ensureCapacityInternal_d00df_35 ?_
    exact r_vret (pc := 38) C dJ5_ensureCapacityInternal_d00df_38 ⟨rfl, rfl, z, 2 * m + 2, g1, by omega, g2⟩ (by decide)
