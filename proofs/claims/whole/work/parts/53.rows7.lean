/-! The history's cells; the verbs: their order, the switch map. -/
def rfH (h : Nat) : Nat → Option Nat := fun k => match k with
  | 2 => some (h + 1)
  | _ => none
def isHs (T : TT) (h : Nat) : Prop := T h = (1, 7, rfH h) ∧ T (h + 1) = (7, 8, fun i => some (h + 2 + 42 * i)) ∧ ∀ i, i < 8 → isDk T (h + 2 + 42 * i)
def hsN (n : Nat) : Nat := if n + 1 < 8 then n + 1 else 0
def hsC (c : Nat) : Nat := if c < 8 then c + 1 else 8
theorem mn8 {c : Nat} (h : c ≤ 8) : mnV (nI (c + 1)) (nI 8) = nI (hsC c) := by
  match c, h with
  | 0, _ => rfl
  | 1, _ => rfl
  | 2, _ => rfl
  | 3, _ => rfl
  | 4, _ => rfl
  | 5, _ => rfl
  | 6, _ => rfl
  | 7, _ => rfl
  | 8, _ => rfl
theorem PmOk.mv {I0 I : II} {b : Nat} {pm : Nat → Nat} (h : PmOk I0 b pm) (e : I (b + 5) = I0 (b + 5)) : PmOk I b pm := ⟨h.1, fun i hi => by rw [e]; exact h.2 i hi⟩
theorem DV.pk {I : II} {b B N E : Nat} {w : Nat → Int32} {pm : Nat → Nat} (h : DV I b w B N E pm) : PmOk I b pm := h.2.1
/-- what remembering leaves -/
def HR (I0 : II) (h n c : Nat) (X : va_W) (T : TT) (w : Nat → Int32) (B N E : Nat) (pa : Nat → Nat) : PhiT := fun r X' T' I' => r = none ∧ X' = X ∧ T' = T ∧ ∃ I1, DW I0 I1 (h + 2 + 42 * n) w B N E pa (I0 (h + 2 + 42 * n) 9) ∧ I' = u2 (u2 I1 h 1 (nI (hsN n))) h 0 (nI (hsC c))
/-- what taking back leaves -/
def HT (I0 : II) (h m c a : Nat) (X : va_W) (T : TT) (w : Nat → Int32) (B N E : Nat) (pa : Nat → Nat) : PhiT := fun r X' T' I' => r = none ∧ X' = X ∧ T' = T ∧ ∃ I1, DW (u2 I0 h 1 (nI m)) I1 a w B N E pa (u2 I0 h 1 (nI m) a 9) ∧ I' = u2 I1 h 0 (nI (c - 1))
section G53
variable {g : GG} {k : KK} {nL : Nat} {cc : ByteArray} {own : String} {rt : Option FieldType} {D mc ms : Nat} {Q : State → Prop} {cells slots pc : Nat} {lo : List (Nat × Value)} {st : List Value} {X : va_W} {T : TT} {I : II}
theorem r_sw {idx : Nat} (C : Cx g k nL cc own rt D mc ms) (hl : Cond.fieldLink own idx "LendingDesk$1" "$SwitchMap$LendingDesk$Verb" "[I" ∈ gw) (d : decode cc pc = .ok (.getstatic idx, 3)) (kk : Go g k nL Q cells slots (pc + 3) lo (.ref (ga g 21) :: st) X T I) : Go g k nL Q cells slots pc lo st X T I :=
  fun ls H locs h1 h2 h3 => va_gets C.x C.b C.Z.1.2.2.2.1 h3 C.ow (C.ts _ hl) (fun _ h => h) d (kk ls H locs h1 h2 h3)
theorem r_swl {i : Nat} (C : Cx g k nL cc own rt D mc ms) (hi : i < 9) (d : decode cc pc = .ok (.iaload, 1)) (kk : Go g k nL Q cells slots (pc + 1) lo (.int (if i < 8 then nI (i + 1) else 0) :: st) X T I) : Go g k nL Q cells slots pc lo (.int (nI i) :: .ref (ga g 21) :: st) X T I :=
  fun ls H locs h1 h2 h3 => va_ti C.x C.b C.Z.2.1.2.1 h3 (i := nI i) (fun z => by rcases z with z | z; exact absurd z (nI_pos (by omega)); rw [nI_clamp (by omega)] at z; omega) (by rw [nI_clamp (by omega)]) d (kk ls H locs h1 h2 h3)
theorem c_ord {i : Nat} (hi : i < 9) : Mc g yJx29ce0_ordinal_8abf5 cJx29ce0_ordinal_8abf5 1 (some .int) 0 0 0 [.ref (ga g (10 + i))] X T I (Ex (some (.int (nI i))) X T I) := by
  refine Mc.of (by decide) (Nat.le_of_ble_eq_true rfl) (fun k hfl C => ?_)
  refine r_lo (lo' := [(0, _)]) rfl ?_
  refine r_aload_n (pc := 0) C 0 dJx29ce0_ordinal_8abf5_0 rfl rfl ?_
  intro ls H locs h1 h2 h3
  exact vk_getf C.x C.b (C.Z.2.2.1 i hi).2.1 h3 C.ow (C.ts (.fieldLink RJx29ce0 7 "java/lang/Enum" "ordinal" "I") (gx 2281 (by decide +kernel) (by decide +kernel))) (fun _ h => h) dJx29ce0_ordinal_8abf5_1 (r_iret (pc := 4) C dJx29ce0_ordinal_8abf5_4 ⟨rfl, rfl, rfl, rfl⟩ (by decide) ls H locs h1 h2 h3)
theorem r_ord {i : Nat} (C : Cx g k nL cc RX3 rt D mc ms) (hfl : (kl k).flags = flags0) (hi : i < 9) (hD : 1 ≤ D) (hr : cells ≤ mc ∧ slots ≤ ms) (hw : (st.map fun v => v.category).sum ≤ 8) (d : decode cc pc = .ok (.invokevirtual 107, 3)) (kk : Go g k nL Q cells slots (pc + 3) lo (.int (nI i) :: st) X T I) : Go g k nL Q cells slots pc lo (.ref (ga g (10 + i)) :: st) X T I := by
  have l5 : Cond.code yJx29ce0_ordinal_8abf5 cJx29ce0_ordinal_8abf5 1 (some .int) ∈ gw := gx 1588 (by decide +kernel) (by decide +kernel)
  obtain ⟨c1, c2, c3⟩ := C.calls (d := 0) (cm := 0) (cs := 0) l5 (by omega)
  refine r_run (a := #[Value.ref (ga g (10 + i))]) (rest := st) (As := []) (P := Ex (some (.int (nI i))) X T I) (cm := 0) (cs := 0) (fun H locs h2 h3 ls h1 => ?_) (fun r2 X2 T2 I2 h => by obtain ⟨rfl, rfl, rfl, rfl⟩ := h; exact kk)
  obtain ⟨cell, e1, e2, e3, -⟩ := (C.Z.2.2.1 i hi).1.kept h3.2.1
  exact va_runU (own := RX3) (C := "LendingDesk$Verb") (owner := RJx29ce0) (x := ⟨"LendingDesk$Verb", "ordinal", "()I"⟩) (As := []) (bytes := cJx29ce0_ordinal_8abf5) (maxL := 1) (ret := some .int) (Ts := gw) (n := 0) ⟨C.x, C.b, C.ml, C.ow, C.ts⟩ (c_ord hi _ hfl) (va_cwU 0 C.ts (fun w hw => gw_good (fun _ h => h) _ (by
      simp only [va_wsU, List.cons_append, List.nil_append, List.mem_cons] at hw
      rcases hw with rfl | rfl | rfl | rfl | rfl | rfl | hw
      · exact gx 1583 (by decide +kernel) (by decide +kernel)
      · exact gx 1584 (by decide +kernel) (by decide +kernel)
      · exact gx 1586 (by decide +kernel) (by decide +kernel)
      · exact gx 1587 (by decide +kernel) (by decide +kernel)
      · exact gx 94 (by decide +kernel) (by decide +kernel)
      · exact l5
      · exact hw)) rfl rfl rfl rfl (by decide +kernel) ⟨c1, c2⟩)
    ⟨Pre.blind _ _ _ _ _, ⟨cell, e1, e2, e3⟩, C.pre h2 h3⟩ rfl rfl h1.1 rfl (by show 2 * 0 + _ ≤ 8; omega) d (by rw [C.R]; exact hr)
end G53
