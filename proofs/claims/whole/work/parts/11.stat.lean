/-! What stands fast of the statics, the enum constants and the String constants. Addresses: ga 0..4 the faults, 10..18 the verbs, 20 VERBS, 21 the switch map, 22 and 23 the digits, 100.. the texts, 200.. their bytes, 300.. the messages. -/
def strs : List (List Int32) := [[98, 111, 114, 114, 111, 119, 101, 114, 32], [98, 114, 105, 110, 103, 32], [112, 114, 105, 99, 101, 32], [108, 101, 110, 100, 32], [112, 108, 101, 100, 103, 101, 32], [114, 101, 108, 101, 97, 115, 101, 32], [114, 101, 112, 97, 121, 32], [98, 117, 121, 32], [100, 97, 121, 115, 32], [110], [100, 100, 110], [100, 110], [100, 100, 110, 110, 110], [110, 100, 110], [110, 110], [32, 98], [32, 64], [32, 100]]
def fnm : Nat → String
  | 0 => "NO_FAULT"
  | 1 => "NO_ELEMENT"
  | 2 => "INDEX"
  | 3 => "ARGUMENT"
  | _ => "STATE"
def shi : Nat → Nat
  | 0 => 0
  | 1 => 1
  | 2 => 2
  | 3 => 3
  | 4 => 4
  | 5 => 4
  | 6 => 5
  | 7 => 1
  | _ => 0
def ldcs : List (Nat × String × Nat) := [(121, "no such loan", 421), (131, "no such borrower or kind", 431), (139, "an argument is out of range", 439), (147, "the desk does not allow this now", 447), (448, "no such kind", 748), (453, "no such borrower", 753), (207, "no loan has this position", 507), (455, "no loan has this id", 755), (268, "the number of days is out of range", 568), (273, "the number of units is out of range", 573), (284, "no principal can be lent", 584), (290, "there are no loans", 590), (295, "no loan has this rank", 595), (309, "the ledger has no such entry", 609), (457, "the ledger has no such position", 757), (350, "no loan has been granted", 650), (380, "the line has no such index", 680), (386, "the character is out of range", 686), (388, "the input buffer is full", 688), (396, "the program is malformed", 696), (401, "a command failed", 701), (427, "no program was malformed", 727), (429, "no command failed", 729), (434, "no change can be undone", 734), (439, "there is no saved copy", 739), (368, " b", 115), (373, " @", 116), (375, " d", 117)]
def StrO (g : GG) (i : Nat) (bs : List Int32) (U : State) (H : Heap) : Prop := va_O "java/lang/String" (ga g (100 + i)) (Ab g) U H ∧ va_OF "java/lang/String" "coder" "B" (.int 0) (ga g (100 + i)) (Ab g) U H ∧ va_OF "java/lang/String" "value" "[B" (.ref (ga g (200 + i))) (ga g (100 + i)) (Ab g) U H ∧ va_T .byte (ga g (200 + i)) bs.length (fun j => .int (bs.getD j 0)) (Ab g) U H
def StA (g : GG) (U : State) (H : Heap) : Prop := (∀ i, i < 5 → va_Z "LendingDesk$Fault" (fnm i) "LLendingDesk$Fault;" (.ref (ga g i)) (Ab g) U H) ∧ va_Z "LendingDesk$Verb" "BORROWER" "LLendingDesk$Verb;" (.ref (ga g 10)) (Ab g) U H ∧ va_Z "LendingDesk" "VERBS" "[LLendingDesk$Verb;" (.ref (ga g 20)) (Ab g) U H ∧ va_Z "LendingDesk$1" "$SwitchMap$LendingDesk$Verb" "[I" (.ref (ga g 21)) (Ab g) U H ∧ va_Z "java/lang/String" "COMPACT_STRINGS" "Z" (.int 1) (Ab g) U H ∧ va_Z "java/lang/Integer" "DigitOnes" "[B" (.ref (ga g 22)) (Ab g) U H ∧ va_Z "java/lang/Integer" "DigitTens" "[B" (.ref (ga g 23)) (Ab g) U H
def StB (g : GG) (U : State) (H : Heap) : Prop := va_T (.object "LendingDesk$Verb") (ga g 20) 9 (fun i => .ref (ga g (10 + i))) (Ab g) U H ∧ va_T .int (ga g 21) 9 (fun i => .int (if i < 8 then nI (i + 1) else 0)) (Ab g) U H ∧ va_T .byte (ga g 22) 100 (fun i => .int (sb_b (48 + i % 10))) (Ab g) U H ∧ va_T .byte (ga g 23) 100 (fun i => .int (sb_b (48 + i / 10))) (Ab g) U H
def StV (g : GG) (U : State) (H : Heap) : Prop := ∀ i, i < 9 → va_O "LendingDesk$Verb" (ga g (10 + i)) (Ab g) U H ∧ va_OF "java/lang/Enum" "ordinal" "I" (.int (nI i)) (ga g (10 + i)) (Ab g) U H ∧ va_OF "LendingDesk$Verb" "keyword" "Ljava/lang/String;" (.ref (ga g (100 + i))) (ga g (10 + i)) (Ab g) U H ∧ va_OF "LendingDesk$Verb" "shape" "Ljava/lang/String;" (.ref (ga g (109 + shi i))) (ga g (10 + i)) (Ab g) U H
def StX (g : GG) (U : State) (H : Heap) : Prop := vx_Zq Bundle.tN "UNASSIGNED_STACK" Bundle.steD (Ab g) U H ∧ vx_Zq Bundle.tN "SUPPRESSED_SENTINEL" Bundle.listD (Ab g) U H ∧ va_Zq "jdk/internal/util/Preconditions" "SIOOBE_FORMATTER" "Ljava/util/function/BiFunction;" (Ab g) U H
def StS (g : GG) (U : State) (H : Heap) : Prop := ∀ i, i < 18 → StrO g i (strs.getD i []) U H
def StL (g : GG) (U : State) : Prop := ∀ q ∈ ldcs, vk_R "LendingDesk" q.1 q.2.1 (ga g q.2.2) U
def StI (g : GG) : Prop := (∀ i j, i < 5 → j < 5 → ga g i = ga g j → i = j)
/-- words that stand fast, but not by their own kind -/
def nwk : Cond → Bool
  | .methodLinkNest .. => true
  | .fieldLinkNest .. => true
  | .declares .. => true
  | .castable .. => true
  | .privateMethod .. => true
  | _ => false
theorem nw_on {w : Cond} (h : nwk w = true) : w.onTables = true := by
  cases w <;> first | rfl | (simp [nwk] at h)
theorem nw_warm {w : Cond} (hk : nwk w = true) {s U : State} (hW : s.WarmedH U.vm) (h : va_Nw w s) : va_Nw w U := by
  cases w <;> first | exact va_Nw.warmM hW h | exact va_Nw.warmF hW h | exact va_Nw.warmD hW h | exact va_Nw.warmC hW h | exact va_tabs rfl (rfl : (s.setVm U.vm).vm = U.vm) (by rw [Cond.privateMethod_setVm hW.alike]; exact h) | (simp [nwk] at hk)
def StW (U : State) : Prop := ∀ w ∈ lw_tbl, nwk w = true → va_Nw w U
def Stc (g : GG) (U : State) (H : Heap) : Prop := StA g U H ∧ StB g U H ∧ StV g U H ∧ StX g U H ∧ StS g U H ∧ StL g U ∧ StI g ∧ StW U
theorem Stc.same {g : GG} {u U : State} {H : Heap} (hv : U.vm = u.vm) (h : Stc g u H) : Stc g U H := by
  have a : u.vm.Alike U.vm := by rw [hv]; exact Vm.Alike.refl _
  obtain ⟨⟨h1, h2, h3, h4, h5, h6, h7⟩, ⟨b1, b2, b3, b4⟩, v, ⟨x1, x2, x3⟩, s, l, i, n⟩ := h
  exact ⟨⟨fun i hi => (h1 i hi).moved a, h2.moved a, h3.moved a, h4.moved a, h5.moved a, h6.moved a, h7.moved a⟩, ⟨b1.moved a, b2.moved a, b3.moved a, b4.moved a⟩, fun i hi => ⟨(v i hi).1.moved a, (v i hi).2.1.moved a, (v i hi).2.2.1.moved a, (v i hi).2.2.2.moved a⟩, ⟨x1.moved a, x2.moved a, x3.moved a⟩, fun i hi => ⟨(s i hi).1.moved a, (s i hi).2.1.moved a, (s i hi).2.2.1.moved a, (s i hi).2.2.2.moved a⟩, fun q hq => (l q hq).same hv, i, fun w hw hk => va_Nw.same (nw_on hk) hv.symm (n w hw hk)⟩
theorem Stc.go {g : GG} {s U : State} {H H1 : Heap} (hW : s.WarmedH U.vm) (hq : ∀ a : Nat, a < H.size → ¬ Ab g a → H1[a]? = H[a]?) (h : Stc g s H) : Stc g U H1 := by
  have a := hW.alike
  obtain ⟨⟨h1, h2, h3, h4, h5, h6, h7⟩, ⟨b1, b2, b3, b4⟩, v, ⟨x1, x2, x3⟩, s, l, i, n⟩ := h
  exact ⟨⟨fun i hi => ((h1 i hi).moved a).kept hq, (h2.moved a).kept hq, (h3.moved a).kept hq, (h4.moved a).kept hq, (h5.moved a).kept hq, (h6.moved a).kept hq, (h7.moved a).kept hq⟩, ⟨(b1.moved a).kept hq, (b2.moved a).kept hq, (b3.moved a).kept hq, (b4.moved a).kept hq⟩, fun i hi => ⟨((v i hi).1.moved a).kept hq, ((v i hi).2.1.moved a).kept hq, ((v i hi).2.2.1.moved a).kept hq, ((v i hi).2.2.2.moved a).kept hq⟩, ⟨(x1.moved a).kept hq, (x2.moved a).kept hq, (x3.moved a).kept hq⟩, fun i hi => ⟨((s i hi).1.moved a).kept hq, ((s i hi).2.1.moved a).kept hq, ((s i hi).2.2.1.moved a).kept hq, ((s i hi).2.2.2.moved a).kept hq⟩, fun q hq => (l q hq).warm hW, i, fun w hw hk => nw_warm hk hW (n w hw hk)⟩
