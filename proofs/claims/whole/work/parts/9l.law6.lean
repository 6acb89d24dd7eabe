/-! What the start gives: the statics, the constants, the classes. -/
def GV : Cond := Jvm.Cond.and given_1 narrow_1
/-- a term's address -/
def ev (b : Nat) (s : State) (t : Term) : Nat := match t.eval #[Value.ref b] s none [] s with
  | some (.ref a) => a
  | _ => 0
def vnm : Nat → String
  | 0 => "BORROWER"
  | 1 => "BRING"
  | 2 => "PRICE"
  | 3 => "LEND"
  | 4 => "PLEDGE"
  | 5 => "RELEASE"
  | 6 => "REPAY"
  | 7 => "BUY"
  | _ => "DAYS"
def tFa (i : Nat) : Term := .static "LendingDesk$Fault" (fnm i) "LLendingDesk$Fault;"
def tVe (i : Nat) : Term := .static "LendingDesk$Verb" (vnm i) "LLendingDesk$Verb;"
def tSt (i : Nat) : Term := if i < 15 then .string "LendingDesk$Verb" ([58, 66, 71, 76, 81, 86, 89, 94, 97, 60, 68, 73, 78, 83, 91].getD i 0) else .string "LendingDesk" ([368, 373, 375].getD (i - 15) 0)
def tVa (i : Nat) : Term := .field (tSt i) "java/lang/String" "value" "[B"
/-- what lies at each address -/
def tA (i : Nat) : Term := if i < 10 then tFa i else if i < 20 then tVe (i - 10) else if i = 20 then .static "LendingDesk" "VERBS" "[LLendingDesk$Verb;" else if i = 21 then .static "LendingDesk$1" "$SwitchMap$LendingDesk$Verb" "[I" else if i = 22 then .static "java/lang/Integer" "DigitOnes" "[B" else if i = 23 then .static "java/lang/Integer" "DigitTens" "[B" else if i < 200 then tSt (i - 100) else if i < 300 then tVa (i - 200) else .string "LendingDesk" (i - 300)
theorem tA_f {i : Nat} (h : i < 5) : tA i = tFa i := by unfold tA; rw [if_pos (by omega)]
theorem tA_v {i : Nat} (h : i < 9) : tA (10 + i) = tVe i := by unfold tA; rw [if_neg (by omega), if_pos (by omega), Nat.add_sub_cancel_left]
theorem tA_s {i : Nat} (h : i < 18) : tA (100 + i) = tSt i := by unfold tA; rw [if_neg (by omega), if_neg (by omega), if_neg (by omega), if_neg (by omega), if_neg (by omega), if_neg (by omega), if_pos (by omega), Nat.add_sub_cancel_left]
theorem tA_w {i : Nat} (h : i < 18) : tA (200 + i) = tVa i := by unfold tA; rw [if_neg (by omega), if_neg (by omega), if_neg (by omega), if_neg (by omega), if_neg (by omega), if_neg (by omega), if_neg (by omega), if_pos (by omega), Nat.add_sub_cancel_left]
/-- the words of a text, one behind the other -/
def stB (i : Nat) : List Cond := [Cond.exactly (tSt i) "java/lang/String", .eq (.field (tSt i) "java/lang/String" "coder" "B") (.int 0), .arrayOf (tVa i) .byte, .eq (.length (tVa i)) (.int (Int32.ofNat (strs.getD i []).length))] ++ (List.range (strs.getD i []).length).map (fun j => Cond.eq (.elem (tVa i) (.int (Int32.ofNat j))) (.int ((strs.getD i []).getD j 0)))
def dgB (t : Term) (f : Nat → Int32) : List Cond := (List.range 100).map (fun j => Cond.eq (.elem t (.int (Int32.ofNat j))) (.int (f j)))
theorem bl_in {l bk : List Cond} {p m : Nat} (h : (l.drop p).take m = bk) {w : Cond} (hw : w ∈ bk) : w ∈ l := by
  rw [← h] at hw
  exact List.mem_of_mem_drop (List.mem_of_mem_take hw)
theorem bs_0 : ((flatC GV).drop 1333).take 13 = stB 0 := by decide +kernel
theorem bs_1 : ((flatC GV).drop 1351).take 10 = stB 1 := by decide +kernel
theorem bs_2 : ((flatC GV).drop 1368).take 10 = stB 2 := by decide +kernel
theorem bs_3 : ((flatC GV).drop 1384).take 9 = stB 3 := by decide +kernel
theorem bs_4 : ((flatC GV).drop 1402).take 11 = stB 4 := by decide +kernel
theorem bs_5 : ((flatC GV).drop 1420).take 12 = stB 5 := by decide +kernel
theorem bs_6 : ((flatC GV).drop 1432).take 10 = stB 6 := by decide +kernel
theorem bs_7 : ((flatC GV).drop 1448).take 8 = stB 7 := by decide +kernel
theorem bs_8 : ((flatC GV).drop 1456).take 9 = stB 8 := by decide +kernel
theorem bs_9 : ((flatC GV).drop 1346).take 5 = stB 9 := by decide +kernel
theorem bs_10 : ((flatC GV).drop 1361).take 7 = stB 10 := by decide +kernel
theorem bs_11 : ((flatC GV).drop 1378).take 6 = stB 11 := by decide +kernel
theorem bs_12 : ((flatC GV).drop 1393).take 9 = stB 12 := by decide +kernel
theorem bs_13 : ((flatC GV).drop 1413).take 7 = stB 13 := by decide +kernel
theorem bs_14 : ((flatC GV).drop 1442).take 6 = stB 14 := by decide +kernel
theorem bs_15 : ((flatC GV).drop 1074).take 6 = stB 15 := by decide +kernel
theorem bs_16 : ((flatC GV).drop 1080).take 6 = stB 16 := by decide +kernel
theorem bs_17 : ((flatC GV).drop 1086).take 6 = stB 17 := by decide +kernel
theorem bs_in : ∀ i, i < 18 → ∀ w, w ∈ stB i → w ∈ flatC GV := fun i hi w hw => match i, hi, hw with
  | 0, _, hw => bl_in bs_0 hw
  | 1, _, hw => bl_in bs_1 hw
  | 2, _, hw => bl_in bs_2 hw
  | 3, _, hw => bl_in bs_3 hw
  | 4, _, hw => bl_in bs_4 hw
  | 5, _, hw => bl_in bs_5 hw
  | 6, _, hw => bl_in bs_6 hw
  | 7, _, hw => bl_in bs_7 hw
  | 8, _, hw => bl_in bs_8 hw
  | 9, _, hw => bl_in bs_9 hw
  | 10, _, hw => bl_in bs_10 hw
  | 11, _, hw => bl_in bs_11 hw
  | 12, _, hw => bl_in bs_12 hw
  | 13, _, hw => bl_in bs_13 hw
  | 14, _, hw => bl_in bs_14 hw
  | 15, _, hw => bl_in bs_15 hw
  | 16, _, hw => bl_in bs_16 hw
  | 17, _, hw => bl_in bs_17 hw
  | i + 18, hi, _ => absurd hi (by omega)
theorem bd_1 : ((flatC GV).drop 43).take 100 = dgB (tA 22) (fun j => sb_b (48 + j % 10)) := by decide +kernel
theorem bd_2 : ((flatC GV).drop 146).take 100 = dgB (tA 23) (fun j => sb_b (48 + j / 10)) := by decide +kernel
theorem dg_in {t : Term} {f : Nat → Int32} {j : Nat} (hj : j < 100) : Cond.eq (.elem t (.int (Int32.ofNat j))) (.int (f j)) ∈ dgB t f := List.mem_map.mpr ⟨j, List.mem_range.mpr hj, rfl⟩
section G9L
variable {b : Nat} {s : State}
theorem ev_of {t : Term} {a : Nat} (h : t.eval #[Value.ref b] s none [] s = some (.ref a)) : a = ev b s t := by
  unfold ev; rw [h]
theorem ev_x {t : Term} {c : String} (h : (Cond.exactly t c).before #[Value.ref b] s = true) : t.eval #[Value.ref b] s none [] s = some (.ref (ev b s t)) := by
  obtain ⟨a, _, _, _, q1, -⟩ := Cond.exactly_spec (args := #[Value.ref b]) (first := s) (o := none) (s := s) (idx := []) (t := t) (cls := c) h
  rw [q1, ← ev_of q1]
theorem eqR {A : Array Value} {t u : Term} {a : Nat} (h : (Cond.eq t u).before A s = true) (hu : u.eval A s none [] s = some (.ref a)) : t.eval A s none [] s = some (.ref a) := by
  cases hv : t.eval A s none [] s with
  | none => simp [Cond.before, Cond.holds, Cond.value, hv] at h
  | some w =>
    simp only [Cond.before, Cond.holds, Cond.value, hv, hu] at h
    cases w <;> simp_all
theorem ev_T {t : Term} {ty : FieldType} {N : Nat} {f : Nat → Value} {A : Nat → Prop} (hN : N < 2 ^ 31) (harr : (Cond.arrayOf t ty).before #[Value.ref b] s = true) (hlen : (Cond.eq (.length t) (.int (Int32.ofNat N))).before #[Value.ref b] s = true) (hel : ∀ j : Nat, j < N → (Term.elem t (.int (Int32.ofNat j))).eval #[Value.ref b] s none [] s = some (f j)) (hA : ∀ a : Nat, a < s.heap.size → ¬ A a) : t.eval #[Value.ref b] s none [] s = some (.ref (ev b s t)) ∧ va_T ty (ev b s t) N f A s s.heap := by
  obtain ⟨a, h1, h2⟩ := va_Tof (f := f) (A := A) hN harr (va_eqt hlen) hel hA
  have e := ev_of h1
  rw [← e]
  exact ⟨h1, h2⟩
/-- the words of the start -/
def Ws (b : Nat) (s : State) : Prop := (∀ w ∈ lw_tbl, w.before #[Value.ref b] s = true) ∧ ∀ w ∈ flatC GV, w.before #[Value.ref b] s = true
theorem x_fa (h : Ws b s) : ∀ i, i < 5 → (Cond.exactly (tFa i) "LendingDesk$Fault").before #[Value.ref b] s = true := fun i hi => h.2 _ ((by decide +kernel : ∀ i, i < 5 → Cond.exactly (tFa i) "LendingDesk$Fault" ∈ flatC GV) i hi)
theorem x_ve (h : Ws b s) : ∀ i, i < 9 → (Cond.exactly (tVe i) "LendingDesk$Verb").before #[Value.ref b] s = true := fun i hi => h.2 _ ((by decide +kernel : ∀ i, i < 9 → Cond.exactly (tVe i) "LendingDesk$Verb" ∈ flatC GV) i hi)
theorem x_st (h : Ws b s) : ∀ i, i < 18 → (Cond.exactly (tSt i) "java/lang/String").before #[Value.ref b] s = true := fun i hi => h.2 _ (bs_in i hi _ (List.mem_append_left _ (List.mem_cons_self)))
theorem t_do {A : Nat → Prop} (h : Ws b s) (hA : ∀ a : Nat, a < s.heap.size → ¬ A a) : (tA 22).eval #[Value.ref b] s none [] s = some (.ref (ev b s (tA 22))) ∧ va_T .byte (ev b s (tA 22)) 100 (fun i => .int (sb_b (48 + i % 10))) A s s.heap :=
  ev_T (by decide) (h.2 _ (by decide +kernel)) (h.2 _ (by decide +kernel)) (fun j hj => va_eqt (h.2 _ (bl_in bd_1 (dg_in hj)))) hA
theorem t_dt {A : Nat → Prop} (h : Ws b s) (hA : ∀ a : Nat, a < s.heap.size → ¬ A a) : (tA 23).eval #[Value.ref b] s none [] s = some (.ref (ev b s (tA 23))) ∧ va_T .byte (ev b s (tA 23)) 100 (fun i => .int (sb_b (48 + i / 10))) A s s.heap :=
  ev_T (by decide) (h.2 _ (by decide +kernel)) (h.2 _ (by decide +kernel)) (fun j hj => va_eqt (h.2 _ (bl_in bd_2 (dg_in hj)))) hA
theorem t_sm {A : Nat → Prop} (h : Ws b s) (hA : ∀ a : Nat, a < s.heap.size → ¬ A a) : (tA 21).eval #[Value.ref b] s none [] s = some (.ref (ev b s (tA 21))) ∧ va_T .int (ev b s (tA 21)) 9 (fun i => .int (if i < 8 then nI (i + 1) else 0)) A s s.heap :=
  ev_T (by decide) (h.2 _ (by decide +kernel)) (h.2 _ (by decide +kernel)) (fun j hj => va_eqt (h.2 _ ((by decide +kernel : ∀ j, j < 9 → Cond.eq (.elem (tA 21) (.int (Int32.ofNat j))) (.int (if j < 8 then nI (j + 1) else 0)) ∈ flatC GV) j hj))) hA
theorem t_vb {A : Nat → Prop} (h : Ws b s) (hA : ∀ a : Nat, a < s.heap.size → ¬ A a) : (tA 20).eval #[Value.ref b] s none [] s = some (.ref (ev b s (tA 20))) ∧ va_T (.object "LendingDesk$Verb") (ev b s (tA 20)) 9 (fun i => .ref (ev b s (tVe i))) A s s.heap :=
  ev_T (by decide) (h.2 _ (by decide +kernel)) (h.2 _ (by decide +kernel)) (fun j hj => eqR (h.2 _ ((by decide +kernel : ∀ j, j < 9 → Cond.eq (.elem (tA 20) (.int (Int32.ofNat j))) (tVe j) ∈ flatC GV) j hj)) (ev_x (x_ve h j hj))) hA
theorem t_st {A : Nat → Prop} (h : Ws b s) (hA : ∀ a : Nat, a < s.heap.size → ¬ A a) (i : Nat) (hi : i < 18) : (tVa i).eval #[Value.ref b] s none [] s = some (.ref (ev b s (tVa i))) ∧ va_T .byte (ev b s (tVa i)) (strs.getD i []).length (fun j => .int ((strs.getD i []).getD j 0)) A s s.heap :=
  ev_T ((by decide +kernel : ∀ i, i < 18 → (strs.getD i []).length < 2 ^ 31) i hi) (h.2 _ (bs_in i hi _ (List.mem_append_left _ (List.mem_cons_of_mem _ (List.mem_cons_of_mem _ List.mem_cons_self))))) (h.2 _ (bs_in i hi _ (List.mem_append_left _ (List.mem_cons_of_mem _ (List.mem_cons_of_mem _ (List.mem_cons_of_mem _ List.mem_cons_self)))))) (fun j hj => va_eqt (h.2 _ (bs_in i hi _ (List.mem_append_right _ (List.mem_map.mpr ⟨j, List.mem_range.mpr hj, rfl⟩))))) hA
theorem ncs_0 (h : Ws b s) : Ncs s := fun i j h1 h2 h3 h4 h5 => va_Nc.of (h.2 _ (((by decide +kernel : ∀ i, i < 5 → ∀ j, j < 5 → i = 0 ∨ j = 0 ∨ i = j ∨ Cond.not (.castable (exc i) (exc j)) ∈ flatC GV) i (by omega) j (by omega)).resolve_left (by omega) |>.resolve_left (by omega) |>.resolve_left h5))
theorem aos_0 (h : Ws b s) : AOs s := ⟨va_AO.of (h.1 _ (List.mem_of_getElem? (i := 136) (by decide +kernel))), va_AO.of (h.1 _ (List.mem_of_getElem? (i := 138) (by decide +kernel))), va_AO.of (h.1 _ (List.mem_of_getElem? (i := 294) (by decide +kernel)))⟩
theorem stc_0 {g : GG} (h : Ws b s) (ha : ga g = fun i => ev b s (tA i)) (hA : ∀ a : Nat, a < s.heap.size → ¬ Ab g a) : Stc g s s.heap := by
  have gf : ∀ i, i < 5 → ga g i = ev b s (tFa i) := fun i hi => by rw [ha]; show ev b s (tA i) = _; rw [tA_f hi]
  have gv : ∀ i, i < 9 → ga g (10 + i) = ev b s (tVe i) := fun i hi => by rw [ha]; show ev b s (tA (10 + i)) = _; rw [tA_v hi]
  have gs : ∀ i, i < 18 → ga g (100 + i) = ev b s (tSt i) := fun i hi => by rw [ha]; show ev b s (tA (100 + i)) = _; rw [tA_s hi]
  have gw_ : ∀ i, i < 18 → ga g (200 + i) = ev b s (tVa i) := fun i hi => by rw [ha]; show ev b s (tA (200 + i)) = _; rw [tA_w hi]
  have gq : ∀ i, ga g i = ev b s (tA i) := fun i => by rw [ha]
  refine ⟨⟨fun i hi => ?_, ?_, ?_, ?_, ?_, ?_, ?_⟩, ⟨?_, ?_, ?_, ?_⟩, fun i hi => ⟨?_, ?_, ?_, ?_⟩, ⟨?_, ?_, ?_⟩, fun i hi => ⟨?_, ?_, ?_, ?_⟩, fun q hq => ?_, fun i j hi hj e => ?_, fun w hw hk => va_Nw.of (nw_on hk) (h.1 w hw)⟩
  · rw [gf i hi]
    exact va_Zof (h.1 _ ((by decide +kernel : ∀ i, i < 5 → Cond.laysStatic "LendingDesk$Fault" (fnm i) "LLendingDesk$Fault;" ∈ lw_tbl) i hi)) (h.1 _ (List.mem_of_getElem? (i := 102) (by decide +kernel))) (ev_x (x_fa h i hi)) hA
  · rw [show ga g 10 = ev b s (tVe 0) from gv 0 (by decide)]
    exact va_Zof (h.1 _ (List.mem_of_getElem? (i := 314) (by decide +kernel))) (h.1 _ (List.mem_of_getElem? (i := 95) (by decide +kernel))) (ev_x (x_ve h 0 (by decide))) hA
  · rw [gq]
    exact va_Zof (h.1 _ (List.mem_of_getElem? (i := 1539) (by decide +kernel))) (h.1 _ (List.mem_of_getElem? (i := 87) (by decide +kernel))) (t_vb (A := fun _ => False) h (fun _ _ z => z)).1 hA
  · rw [gq]
    exact va_Zof (h.1 _ (List.mem_of_getElem? (i := 1582) (by decide +kernel))) (h.1 _ (List.mem_of_getElem? (i := 120) (by decide +kernel))) (t_sm (A := fun _ => False) h (fun _ _ z => z)).1 hA
  · exact va_Zof (h.1 _ (List.mem_of_getElem? (i := 345) (by decide +kernel))) (h.1 _ (List.mem_of_getElem? (i := 98) (by decide +kernel))) (va_eqi (h.2 _ (by decide +kernel))) hA
  · rw [gq]
    exact va_Zof (h.1 _ (List.mem_of_getElem? (i := 1341) (by decide +kernel))) (h.1 _ (List.mem_of_getElem? (i := 119) (by decide +kernel))) (t_do (A := fun _ => False) h (fun _ _ z => z)).1 hA
  · rw [gq]
    exact va_Zof (h.1 _ (List.mem_of_getElem? (i := 1343) (by decide +kernel))) (h.1 _ (List.mem_of_getElem? (i := 119) (by decide +kernel))) (t_dt (A := fun _ => False) h (fun _ _ z => z)).1 hA
  · have e : (fun i => Value.ref (ga g (10 + i))) = fun i => Value.ref (ev b s (tA (10 + i))) := by rw [ha]
    obtain ⟨cell, c1, c2, c3, c4, c5, c6, c7⟩ := (t_vb h hA).2
    rw [gq]
    exact ⟨cell, c1, c2, c3, c4, c5, fun j hj => by rw [c6 j hj]; show some (Value.ref (ev b s (tVe j))) = some (Value.ref (ga g (10 + j))); rw [gv j hj], c7⟩
  · rw [gq]; exact (t_sm h hA).2
  · rw [gq]; exact (t_do h hA).2
  · rw [gq]; exact (t_dt h hA).2
  · rw [gv i hi]; exact va_Oof (x_ve h i hi) (ev_x (x_ve h i hi)) hA
  · rw [gv i hi]
    exact vk_OFof (ev_x (x_ve h i hi)) (va_eqt (h.2 _ ((by decide +kernel : ∀ i, i < 9 → Cond.eq (.field (tVe i) "java/lang/Enum" "ordinal" "I") (.int (nI i)) ∈ flatC GV) i hi))) hA
  · rw [gv i hi, gs i (by omega)]
    exact vk_OFof (ev_x (x_ve h i hi)) (eqR (h.2 _ ((by decide +kernel : ∀ i, i < 9 → Cond.eq (.field (tVe i) "LendingDesk$Verb" "keyword" "Ljava/lang/String;") (tSt i) ∈ flatC GV) i hi)) (ev_x (x_st h i (by omega)))) hA
  · have hs : 9 + shi i < 18 := (by decide +kernel : ∀ i, i < 9 → 9 + shi i < 18) i hi
    rw [gv i hi, show 109 + shi i = 100 + (9 + shi i) by omega, gs _ hs]
    exact vk_OFof (ev_x (x_ve h i hi)) (eqR (h.2 _ ((by decide +kernel : ∀ i, i < 9 → Cond.eq (.field (tVe i) "LendingDesk$Verb" "shape" "Ljava/lang/String;") (tSt (9 + shi i)) ∈ flatC GV) i hi)) (ev_x (x_st h _ hs))) hA
  · exact vx_Zqof (h.1 _ (List.mem_of_getElem? (i := 619) (by decide +kernel))) (h.1 _ (List.mem_of_getElem? (i := 103) (by decide +kernel))) (h.2 _ (by decide +kernel)) hA
  · exact vx_Zqof (h.1 _ (List.mem_of_getElem? (i := 621) (by decide +kernel))) (h.1 _ (List.mem_of_getElem? (i := 103) (by decide +kernel))) (h.2 _ (by decide +kernel)) hA
  · exact va_Zqof (h.1 _ (List.mem_of_getElem? (i := 1271) (by decide +kernel))) (h.1 _ (List.mem_of_getElem? (i := 116) (by decide +kernel))) (h.2 _ (by decide +kernel)) hA
  · rw [gs i hi]; exact va_Oof (x_st h i hi) (ev_x (x_st h i hi)) hA
  · rw [gs i hi]
    exact vk_OFof (ev_x (x_st h i hi)) (va_eqt (h.2 _ (bs_in i hi _ (List.mem_append_left _ (List.mem_cons_of_mem _ List.mem_cons_self))))) hA
  · rw [gs i hi, gw_ i hi]
    exact vk_OFof (ev_x (x_st h i hi)) (t_st (A := fun _ => False) h (fun _ _ z => z) i hi).1 hA
  · rw [gw_ i hi]; exact (t_st h hA i hi).2
  · rw [gq, (by decide +kernel : ∀ q ∈ ldcs, tA q.2.2 = .string "LendingDesk" q.1) q hq]
    exact vk_R.of (A := #[Value.ref b]) (h.1 _ ((by decide +kernel : ∀ q ∈ ldcs, Cond.stringRef "LendingDesk" q.1 q.2.1 ∈ lw_tbl) q hq)) (ev_x (h.2 _ ((by decide +kernel : ∀ q ∈ ldcs, Cond.exactly (.string "LendingDesk" q.1) "java/lang/String" ∈ flatC GV) q hq)))
  · rw [gf i hi, gf j hj] at e
    refine Decidable.byContradiction fun hne => ?_
    rcases (by decide +kernel : ∀ i, i < 5 → ∀ j, j < 5 → i ≠ j → Cond.not (.eq (tFa i) (tFa j)) ∈ flatC GV ∨ Cond.not (.eq (tFa j) (tFa i)) ∈ flatC GV) i hi j hj hne with z | z
    · exact va_neR (h.2 _ z) (ev_x (x_fa h i hi)) (ev_x (x_fa h j hj)) e
    · exact va_neR (h.2 _ z) (ev_x (x_fa h j hj)) (ev_x (x_fa h i hi)) e.symm
end G9L
