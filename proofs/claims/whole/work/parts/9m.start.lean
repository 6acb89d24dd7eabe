/-! The classes and the arrays at the start. -/
theorem l0_J0 : ∀ k, k < 4 → u_lay RJ0 TJ0 k ∈ lw_tbl := fun k h => match k, h with
  | 0, _ => List.mem_of_getElem? (i := 741) (by decide +kernel)
  | 1, _ => List.mem_of_getElem? (i := 743) (by decide +kernel)
  | 2, _ => List.mem_of_getElem? (i := 1410) (by decide +kernel)
  | 3, _ => List.mem_of_getElem? (i := 1412) (by decide +kernel)
  | k + 4, h => absurd h (by omega)
theorem l0_Jx00060 : ∀ k, k < 6 → u_lay RJx00060 TJx00060 k ∈ lw_tbl := fun k h => match k, h with
  | 0, _ => List.mem_of_getElem? (i := 729) (by decide +kernel)
  | 1, _ => List.mem_of_getElem? (i := 730) (by decide +kernel)
  | 2, _ => List.mem_of_getElem? (i := 731) (by decide +kernel)
  | 3, _ => List.mem_of_getElem? (i := 732) (by decide +kernel)
  | 4, _ => List.mem_of_getElem? (i := 733) (by decide +kernel)
  | 5, _ => List.mem_of_getElem? (i := 734) (by decide +kernel)
  | k + 6, h => absurd h (by omega)
theorem l0_Jx7c733 : ∀ k, k < 6 → u_lay RJx7c733 TJx7c733 k ∈ lw_tbl := fun k h => match k, h with
  | 0, _ => List.mem_of_getElem? (i := 1416) (by decide +kernel)
  | 1, _ => List.mem_of_getElem? (i := 1417) (by decide +kernel)
  | 2, _ => List.mem_of_getElem? (i := 1418) (by decide +kernel)
  | 3, _ => List.mem_of_getElem? (i := 1419) (by decide +kernel)
  | 4, _ => List.mem_of_getElem? (i := 1420) (by decide +kernel)
  | 5, _ => List.mem_of_getElem? (i := 1421) (by decide +kernel)
  | k + 6, h => absurd h (by omega)
theorem u_lay_tbl {Cn : String} {F : u_T} {N : Nat} (h : ∀ k, k < N → u_lay Cn F k ∈ lw_tbl) : ∀ w ∈ u_ws Cn F N, w ∈ lw_tbl := by
  intro w hw
  obtain ⟨k, hk, rfl⟩ := List.mem_map.mp hw
  exact h k (List.mem_range.mp hk)
section G9M
variable {b : Nat} {s : State}
theorem kn_0 (h : Ws b s) : ∀ ci : Nat, ∃ q : ClassId × (Nat → Nat), ∀ r : vw_C, vwCl[ci]? = some r → u_Kn s r.1 r.2.1 r.2.2 q.1 q.2 := fun ci => match ci with
  | 0 => by
    obtain ⟨cC, iS, hK⟩ := u_known (C := RJ0) (T := TJ0) (N := 4) (n := 4) h.1 (u_lay_tbl l0_J0) (h.1 _ (List.mem_of_getElem? (i := 740) (by decide +kernel)))
    exact ⟨(cC, iS), fun r hr => by cases (Option.some.inj hr); exact hK⟩
  | 1 => by
    obtain ⟨cC, iS, hK⟩ := u_known (C := RJ4) (T := TJ4) (N := 4) (n := 4) h.1 ((fun w hw => gw_in (u_lay_all lay_J4 w hw))) (h.1 _ (List.mem_of_getElem? (i := 336) (by decide +kernel)))
    exact ⟨(cC, iS), fun r hr => by cases (Option.some.inj hr); exact hK⟩
  | 2 => by
    obtain ⟨cC, iS, hK⟩ := u_known (C := RJx00060) (T := TJx00060) (N := 6) (n := 6) h.1 (u_lay_tbl l0_Jx00060) (h.1 _ (List.mem_of_getElem? (i := 725) (by decide +kernel)))
    exact ⟨(cC, iS), fun r hr => by cases (Option.some.inj hr); exact hK⟩
  | 3 => by
    obtain ⟨cC, iS, hK⟩ := u_known (C := RJx7c733) (T := TJx7c733) (N := 6) (n := 6) h.1 (u_lay_tbl l0_Jx7c733) (h.1 _ (List.mem_of_getElem? (i := 1206) (by decide +kernel)))
    exact ⟨(cC, iS), fun r hr => by cases (Option.some.inj hr); exact hK⟩
  | 4 => by
    obtain ⟨cC, iS, hK⟩ := u_known (C := RX1) (T := TX1) (N := 3) (n := 3) h.1 ((fun w hw => gw_in (u_lay_all lay_X1 w hw))) (h.1 _ (List.mem_of_getElem? (i := 163) (by decide +kernel)))
    exact ⟨(cC, iS), fun r hr => by cases (Option.some.inj hr); exact hK⟩
  | 5 => by
    obtain ⟨cC, iS, hK⟩ := u_known (C := RX2) (T := TX2) (N := 5) (n := 5) h.1 ((fun w hw => gw_in (u_lay_all lay_X2 w hw))) (h.1 _ (List.mem_of_getElem? (i := 308) (by decide +kernel)))
    exact ⟨(cC, iS), fun r hr => by cases (Option.some.inj hr); exact hK⟩
  | 6 => by
    obtain ⟨cC, iS, hK⟩ := u_known (C := RX3) (T := TX3) (N := 16) (n := 16) h.1 ((fun w hw => gw_in (u_lay_all lay_X3 w hw))) (h.1 _ (List.mem_of_getElem? (i := 130) (by decide +kernel)))
    exact ⟨(cC, iS), fun r hr => by cases (Option.some.inj hr); exact hK⟩
  | 7 => by
    obtain ⟨cC, iS, hK⟩ := u_known (C := RX5) (T := TX5) (N := 3) (n := 3) h.1 ((fun w hw => gw_in (u_lay_all lay_X5 w hw))) (h.1 _ (List.mem_of_getElem? (i := 288) (by decide +kernel)))
    exact ⟨(cC, iS), fun r hr => by cases (Option.some.inj hr); exact hK⟩
  | 8 => by
    obtain ⟨cC, iS, hK⟩ := u_known (C := RX6) (T := TX6) (N := 4) (n := 4) h.1 ((fun w hw => gw_in (u_lay_all lay_X6 w hw))) (h.1 _ (List.mem_of_getElem? (i := 140) (by decide +kernel)))
    exact ⟨(cC, iS), fun r hr => by cases (Option.some.inj hr); exact hK⟩
  | 9 => by
    obtain ⟨cC, iS, hK⟩ := u_known (C := RX7) (T := TX7) (N := 7) (n := 7) h.1 ((fun w hw => gw_in (u_lay_all lay_X7 w hw))) (h.1 _ (List.mem_of_getElem? (i := 184) (by decide +kernel)))
    exact ⟨(cC, iS), fun r hr => by cases (Option.some.inj hr); exact hK⟩
  | 10 => by
    obtain ⟨cC, iS, hK⟩ := u_known (C := RX9) (T := TX9) (N := 12) (n := 12) h.1 ((fun w hw => gw_in (u_lay_all lay_X9 w hw))) (h.1 _ (List.mem_of_getElem? (i := 122) (by decide +kernel)))
    exact ⟨(cC, iS), fun r hr => by cases (Option.some.inj hr); exact hK⟩
  | 11 => by
    obtain ⟨cC, iS, hK⟩ := u_known (C := RX10) (T := TX10) (N := 18) (n := 18) h.1 ((fun w hw => gw_in (u_lay_all lay_X10 w hw))) (h.1 _ (List.mem_of_getElem? (i := 1645) (by decide +kernel)))
    exact ⟨(cC, iS), fun r hr => by cases (Option.some.inj hr); exact hK⟩
  | k + 12 => ⟨(0, fun _ => 0), fun r hr => absurd (show (none : Option vw_C) = some r from hr) (by simp)⟩
theorem ar_p {A : Array Value} {ty : FieldType} (h : (Cond.arrayClass ty).before A s = true) : ∃ c : ClassId, ArrOfT s c ty ∧ s.vm.findClass ("[" ++ ty.toString) = some c := by
  obtain ⟨c, k, comp, h1, h2, h3⟩ := Cond.arrayClass_spec (args := A) (first := s) (o := none) (s := s) (idx := []) h
  exact ⟨c, fun n z => ⟨fun k9 h9 => (by cases h9), k, h2, comp, h3⟩, h1⟩
theorem ar_o {n : String} (h : va_AO n s) : ∃ c : ClassId, ArrOfT s c (.object n) ∧ va_RA s c (.object n) := by
  obtain ⟨comp, c, k, h1, -, h3, h4, h5⟩ := Cond.arrayOver_spec (args := #[]) (first := s) (o := none) (s := s) (idx := []) h
  exact ⟨c, fun n z => ⟨fun k9 h9 => (by cases h9), k, h3, comp, h4⟩, k, comp, h3, h4, h1, h5⟩
theorem ka_0 (h : Ws b s) : ∃ (D : va_G) (A : Nat → ClassId), va_K D vwCl [(A 0, .int), (A 1, .char), (A 2, .byte), (A 3, .object "LendingDesk$Borrower"), (A 4, .object "LendingDesk$Loan"), (A 5, .object "LendingDesk$Desk"), (A 6, .long), (A 7, .double)] s := by
  obtain ⟨q, hq⟩ := Classical.axiomOfChoice (kn_0 h)
  obtain ⟨h1, h2, h3⟩ := aos_0 h
  obtain ⟨c0, a0, b0⟩ := ar_p (h.1 _ (gw_in (gx (w := .arrayClass .int) 162 (by decide +kernel) (by decide +kernel))))
  obtain ⟨c1, a1, b1⟩ := ar_p (h.1 _ (gw_in (gx (w := .arrayClass .char) 334 (by decide +kernel) (by decide +kernel))))
  obtain ⟨c2, a2, b2⟩ := ar_p (h.1 _ (gw_in (gx (w := .arrayClass .byte) 367 (by decide +kernel) (by decide +kernel))))
  obtain ⟨c3, a3, b3⟩ := ar_o h1
  obtain ⟨c4, a4, b4⟩ := ar_o h2
  obtain ⟨c5, a5, b5⟩ := ar_o h3
  obtain ⟨c6, a6, b6⟩ := ar_p (h.1 _ (gw_in (gx (w := .arrayClass .long) 2242 (by decide +kernel) (by decide +kernel))))
  obtain ⟨c7, a7, b7⟩ := ar_p (h.1 _ (gw_in (gx (w := .arrayClass .double) 2243 (by decide +kernel) (by decide +kernel))))
  refine ⟨(fun ci => (q ci).1, fun ci => (q ci).2), fun i => [c0, c1, c2, c3, c4, c5, c6, c7].getD i c0, fun ci r hr => hq ci r hr, fun k x hx => ?_⟩
  match k, hx with
  | 0, hx => cases (Option.some.inj hx); exact ⟨a0, b0⟩
  | 1, hx => cases (Option.some.inj hx); exact ⟨a1, b1⟩
  | 2, hx => cases (Option.some.inj hx); exact ⟨a2, b2⟩
  | 3, hx => cases (Option.some.inj hx); exact ⟨a3, b3⟩
  | 4, hx => cases (Option.some.inj hx); exact ⟨a4, b4⟩
  | 5, hx => cases (Option.some.inj hx); exact ⟨a5, b5⟩
  | 6, hx => cases (Option.some.inj hx); exact ⟨a6, b6⟩
  | 7, hx => cases (Option.some.inj hx); exact ⟨a7, b7⟩
  | k + 8, hx => exact absurd (show (none : Option (ClassId × FieldType)) = some x from hx) (by simp)
end G9M
theorem pw_0 {g : GG} {H : Heap} : Pw g [] T0 I0 H := ⟨[], fun a => ⟨fun h => absurd h List.not_mem_nil, fun h => absurd rfl h⟩, fun k q hk => absurd (show (none : Option (Nat × va_E)) = some q from hk) (by simp), ⟨fun i j p q hi _ _ => absurd (show (none : Option (Nat × va_E)) = some p from hi) (by simp), fun k q hk => absurd (show (none : Option (Nat × va_E)) = some q from hk) (by simp)⟩⟩
theorem W_room {p : Program} {l : Launch} {e : Env} {R R' : Room} {s : State} {m : MethodId} {args : Array Value} {below : List Frame} {meth : Method} {c : Code} {H : Heap} {locs : List Loc} {cells slots : Nat} {Q : State → Prop} {f : JFrame} (hm : R'.frames ≤ R.frames ∧ R'.cells ≤ R.cells ∧ R'.slots ≤ R.slots ∧ R'.locals ≤ R.locals) (kk : W p l e R' s m args below meth c H locs cells slots Q f) : W p l e R s m args below meth c H locs cells slots Q f := by
  intro T hT X
  refine kk T hT ⟨X.admits, X.cas, X.clock, X.frames, ?_, X.hears, X.method, X.code, X.here, X.tail, X.warmed, X.limits, X.bytes, X.same⟩
  have h := X.room
  simp only [State.hasRoom, Bool.and_eq_true, decide_eq_true_eq] at h ⊢
  obtain ⟨⟨⟨⟨h0, h1, h2, h3, h4, h5⟩, h6⟩, h7⟩, h8⟩ := h
  obtain ⟨m1, m2, m3, m4⟩ := hm
  exact ⟨⟨⟨⟨by omega, by omega, by omega, by omega, by omega, h5⟩, by omega⟩, by omega⟩, h8⟩

