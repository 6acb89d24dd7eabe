/-! Rows that throw. -/
theorem Pw.kept {g : GG} {X : va_W} {T : TT} {I : II} {H H1 : Heap} (h : Pw g X T I H) (hq : ∀ q : Nat, q < H.size → H1[q]? = H[q]?) : Pw g X T I H1 := by
  obtain ⟨L, h1, h2, h3⟩ := h
  exact ⟨L, h1, h2.kept (fun k q hk => hq _ (h2 k q hk).lt), h3⟩
theorem fl0 {l : Launch} (h : l.flags = flags0) : l.stackTraces = false := by
  unfold Launch.stackTraces
  rw [h]
  decide +kernel
section G66
variable {g : GG} {k : KK} {nL : Nat} {cc : ByteArray} {rt : Option FieldType} {D mc ms : Nat} {cells slots pc : Nat} {lo : List (Nat × Value)} {st : List Value} {X : va_W} {T : TT} {I : II} {P : PhiT} {E : String → va_W → TT → II → Prop}
theorem ex_hat {ik ic : Nat} {cls : String} {ix : UInt8} (hE : ExOk ik ic cls ix) (C : Cx g k nL cc RX9 rt D mc ms) : (∀ w ∈ vx_atX RX9 ic cls ix.toNat (exB ix) exN, w.before (ka k) (ks k) = true) ∧ ∀ w ∈ Cond.classLink RX9 ik cls :: Cond.initialized cls :: vx_atX RX9 ic cls ix.toNat (exB ix) exN, vx_ot w = true := by
  obtain ⟨-, h2, h3, h4, h5, -⟩ := hE
  have h5' := List.all_eq_true.mp h5
  refine ⟨fun w hw => ?_, fun w hw => ?_⟩
  · have hm := exT_in (h4 w hw)
    have hb := h5' w hw
    cases hg : goodWord w with
    | true => exact C.ts w (gw_of hm hg)
    | false =>
      rw [hg, Bool.false_or] at hb
      exact va_tabs (nw_on hb) rfl (C.Z.2.2.2.2.2.2.2 w hm hb)
  · rcases List.mem_cons.mp hw with rfl | hw
    · rfl
    · rcases List.mem_cons.mp hw with rfl | hw
      · rfl
      · have hb := h5' w hw
        unfold vx_ot
        cases hg : goodWord w with
        | true => rw [Bool.or_true]
        | false =>
          rw [hg, Bool.false_or] at hb
          rw [nw_on hb, Bool.true_or]
theorem r_thr {ik ic is sa : Nat} {cls tx : String} {ix : UInt8} (C : Cx g k nL cc RX9 rt D mc ms) (hfl : (kl k).flags = flags0) (hxt : ∀ x ∈ (kc k).exceptionTable.toList, False) (hE : ExOk ik ic cls ix) (hL : (is, tx, sa) ∈ ldcs) (hw : (st.map fun v => v.category).sum ≤ 8) (hc : cells + 1 ≤ mc ∧ slots + 6 ≤ ms) (d0 : decode cc pc = .ok (.new ik, 3)) (d3 : decode cc (pc + 3) = .ok (.dup, 1)) (d4 : decode cc (pc + 4) = .ok (.ldc is, 2)) (d6 : decode cc (pc + 6) = .ok (.invokespecial ic, 3)) (d9 : decode cc (pc + 9) = .ok (.athrow, 1)) (hp : E cls X T I) : Go g k nL (Qx g k P E mc ms) cells slots pc lo st X T I := by
  obtain ⟨a1, a2⟩ := ex_hat hE C
  obtain ⟨e1, e2, e3, -, -, x0, x1, x2, x5⟩ := hE
  intro ls H locs h1 h2 h3
  exact vx_throwSX C.x C.b (fl0 hfl) x0 x1 x2 x5 C.ow e1 (by decide) (C.ts _ e2) (C.ts _ e3) (C.Z.2.2.2.2.2.1 _ hL) a1 a2 C.Z.2.2.2.1.1 C.Z.2.2.2.1.2.1 h3 (h1.1.trans C.ml.symm) d0 d3 d4 d6 d9 (fun x hx => (hxt x hx).elim) (by rw [C.R]; show 2 + 3 < 4 * D + 8; omega) (by rw [C.R]; show _ + (13 * (2 + 1) + 43) ≤ 100 * D + 200; omega) (by rw [C.R]; exact hc.1) (by rw [C.R]; exact hc.2) C.lk
    (fun t ha hs hq => ⟨⟨X, T, I, hp, h2.kept hq⟩, Nat.le_trans h3.1 hs, fun q hq1 hq2 => (hq q (Nat.lt_of_lt_of_le hq1 h3.1)).trans (h3.2.1 q hq1 hq2)⟩) (fun z hz => h3.2.2 z hz) hc.1 hc.2
theorem r_thrW {ik ic is sa : Nat} {cls tx : String} {ix : UInt8} (C : Cx g k nL cc RX9 rt D mc ms) (hfl : (kl k).flags = flags0) (hxt : ∀ x ∈ (kc k).exceptionTable.toList, False) (hE : ExOk ik ic cls ix) (hL : (is, tx, sa) ∈ ldcs) (hw : (st.map fun v => v.category).sum ≤ 8) (hc : cells + 1 ≤ mc ∧ slots + 6 ≤ ms) (d0 : decode cc pc = .ok (.new ik, 3)) (d3 : decode cc (pc + 3) = .ok (.dup, 1)) (d4 : decode cc (pc + 4) = .ok (.ldc_w is, 3)) (d7 : decode cc (pc + 7) = .ok (.invokespecial ic, 3)) (d10 : decode cc (pc + 10) = .ok (.athrow, 1)) (hp : E cls X T I) : Go g k nL (Qx g k P E mc ms) cells slots pc lo st X T I := by
  obtain ⟨a1, a2⟩ := ex_hat hE C
  obtain ⟨e1, e2, e3, -, -, x0, x1, x2, x5⟩ := hE
  intro ls H locs h1 h2 h3
  exact vx_throwSWX C.x C.b (fl0 hfl) x0 x1 x2 x5 C.ow e1 (by decide) (C.ts _ e2) (C.ts _ e3) (C.Z.2.2.2.2.2.1 _ hL) a1 a2 C.Z.2.2.2.1.1 C.Z.2.2.2.1.2.1 h3 (h1.1.trans C.ml.symm) d0 d3 d4 d7 d10 (fun x hx => (hxt x hx).elim) (by rw [C.R]; show 2 + 3 < 4 * D + 8; omega) (by rw [C.R]; show _ + (13 * (2 + 1) + 43) ≤ 100 * D + 200; omega) (by rw [C.R]; exact hc.1) (by rw [C.R]; exact hc.2) C.lk
    (fun t ha hs hq => ⟨⟨X, T, I, hp, h2.kept hq⟩, Nat.le_trans h3.1 hs, fun q hq1 hq2 => (hq q (Nat.lt_of_lt_of_le hq1 h3.1)).trans (h3.2.1 q hq1 hq2)⟩) (fun z hz => h3.2.2 z hz) hc.1 hc.2
end G66
