/-! Both sides at one state; what a call does on both. A row counts by its first 218 places. -/
theorem Gd.ag {w v : Nat → Int32} {B N E D U : Nat} (h : Gd w B N E D U) (e : ∀ j, j < 218 → v j = w j) : Gd v B N E D U := by
  obtain ⟨⟨a1, a2, a3, a4, a5, a6, a7⟩, b, ⟨t, x, c1, c2, c3, c4, c5⟩, d, f1, f2⟩ := h
  refine ⟨⟨(e _ (by omega)).trans a1, (e _ (by omega)).trans a2, (e _ (by omega)).trans a3, a4, a5, a6, fun s hs => ?_⟩, fun k hk => ?_, ⟨t, x, c1, c2, (e _ (by omega)).trans c3, (e _ (by omega)).trans c4, fun s hs => ?_⟩, fun r s hrs hs => ?_, f1, f2⟩
  · obtain ⟨b, b1, b2⟩ := a7 s hs
    exact ⟨b, b1, (e _ (by omega)).trans b2⟩
  · obtain ⟨p, p1, p2, p3⟩ := b k hk
    exact ⟨p, p1, p2, (e _ (by omega)).trans p3⟩
  · obtain ⟨id, pr, ac, rt, du, h0, h2, h3, h4, h5, l1, l2, l3, l4, l5, l6, l7⟩ := c5 s hs
    refine ⟨id, pr, ac, rt, du, (e _ (by omega)).trans h0, (e _ (by omega)).trans h2, (e _ (by omega)).trans h3, (e _ (by omega)).trans h4, (e _ (by omega)).trans h5, l1, l2, l3, l4, l5, l6, fun k hk => ?_⟩
    obtain ⟨u, u1, u2⟩ := l7 k hk
    exact ⟨u, u1, (e _ (by omega)).trans u2⟩
  · rw [e _ (by omega), e _ (by omega)]
    exact d r s hrs hs
theorem Sd.ag {w v : Nat → Int32} {N : Nat} (h : Sd w N) (hN : N ≤ 10) (e : ∀ j, j < 218 → v j = w j) : Sd v N := fun s hs => by
  rw [e _ (by omega), e _ (by omega)]
  exact h s hs
theorem At_lt {b B N E : Nat} {pm : Nat → Nat} {j a q : Nat} (h : At b B N E pm j a q) (hB : B ≤ 6) (hN : N ≤ 10) (hE : E ≤ 20) : j < 218 := by
  rcases h with ⟨-, hA⟩ | ⟨k, hk, hA⟩ | ⟨n, hn, -, hA⟩ | ⟨n, k, hn, hk, -, hA, -⟩ | ⟨s, i, hs, hi, -, hA, -⟩ | ⟨s, k, hs, hk, -, hA, -⟩ | ⟨hA, -, -⟩ | ⟨e, r, he, hr, -, hA, -⟩
  all_goals omega
theorem DV.ag {I : II} {b : Nat} {w v : Nat → Int32} {B N E : Nat} {pm : Nat → Nat} (h : DV I b w B N E pm) (e : ∀ j, j < 218 → v j = w j) : DV I b v B N E pm :=
  ⟨fun j a q hA => (h.1 j a q hA).trans (e j (At_lt hA h.2.2.1 h.2.2.2.1 h.2.2.2.2)).symm, h.2⟩
theorem DkH.ag {I : II} {b : Nat} {w v : Nat → Int32} (h : DkH I b w) (e : ∀ j, j < 218 → v j = w j) : DkH I b v := by
  obtain ⟨pm, h⟩ := h
  refine ⟨pm, ?_⟩
  have h2 := h.ag e
  have e1 : bB v = bB w := by unfold bB; rw [e 1 (by omega)]
  have e2 : nN v = nN w := by unfold nN; rw [e 2 (by omega)]
  have e3 : eE v = eE w := by unfold eE; rw [e 5 (by omega)]
  rw [e1, e2, e3]
  exact h2
theorem Gx.ag {w v : Nat → Int32} {D U : Nat} (h : Gx w D U) (e : ∀ j, j < 218 → v j = w j) : Gx v D U := by
  obtain ⟨B, N, E, hG, hS⟩ := h
  exact ⟨B, N, E, hG.ag e, hS.ag hG.N.2 e⟩
theorem Gx.w {w : Nat → Int32} {D U D' U' : Nat} (h : Gx w D U) (hD : D ≤ D') (hU : U ≤ U') (hD1 : D' ≤ 100000) (hU1 : U' ≤ 10000) : Gx w D' U' := by
  obtain ⟨B, N, E, hG, hS⟩ := h
  exact ⟨B, N, E, hG.w hD hU hD1 hU1, hS⟩
/-- the reference's object at M has come to s -/
def RS (I : II) (M : Nat) (s : AS) : Prop :=
  I (M + 1) = s.w ∧
  (∃ f, f < 8 ∧ I M 6 = nI f ∧ I M 5 = nI s.us.length ∧ s.us.length ≤ 8 ∧ ∀ k u, s.us[k]? = some u → ∀ j, j < 218 → I (M + 2) (218 * ((f + (s.us.length - 1 - k)) % 8) + j) = u j) ∧
  ((s.sv = none ∧ I M 7 = nI 0) ∨ ∃ v, s.sv = some v ∧ I M 7 = nI 1 ∧ ∀ j, j < 218 → I (M + 3) j = v j) ∧
  (I M 9 = nI s.ln.length ∧ s.ln.length ≤ 100 ∧ (∀ j, j < s.ln.length → I (M + 5) j = nI (s.ln.getD j 0)) ∧ ∀ j, j < s.ln.length → s.ln.getD j 0 < 65536) ∧
  (I M 11 = nI s.bf.length ∧ s.bf.length ≤ 60 ∧ (∀ j, j < s.bf.length → I (M + 6) j = nI (s.bf.getD j 0)) ∧ ∀ j, j < s.bf.length → s.bf.getD j 0 < 128) ∧
  I M 13 = oI s.ea ∧ I M 14 = oI s.fa
theorem RS.inp {I : II} {M : Nat} {s : AS} (h : RS I M s) : Inp I M s.bf.length (fun j => s.bf.getD j 0) := by
  obtain ⟨-, -, -, -, ⟨h1, h2, h3, h4⟩, -⟩ := h
  exact ⟨h1, h2, h3, h4⟩
/-- all that it reads of the store -/
theorem RS.mvf {I I' : II} {M : Nat} {s : AS} (h : RS I M s) (e0 : ∀ j, j ≠ 0 → j ≠ 12 → j ≠ 16 → j ≠ 17 → I' M j = I M j) (e : ∀ q, M < q → q < M + 7 → q ≠ M + 4 → I' q = I q) : RS I' M s := by
  obtain ⟨a, ⟨f, b1, b2, b3, b4, b5⟩, c, ⟨d1, d2, d3, d4⟩, ⟨k1, k2, k3, k4⟩, l1, l2⟩ := h
  refine ⟨(e _ (by omega) (by omega) (by omega)).trans a, ⟨f, b1, (e0 6 (by decide) (by decide) (by decide) (by decide)).trans b2, (e0 5 (by decide) (by decide) (by decide) (by decide)).trans b3, b4, fun k u hu j hj => by rw [e _ (by omega) (by omega) (by omega)]; exact b5 k u hu j hj⟩, ?_, ⟨(e0 9 (by decide) (by decide) (by decide) (by decide)).trans d1, d2, fun j hj => by rw [e _ (by omega) (by omega) (by omega)]; exact d3 j hj, d4⟩, ⟨(e0 11 (by decide) (by decide) (by decide) (by decide)).trans k1, k2, fun j hj => by rw [e _ (by omega) (by omega) (by omega)]; exact k3 j hj, k4⟩, (e0 13 (by decide) (by decide) (by decide) (by decide)).trans l1, (e0 14 (by decide) (by decide) (by decide) (by decide)).trans l2⟩
  rcases c with ⟨c1, c2⟩ | ⟨v, c1, c2, c3⟩
  · exact Or.inl ⟨c1, (e0 7 (by decide) (by decide) (by decide) (by decide)).trans c2⟩
  · exact Or.inr ⟨v, c1, (e0 7 (by decide) (by decide) (by decide) (by decide)).trans c2, fun j hj => by rw [e _ (by omega) (by omega) (by omega)]; exact c3 j hj⟩
theorem RS.mv {I I' : II} {M : Nat} {s : AS} (h : RS I M s) (e : ∀ q, M ≤ q → q < M + 8 → I' q = I q) : RS I' M s :=
  h.mvf (fun j _ _ _ _ => by rw [e M (by omega) (by omega)]) (fun q h1 h2 _ => e q (by omega) (by omega))
theorem RS.m0 {I : II} {M : Nat} {s : AS} {v : Int32} (h : RS I M s) : RS (u2 I M 0 v) M s :=
  h.mvf (fun j h0 _ _ _ => u2_o h0) (fun q h1 _ _ => u2_r (by omega))
theorem PmOk.ex {I I' : II} {b : Nat} (h : ∃ p, PmOk I b p) (e : I' (b + 5) = I (b + 5)) : ∃ p, PmOk I' b p := by
  obtain ⟨p, h⟩ := h
  exact ⟨p, h.mv e⟩
theorem CSt.mv {I I' : II} {x : Nat} {s : AS} {D U : Nat} (h : CSt I x s D U) (e : ∀ q, x ≤ q → q < x + 511 → I' q = I q) : CSt I' x s D U := by
  obtain ⟨a1, a2, a3, a4, a5, a6, ⟨n, b1, b2, b3, b4, b5⟩, c, ⟨v, d1, d2⟩, ⟨k1, k2, k3, k4⟩, l1, l2, l3, l4⟩ := h
  have e0 := e x (by omega) (by omega)
  refine ⟨a1.mv (fun q hq => e q (by omega) (by omega)), a2, PmOk.ex a3 (e _ (by omega) (by omega)), PmOk.ex a4 (e _ (by omega) (by omega)), PmOk.ex a5 (e _ (by omega) (by omega)), fun i hi => PmOk.ex (a6 i hi) (e _ (by omega) (by omega)), ⟨n, b1, by rw [e _ (by omega) (by omega)]; exact b2, by rw [e _ (by omega) (by omega)]; exact b3, b4, fun k u hu => ⟨(b5 k u hu).1.mv (fun q hq => e q (by omega) (by omega)), (b5 k u hu).2⟩⟩, ?_, ⟨v, d1, by rw [e _ (by omega) (by omega)]; exact d2⟩, ⟨by rw [e0]; exact k1, k2, fun j hj => by rw [e _ (by omega) (by omega)]; exact k3 j hj, k4⟩, by rw [e0]; exact l1, by rw [e0]; exact l2, l3, l4⟩
  rcases c with ⟨c1, c2⟩ | ⟨w, c1, c2, c3, c4⟩
  · exact Or.inl ⟨c1, by rw [e0]; exact c2⟩
  · exact Or.inr ⟨w, c1, by rw [e0]; exact c2, c3.mv (fun q hq => e q (by omega) (by omega)), c4⟩
theorem isCl.kd {T : TT} {x : Nat} (h : isCl T x) (q : Nat) (h1 : x ≤ q) (h2 : q < x + 511) : (T q).1 ≠ 0 ∧ (T q).1 ≠ 4 := by
  obtain ⟨a0, d1, d2, d3, d4, hs, rd, bf⟩ := h
  by_cases e0 : q = x
  · rw [e0]; exact ⟨k_ne a0 (by decide), k_ne a0 (by decide)⟩
  by_cases e1 : q < x + 43
  · exact d1.kd q (by omega) (by omega)
  by_cases e2 : q < x + 85
  · exact d2.kd q (by omega) (by omega)
  by_cases e3 : q < x + 127
  · exact d3.kd q (by omega) (by omega)
  by_cases e4 : q < x + 169
  · exact d4.kd q (by omega) (by omega)
  by_cases e5 : q < x + 507
  · exact hs.kd q (by omega) (by omega)
  by_cases e6 : q < x + 510
  · exact rd.kd q (by omega) (by omega)
  · rw [show q = x + 510 by omega]; exact ⟨k_ne bf (by decide), k_ne bf (by decide)⟩
theorem isCl.mv {T T' : TT} {x : Nat} (h : isCl T x) (e : ∀ q, x ≤ q → q < x + 511 → T' q = T q) : isCl T' x := by
  obtain ⟨a0, d1, d2, d3, d4, hs, rd, bf⟩ := h
  exact ⟨(e _ (by omega) (by omega)).trans a0, d1.mv (fun q h1 h2 => e q (by omega) (by omega)), d2.mv (fun q h1 h2 => e q (by omega) (by omega)), d3.mv (fun q h1 h2 => e q (by omega) (by omega)), d4.mv (fun q h1 h2 => e q (by omega) (by omega)), hs.mv (fun q h1 h2 => e q (by omega) (by omega)), rd.mv (fun q h1 h2 => e q (by omega) (by omega)), (e _ (by omega) (by omega)).trans bf⟩
theorem isMd.kd {T : TT} {M : Nat} (h : isMd T M) (q : Nat) (h1 : M ≤ q) (h2 : q < M + 8) : (T q).1 ≠ 0 ∧ (T q).1 ≠ 4 := by
  obtain ⟨a0, a1, a2, a3, a4, a5, a6, a7⟩ := h
  obtain e | e | e | e | e | e | e | e : q = M ∨ q = M + 1 ∨ q = M + 2 ∨ q = M + 3 ∨ q = M + 4 ∨ q = M + 5 ∨ q = M + 6 ∨ q = M + 7 := by omega
  · rw [e]; exact ⟨k_ne a0 (by decide), k_ne a0 (by decide)⟩
  · rw [e]; exact ⟨k_ne a1 (by decide), k_ne a1 (by decide)⟩
  · rw [e]; exact ⟨k_ne a2 (by decide), k_ne a2 (by decide)⟩
  · rw [e]; exact ⟨k_ne a3 (by decide), k_ne a3 (by decide)⟩
  · rw [e]; exact ⟨k_ne a4 (by decide), k_ne a4 (by decide)⟩
  · rw [e]; exact ⟨k_ne a5 (by decide), k_ne a5 (by decide)⟩
  · rw [e]; exact ⟨k_ne a6 (by decide), k_ne a6 (by decide)⟩
  · rw [e]; exact ⟨k_ne a7 (by decide), k_ne a7 (by decide)⟩
theorem isMd.mv {T T' : TT} {M : Nat} (h : isMd T M) (e : ∀ q, M ≤ q → q < M + 8 → T' q = T q) : isMd T' M := by
  obtain ⟨a0, a1, a2, a3, a4, a5, a6, a7⟩ := h
  exact ⟨(e _ (by omega) (by omega)).trans a0, (e _ (by omega) (by omega)).trans a1, (e _ (by omega) (by omega)).trans a2, (e _ (by omega) (by omega)).trans a3, (e _ (by omega) (by omega)).trans a4, (e _ (by omega) (by omega)).trans a5, (e _ (by omega) (by omega)).trans a6, (e _ (by omega) (by omega)).trans a7⟩
theorem SB.mvI {T : TT} {I I' : II} {s y m : Nat} {l : List Nat} (h : SB T I s y m l) (e : ∀ q, q = s ∨ (T q).1 = 4 → I' q = I q) : SB T I' s y m l := by
  obtain ⟨a1, a2, a3, a4, a5, a6, a7, a8⟩ := h
  have e1 := e s (Or.inl rfl)
  have e2 := e y (Or.inr (by rw [a2]))
  exact ⟨a1, a2, by rw [e1]; exact a3, by rw [e1]; exact a4, a5, a6, by rw [e2]; exact a7, by rw [e2]; exact a8⟩
/-- the bounds behind n calls -/
def BD (s : AS) (D U n : Nat) : Prop := D + 60 * s.bf.length ≤ 60 * n ∧ U + s.bf.length ≤ n
/-- both objects: the class's has come to sC, the reference's to sR -/
def Iv (x M : Nat) (T : TT) (I : II) (sC sR : AS) (n : Nat) : Prop := isCl T x ∧ isMd T M ∧ x + 513 ≤ M ∧ (∃ D U, CSt I x sC D U ∧ BD sC D U n) ∧ (∃ y m, SB T I (x + 511) y m sC.ln) ∧ RS I M sR
theorem Iv.up {x M : Nat} {T : TT} {I : II} {sC sR : AS} {n n' : Nat} (h : Iv x M T I sC sR n) (hn : n ≤ n') : Iv x M T I sC sR n' := by
  obtain ⟨a1, a2, a3, ⟨D, U, b1, b2, b3⟩, c, d⟩ := h
  exact ⟨a1, a2, a3, ⟨D, U, b1, by omega, by omega⟩, c, d⟩
/-- the class has changed, but for its line -/
theorem Iv.cF {x M : Nat} {T : TT} {I I' : II} {sC sC' sR : AS} {n n' D U : Nat} (h : Iv x M T I sC sR n) (e : ∀ q, ¬ (x ≤ q ∧ q < x + 511) → I' q = I q) (hC : CSt I' x sC' D U) (hB : BD sC' D U n') (hl : sC'.ln = sC.ln) : Iv x M T I' sC' sR n' := by
  obtain ⟨a1, a2, a3, b, ⟨y, m, c⟩, d⟩ := h
  refine ⟨a1, a2, a3, ⟨D, U, hC, hB⟩, ⟨y, m, ?_⟩, d.mv (fun q h1 h2 => e q (by omega))⟩
  rw [hl]
  refine c.mvI (fun q hq => e q (fun hz => ?_))
  rcases hq with hq | hq
  · omega
  · exact (a1.kd q hz.1 hz.2).2 hq
/-- the reference has changed -/
theorem Iv.rF {x M : Nat} {T : TT} {I I' : II} {sC sR sR' : AS} {n : Nat} (h : Iv x M T I sC sR n) (e : ∀ q, ¬ (M ≤ q ∧ q < M + 8) → I' q = I q) (hR : RS I' M sR') : Iv x M T I' sC sR' n := by
  obtain ⟨a1, a2, a3, ⟨D, U, b1, b2⟩, ⟨y, m, c⟩, d⟩ := h
  refine ⟨a1, a2, a3, ⟨D, U, b1.mv (fun q h1 h2 => e q (by omega)), b2⟩, ⟨y, m, c.mvI (fun q hq => e q (fun hz => ?_))⟩, hR⟩
  rcases hq with hq | hq
  · omega
  · exact (a2.kd q hz.1 hz.2).2 hq
theorem Iv.m0 {x M : Nat} {T : TT} {I : II} {sC sR : AS} {n : Nat} {v : Int32} (h : Iv x M T I sC sR n) : Iv x M T (u2 I M 0 v) sC sR n :=
  h.rF (fun q hq => u2_r (by omega)) h.2.2.2.2.2.m0
/-- a call of the class: the code k, or the value v -/
def OpC (g : GG) (y : MethodName) (c : ByteArray) (ml : Nat) (rt : Option FieldType) (av : List Value) (X : va_W) (T : TT) (I : II) (k : Nat) (v : Value) (e : String) (P : TT → II → Prop) : Prop :=
  ∃ d cm cs, d ≤ 12 ∧ cm ≤ 30 ∧ cs ≤ 4200 ∧ Mx g y c ml rt d cm cs av X T I (fun r X' T' I' => k = 0 ∧ r = some v ∧ X' = X ∧ P T' I') (fun c' X' T' I' => k ≠ 0 ∧ c' = e ∧ X' = X ∧ P T' I')
/-- a call of the reference -/
def OpR (g : GG) (y : MethodName) (c : ByteArray) (ml : Nat) (rt : Option FieldType) (av : List Value) (X : va_W) (T : TT) (I : II) (b : Value) (P : II → Prop) : Prop :=
  ∃ d, d ≤ 12 ∧ Mc g y c ml rt d 0 0 av X T I (fun r X' T' I' => r = some b ∧ X' = X ∧ T' = T ∧ P I')
theorem Mc.imp {g : GG} {y : MethodName} {c : ByteArray} {ml : Nat} {rt : Option FieldType} {d mc ms : Nat} {av : List Value} {X : va_W} {T : TT} {I : II} {P P' : PhiT} (h : Mc g y c ml rt d mc ms av X T I P) (hP : ∀ r X' T' I', P r X' T' I' → P' r X' T' I') : Mc g y c ml rt d mc ms av X T I P' := by
  intro l hl p e a1 a2 a3 s m args below f1 f2 f3 f4
  obtain ⟨n, o, g1, g2, g3, ⟨⟨r, X', T', I', b1, b2, b3⟩, b4⟩, b5⟩ := h l hl p e a1 a2 a3 s m args below f1 f2 f3 f4
  exact ⟨n, o, g1, g2, g3, ⟨⟨r, X', T', I', b1, hP _ _ _ _ b2, b3⟩, b4⟩, b5⟩
theorem Mx.imp {g : GG} {y : MethodName} {c : ByteArray} {ml : Nat} {rt : Option FieldType} {d mc ms : Nat} {av : List Value} {X : va_W} {T : TT} {I : II} {P P' : PhiT} {E E' : String → va_W → TT → II → Prop} (h : Mx g y c ml rt d mc ms av X T I P E) (hP : ∀ r X' T' I', P r X' T' I' → P' r X' T' I') (hE : ∀ c X' T' I', E c X' T' I' → E' c X' T' I') : Mx g y c ml rt d mc ms av X T I P' E' := by
  intro l hl p e a1 a2 a3 s m args below f1 f2 f3 f4
  obtain ⟨n, o, g1, g2, g3, h9⟩ := h l hl p e a1 a2 a3 s m args below f1 f2 f3 f4
  refine ⟨n, o, g1, g2, g3, ?_⟩
  rcases h9 with ⟨⟨⟨r, X', T', I', b1, b2, b3⟩, b4⟩, b5⟩ | ⟨q, q1, E1, ce, L, ⟨⟨X', T', I', b1, b2⟩, b3⟩, b4⟩
  · exact Or.inl ⟨⟨⟨r, X', T', I', b1, hP _ _ _ _ b2, b3⟩, b4⟩, b5⟩
  · exact Or.inr ⟨q, q1, E1, ce, L, ⟨⟨X', T', I', hE _ _ _ _ b1, b2⟩, b3⟩, b4⟩
section G97
variable {g : GG} {y : MethodName} {c : ByteArray} {ml : Nat} {rt : Option FieldType} {d cm cs : Nat} {av : List Value} {X : va_W} {T : TT} {I : II} {k : Nat} {v : Value} {e : String} {P : TT → II → Prop}
theorem OpC.val {Q : PhiT} (h : Mx g y c ml rt d cm cs av X T I Q NoX) (hd : d ≤ 12 ∧ cm ≤ 30 ∧ cs ≤ 4200) (hP : ∀ r X' T' I', Q r X' T' I' → r = some v ∧ X' = X ∧ P T' I') : OpC g y c ml rt av X T I 0 v e P :=
  ⟨d, cm, cs, hd.1, hd.2.1, hd.2.2, h.imp (fun r X' T' I' q => ⟨rfl, hP _ _ _ _ q⟩) (fun _ _ _ _ q => q.elim)⟩
theorem OpC.thr {Q : String → va_W → TT → II → Prop} (h : Mx g y c ml rt d cm cs av X T I No Q) (hk : k ≠ 0) (hd : d ≤ 12 ∧ cm ≤ 30 ∧ cs ≤ 4200) (hP : ∀ c' X' T' I', Q c' X' T' I' → c' = e ∧ X' = X ∧ P T' I') : OpC g y c ml rt av X T I k v e P :=
  ⟨d, cm, cs, hd.1, hd.2.1, hd.2.2, h.imp (fun _ _ _ _ q => q.elim) (fun c' X' T' I' q => ⟨hk, hP _ _ _ _ q⟩)⟩
theorem OpC.ve (h : Mx g y c ml rt d cm cs av X T I (Ex (some v) X T I) NoX) (hd : d ≤ 12 ∧ cm ≤ 30 ∧ cs ≤ 4200) (hP : P T I) : OpC g y c ml rt av X T I 0 v e P :=
  OpC.val h hd (fun r X' T' I' q => by obtain ⟨rfl, rfl, rfl, rfl⟩ := q; exact ⟨rfl, rfl, hP⟩)
theorem OpC.xe (h : Mx g y c ml rt d cm cs av X T I No (Th e X T I)) (hk : k ≠ 0) (hd : d ≤ 12 ∧ cm ≤ 30 ∧ cs ≤ 4200) (hP : P T I) : OpC g y c ml rt av X T I k v e P :=
  OpC.thr h hk hd (fun r X' T' I' q => by obtain ⟨rfl, rfl, rfl, rfl⟩ := q; exact ⟨rfl, rfl, hP⟩)
end G97
/-- a value of its type; no NaN -/
abbrev vOk (rt : Option FieldType) (v : Value) : Prop := match rt with
  | some .double => ∃ d, v = .double d ∧ vf_n64 d
  | some .float => ∃ d, v = .float d ∧ vf_n32 d
  | _ => ∃ i, v = .int i
/-- one call on both sides -/
def Op (g : GG) (x M n : Nat) (s : AS) (yC : MethodName) (cC : ByteArray) (mC : Nat) (rC : Option FieldType) (yR : MethodName) (cR : ByteArray) (mR : Nat) (rR : Option FieldType) (args : List Value) (code : List Nat) (X : va_W) (T : TT) (I : II) : Prop :=
  ∃ (k : Nat) (v : Value) (s' : AS), (k ≤ code.length ∧ (k = 0 → vOk rC v)) ∧ OpC g yC cC mC rC (.ref x :: args) X T I k v (exc (code.getD (k - 1) 0)) (fun T' I' => Iv x M T' I' s' s (n + 1)) ∧
    ∀ (X' : va_W) (T' : TT) (I' : II), Iv x M T' I' s' s (n + 1) → ∃ b, ((k = 0 → b = v) ∧ vOk rR b) ∧ OpR g yR cR mR rR (.ref M :: args) X' T' I' b (fun I'' => (code ≠ [] → I'' M 0 = nI k) ∧ Iv x M T' I'' s' s' (n + 1))
/-- the reference reads its row -/
theorem OpR.rd {g : GG} {y : MethodName} {c : ByteArray} {ml : Nat} {rt : Option FieldType} {d : Nat} {av : List Value} {X : va_W} {T : TT} {I : II} {x M n k : Nat} {b : Value} {w : Nat → Int32} {s' : AS} {code : List Nat} (h : Iv x M T I s' s' n) (hw : I (M + 1) = w) (hd : d ≤ 12) (hM : Mc g y c ml rt d 0 0 av X T (sr I (M + 1) w) (Ex (some b) X T (sr (u2 I M 0 (nI k)) (M + 1) w))) : OpR g y c ml rt av X T I b (fun I'' => (code ≠ [] → I'' M 0 = nI k) ∧ Iv x M T I'' s' s' n) := by
  have e1 : sr I (M + 1) w = I := by rw [← hw, sr_id]
  have e2 : sr (u2 I M 0 (nI k)) (M + 1) w = u2 I M 0 (nI k) := by rw [← hw, show I (M + 1) = u2 I M 0 (nI k) (M + 1) from (u2_r (by omega)).symm, sr_id]
  rw [e1, e2] at hM
  exact ⟨d, hd, hM.imp (fun r X' T' I' q => by obtain ⟨rfl, rfl, rfl, rfl⟩ := q; exact ⟨rfl, rfl, rfl, fun _ => u2_g, h.m0⟩)⟩
/-- the same, over the store as it is -/
theorem OpR.r0 {g : GG} {y : MethodName} {c : ByteArray} {ml : Nat} {rt : Option FieldType} {d : Nat} {av : List Value} {X : va_W} {T : TT} {I : II} {x M n k : Nat} {b : Value} {s' : AS} {code : List Nat} (h : Iv x M T I s' s' n) (hd : d ≤ 12) (hM : Mc g y c ml rt d 0 0 av X T I (Ex (some b) X T (u2 I M 0 (nI k)))) : OpR g y c ml rt av X T I b (fun I'' => (code ≠ [] → I'' M 0 = nI k) ∧ Iv x M T I'' s' s' n) :=
  ⟨d, hd, hM.imp (fun r X' T' I' q => by obtain ⟨rfl, rfl, rfl, rfl⟩ := q; exact ⟨rfl, rfl, rfl, fun _ => u2_g, h.m0⟩)⟩
