/-! Characters; saving, restoring, undoing; the reference's line and input. -/
theorem nar_c {q : Nat} (h : q < 65536) : vp_nar .char (nI q) = nI q := by unfold vp_nar; rw [(pk_charN h).1]
theorem i2c_n (x : Int32) : (x.toUInt32 % 65536).toInt32 = nI (x.toUInt32.toNat % 65536) := by
  apply Int32.toBitVec_inj.mp
  apply BitVec.eq_of_toNat_eq
  show (x.toUInt32 % 65536).toNat = (x.toUInt32.toNat % 65536) % 2 ^ 32
  rw [UInt32.toNat_mod]
  show x.toUInt32.toNat % 65536 = _
  omega
theorem i2c_q {q : Nat} (h : q < 65536) : ((nI q).toUInt32 % 65536).toInt32 = nI q := by
  rw [i2c_n, show (nI q).toUInt32.toNat = q % 2 ^ 32 from rfl]
  congr 1
  omega
def svI (I : II) (M : Nat) : II := sr (u2 (u2 I M 0 (nI 0)) M 7 (nI 1)) (M + 3) (ins (u2 I M 0 (nI 0) (M + 3)) 0 (u2 I M 0 (nI 0) (M + 1)) 218)
def rsI (I : II) (M : Nat) : II := sr (u2 (u2 (u2 I M 0 (nI 0)) M 5 (nI 0)) M 6 (nI 0)) (M + 1) (ins (u2 I M 0 (nI 0) (M + 1)) 0 (u2 I M 0 (nI 0) (M + 3)) 218)
def unI (I : II) (M c f : Nat) : II := sr (u2 (u2 I M 0 (nI 0)) M 5 (nI (c - 1))) (M + 1) (ins (u2 (u2 I M 0 (nI 0)) M 5 (nI (c - 1)) (M + 1)) 0 (fun k => u2 (u2 I M 0 (nI 0)) M 5 (nI (c - 1)) (M + 2) (218 * ((f + (c - 1)) % 8) + k)) 218)
/-- the line: n letters t, and as many more -/
def lnI (I : II) (M : Nat) (t : Nat → Nat) (n : Nat) : II := sr (u2 I M 9 (nI n)) (M + 5) (fun j => if j < n then nI (t j) else I (M + 5) j)
theorem lnI_w {I : II} {M n c : Nat} {t : Nat → Nat} : u2 (u2 (lnI I M t n) (M + 5) n (nI c)) M 9 (nI (n + 1)) = lnI I M (sb_cat t n (fun _ => c)) (n + 1) := by
  unfold lnI
  rw [u2_s, u2_n (show M ≠ M + 5 by omega), u2_u2]
  congr 1
  funext j
  simp only [upd, sb_cat]
  rcases Nat.lt_trichotomy j n with h | h | h
  · rw [if_neg (by omega), if_pos h, if_pos (by omega), if_pos h]
  · rw [if_pos h, if_pos (by omega), if_neg (by omega)]
  · rw [if_neg (by omega), if_neg (by omega), if_neg (by omega)]
theorem lnI_n {I : II} {M n : Nat} {t : Nat → Nat} : lnI I M t n M 9 = nI n := by
  unfold lnI
  rw [sr_n (show M ≠ M + 5 by omega), u2_g]
theorem lnI_o {I : II} {M n b : Nat} {t : Nat → Nat} (h : b ≠ M) (h5 : b ≠ M + 5) : lnI I M t n b = I b := by
  unfold lnI
  rw [sr_n h5, u2_r h]
theorem lnI_f {I : II} {M n j : Nat} {t : Nat → Nat} (h : j ≠ 9) : lnI I M t n M j = I M j := by
  unfold lnI
  rw [sr_n (show M ≠ M + 5 by omega), u2_o h]
theorem lnI_0 {I : II} {M n : Nat} {t s : Nat → Nat} : u2 (lnI I M t n) M 9 (nI 0) = sr (u2 I M 9 (nI 0)) (M + 5) (lnI I M t n (M + 5)) := by
  unfold lnI
  rw [u2_n (show M ≠ M + 5 by omega), u2_u2, sr_s]
theorem sb_cat_a {t s r : Nat → Nat} {n m : Nat} : sb_cat (sb_cat t n s) (n + m) r = sb_cat t n (sb_cat s m r) := by
  funext j
  simp only [sb_cat]
  by_cases h : j < n
  · rw [if_pos (by omega), if_pos h, if_pos h]
  · rw [if_neg h]
    by_cases h2 : j < n + m
    · rw [if_pos h2, if_neg h, if_pos (by omega)]
    · rw [if_neg h2, if_neg h, if_neg (show ¬ j - n < m by omega), show j - (n + m) = j - n - m by omega]
/-- the first k digits of v behind t -/
theorem cat_dig {t : Nat → Nat} {n v k : Nat} (e : Nat) (he : e = 48 + v / 10 ^ (sb_dg v - 1 - k) % 10) : ∀ j, j < n + (k + 1) → sb_cat (sb_cat t n (sb_dec v)) (n + k) (fun _ => e) j = sb_cat t n (sb_dec v) j := by
  intro j hj
  simp only [sb_cat]
  by_cases h : j < n + k
  · rw [if_pos h]
  · rw [if_neg h, if_neg (by omega), he, sb_dec, show j - n = k by omega]
theorem lnI_c {I : II} {M n : Nat} {t s : Nat → Nat} (h : ∀ j, j < n → t j = s j) : lnI I M t n = lnI I M s n := by
  unfold lnI
  congr 1
  funext j
  by_cases hj : j < n
  · rw [if_pos hj, if_pos hj, h j hj]
  · rw [if_neg hj, if_neg hj]
theorem dg_ge {v : Nat} (hv : v < 2 ^ 31) : 1 ≤ sb_dg v ∧ sb_dg v ≤ 10 ∧ v < 10 ^ sb_dg v ∧ (sb_dg v = 1 ∨ 10 ^ (sb_dg v - 1) ≤ v) := by
  unfold sb_dg
  (repeat' split) <;> refine ⟨by decide, by decide, by omega, ?_⟩ <;> first | exact Or.inl rfl | (right; omega)
/-- k digits more to come behind unit 10^k -/
theorem dg_unit {v k : Nat} (hv : v < 2 ^ 31) (hk : k < sb_dg v) : 9 < v / 10 ^ k ↔ k + 1 < sb_dg v := by
  obtain ⟨h1, h2, h3, h4⟩ := dg_ge hv
  have hp : 0 < 10 ^ k := Nat.pow_pos (by decide)
  rw [show (9 < v / 10 ^ k) = (10 ≤ v / 10 ^ k) from rfl, Nat.le_div_iff_mul_le hp, show 10 * 10 ^ k = 10 ^ (k + 1) by rw [Nat.pow_succ, Nat.mul_comm]]
  constructor
  · intro h
    rcases Nat.lt_or_ge (k + 1) (sb_dg v) with h9 | h9
    · exact h9
    · have : 10 ^ sb_dg v ≤ 10 ^ (k + 1) := Nat.pow_le_pow_right (by decide) h9
      omega
  · intro h
    rcases h4 with h4 | h4
    · omega
    · exact Nat.le_trans (Nat.pow_le_pow_right (by decide) (by omega)) h4
theorem p10_le {k : Nat} (h : k ≤ 9) : 10 ^ k ≤ 1000000000 := Nat.pow_le_pow_right (by decide) h
theorem p10_pos {k : Nat} : 0 < 10 ^ k := Nat.pow_pos (by decide)
theorem p10_div {k : Nat} : 10 ^ (k + 1) / 10 = 10 ^ k := by rw [Nat.pow_succ]; exact Nat.mul_div_cancel _ (by decide)
theorem p10_nx {m i : Nat} (h : i < m) : (i + 1 < m ∧ 10 ^ (m - 1 - i) / 10 = 10 ^ (m - 1 - (i + 1))) ∨ (i + 1 = m ∧ 10 ^ (m - 1 - i) / 10 = 0) := by
  by_cases h2 : i + 1 < m
  · left
    refine ⟨h2, ?_⟩
    rw [show m - 1 - i = (m - 1 - (i + 1)) + 1 by omega, p10_div]
  · right
    refine ⟨by omega, ?_⟩
    rw [show m - 1 - i = 0 by omega]
/-- letters as a list -/
def tx (l : List Nat) : Nat → Nat := fun j => l.getD j 0
def dl (v : Nat) : List Nat := (List.range (sb_dg v)).map (sb_dec v)
theorem dl_len {v : Nat} : (dl v).length = sb_dg v := by simp [dl]
theorem dl_at {v j : Nat} (h : j < sb_dg v) : (dl v).getD j 0 = sb_dec v j := by
  simp only [dl, List.getD_eq_getElem?_getD, List.getElem?_map, List.getElem?_range h, Option.map_some, Option.getD_some]
def lnL (I : II) (M : Nat) (l : List Nat) : II := lnI I M (tx l) l.length
theorem tx_app {l m : List Nat} {j : Nat} (h : j < l.length + m.length) : sb_cat (tx l) l.length (tx m) j = tx (l ++ m) j := by
  simp only [sb_cat, tx, List.getD_eq_getElem?_getD]
  by_cases h2 : j < l.length
  · rw [if_pos h2, List.getElem?_append_left h2]
  · rw [if_neg h2, List.getElem?_append_right (by omega)]
theorem sb_cat_c {t s r : Nat → Nat} {n m : Nat} (h : ∀ j, j < m → s j = r j) : ∀ j, j < n + m → sb_cat t n s j = sb_cat t n r j := by
  intro j hj
  simp only [sb_cat]
  split
  · rfl
  · exact h _ (by omega)
theorem lnL_a {I : II} {M : Nat} {l m : List Nat} {s : Nat → Nat} (h : ∀ j, j < m.length → s j = tx m j) : lnI I M (sb_cat (tx l) l.length s) (l.length + m.length) = lnL I M (l ++ m) := by
  rw [lnL, List.length_append]
  exact lnI_c (fun j hj => (sb_cat_c h j hj).trans (tx_app hj))
theorem lnL_w {I : II} {M c : Nat} {l : List Nat} : lnI I M (sb_cat (tx l) l.length (fun _ => c)) (l.length + 1) = lnL I M (l ++ [c]) :=
  lnL_a (m := [c]) (fun j hj => by
    have : j < 1 := hj
    obtain rfl : j = 0 := by omega
    rfl)
theorem lnL_d {I : II} {M v : Nat} {l : List Nat} : lnI I M (sb_cat (tx l) l.length (sb_dec v)) (l.length + sb_dg v) = lnL I M (l ++ dl v) := by
  have h := lnL_a (I := I) (M := M) (l := l) (m := dl v) (s := sb_dec v) (fun j hj => by rw [dl_len] at hj; exact (dl_at hj).symm)
  rw [dl_len] at h
  exact h
theorem lnL_0 {I : II} {M : Nat} : u2 I M 9 (nI 0) = lnL I M [] := by
  unfold lnL lnI
  rw [show ([] : List Nat).length = 0 from rfl]
  have e : (fun j => if j < 0 then nI (tx [] j) else I (M + 5) j) = u2 I M 9 (nI 0) (M + 5) := by
    funext j
    rw [if_neg (by omega), u2_r (by omega)]
  rw [e, sr_id]
theorem lnL_o {I : II} {M b : Nat} {l : List Nat} (h : b ≠ M) (h5 : b ≠ M + 5) : lnL I M l b = I b := lnI_o h h5
theorem lnL_n {I : II} {M : Nat} {l : List Nat} : lnL I M l M 9 = nI l.length := lnI_n
theorem dg_b {v : Nat} : (v < 10 → sb_dg v ≤ 1) ∧ (v < 100 → sb_dg v ≤ 2) ∧ (v < 1000 → sb_dg v ≤ 3) ∧ (v < 1000000 → sb_dg v ≤ 6) ∧ (v < 10000000 → sb_dg v ≤ 7) := by
  unfold sb_dg
  (repeat' split) <;> omega
/-- the line of a loan -/
def fmL (id b pr ac rt du : Nat) : List Nat := ((((((([] ++ [76]) ++ dl id) ++ 32 :: 98 :: dl b) ++ 32 :: dl pr) ++ [43]) ++ dl ac) ++ 32 :: 64 :: dl rt) ++ 32 :: 100 :: dl du
def kdl (u : Nat → Nat) : Nat → List Nat
  | 0 => []
  | q + 1 => kdl u q ++ (if u q = 0 then [] else 32 :: dl q ++ 120 :: dl (u q))
theorem kdl_len {u : Nat → Nat} (h : ∀ k, k < 4 → sb_dg (u k) ≤ 7) : ∀ q, q ≤ 4 → (kdl u q).length ≤ 10 * q
  | 0, _ => by simp [kdl]
  | q + 1, hq => by
    have h1 := kdl_len h q (by omega)
    have h2 := h q (by omega)
    have h3 := (dg_b (v := q)).1 (by omega)
    rw [kdl, List.length_append]
    split
    · simp only [List.length_nil]; omega
    · simp only [List.length_append, List.length_cons, dl_len]; omega
theorem fmL_len {id b pr ac rt du : Nat} (h1 : id < 1000000) (h2 : b < 10) (h3 : pr < 1000) (h4 : ac < 10000000) (h5 : rt < 100) (h6 : du < 1000000) : (fmL id b pr ac rt du).length ≤ 40 := by
  have a1 := (dg_b (v := id)).2.2.2.1 h1
  have a2 := (dg_b (v := b)).1 h2
  have a3 := (dg_b (v := pr)).2.2.1 h3
  have a4 := (dg_b (v := ac)).2.2.2.2 h4
  have a5 := (dg_b (v := rt)).2.1 h5
  have a6 := (dg_b (v := du)).2.2.2.1 h6
  simp only [fmL, List.length_append, List.length_cons, List.length_nil, dl_len]
  omega
