/-! What the desk's changes do to its picture. -/
theorem u2_sr {I : II} {a j : Nat} {v : Int32} : u2 I a j v = sr I a (upd (I a) j v) := rfl
/-- a new borrower's cells -/
def bgB (I : II) (a : Nat) (c : Int32) : II := sr (u2 (u2 I a 0 c) a 1 (nI 0)) (a + 1) (zr (I (a + 1)) 0 4)
theorem bgB_eq {I : II} {a : Nat} {c : Int32} : bgB I a c = sr (sr I a (upd (upd (I a) 0 c) 1 (nI 0))) (a + 1) (zr (I (a + 1)) 0 4) := by
  simp only [bgB, u2, sr_s, sr_sr]
/-- a new loan's cells -/
def bgN (I : II) (a : Nat) (id n p r d : Int32) : II := sr (u2 (u2 (u2 (u2 (u2 (u2 I a 0 id) a 1 n) a 2 p) a 3 (nI 0)) a 4 r) a 5 d) (a + 1) (zr (I (a + 1)) 0 4)
def nlF (f : Nat → Int32) (id n p r d : Int32) : Nat → Int32 := upd (upd (upd (upd (upd (upd f 0 id) 1 n) 2 p) 3 (nI 0)) 4 r) 5 d
theorem bgN_eq {I : II} {a : Nat} {id n p r d : Int32} : bgN I a id n p r d = sr (sr I a (nlF (I a) id n p r d)) (a + 1) (zr (I (a + 1)) 0 4) := by
  simp only [bgN, nlF, u2, sr_s, sr_sr]
def nlV (w : Nat → Int32) (N : Nat) (id n p r d : Int32) : Nat → Int32 := upd (upd (upd (upd (upd (upd (zr w (58 + 10 * N) 10) (58 + 10 * N + 0) id) (58 + 10 * N + 1) n) (58 + 10 * N + 2) p) (58 + 10 * N + 3) (nI 0)) (58 + 10 * N + 4) r) (58 + 10 * N + 5) d
section DW2
variable {I0 I : II} {b B N E : Nat} {w : Nat → Int32} {pm : Nat → Nat} {an : Int32}
theorem DW.newB (h : DW I0 I b w B N E pm an) (hB : B < 6) {c : Int32} : DW I0 (bgB I (b + 10 + 2 * B) c) b (upd (zr w (22 + 6 * B) 6) (22 + 6 * B + 0) c) (B + 1) N E pm an := by
  obtain ⟨f1, f2⟩ := free_B (b := b) (E := E) h.hpm h.hN (Nat.le_refl B) hB
  have hN := h.hN
  have hE := h.hE
  have h1 : DW I0 (bgB I (b + 10 + 2 * B) c) b w B N E pm an := by
    rw [bgB_eq]
    exact (h.free (f := upd (upd (I (b + 10 + 2 * B)) 0 c) 1 (nI 0)) (by omega) (by omega) (by omega) f1).free (by omega) (by omega) (by omega) f2
  have h2 := h1.cw (w' := upd (zr w (22 + 6 * B) 6) (22 + 6 * B + 0) c) (fun j hj => by rw [upd_n (by omega), zr_n (by omega)])
  refine ⟨h2.1, h2.2.1.addB hB ?_ ?_ (fun k hk => ?_), h2.2.2⟩
  · rw [bgB_eq, sr_n (by omega), sr_s, upd_n (by omega), upd_e, upd_e]
  · rw [bgB_eq, sr_n (by omega), sr_s, upd_e, upd_n (by omega)]
    simp only [zr]
    rw [if_pos (by omega)]
  · rw [bgB_eq, sr_s, upd_n (by omega)]
    simp only [zr]
    rw [if_pos (by omega), if_pos (by omega)]
theorem DW.newN (h : DW I0 I b w B N E pm an) (hN : N < 10) {id n p r d : Int32} : DW I0 (bgN I (b + 5 + 17 + 2 * pm N) id n p r d) b (nlV w N id n p r d) B (N + 1) E pm an := by
  obtain ⟨f1, f2⟩ := free_N (b := b) (E := E) h.hpm h.hB h.hN (Nat.le_refl N) hN
  have hB := h.hB
  have hE := h.hE
  have hp := h.l hN
  have h1 : DW I0 (bgN I (b + 5 + 17 + 2 * pm N) id n p r d) b w B N E pm an := by
    rw [bgN_eq]
    exact (h.free (by omega) (by omega) (by omega) f1).free (by omega) (by omega) (by omega) f2
  have h2 := h1.cw (w' := nlV w N id n p r d) (fun j hj => by rw [nlV, upd_n (by omega), upd_n (by omega), upd_n (by omega), upd_n (by omega), upd_n (by omega), upd_n (by omega), zr_n (by omega)])
  refine ⟨h2.1, h2.2.1.addN hN (fun i hi => ?_) (fun k hk => ?_), h2.2.2⟩
  · rw [bgN_eq, sr_n (by omega), sr_s]
    match i, hi with
    | 0, _ => simp [nlF, nlV, upd]
    | 1, _ => simp [nlF, nlV, upd]
    | 2, _ => simp [nlF, nlV, upd]
    | 3, _ => simp [nlF, nlV, upd]
    | 4, _ => simp [nlF, nlV, upd]
    | 5, _ => simp [nlF, nlV, upd]
  · rw [bgN_eq, sr_s, nlV, upd_n (by omega), upd_n (by omega), upd_n (by omega), upd_n (by omega), upd_n (by omega), upd_n (by omega)]
    simp only [zr]
    rw [if_pos (by omega), if_pos (by omega)]
end DW2
/-- the rows of the loans behind a loan taken out: the one at s comes behind the others -/
def rmP (pm : Nat → Nat) (N s : Nat) : Nat → Nat := fun i => if s ≤ i ∧ i < N - 1 then pm (i + 1) else if i = N - 1 then pm s else pm i
theorem rmP_pm {pm : Nat → Nat} {N s : Nat} (h : Pm pm) (hs : s < N) (hN : N ≤ 10) : Pm (rmP pm N s) := by
  obtain ⟨h1, h2⟩ := h
  have h3 : ∀ i j, i < 10 → j < 10 → i ≠ j → pm i ≠ pm j := fun i j a c hne z => hne (h2 i j a c z)
  refine ⟨fun i hi => ?_, fun i j hi hj => ?_⟩
  · unfold rmP; split
    · exact h1 _ (by omega)
    · split
      · exact h1 _ (by omega)
      · exact h1 _ hi
  · unfold rmP
    intro z
    by_cases e : i = j
    · exact e
    · exfalso
      split at z <;> (try split at z) <;> (try split at z) <;> (try split at z) <;> first | exact h3 _ _ (by omega) (by omega) (by omega) z | omega
/-- the store behind a loan taken out -/
def rmC (I : II) (b N s p : Nat) : II := u2 (u2 (sr I (b + 5) (shV (I (b + 5)) s 1 (N - 1))) b 3 (nI (N - 1))) (b + 5) (N - 1) (nI p)
theorem DW.rm {I0 I : II} {b B N E s : Nat} {w w' : Nat → Int32} {pm : Nat → Nat} {an : Int32} (h : DW I0 I b w B N E pm an) (hs : s < N) (e2 : w' 2 = nI (N - 1)) (en : ∀ j, (j < 2 ∨ (2 < j ∧ j < 22) ∨ (22 ≤ j ∧ j < 22 + 6 * B) ∨ (158 ≤ j ∧ j < 158 + 3 * E)) → w' j = w j) (el : ∀ r j, r < N - 1 → j < 10 → w' (58 + 10 * r + j) = w (58 + 10 * skp s r + j)) : DW I0 (rmC I b N s (pm s)) b w' B (N - 1) E (rmP pm N s) an := by
  obtain ⟨hf, ⟨hv, ⟨hp, hp5⟩, hB, hN, hE⟩, h9⟩ := h
  have o : ∀ a q, a ≠ b + 5 → ¬ (a = b ∧ q = 3) → rmC I b N s (pm s) a q = I a q := fun a q h1 h2 => by
    rw [rmC, u2_r h1]
    by_cases e : a = b
    · subst e
      rw [u2_o (fun z => h2 ⟨rfl, z⟩), sr_n h1]
    · rw [u2_r e, sr_n h1]
  have o3 : rmC I b N s (pm s) b 3 = nI (N - 1) := by rw [rmC, u2_r (by omega), u2_g]
  refine ⟨fun a ha => ?_, ⟨fun j a q hA => ?_, ⟨rmP_pm hp hs hN, fun i hi => ?_⟩, hB, by omega, hE⟩, (o b 9 (by omega) (by omega)).trans h9⟩
  · rw [← hf a ha, rmC, u2_r (by omega), u2_r (by omega), sr_n (by omega)]
  · rcases hA with ⟨rfl, h⟩ | h | h | h | ⟨r, i, hr, hi, ha, hj, hq⟩ | ⟨r, k, hr, hk, ha, hj, hq⟩ | h | h
    · by_cases e : j = 2
      · subst e
        obtain rfl : q = 3 := by omega
        rw [o3, e2]
      · rw [o _ _ (by omega) (by omega), en j (by omega)]
        exact hv j a q (Or.inl ⟨rfl, h⟩)
    · have hr := h
      obtain ⟨k, hk, h⟩ := h
      rw [o _ _ (by omega) (by omega), en j (by omega)]
      exact hv j a q (Or.inr (Or.inl hr))
    · have hr := h
      obtain ⟨n, hn, ha, h⟩ := h
      rw [o _ _ (by omega) (by omega), en j (by omega)]
      exact hv j a q (Or.inr (Or.inr (Or.inl hr)))
    · have hr := h
      obtain ⟨n, k, hn, hk, ha, hj, h⟩ := h
      rw [o _ _ (by omega) (by omega), en j (by omega)]
      exact hv j a q (Or.inr (Or.inr (Or.inr (Or.inl hr))))
    · have e : rmP pm N s r = pm (skp s r) := by
        unfold rmP skp
        by_cases h : r < s
        · rw [if_neg (by omega), if_neg (by omega), if_pos h]
        · rw [if_pos (by omega), if_neg h]
      have e9 : skp s r < N := by unfold skp; split <;> omega
      subst ha; subst hj; subst hq
      rw [o _ _ (by omega) (by omega), e, el r q hr (by omega)]
      exact hv _ _ _ (at_loan e9 hi)
    · have e : rmP pm N s r = pm (skp s r) := by
        unfold rmP skp
        by_cases h : r < s
        · rw [if_neg (by omega), if_neg (by omega), if_pos h]
        · rw [if_pos (by omega), if_neg h]
      have e9 : skp s r < N := by unfold skp; split <;> omega
      subst ha; subst hj; subst hq
      rw [o _ _ (by omega) (by omega), e, el r (6 + q) hr (by omega)]
      exact hv _ _ _ (at_pledged e9 hk)
    · obtain ⟨hj, ha, hq⟩ := h
      rw [o _ _ (by omega) (by omega), en j (by omega)]
      exact hv j a q (Or.inr (Or.inr (Or.inr (Or.inr (Or.inr (Or.inr (Or.inl ⟨hj, ha, hq⟩)))))))
    · have hr := h
      obtain ⟨e, r, he, hr9, ha, hj, hq⟩ := h
      rw [o _ _ (by omega) (by omega), en j (by omega)]
      exact hv j a q (Or.inr (Or.inr (Or.inr (Or.inr (Or.inr (Or.inr (Or.inr hr)))))))
  · rw [rmC]
    by_cases e : i = N - 1
    · subst e
      rw [u2_g, rmP, if_neg (by omega), if_pos rfl]
    · rw [u2_o e, u2_r (by omega), sr_s]
      simp only [shV, rmP]
      by_cases e1 : s ≤ i ∧ i < N - 1
      · rw [if_pos e1, if_pos e1]; exact hp5 _ (by omega)
      · rw [if_neg e1, if_neg e1, if_neg e]; exact hp5 _ hi
