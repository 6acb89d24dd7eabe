/-! What the changes do to the row w. -/
def ad (w : Nat → Int32) (i : Nat) (x : Int32) : Nat → Int32 := upd w i (w i + x)
def sb (w : Nat → Int32) (i : Nat) (x : Int32) : Nat → Int32 := upd w i (w i - x)
/-- k places from L on are 0 -/
def zr (w : Nat → Int32) (L k : Nat) : Nat → Int32 := fun j => if L ≤ j ∧ j < L + k then nI 0 else w j
theorem zr_0 {w : Nat → Int32} {L : Nat} : zr w L 0 = w := by
  funext j; simp only [zr]; rw [if_neg (by omega)]
theorem zr_s {w : Nat → Int32} {L k : Nat} : upd (zr w L k) (L + k) (nI 0) = zr w L (k + 1) := by
  funext j
  simp only [upd, zr]
  by_cases h : j = L + k
  · rw [if_pos h, if_pos (by omega)]
  · rw [if_neg h]
    by_cases h2 : L ≤ j ∧ j < L + k
    · rw [if_pos h2, if_pos (by omega)]
    · rw [if_neg h2, if_neg (by omega)]
/-- n places from p on are g's first n -/
def ins (f : Nat → Int32) (p : Nat) (h : Nat → Int32) (n : Nat) : Nat → Int32 := fun j => if p ≤ j ∧ j < p + n then h (j - p) else f j
theorem ins_0 {f h : Nat → Int32} {p : Nat} : ins f p h 0 = f := by
  funext j; simp only [ins]; rw [if_neg (by omega)]
theorem ins_s {f h : Nat → Int32} {p n : Nat} : upd (ins f p h n) (p + n) (h n) = ins f p h (n + 1) := by
  funext j
  simp only [upd, ins]
  by_cases e : j = p + n
  · rw [if_pos e, if_pos (by omega), e, Nat.add_sub_cancel_left]
  · rw [if_neg e]
    by_cases h2 : p ≤ j ∧ j < p + n
    · rw [if_pos h2, if_pos (by omega)]
    · rw [if_neg h2, if_neg (by omega)]
/-- what stands d behind comes to the places from p up to k -/
def shV (w : Nat → Int32) (p d k : Nat) : Nat → Int32 := fun j => if p ≤ j ∧ j < k then w (j + d) else w j
theorem shV_0 {w : Nat → Int32} {p d k : Nat} (h : k ≤ p) : shV w p d k = w := by
  funext j; simp only [shV]; rw [if_neg (by omega)]
theorem shV_s {w : Nat → Int32} {p d k : Nat} (h : p ≤ k) : upd (shV w p d k) k (shV w p d k (k + d)) = shV w p d (k + 1) := by
  funext j
  simp only [upd, shV]
  rw [if_neg (show ¬ (p ≤ k + d ∧ k + d < k) by omega)]
  by_cases e : j = k
  · rw [if_pos e, if_pos (by omega), e]
  · rw [if_neg e]
    by_cases h2 : p ≤ j ∧ j < k
    · rw [if_pos h2, if_pos (by omega)]
    · rw [if_neg h2, if_neg (by omega)]
/-- the loan at s is taken out of N -/
def goV (w : Nat → Int32) (N s : Nat) : Nat → Int32 := zr (shV (upd w 2 (nI (N - 1))) (58 + 10 * s) 10 (58 + 10 * (N - 1))) (58 + 10 * (N - 1)) 10
/-- k kinds of its units go to its borrower b -/
def gbK (w : Nat → Int32) (s b k : Nat) : Nat → Int32 := fun j => if 64 + 10 * s ≤ j ∧ j < 64 + 10 * s + k then nI 0 else if 24 + 6 * b ≤ j ∧ j < 24 + 6 * b + k then w j + w (64 + 10 * s + (j - (24 + 6 * b))) else w j
theorem gbK_0 {w : Nat → Int32} {s b : Nat} : gbK w s b 0 = w := by
  funext j; simp only [gbK]; rw [if_neg (by omega), if_neg (by omega)]
theorem gbK_s {w : Nat → Int32} {s b k : Nat} (hb : b < 6) (hk : k < 4) : upd (ad (gbK w s b k) (22 + 6 * b + (2 + k)) (gbK w s b k (58 + 10 * s + (6 + k)))) (58 + 10 * s + (6 + k)) (nI 0) = gbK w s b (k + 1) := by
  funext j
  have e1 : gbK w s b k (58 + 10 * s + (6 + k)) = w (64 + 10 * s + k) := by
    simp only [gbK]
    rw [if_neg (by omega), if_neg (by omega), show 58 + 10 * s + (6 + k) = 64 + 10 * s + k by omega]
  have e2 : gbK w s b k (22 + 6 * b + (2 + k)) = w (24 + 6 * b + k) := by
    simp only [gbK]
    rw [if_neg (by omega), if_neg (by omega), show 22 + 6 * b + (2 + k) = 24 + 6 * b + k by omega]
  simp only [ad, upd, e1, e2]
  by_cases h1 : j = 58 + 10 * s + (6 + k)
  · rw [if_pos h1]; simp only [gbK]; rw [if_pos (by omega)]
  · rw [if_neg h1]
    by_cases h2 : j = 22 + 6 * b + (2 + k)
    · rw [if_pos h2]; simp only [gbK]; rw [if_neg (by omega), if_pos (by omega), show j - (24 + 6 * b) = k by omega, show j = 24 + 6 * b + k by omega]
    · rw [if_neg h2]; simp only [gbK]
      by_cases h3 : 64 + 10 * s ≤ j ∧ j < 64 + 10 * s + k
      · rw [if_pos h3, if_pos (by omega)]
      · rw [if_neg h3, if_neg (show ¬ (64 + 10 * s ≤ j ∧ j < 64 + 10 * s + (k + 1)) by omega)]
        by_cases h4 : 24 + 6 * b ≤ j ∧ j < 24 + 6 * b + k
        · rw [if_pos h4, if_pos (by omega)]
        · rw [if_neg h4, if_neg (by omega)]
def abV (w : Nat → Int32) (B : Nat) (c : Int32) : Nat → Int32 := ad (ad (zr (upd w 1 (nI (B + 1))) (22 + 6 * B) 6) (22 + 6 * B + 0) c) 9 c
def brV (w : Nat → Int32) (n m : Nat) (u : Int32) : Nat → Int32 := ad (ad w (22 + 6 * n + (2 + m)) u) (18 + m) u
/-- the first k kinds of the pledge of a new loan at N: u units of m -/
def plK (w : Nat → Int32) (N m : Nat) (u : Int32) (k : Nat) : Nat → Int32 := fun j => if 64 + 10 * N ≤ j ∧ j < 64 + 10 * N + k then (if j = 64 + 10 * N + m then u else nI 0) else w j
theorem plK_0 {w : Nat → Int32} {N m : Nat} {u : Int32} : plK w N m u 0 = w := by
  funext j; simp only [plK]; rw [if_neg (by omega)]
theorem plK_s {w : Nat → Int32} {N m k : Nat} {u x : Int32} (hx : (if k = m then u else nI 0) = x) : upd (plK w N m u k) (58 + 10 * N + (6 + k)) x = plK w N m u (k + 1) := by
  funext j
  simp only [upd, plK]
  by_cases h1 : j = 58 + 10 * N + (6 + k)
  · rw [if_pos h1, if_pos (by omega), ← hx]
    by_cases h2 : k = m
    · rw [if_pos h2, if_pos (by omega)]
    · rw [if_neg h2, if_neg (by omega)]
  · rw [if_neg h1]
    by_cases h2 : 64 + 10 * N ≤ j ∧ j < 64 + 10 * N + k
    · rw [if_pos h2, if_pos (show 64 + 10 * N ≤ j ∧ j < 64 + 10 * N + (k + 1) by omega)]
    · rw [if_neg h2, if_neg (by omega)]
def ld4 (w : Nat → Int32) (N n : Nat) (p : Int32) : Nat → Int32 := upd (upd (upd (upd w (58 + 10 * N + 0) (w 3)) (58 + 10 * N + 1) (nI n)) (58 + 10 * N + 2) p) (58 + 10 * N + 3) (nI 0)
def ld5 (w : Nat → Int32) (N n : Nat) (p : Int32) : Nat → Int32 := upd (ld4 w N n p) (58 + 10 * N + 4) (nI 10 + nI 5 * withV w N (nI n))
def ld6 (w : Nat → Int32) (N n : Nat) (p t : Int32) : Nat → Int32 := upd (ld5 w N n p) (58 + 10 * N + 5) (w 0 + t)
def ldV (w : Nat → Int32) (N n m : Nat) (u p t : Int32) : Nat → Int32 := upd (upd (sb (ad (ad (plK (ld6 w N n p t) N m u 4) (22 + 6 * n + (2 + m)) (-u)) (22 + 6 * n + 0) p) 4 p) 2 (nI (N + 1))) 3 (w 3 + nI 1)
def pgV (w : Nat → Int32) (s b m : Nat) (u : Int32) : Nat → Int32 := ad (ad w (22 + 6 * b + (2 + m)) (-u)) (58 + 10 * s + (6 + m)) u
def buV (w : Nat → Int32) (n m : Nat) (u : Int32) : Nat → Int32 := ad (ad (ad (sb w (14 + m) u) (22 + 6 * n + (2 + m)) u) (22 + 6 * n + 0) (-(u * w (10 + m)))) 4 (u * w (10 + m))
/-- an entry is opened: behind the others, or where the oldest left room -/
def opV (w : Nat → Int32) (E : Nat) (id : Int32) : Nat → Int32 := upd (upd (upd (upd w 5 (nI (E + 1))) (158 + 3 * E + 0) (w 0)) (158 + 3 * E + 1) id) (158 + 3 * E + 2) (nI 0)
def olV (w : Nat → Int32) : Nat → Int32 := upd (shV w 158 3 215) 5 (nI 19)
/-- coins c are entered for id; r: where its entry of the day stands, or -1 -/
def enV (w : Nat → Int32) (E : Nat) (id c r : Int32) : Nat → Int32 := if r < 0 then (if E = 20 then ad (opV (olV w) 19 id) (158 + 3 * 19 + 2) c else ad (opV w E id) (158 + 3 * E + 2) c) else ad w (158 + 3 * r.toNatClampNeg + 2) c
/-- what goes to the interest -/
def onI (w : Nat → Int32) (s : Nat) (c : Int32) : Int32 := if c < w (58 + 10 * s + 3) then c else w (58 + 10 * s + 3)
def rpA (w : Nat → Int32) (s : Nat) (c : Int32) : Nat → Int32 := upd (upd w (58 + 10 * s + 3) (w (58 + 10 * s + 3) - onI w s c)) (58 + 10 * s + 2) (w (58 + 10 * s + 2) - c + onI w s c)
def rpB (w : Nat → Int32) (s b : Nat) (c : Int32) : Nat → Int32 := ad (ad (rpA w s c) (22 + 6 * b + 0) (-c)) 4 c
def rpC (w : Nat → Int32) (E s b : Nat) (id c r : Int32) : Nat → Int32 := enV (rpB w s b c) E id c r
def rpV (w : Nat → Int32) (N E s b : Nat) (id c r : Int32) : Nat → Int32 := if debtV (rpC w E s b id c r) s = 0 then ad (goV (gbK (rpC w E s b id c r) s b 4) N s) 6 (nI 1) else rpC w E s b id c r
theorem upd_n {f : Nat → Int32} {i j : Nat} {v : Int32} (h : j ≠ i) : upd f i v j = f j := by simp [upd, h]
theorem upd_e {f : Nat → Int32} {i : Nat} {v : Int32} : upd f i v i = v := by simp [upd]
theorem upd_at {f : Nat → Int32} {i j : Nat} {v : Int32} (h : j = i) : upd f i v j = v := by simp [upd, h]
theorem ad_n {f : Nat → Int32} {i j : Nat} {v : Int32} (h : j ≠ i) : ad f i v j = f j := by simp [ad, upd, h]
theorem sb_n {f : Nat → Int32} {i j : Nat} {v : Int32} (h : j ≠ i) : sb f i v j = f j := by simp [sb, upd, h]
theorem zr_n {w : Nat → Int32} {L k j : Nat} (h : ¬ (L ≤ j ∧ j < L + k)) : zr w L k j = w j := if_neg h
theorem shV_n {w : Nat → Int32} {p d k j : Nat} (h : ¬ (p ≤ j ∧ j < k)) : shV w p d k j = w j := if_neg h
theorem plK_n {w : Nat → Int32} {N m k j : Nat} {u : Int32} (h : ¬ (64 + 10 * N ≤ j ∧ j < 64 + 10 * N + k)) : plK w N m u k j = w j := if_neg h
theorem gbK_n {w : Nat → Int32} {s b k j : Nat} (h1 : ¬ (64 + 10 * s ≤ j ∧ j < 64 + 10 * s + k)) (h2 : ¬ (24 + 6 * b ≤ j ∧ j < 24 + 6 * b + k)) : gbK w s b k j = w j := by simp only [gbK]; rw [if_neg h1, if_neg h2]
theorem ins_n {f h : Nat → Int32} {p n j : Nat} (e : ¬ (p ≤ j ∧ j < p + n)) : ins f p h n j = f j := if_neg e
theorem sm_c {f h : Nat → Int32} : ∀ {n k : Nat} {a : Int32}, (∀ j, k ≤ j → j < k + n → f j = h j) → sm f n k a = sm h n k a
  | 0, _, _, _ => rfl
  | n + 1, k, a, e => by
    simp only [sm]
    rw [e k (Nat.le_refl _) (by omega)]
    exact sm_c (fun j h1 h2 => e j (by omega) (by omega))
theorem withV_c {w v : Nat → Int32} {N : Nat} {b : Int32} (h : ∀ s, s < N → w (58 + 10 * s + 1) = v (58 + 10 * s + 1)) : withV w N b = withV v N b := sm_c (fun j _ h2 => by simp only [fWith]; rw [h j (by omega)])
/-- before and the undo rows -/
def kpI (I : II) (M c f : Nat) : II := if c = 8 then sr (u2 (u2 I M 6 (nI ((f + 1) % 8))) M 5 (nI 8)) (M + 2) (ins (I (M + 2)) (218 * (((f + 1) % 8 + 7) % 8)) (I (M + 4)) 218) else sr (u2 I M 5 (nI (c + 1))) (M + 2) (ins (I (M + 2)) (218 * ((f + c) % 8)) (I (M + 4)) 218)
def cpI (I : II) (M : Nat) : II := sr I (M + 4) (ins (I (M + 4)) 0 (I (M + 1)) 218)
def rmI (I : II) (M c f : Nat) : II := kpI (cpI I M) M c f
section G6
variable {g : GG} {k : KK} {nL : Nat} {cc : ByteArray} {own : String} {rt : Option FieldType} {D mc ms : Nat} {Q : State → Prop} {cells slots pc : Nat} {lo : List (Nat × Value)} {st : List Value} {X : va_W} {T : TT} {I : II}
/-- a place of another row -/
theorem r_wld2 {b a n x : Nat} {rf : Nat → Option Nat} {i : Int32} {w : Nat → Int32} (hab : a ≠ b) (C : Cx g k nL cc own rt D mc ms) (hT : T a = (2, n, rf)) (hi : i = nI x) (hx : x < n) (hn : n < 2 ^ 31) (d : decode cc pc = .ok (.iaload, 1)) (kk : Go g k nL Q cells slots (pc + 1) lo (.int (I a x) :: st) X T (sr I b w)) : Go g k nL Q cells slots pc lo (.int i :: .ref a :: st) X T (sr I b w) :=
  r_iald C hT hi hx hn d (by rw [sr_n hab]; exact kk)
end G6
theorem u2_o {I : II} {a j l : Nat} {v : Int32} (h : l ≠ j) : u2 I a j v a l = I a l := by simp [u2, sr, upd, h]
theorem u2_r {I : II} {a b j : Nat} {v : Int32} (h : b ≠ a) : u2 I a j v b = I b := by simp [u2, sr, h]
theorem fBorrower_le (B : Nat) (c : Int32) : fBorrower B c ≤ 2 := by unfold fBorrower; (repeat' split) <;> omega
theorem fBring_le (w : Nat → Int32) (B : Nat) (b k u : Int32) : fBring w B b k u ≤ 3 := by unfold fBring; (repeat' split) <;> omega
theorem fPrice_le (k p : Int32) : fPrice k p ≤ 2 := by unfold fPrice; (repeat' split) <;> omega
theorem fPledge_le (w : Nat → Int32) (r k u : Int32) : fPledge w r k u ≤ 4 := by unfold fPledge; (repeat' split) <;> omega
theorem fRelease_le (w : Nat → Int32) (r k u : Int32) : fRelease w r k u ≤ 4 := by unfold fRelease; (repeat' split) <;> omega
theorem fRepay_le (w : Nat → Int32) (r c : Int32) : fRepay w r c ≤ 3 := by unfold fRepay; (repeat' split) <;> omega
theorem fBuy_le (w : Nat → Int32) (B : Nat) (b k u : Int32) : fBuy w B b k u ≤ 3 := by unfold fBuy; (repeat' split) <;> omega
theorem fPass_le (t : Int32) : fPass t ≤ 1 := by unfold fPass; split <;> omega
/-- before and the undo rows, the row w in view -/
def rmF (I : II) (M : Nat) (w : Nat → Int32) (c f : Nat) : II := kpI (sr I (M + 4) (ins (I (M + 4)) 0 w 218)) M c f
theorem kpI_sr {K : II} {M c f : Nat} {w : Nat → Int32} : kpI (sr K (M + 1) w) M c f = sr (kpI K M c f) (M + 1) w := by
  unfold kpI
  rw [sr_n (show M + 2 ≠ M + 1 by omega), sr_n (show M + 4 ≠ M + 1 by omega)]
  split
  · rw [u2_n (show M ≠ M + 1 by omega), u2_n (show M ≠ M + 1 by omega), sr_cm (show M + 1 ≠ M + 2 by omega)]
  · rw [u2_n (show M ≠ M + 1 by omega), sr_cm (show M + 1 ≠ M + 2 by omega)]
theorem rmI_sr {I : II} {M c f : Nat} {w : Nat → Int32} : rmI (sr I (M + 1) w) M c f = sr (rmF I M w c f) (M + 1) w := by
  unfold rmI cpI rmF
  rw [sr_s, sr_n (show M + 4 ≠ M + 1 by omega), sr_cm (show M + 1 ≠ M + 4 by omega), kpI_sr]
theorem enV_n {w : Nat → Int32} {E : Nat} {id c r : Int32} {j : Nat} (hE : E ≤ 20) (h5 : j ≠ 5) (hj : j < 158) (hr : r < 0 ∨ ∃ e, e < 20 ∧ r = nI e) : enV w E id c r j = w j := by
  unfold enV
  split
  · split
    · rw [ad_n (by omega), opV, upd_n (by omega), upd_n (by omega), upd_n (by omega), upd_n (by omega), olV, upd_n (by omega), shV_n (by omega)]
    · rw [ad_n (by omega), opV, upd_n (by omega), upd_n (by omega), upd_n (by omega), upd_n (by omega)]
  · rw [ad_n (by omega)]
theorem rpC_n {w : Nat → Int32} {E s b : Nat} {id c r : Int32} {j : Nat} (hE : E ≤ 20) (hb : b < 6) (h5 : j ≠ 5) (h4 : j ≠ 4) (hj : j < 158) (h1 : j ≠ 22 + 6 * b) (h2 : j ≠ 58 + 10 * s + 2) (h3 : j ≠ 58 + 10 * s + 3) (hr : r < 0 ∨ ∃ e, e < 20 ∧ r = nI e) : rpC w E s b id c r j = w j := by
  rw [rpC, enV_n hE h5 hj hr, rpB, ad_n (by omega), ad_n (by omega), rpA, upd_n (by omega), upd_n (by omega)]
theorem atE_or {w : Nat → Int32} {E : Nat} {dy id r : Int32} (hE : E ≤ 20) (h : atE w E dy id r) : r < 0 ∨ ∃ e, e < 20 ∧ r = nI e := by
  rcases h with ⟨j, h1, -, -, h2⟩ | ⟨-, h2⟩
  · exact Or.inr ⟨j, by omega, h2⟩
  · exact Or.inl (by rw [h2]; decide)
