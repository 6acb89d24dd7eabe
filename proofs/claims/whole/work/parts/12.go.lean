/-! Where a walk stands: Go .. pc lo st X T I: at pc, with locals lo and operands st, over the store. -/
abbrev KK : Type := Program × Launch × Env × Room × State × MethodId × Array Value × List Frame × Method × Code
def kp (k : KK) : Program := k.1
def kl (k : KK) : Launch := k.2.1
def ke (k : KK) : Env := k.2.2.1
def kR (k : KK) : Room := k.2.2.2.1
def ks (k : KK) : State := k.2.2.2.2.1
def km (k : KK) : MethodId := k.2.2.2.2.2.1
def ka (k : KK) : Array Value := k.2.2.2.2.2.2.1
def kb (k : KK) : List Frame := k.2.2.2.2.2.2.2.1
def kme (k : KK) : Method := k.2.2.2.2.2.2.2.2.1
def kc (k : KK) : Code := k.2.2.2.2.2.2.2.2.2
def gw : List Cond := lw_tbl.filter goodWord
theorem gw_of {w : Cond} (h : w ∈ lw_tbl) (hg : goodWord w = true) : w ∈ gw := List.mem_filter.mpr ⟨h, hg⟩
theorem gw_in {w : Cond} (h : w ∈ gw) : w ∈ lw_tbl := (List.mem_filter.mp h).1
theorem gw_good {big : List Cond} (h : ∀ w ∈ gw, w ∈ big) : GoodIn big gw := fun w hw => ⟨h w hw, good_of_word (List.mem_filter.mp hw).2⟩
def rmd (d mc ms : Nat) : Room := { frames := 4 * d + 8, cells := mc, slots := ms, locals := 100 * d + 200 }
/-- the walk -/
def Wk (k : KK) (H : Heap) (locs : List Loc) (cells slots : Nat) (Q : State → Prop) (f : JFrame) : Prop := W (kp k) (kl k) (ke k) (kR k) (ks k) (km k) (ka k) (kb k) (kme k) (kc k) H locs cells slots Q f
def Go (g : GG) (k : KK) (nL : Nat) (Q : State → Prop) (cells slots : Nat) (pc : Nat) (lo : List (Nat × Value)) (st : List Value) (X : va_W) (T : TT) (I : II) : Prop :=
  ∀ (ls : Array Slot) (H : Heap) (locs : List Loc), lv_has ls nL lo → Pw g X T I H → va_S (Ab g) (ks k).heap H locs → Wk k H locs cells slots Q (F0 (km k) pc ls st)
/-- what stands fast while a method runs -/
def Cx (g : GG) (k : KK) (nL : Nat) (cc : ByteArray) (own : String) (rt : Option FieldType) (D mc ms : Nat) : Prop :=
  (kp k).tables.exec = Jvm.exec ∧ (kc k).code = cc ∧ (kc k).maxLocals = nL ∧ (ks k).vm.findClass own = some (km k).cls ∧ (∀ w ∈ gw, w.before (ka k) (ks k) = true) ∧ va_K (gD g) vwCl (tysG g) (ks k) ∧ (∀ q, (ks k).heap.size ≤ q → Ab g q) ∧ Stc g (ks k) (ks k).heap ∧ (kme k).sig.returnType = rt ∧ (kme k).locks = false ∧ kR k = rmd D mc ms
section G1
variable {g : GG} {k : KK} {nL : Nat} {cc : ByteArray} {own : String} {rt : Option FieldType} {D mc ms : Nat} {Q : State → Prop} {cells slots pc : Nat} {lo : List (Nat × Value)} {st : List Value} {X : va_W} {T : TT} {I : II}
theorem Cx.x (C : Cx g k nL cc own rt D mc ms) : (kp k).tables.exec = Jvm.exec := C.1
theorem Cx.b (C : Cx g k nL cc own rt D mc ms) : (kc k).code = cc := C.2.1
theorem Cx.ml (C : Cx g k nL cc own rt D mc ms) : (kc k).maxLocals = nL := C.2.2.1
theorem Cx.ow (C : Cx g k nL cc own rt D mc ms) : (ks k).vm.findClass own = some (km k).cls := C.2.2.2.1
theorem Cx.ts (C : Cx g k nL cc own rt D mc ms) : ∀ w ∈ gw, w.before (ka k) (ks k) = true := C.2.2.2.2.1
theorem Cx.K (C : Cx g k nL cc own rt D mc ms) : va_K (gD g) vwCl (tysG g) (ks k) := C.2.2.2.2.2.1
theorem Cx.A (C : Cx g k nL cc own rt D mc ms) : ∀ q, (ks k).heap.size ≤ q → Ab g q := C.2.2.2.2.2.2.1
theorem Cx.Z (C : Cx g k nL cc own rt D mc ms) : Stc g (ks k) (ks k).heap := C.2.2.2.2.2.2.2.1
theorem Cx.ret (C : Cx g k nL cc own rt D mc ms) : (kme k).sig.returnType = rt := C.2.2.2.2.2.2.2.2.1
theorem Cx.lk (C : Cx g k nL cc own rt D mc ms) : (kme k).locks = false := C.2.2.2.2.2.2.2.2.2.1
theorem Cx.R (C : Cx g k nL cc own rt D mc ms) : kR k = rmd D mc ms := C.2.2.2.2.2.2.2.2.2.2
/-- the operands and the store by other words -/
theorem r_st {st' : List Value} (h : st = st') (kk : Go g k nL Q cells slots pc lo st' X T I) : Go g k nL Q cells slots pc lo st X T I := h ▸ kk
theorem r_I {I' : II} (h : I = I') (kk : Go g k nL Q cells slots pc lo st X T I') : Go g k nL Q cells slots pc lo st X T I := h ▸ kk
theorem r_lo {lo' : List (Nat × Value)} (h : lo = lo') (kk : Go g k nL Q cells slots pc lo' st X T I) : Go g k nL Q cells slots pc lo st X T I := h ▸ kk
/-- the top int by another word -/
theorem r_t {x y : Int32} (h : x = y) (kk : Go g k nL Q cells slots pc lo (.int y :: st) X T I) : Go g k nL Q cells slots pc lo (.int x :: st) X T I := h ▸ kk
/-- fewer locals -/
theorem r_ls {lo' : List (Nat × Value)} (is : List Nat) (h : lv_pick lo is = lo') (kk : Go g k nL Q cells slots pc lo' st X T I) : Go g k nL Q cells slots pc lo st X T I := fun ls H locs h1 h2 h3 => kk ls H locs (lv_sub h1 is h) h2 h3
theorem r_iconst (C : Cx g k nL cc own rt D mc ms) {n : Int} {v : Nat} (d : decode cc pc = .ok (.iconst n, 1)) (hv : Int32.ofInt n = nI v) (kk : Go g k nL Q cells slots (pc + 1) lo (.int (nI v) :: st) X T I) : Go g k nL Q cells slots pc lo st X T I :=
  fun ls H locs h1 h2 h3 => lv_iconst C.x C.b d hv (kk ls H locs h1 h2 h3)
theorem r_iconstm (C : Cx g k nL cc own rt D mc ms) {n : Int} {v : Int32} (d : decode cc pc = .ok (.iconst n, 1)) (hv : Int32.ofInt n = v) (kk : Go g k nL Q cells slots (pc + 1) lo (.int v :: st) X T I) : Go g k nL Q cells slots pc lo st X T I :=
  fun ls H locs h1 h2 h3 => lv_iconst C.x C.b d hv (kk ls H locs h1 h2 h3)
theorem r_bipush (C : Cx g k nL cc own rt D mc ms) {n : Int} {v : Nat} (d : decode cc pc = .ok (.bipush n, 2)) (hv : (Int8.ofInt n).toInt32 = nI v) (kk : Go g k nL Q cells slots (pc + 2) lo (.int (nI v) :: st) X T I) : Go g k nL Q cells slots pc lo st X T I :=
  fun ls H locs h1 h2 h3 => lv_bipush C.x C.b d hv (kk ls H locs h1 h2 h3)
theorem r_sipush (C : Cx g k nL cc own rt D mc ms) {n : Int} {v : Nat} (d : decode cc pc = .ok (.sipush n, 3)) (hv : (Int16.ofInt n).toInt32 = nI v) (kk : Go g k nL Q cells slots (pc + 3) lo (.int (nI v) :: st) X T I) : Go g k nL Q cells slots pc lo st X T I :=
  fun ls H locs h1 h2 h3 => lv_sipush C.x C.b d hv (kk ls H locs h1 h2 h3)
theorem r_iload_n (C : Cx g k nL cc own rt D mc ms) {j : Fin 4} {i : Nat} {x : Int32} (q : Nat) (d : decode cc pc = .ok (.iload_n j, 1)) (hi : (j : Nat) = i) (hl : lo[q]? = some (i, .int x)) (kk : Go g k nL Q cells slots (pc + 1) lo (.int x :: st) X T I) : Go g k nL Q cells slots pc lo st X T I :=
  fun ls H locs h1 h2 h3 => lv_iload_n C.x C.b d hi (lv_at h1 q hl) (kk ls H locs h1 h2 h3)
theorem r_iload (C : Cx g k nL cc own rt D mc ms) {i : Nat} {x : Int32} (q : Nat) (d : decode cc pc = .ok (.iload i, 2)) (hl : lo[q]? = some (i, .int x)) (kk : Go g k nL Q cells slots (pc + 2) lo (.int x :: st) X T I) : Go g k nL Q cells slots pc lo st X T I :=
  fun ls H locs h1 h2 h3 => lv_iload C.x C.b d (lv_at h1 q hl) (kk ls H locs h1 h2 h3)
theorem r_aload_n (C : Cx g k nL cc own rt D mc ms) {j : Fin 4} {i x : Nat} (q : Nat) (d : decode cc pc = .ok (.aload_n j, 1)) (hi : (j : Nat) = i) (hl : lo[q]? = some (i, .ref x)) (kk : Go g k nL Q cells slots (pc + 1) lo (.ref x :: st) X T I) : Go g k nL Q cells slots pc lo st X T I :=
  fun ls H locs h1 h2 h3 => lv_aload_n C.x C.b d hi (lv_at h1 q hl) (kk ls H locs h1 h2 h3)
theorem r_aload (C : Cx g k nL cc own rt D mc ms) {i x : Nat} (q : Nat) (d : decode cc pc = .ok (.aload i, 2)) (hl : lo[q]? = some (i, .ref x)) (kk : Go g k nL Q cells slots (pc + 2) lo (.ref x :: st) X T I) : Go g k nL Q cells slots pc lo st X T I :=
  fun ls H locs h1 h2 h3 => lv_aload C.x C.b d (lv_at h1 q hl) (kk ls H locs h1 h2 h3)
theorem r_aload_nN (C : Cx g k nL cc own rt D mc ms) {j : Fin 4} {i : Nat} (q : Nat) (d : decode cc pc = .ok (.aload_n j, 1)) (hi : (j : Nat) = i) (hl : lo[q]? = some (i, .null)) (kk : Go g k nL Q cells slots (pc + 1) lo (.null :: st) X T I) : Go g k nL Q cells slots pc lo st X T I :=
  fun ls H locs h1 h2 h3 => lv_aload_nN C.x C.b d hi (lv_at h1 q hl) (kk ls H locs h1 h2 h3)
/-- a store into a local: the new list -/
abbrev sl (lo : List (Nat × Value)) (i : Nat) (v : Value) : List (Nat × Value) := (i, v) :: lo.filter (fun q => !(q.1 == i) && !(q.1 + 1 == i && q.2.category == 2))
theorem r_istore_n (C : Cx g k nL cc own rt D mc ms) {j : Fin 4} {i : Nat} {x : Int32} {lo' : List (Nat × Value)} (d : decode cc pc = .ok (.istore_n j, 1)) (hi : (j : Nat) = i) (hn : i < nL) (hl : sl lo i (.int x) = lo') (kk : Go g k nL Q cells slots (pc + 1) lo' st X T I) : Go g k nL Q cells slots pc lo (.int x :: st) X T I :=
  fun ls H locs h1 h2 h3 => lv_istore_n C.x C.b d hi h1 hn hl (fun ls' h1' => kk ls' H locs h1' h2 h3)
theorem r_istore (C : Cx g k nL cc own rt D mc ms) {i : Nat} {x : Int32} {lo' : List (Nat × Value)} (d : decode cc pc = .ok (.istore i, 2)) (hn : i < nL) (hl : sl lo i (.int x) = lo') (kk : Go g k nL Q cells slots (pc + 2) lo' st X T I) : Go g k nL Q cells slots pc lo (.int x :: st) X T I :=
  fun ls H locs h1 h2 h3 => lv_istore C.x C.b d h1 hn hl (fun ls' h1' => kk ls' H locs h1' h2 h3)
theorem r_astore_n (C : Cx g k nL cc own rt D mc ms) {j : Fin 4} {i x : Nat} {lo' : List (Nat × Value)} (d : decode cc pc = .ok (.astore_n j, 1)) (hi : (j : Nat) = i) (hn : i < nL) (hl : sl lo i (.ref x) = lo') (kk : Go g k nL Q cells slots (pc + 1) lo' st X T I) : Go g k nL Q cells slots pc lo (.ref x :: st) X T I :=
  fun ls H locs h1 h2 h3 => lv_astore_n C.x C.b d hi h1 hn hl (fun ls' h1' => kk ls' H locs h1' h2 h3)
theorem r_astore (C : Cx g k nL cc own rt D mc ms) {i x : Nat} {lo' : List (Nat × Value)} (d : decode cc pc = .ok (.astore i, 2)) (hn : i < nL) (hl : sl lo i (.ref x) = lo') (kk : Go g k nL Q cells slots (pc + 2) lo' st X T I) : Go g k nL Q cells slots pc lo (.ref x :: st) X T I :=
  fun ls H locs h1 h2 h3 => lv_astore C.x C.b d h1 hn hl (fun ls' h1' => kk ls' H locs h1' h2 h3)
theorem r_iinc (C : Cx g k nL cc own rt D mc ms) {i : Nat} {n : Int} {x v : Int32} {lo' : List (Nat × Value)} (q : Nat) (d : decode cc pc = .ok (.iinc i n, 3)) (hk : lo[q]? = some (i, .int x)) (hv : x + Int32.ofInt n = v) (hn : i < nL) (hl : sl lo i (.int v) = lo') (kk : Go g k nL Q cells slots (pc + 3) lo' st X T I) : Go g k nL Q cells slots pc lo st X T I :=
  fun ls H locs h1 h2 h3 => lv_iinc C.x C.b d h1 hk hv hn hl (fun ls' h1' => kk ls' H locs h1' h2 h3)
theorem r_iadd (C : Cx g k nL cc own rt D mc ms) {x y : Int32} (d : decode cc pc = .ok (.iadd, 1)) (kk : Go g k nL Q cells slots (pc + 1) lo (.int (x + y) :: st) X T I) : Go g k nL Q cells slots pc lo (.int y :: .int x :: st) X T I :=
  fun ls H locs h1 h2 h3 => lv_iadd C.x C.b d (kk ls H locs h1 h2 h3)
theorem r_iaddN (C : Cx g k nL cc own rt D mc ms) {x y : Nat} (d : decode cc pc = .ok (.iadd, 1)) (kk : Go g k nL Q cells slots (pc + 1) lo (.int (nI (x + y)) :: st) X T I) : Go g k nL Q cells slots pc lo (.int (nI y) :: .int (nI x) :: st) X T I :=
  fun ls H locs h1 h2 h3 => lv_iadd C.x C.b d (by rw [nI_add]; exact kk ls H locs h1 h2 h3)
theorem r_isub (C : Cx g k nL cc own rt D mc ms) {x y : Int32} (d : decode cc pc = .ok (.isub, 1)) (kk : Go g k nL Q cells slots (pc + 1) lo (.int (x - y) :: st) X T I) : Go g k nL Q cells slots pc lo (.int y :: .int x :: st) X T I :=
  fun ls H locs h1 h2 h3 => lv_isub C.x C.b d (kk ls H locs h1 h2 h3)
theorem r_imul (C : Cx g k nL cc own rt D mc ms) {x y : Int32} (d : decode cc pc = .ok (.imul, 1)) (kk : Go g k nL Q cells slots (pc + 1) lo (.int (x * y) :: st) X T I) : Go g k nL Q cells slots pc lo (.int y :: .int x :: st) X T I :=
  fun ls H locs h1 h2 h3 => lv_imul C.x C.b d (kk ls H locs h1 h2 h3)
theorem r_imulN (C : Cx g k nL cc own rt D mc ms) {x y : Nat} (d : decode cc pc = .ok (.imul, 1)) (kk : Go g k nL Q cells slots (pc + 1) lo (.int (nI (x * y)) :: st) X T I) : Go g k nL Q cells slots pc lo (.int (nI y) :: .int (nI x) :: st) X T I :=
  fun ls H locs h1 h2 h3 => lv_imul C.x C.b d (by rw [pk_mul]; exact kk ls H locs h1 h2 h3)
theorem r_idiv (C : Cx g k nL cc own rt D mc ms) {x y : Int32} (d : decode cc pc = .ok (.idiv, 1)) (hne : ¬ y = 0) (kk : Go g k nL Q cells slots (pc + 1) lo (.int (x / y) :: st) X T I) : Go g k nL Q cells slots pc lo (.int y :: .int x :: st) X T I :=
  fun ls H locs h1 h2 h3 => lv_idiv C.x C.b d hne (kk ls H locs h1 h2 h3)
theorem r_irem (C : Cx g k nL cc own rt D mc ms) {x y : Int32} (d : decode cc pc = .ok (.irem, 1)) (hne : ¬ y = 0) (kk : Go g k nL Q cells slots (pc + 1) lo (.int (x - x / y * y) :: st) X T I) : Go g k nL Q cells slots pc lo (.int y :: .int x :: st) X T I :=
  fun ls H locs h1 h2 h3 => lv_irem C.x C.b d hne (kk ls H locs h1 h2 h3)
theorem r_ineg (C : Cx g k nL cc own rt D mc ms) {x : Int32} (d : decode cc pc = .ok (.ineg, 1)) (kk : Go g k nL Q cells slots (pc + 1) lo (.int (-x) :: st) X T I) : Go g k nL Q cells slots pc lo (.int x :: st) X T I :=
  fun ls H locs h1 h2 h3 => lv_ineg C.x C.b d (kk ls H locs h1 h2 h3)
theorem r_i2c (C : Cx g k nL cc own rt D mc ms) {x v : Int32} (d : decode cc pc = .ok (.i2c, 1)) (hv : (x.toUInt32 % 65536).toInt32 = v) (kk : Go g k nL Q cells slots (pc + 1) lo (.int v :: st) X T I) : Go g k nL Q cells slots pc lo (.int x :: st) X T I :=
  fun ls H locs h1 h2 h3 => lv_i2c C.x C.b d hv (kk ls H locs h1 h2 h3)
theorem r_dup (C : Cx g k nL cc own rt D mc ms) {v : Value} (d : decode cc pc = .ok (.dup, 1)) (hc : v.category = 1) (kk : Go g k nL Q cells slots (pc + 1) lo (v :: v :: st) X T I) : Go g k nL Q cells slots pc lo (v :: st) X T I :=
  fun ls H locs h1 h2 h3 => lv_dup C.x C.b d hc (kk ls H locs h1 h2 h3)
theorem r_pop (C : Cx g k nL cc own rt D mc ms) {v : Value} (d : decode cc pc = .ok (.pop, 1)) (hc : v.category = 1) (kk : Go g k nL Q cells slots (pc + 1) lo st X T I) : Go g k nL Q cells slots pc lo (v :: st) X T I :=
  fun ls H locs h1 h2 h3 => lv_pop C.x C.b d hc (kk ls H locs h1 h2 h3)
theorem r_dup_x1 (C : Cx g k nL cc own rt D mc ms) {v w : Value} (d : decode cc pc = .ok (.dup_x1, 1)) (hc : v.category = 1) (hc2 : w.category = 1) (kk : Go g k nL Q cells slots (pc + 1) lo (v :: w :: v :: st) X T I) : Go g k nL Q cells slots pc lo (v :: w :: st) X T I :=
  fun ls H locs h1 h2 h3 => lv_dup_x1 C.x C.b d hc hc2 (kk ls H locs h1 h2 h3)
theorem r_dup2 (C : Cx g k nL cc own rt D mc ms) {v w : Value} (d : decode cc pc = .ok (.dup2, 1)) (hc : v.category = 1) (hc2 : w.category = 1) (kk : Go g k nL Q cells slots (pc + 1) lo (v :: w :: v :: w :: st) X T I) : Go g k nL Q cells slots pc lo (v :: w :: st) X T I :=
  fun ls H locs h1 h2 h3 => lv_dup2_11 C.x C.b d hc hc2 (kk ls H locs h1 h2 h3)
theorem r_goto (C : Cx g k nL cc own rt D mc ms) {off : Int} {tgt : Nat} (d : decode cc pc = .ok (.goto off, 3)) (ht : (pc : Int) + off = (tgt : Int)) (kk : Go g k nL Q cells slots tgt lo st X T I) : Go g k nL Q cells slots pc lo st X T I :=
  fun ls H locs h1 h2 h3 => lv_goto C.x C.b d ht (kk ls H locs h1 h2 h3)
theorem r_ceq (C : Cx g k nL cc own rt D mc ms) {x y : Int32} {off : Int} {tgt : Nat} (d : decode cc pc = .ok (.if_icmp .eq off, 3)) (ht : (pc : Int) + off = (tgt : Int)) (kt : x = y → Go g k nL Q cells slots tgt lo st X T I) (kf : ¬ x = y → Go g k nL Q cells slots (pc + 3) lo st X T I) : Go g k nL Q cells slots pc lo (.int y :: .int x :: st) X T I :=
  fun ls H locs h1 h2 h3 => lv_icmp_eq C.x C.b d ht (fun c => kt c ls H locs h1 h2 h3) (fun c => kf c ls H locs h1 h2 h3)
theorem r_cne (C : Cx g k nL cc own rt D mc ms) {x y : Int32} {off : Int} {tgt : Nat} (d : decode cc pc = .ok (.if_icmp .ne off, 3)) (ht : (pc : Int) + off = (tgt : Int)) (kt : ¬ x = y → Go g k nL Q cells slots tgt lo st X T I) (kf : x = y → Go g k nL Q cells slots (pc + 3) lo st X T I) : Go g k nL Q cells slots pc lo (.int y :: .int x :: st) X T I :=
  fun ls H locs h1 h2 h3 => lv_icmp_ne C.x C.b d ht (fun c => kt c ls H locs h1 h2 h3) (fun c => kf c ls H locs h1 h2 h3)
theorem r_clt (C : Cx g k nL cc own rt D mc ms) {x y : Int32} {off : Int} {tgt : Nat} (d : decode cc pc = .ok (.if_icmp .lt off, 3)) (ht : (pc : Int) + off = (tgt : Int)) (kt : x < y → Go g k nL Q cells slots tgt lo st X T I) (kf : ¬ x < y → Go g k nL Q cells slots (pc + 3) lo st X T I) : Go g k nL Q cells slots pc lo (.int y :: .int x :: st) X T I :=
  fun ls H locs h1 h2 h3 => lv_icmp_lt C.x C.b d ht (fun c => kt c ls H locs h1 h2 h3) (fun c => kf c ls H locs h1 h2 h3)
theorem r_cge (C : Cx g k nL cc own rt D mc ms) {x y : Int32} {off : Int} {tgt : Nat} (d : decode cc pc = .ok (.if_icmp .ge off, 3)) (ht : (pc : Int) + off = (tgt : Int)) (kt : y ≤ x → Go g k nL Q cells slots tgt lo st X T I) (kf : ¬ y ≤ x → Go g k nL Q cells slots (pc + 3) lo st X T I) : Go g k nL Q cells slots pc lo (.int y :: .int x :: st) X T I :=
  fun ls H locs h1 h2 h3 => lv_icmp_ge C.x C.b d ht (fun c => kt c ls H locs h1 h2 h3) (fun c => kf c ls H locs h1 h2 h3)
theorem r_cgt (C : Cx g k nL cc own rt D mc ms) {x y : Int32} {off : Int} {tgt : Nat} (d : decode cc pc = .ok (.if_icmp .gt off, 3)) (ht : (pc : Int) + off = (tgt : Int)) (kt : y < x → Go g k nL Q cells slots tgt lo st X T I) (kf : ¬ y < x → Go g k nL Q cells slots (pc + 3) lo st X T I) : Go g k nL Q cells slots pc lo (.int y :: .int x :: st) X T I :=
  fun ls H locs h1 h2 h3 => lv_icmp_gt C.x C.b d ht (fun c => kt c ls H locs h1 h2 h3) (fun c => kf c ls H locs h1 h2 h3)
theorem r_cle (C : Cx g k nL cc own rt D mc ms) {x y : Int32} {off : Int} {tgt : Nat} (d : decode cc pc = .ok (.if_icmp .le off, 3)) (ht : (pc : Int) + off = (tgt : Int)) (kt : x ≤ y → Go g k nL Q cells slots tgt lo st X T I) (kf : ¬ x ≤ y → Go g k nL Q cells slots (pc + 3) lo st X T I) : Go g k nL Q cells slots pc lo (.int y :: .int x :: st) X T I :=
  fun ls H locs h1 h2 h3 => lv_icmp_le C.x C.b d ht (fun c => kt c ls H locs h1 h2 h3) (fun c => kf c ls H locs h1 h2 h3)
theorem r_ifeq (C : Cx g k nL cc own rt D mc ms) {x : Int32} {off : Int} {tgt : Nat} (d : decode cc pc = .ok (.ifCond .eq off, 3)) (ht : (pc : Int) + off = (tgt : Int)) (kt : x = 0 → Go g k nL Q cells slots tgt lo st X T I) (kf : ¬ x = 0 → Go g k nL Q cells slots (pc + 3) lo st X T I) : Go g k nL Q cells slots pc lo (.int x :: st) X T I :=
  fun ls H locs h1 h2 h3 => lv_if_eq C.x C.b d ht (fun c => kt c ls H locs h1 h2 h3) (fun c => kf c ls H locs h1 h2 h3)
theorem r_ifne (C : Cx g k nL cc own rt D mc ms) {x : Int32} {off : Int} {tgt : Nat} (d : decode cc pc = .ok (.ifCond .ne off, 3)) (ht : (pc : Int) + off = (tgt : Int)) (kt : ¬ x = 0 → Go g k nL Q cells slots tgt lo st X T I) (kf : x = 0 → Go g k nL Q cells slots (pc + 3) lo st X T I) : Go g k nL Q cells slots pc lo (.int x :: st) X T I :=
  fun ls H locs h1 h2 h3 => lv_if_ne C.x C.b d ht (fun c => kt c ls H locs h1 h2 h3) (fun c => kf c ls H locs h1 h2 h3)
theorem r_iflt (C : Cx g k nL cc own rt D mc ms) {x : Int32} {off : Int} {tgt : Nat} (d : decode cc pc = .ok (.ifCond .lt off, 3)) (ht : (pc : Int) + off = (tgt : Int)) (kt : x < 0 → Go g k nL Q cells slots tgt lo st X T I) (kf : ¬ x < 0 → Go g k nL Q cells slots (pc + 3) lo st X T I) : Go g k nL Q cells slots pc lo (.int x :: st) X T I :=
  fun ls H locs h1 h2 h3 => lv_if_lt C.x C.b d ht (fun c => kt c ls H locs h1 h2 h3) (fun c => kf c ls H locs h1 h2 h3)
theorem r_ifge (C : Cx g k nL cc own rt D mc ms) {x : Int32} {off : Int} {tgt : Nat} (d : decode cc pc = .ok (.ifCond .ge off, 3)) (ht : (pc : Int) + off = (tgt : Int)) (kt : 0 ≤ x → Go g k nL Q cells slots tgt lo st X T I) (kf : ¬ 0 ≤ x → Go g k nL Q cells slots (pc + 3) lo st X T I) : Go g k nL Q cells slots pc lo (.int x :: st) X T I :=
  fun ls H locs h1 h2 h3 => lv_if_ge C.x C.b d ht (fun c => kt c ls H locs h1 h2 h3) (fun c => kf c ls H locs h1 h2 h3)
theorem r_ifgt (C : Cx g k nL cc own rt D mc ms) {x : Int32} {off : Int} {tgt : Nat} (d : decode cc pc = .ok (.ifCond .gt off, 3)) (ht : (pc : Int) + off = (tgt : Int)) (kt : 0 < x → Go g k nL Q cells slots tgt lo st X T I) (kf : ¬ 0 < x → Go g k nL Q cells slots (pc + 3) lo st X T I) : Go g k nL Q cells slots pc lo (.int x :: st) X T I :=
  fun ls H locs h1 h2 h3 => lv_if_gt C.x C.b d ht (fun c => kt c ls H locs h1 h2 h3) (fun c => kf c ls H locs h1 h2 h3)
theorem r_ifle (C : Cx g k nL cc own rt D mc ms) {x : Int32} {off : Int} {tgt : Nat} (d : decode cc pc = .ok (.ifCond .le off, 3)) (ht : (pc : Int) + off = (tgt : Int)) (kt : x ≤ 0 → Go g k nL Q cells slots tgt lo st X T I) (kf : ¬ x ≤ 0 → Go g k nL Q cells slots (pc + 3) lo st X T I) : Go g k nL Q cells slots pc lo (.int x :: st) X T I :=
  fun ls H locs h1 h2 h3 => lv_if_le C.x C.b d ht (fun c => kt c ls H locs h1 h2 h3) (fun c => kf c ls H locs h1 h2 h3)
theorem r_ifnullR (C : Cx g k nL cc own rt D mc ms) {x : Nat} {off : Int} (d : decode cc pc = .ok (.ifnull off, 3)) (kk : Go g k nL Q cells slots (pc + 3) lo st X T I) : Go g k nL Q cells slots pc lo (.ref x :: st) X T I :=
  fun ls H locs h1 h2 h3 => lv_ifnull C.x C.b d (kk ls H locs h1 h2 h3)
theorem r_ifnullN (C : Cx g k nL cc own rt D mc ms) {off : Int} {tgt : Nat} (d : decode cc pc = .ok (.ifnull off, 3)) (ht : (pc : Int) + off = (tgt : Int)) (kk : Go g k nL Q cells slots tgt lo st X T I) : Go g k nL Q cells slots pc lo (.null :: st) X T I :=
  fun ls H locs h1 h2 h3 => lv_ifnullN C.x C.b d ht (kk ls H locs h1 h2 h3)
theorem r_ifnnR (C : Cx g k nL cc own rt D mc ms) {x : Nat} {off : Int} {tgt : Nat} (d : decode cc pc = .ok (.ifnonnull off, 3)) (ht : (pc : Int) + off = (tgt : Int)) (kk : Go g k nL Q cells slots tgt lo st X T I) : Go g k nL Q cells slots pc lo (.ref x :: st) X T I :=
  fun ls H locs h1 h2 h3 => lv_ifnonnull C.x C.b d ht (kk ls H locs h1 h2 h3)
theorem r_ifnnN (C : Cx g k nL cc own rt D mc ms) {off : Int} (d : decode cc pc = .ok (.ifnonnull off, 3)) (kk : Go g k nL Q cells slots (pc + 3) lo st X T I) : Go g k nL Q cells slots pc lo (.null :: st) X T I :=
  fun ls H locs h1 h2 h3 => lv_ifnonnullN C.x C.b d (kk ls H locs h1 h2 h3)
theorem r_null (C : Cx g k nL cc own rt D mc ms) (d : decode cc pc = .ok (.aconst_null, 1)) (kk : Go g k nL Q cells slots (pc + 1) lo (.null :: st) X T I) : Go g k nL Q cells slots pc lo st X T I :=
  fun ls H locs h1 h2 h3 => lv_null C.x C.b d (kk ls H locs h1 h2 h3)
theorem r_aeq (C : Cx g k nL cc own rt D mc ms) {x y : Nat} {off : Int} {tgt : Nat} (d : decode cc pc = .ok (.if_acmp .eq off, 3)) (ht : (pc : Int) + off = (tgt : Int)) (kt : x = y → Go g k nL Q cells slots tgt lo st X T I) (kf : ¬ x = y → Go g k nL Q cells slots (pc + 3) lo st X T I) : Go g k nL Q cells slots pc lo (.ref y :: .ref x :: st) X T I :=
  fun ls H locs h1 h2 h3 => lv_acmp_eq (rx := some x) (ry := some y) C.x C.b d ht (fun c => kt (Option.some.inj c) ls H locs h1 h2 h3) (fun c => kf (fun z => c (congrArg some z)) ls H locs h1 h2 h3)
theorem r_ane (C : Cx g k nL cc own rt D mc ms) {x y : Nat} {off : Int} {tgt : Nat} (d : decode cc pc = .ok (.if_acmp .ne off, 3)) (ht : (pc : Int) + off = (tgt : Int)) (kt : ¬ x = y → Go g k nL Q cells slots tgt lo st X T I) (kf : x = y → Go g k nL Q cells slots (pc + 3) lo st X T I) : Go g k nL Q cells slots pc lo (.ref y :: .ref x :: st) X T I :=
  fun ls H locs h1 h2 h3 => lv_acmp_ne (rx := some x) (ry := some y) C.x C.b d ht (fun c => kt (fun z => c (congrArg some z)) ls H locs h1 h2 h3) (fun c => kf (Option.some.inj c) ls H locs h1 h2 h3)
end G1
