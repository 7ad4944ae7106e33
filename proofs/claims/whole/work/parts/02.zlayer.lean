/-! LAYER Z: one flat memory (cell, slot), no heap in sight: own rows over the kit's -/
abbrev Mem : Type := Nat → Nat → Int32
def upm (M : Mem) (k i : Nat) (v : Int32) : Mem := fun a => if a = k then upd (M k) i v else M a
def upr (M : Mem) (k : Nat) (f : Nat → Int32) : Mem := fun a => if a = k then f else M a
abbrev ZW : Type := va_G × List vw_C × List (ClassId × FieldType) × (Mem → va_W) × Nat
def zz_tab (j : Nat) : Int32 := if j = 0 then 0 else if j = 1 then 5 else 14
/-- the one table that is read behind the constructors -/
def Zst (w : ZW) (A : Nat → Prop) (U : State) (H : Heap) : Prop := va_Z "SnowRoad" "DIGEST_PLOUGH_HOURS" "[I" (.ref w.2.2.2.2) A U H ∧ va_T .int w.2.2.2.2 3 (fun j => .int (zz_tab j)) A U H
abbrev ZX : Type := Program × Launch × Env × Room × State × MethodId × Array Value × List Frame × Method × Code × (Nat → Prop) × (State → Prop)
def zt : List Cond := lw_tbl.filter goodWord
theorem zz_good : ∀ q ∈ zt, goodWord q = true := fun _ h => (List.mem_filter.mp h).2
theorem zt_mem {q : Cond} (i : Nat) (h : tables_1[i]? = some q) (hg : goodWord q = true) : q ∈ zt := List.mem_filter.mpr ⟨List.mem_append_right _ (List.mem_of_getElem? h), hg⟩
theorem zt_sel {q : Cond} (i : Nat) (h : (k2_sels lw_privs)[i]? = some q) (hg : goodWord q = true) : q ∈ zt := List.mem_filter.mpr ⟨List.mem_append_left _ (List.mem_of_getElem? h), hg⟩
def Zj (X : ZX) (nL : Nat) (w : ZW) (M : Mem) (pc : Nat) (lv : List (Nat × Value)) (st : List Value) : Prop :=
  match X with
  | (p, l, e, R, s, m, args, below, meth, c, A, Q) => ∀ (H : Heap) (locs : List Loc) (ls : Array Slot), lv_has ls nL lv → va_P w.1 w.2.1 (w.2.2.2.1 M) H → va_S A s.heap H locs → W p l e R s m args below meth c H locs 0 0 Q (F0 m pc ls st)
def Zc (X : ZX) (cc : ByteArray) (own : String) (nL : Nat) (rm : Room) (w : ZW) : Prop :=
  match X with
  | (p, l, e, R, s, m, args, below, meth, c, A, Q) => p.tables.exec = Jvm.exec ∧ c.code = cc ∧ c.maxLocals = nL ∧ s.vm.findClass own = some m.cls ∧ (∀ q ∈ zt, q.before args s = true) ∧ va_K w.1 w.2.1 w.2.2.1 s ∧ (∀ M, va_D A (w.2.2.2.1 M)) ∧ (∀ q, s.heap.size ≤ q → A q) ∧ meth.locks = false ∧ R = rm ∧ Zst w A s s.heap
section ZR
variable {X : ZX} {cc : ByteArray} {own : String} {nL : Nat} {rm : Room} {w : ZW} {M : Mem} {pc : Nat} {lv : List (Nat × Value)} {st : List Value}
theorem z_iconst (C : Zc X cc own nL rm w) {n : Int} {v : Int32} (hd : decode cc pc = .ok (.iconst n, 1)) (hv : Int32.ofInt n = v) (kk : Zj X nL w M (pc + 1) lv (.int v :: st)) : Zj X nL w M pc lv st := by
  obtain ⟨p, l, e, R, s, m, args, below, meth, c, A, Q⟩ := X
  obtain ⟨hx, hb, -⟩ := C
  exact fun H locs ls hl hP hS => lv_iconst hx hb hd hv (kk H locs ls hl hP hS)
theorem z_bipush (C : Zc X cc own nL rm w) {n : Int} {v : Int32} (hd : decode cc pc = .ok (.bipush n, 2)) (hv : (Int8.ofInt n).toInt32 = v) (kk : Zj X nL w M (pc + 2) lv (.int v :: st)) : Zj X nL w M pc lv st := by
  obtain ⟨p, l, e, R, s, m, args, below, meth, c, A, Q⟩ := X
  obtain ⟨hx, hb, -⟩ := C
  exact fun H locs ls hl hP hS => lv_bipush hx hb hd hv (kk H locs ls hl hP hS)
theorem z_sipush (C : Zc X cc own nL rm w) {n : Int} {v : Int32} (hd : decode cc pc = .ok (.sipush n, 3)) (hv : (Int16.ofInt n).toInt32 = v) (kk : Zj X nL w M (pc + 3) lv (.int v :: st)) : Zj X nL w M pc lv st := by
  obtain ⟨p, l, e, R, s, m, args, below, meth, c, A, Q⟩ := X
  obtain ⟨hx, hb, -⟩ := C
  exact fun H locs ls hl hP hS => lv_sipush hx hb hd hv (kk H locs ls hl hP hS)
theorem z_lconst (C : Zc X cc own nL rm w) {n : Fin 2} {v : Int64} (hd : decode cc pc = .ok (.lconst n, 1)) (hv : Int64.ofNat (n : Nat) = v) (kk : Zj X nL w M (pc + 1) lv (.long v :: st)) : Zj X nL w M pc lv st := by
  obtain ⟨p, l, e, R, s, m, args, below, meth, c, A, Q⟩ := X
  obtain ⟨hx, hb, -⟩ := C
  exact fun H locs ls hl hP hS => lv_lconst hx hb hd hv (kk H locs ls hl hP hS)
theorem z_ldc (C : Zc X cc own nL rm w) {i : Nat} {v : Int32} (hd : decode cc pc = .ok (.ldc i, 2)) (hw : Cond.constant own i v ∈ zt) (kk : Zj X nL w M (pc + 2) lv (.int v :: st)) : Zj X nL w M pc lv st := by
  obtain ⟨p, l, e, R, s, m, args, below, meth, c, A, Q⟩ := X
  obtain ⟨hx, hb, -, ho, ht, -⟩ := C
  exact fun H locs ls hl hP hS => lv_ldc hx hb ho (ht _ hw) hd (kk H locs ls hl hP hS)
theorem z_ldcw (C : Zc X cc own nL rm w) {i : Nat} {v : Int32} (hd : decode cc pc = .ok (.ldc_w i, 3)) (hw : Cond.constant own i v ∈ zt) (kk : Zj X nL w M (pc + 3) lv (.int v :: st)) : Zj X nL w M pc lv st := by
  obtain ⟨p, l, e, R, s, m, args, below, meth, c, A, Q⟩ := X
  obtain ⟨hx, hb, -, ho, ht, -⟩ := C
  exact fun H locs ls hl hP hS => lv_ldcw hx hb ho (ht _ hw) hd (kk H locs ls hl hP hS)
theorem z_ldc2 (C : Zc X cc own nL rm w) {i : Nat} {v : Int64} (hd : decode cc pc = .ok (.ldc2_w i, 3)) (hw : Cond.constantLong own i v ∈ zt) (kk : Zj X nL w M (pc + 3) lv (.long v :: st)) : Zj X nL w M pc lv st := by
  obtain ⟨p, l, e, R, s, m, args, below, meth, c, A, Q⟩ := X
  obtain ⟨hx, hb, -, ho, ht, -⟩ := C
  exact fun H locs ls hl hP hS => lv_ldc2 hx hb ho (ht _ hw) hd (kk H locs ls hl hP hS)
theorem z_iload_n (C : Zc X cc own nL rm w) {k : Fin 4} {i : Nat} {x : Int32} (hd : decode cc pc = .ok (.iload_n k, 1)) (hi : (k : Nat) = i) (j : Nat) (hj : lv[j]? = some (i, .int x)) (kk : Zj X nL w M (pc + 1) lv (.int x :: st)) : Zj X nL w M pc lv st := by
  obtain ⟨p, l, e, R, s, m, args, below, meth, c, A, Q⟩ := X
  obtain ⟨hx, hb, -⟩ := C
  exact fun H locs ls hl hP hS => lv_iload_n hx hb hd hi (lv_at hl j hj) (kk H locs ls hl hP hS)
theorem z_iload (C : Zc X cc own nL rm w) {i : Nat} {x : Int32} (hd : decode cc pc = .ok (.iload i, 2)) (j : Nat) (hj : lv[j]? = some (i, .int x)) (kk : Zj X nL w M (pc + 2) lv (.int x :: st)) : Zj X nL w M pc lv st := by
  obtain ⟨p, l, e, R, s, m, args, below, meth, c, A, Q⟩ := X
  obtain ⟨hx, hb, -⟩ := C
  exact fun H locs ls hl hP hS => lv_iload hx hb hd (lv_at hl j hj) (kk H locs ls hl hP hS)
theorem z_lload_n (C : Zc X cc own nL rm w) {k : Fin 4} {i : Nat} {x : Int64} (hd : decode cc pc = .ok (.lload_n k, 1)) (hi : (k : Nat) = i) (j : Nat) (hj : lv[j]? = some (i, .long x)) (kk : Zj X nL w M (pc + 1) lv (.long x :: st)) : Zj X nL w M pc lv st := by
  obtain ⟨p, l, e, R, s, m, args, below, meth, c, A, Q⟩ := X
  obtain ⟨hx, hb, -⟩ := C
  exact fun H locs ls hl hP hS => lv_lload_n hx hb hd hi (lv_at hl j hj) (kk H locs ls hl hP hS)
theorem z_lload (C : Zc X cc own nL rm w) {i : Nat} {x : Int64} (hd : decode cc pc = .ok (.lload i, 2)) (j : Nat) (hj : lv[j]? = some (i, .long x)) (kk : Zj X nL w M (pc + 2) lv (.long x :: st)) : Zj X nL w M pc lv st := by
  obtain ⟨p, l, e, R, s, m, args, below, meth, c, A, Q⟩ := X
  obtain ⟨hx, hb, -⟩ := C
  exact fun H locs ls hl hP hS => lv_lload hx hb hd (lv_at hl j hj) (kk H locs ls hl hP hS)
theorem z_aload_n (C : Zc X cc own nL rm w) {k : Fin 4} {i : Nat} {x : Nat} (hd : decode cc pc = .ok (.aload_n k, 1)) (hi : (k : Nat) = i) (j : Nat) (hj : lv[j]? = some (i, .ref x)) (kk : Zj X nL w M (pc + 1) lv (.ref x :: st)) : Zj X nL w M pc lv st := by
  obtain ⟨p, l, e, R, s, m, args, below, meth, c, A, Q⟩ := X
  obtain ⟨hx, hb, -⟩ := C
  exact fun H locs ls hl hP hS => lv_aload_n hx hb hd hi (lv_at hl j hj) (kk H locs ls hl hP hS)
theorem z_aload (C : Zc X cc own nL rm w) {i : Nat} {x : Nat} (hd : decode cc pc = .ok (.aload i, 2)) (j : Nat) (hj : lv[j]? = some (i, .ref x)) (kk : Zj X nL w M (pc + 2) lv (.ref x :: st)) : Zj X nL w M pc lv st := by
  obtain ⟨p, l, e, R, s, m, args, below, meth, c, A, Q⟩ := X
  obtain ⟨hx, hb, -⟩ := C
  exact fun H locs ls hl hP hS => lv_aload hx hb hd (lv_at hl j hj) (kk H locs ls hl hP hS)
def z_s1 (i : Nat) (v : Value) (lv : List (Nat × Value)) : List (Nat × Value) := (i, v) :: lv.filter (fun q => !(q.1 == i) && !(q.1 + 1 == i && q.2.category == 2))
def z_s2 (i : Nat) (v : Value) (lv : List (Nat × Value)) : List (Nat × Value) := (i, v) :: lv.filter (fun q => !(q.1 == i) && (!(q.1 == i + 1) && !(q.1 + 1 == i && q.2.category == 2)))
theorem z_istore_n (C : Zc X cc own nL rm w) {k : Fin 4} {i : Nat} {x : Int32} {lv' : List (Nat × Value)} (hd : decode cc pc = .ok (.istore_n k, 1)) (hi : (k : Nat) = i) (hn : Nat.blt i nL = true) (hl' : z_s1 i (.int x) lv = lv') (kk : Zj X nL w M (pc + 1) lv' st) : Zj X nL w M pc lv (.int x :: st) := by
  obtain ⟨p, l, e, R, s, m, args, below, meth, c, A, Q⟩ := X
  obtain ⟨hx, hb, -⟩ := C
  exact fun H locs ls hl hP hS => lv_istore_n hx hb hd hi hl (Nat.le_of_ble_eq_true hn) hl' (fun ls hl => kk H locs ls hl hP hS)
theorem z_istore (C : Zc X cc own nL rm w) {i : Nat} {x : Int32} {lv' : List (Nat × Value)} (hd : decode cc pc = .ok (.istore i, 2)) (hn : Nat.blt i nL = true) (hl' : z_s1 i (.int x) lv = lv') (kk : Zj X nL w M (pc + 2) lv' st) : Zj X nL w M pc lv (.int x :: st) := by
  obtain ⟨p, l, e, R, s, m, args, below, meth, c, A, Q⟩ := X
  obtain ⟨hx, hb, -⟩ := C
  exact fun H locs ls hl hP hS => lv_istore hx hb hd hl (Nat.le_of_ble_eq_true hn) hl' (fun ls hl => kk H locs ls hl hP hS)
theorem z_lstore_n (C : Zc X cc own nL rm w) {k : Fin 4} {i : Nat} {x : Int64} {lv' : List (Nat × Value)} (hd : decode cc pc = .ok (.lstore_n k, 1)) (hi : (k : Nat) = i) (hn : Nat.blt (i + 1) nL = true) (hl' : z_s2 i (.long x) lv = lv') (kk : Zj X nL w M (pc + 1) lv' st) : Zj X nL w M pc lv (.long x :: st) := by
  obtain ⟨p, l, e, R, s, m, args, below, meth, c, A, Q⟩ := X
  obtain ⟨hx, hb, -⟩ := C
  exact fun H locs ls hl hP hS => lv_lstore_n hx hb hd hi hl (Nat.le_of_ble_eq_true hn) hl' (fun ls hl => kk H locs ls hl hP hS)
theorem z_lstore (C : Zc X cc own nL rm w) {i : Nat} {x : Int64} {lv' : List (Nat × Value)} (hd : decode cc pc = .ok (.lstore i, 2)) (hn : Nat.blt (i + 1) nL = true) (hl' : z_s2 i (.long x) lv = lv') (kk : Zj X nL w M (pc + 2) lv' st) : Zj X nL w M pc lv (.long x :: st) := by
  obtain ⟨p, l, e, R, s, m, args, below, meth, c, A, Q⟩ := X
  obtain ⟨hx, hb, -⟩ := C
  exact fun H locs ls hl hP hS => lv_lstore hx hb hd hl (Nat.le_of_ble_eq_true hn) hl' (fun ls hl => kk H locs ls hl hP hS)
theorem z_astore_n (C : Zc X cc own nL rm w) {k : Fin 4} {i : Nat} {x : Nat} {lv' : List (Nat × Value)} (hd : decode cc pc = .ok (.astore_n k, 1)) (hi : (k : Nat) = i) (hn : Nat.blt i nL = true) (hl' : z_s1 i (.ref x) lv = lv') (kk : Zj X nL w M (pc + 1) lv' st) : Zj X nL w M pc lv (.ref x :: st) := by
  obtain ⟨p, l, e, R, s, m, args, below, meth, c, A, Q⟩ := X
  obtain ⟨hx, hb, -⟩ := C
  exact fun H locs ls hl hP hS => lv_astore_n hx hb hd hi hl (Nat.le_of_ble_eq_true hn) hl' (fun ls hl => kk H locs ls hl hP hS)
theorem z_astore (C : Zc X cc own nL rm w) {i : Nat} {x : Nat} {lv' : List (Nat × Value)} (hd : decode cc pc = .ok (.astore i, 2)) (hn : Nat.blt i nL = true) (hl' : z_s1 i (.ref x) lv = lv') (kk : Zj X nL w M (pc + 2) lv' st) : Zj X nL w M pc lv (.ref x :: st) := by
  obtain ⟨p, l, e, R, s, m, args, below, meth, c, A, Q⟩ := X
  obtain ⟨hx, hb, -⟩ := C
  exact fun H locs ls hl hP hS => lv_astore hx hb hd hl (Nat.le_of_ble_eq_true hn) hl' (fun ls hl => kk H locs ls hl hP hS)
theorem z_iinc (C : Zc X cc own nL rm w) {i : Nat} {n : Int} {x v : Int32} {lv' : List (Nat × Value)} (hd : decode cc pc = .ok (.iinc i n, 3)) (j : Nat) (hj : lv[j]? = some (i, .int x)) (hv : x + Int32.ofInt n = v) (hn : Nat.blt i nL = true) (hl' : z_s1 i (.int v) lv = lv') (kk : Zj X nL w M (pc + 3) lv' st) : Zj X nL w M pc lv st := by
  obtain ⟨p, l, e, R, s, m, args, below, meth, c, A, Q⟩ := X
  obtain ⟨hx, hb, -⟩ := C
  exact fun H locs ls hl hP hS => lv_iinc hx hb hd hl hj hv (Nat.le_of_ble_eq_true hn) hl' (fun ls hl => kk H locs ls hl hP hS)
theorem z_iadd (C : Zc X cc own nL rm w) {x y : Int32} (hd : decode cc pc = .ok (.iadd, 1)) (kk : Zj X nL w M (pc + 1) lv (.int (x + y) :: st)) : Zj X nL w M pc lv (.int y :: .int x :: st) := by
  obtain ⟨p, l, e, R, s, m, args, below, meth, c, A, Q⟩ := X
  obtain ⟨hx, hb, -⟩ := C
  exact fun H locs ls hl hP hS => lv_iadd hx hb hd (kk H locs ls hl hP hS)
theorem z_isub (C : Zc X cc own nL rm w) {x y : Int32} (hd : decode cc pc = .ok (.isub, 1)) (kk : Zj X nL w M (pc + 1) lv (.int (x - y) :: st)) : Zj X nL w M pc lv (.int y :: .int x :: st) := by
  obtain ⟨p, l, e, R, s, m, args, below, meth, c, A, Q⟩ := X
  obtain ⟨hx, hb, -⟩ := C
  exact fun H locs ls hl hP hS => lv_isub hx hb hd (kk H locs ls hl hP hS)
theorem z_imul (C : Zc X cc own nL rm w) {x y : Int32} (hd : decode cc pc = .ok (.imul, 1)) (kk : Zj X nL w M (pc + 1) lv (.int (x * y) :: st)) : Zj X nL w M pc lv (.int y :: .int x :: st) := by
  obtain ⟨p, l, e, R, s, m, args, below, meth, c, A, Q⟩ := X
  obtain ⟨hx, hb, -⟩ := C
  exact fun H locs ls hl hP hS => lv_imul hx hb hd (kk H locs ls hl hP hS)
theorem z_iand (C : Zc X cc own nL rm w) {x y : Int32} (hd : decode cc pc = .ok (.iand, 1)) (kk : Zj X nL w M (pc + 1) lv (.int (x &&& y) :: st)) : Zj X nL w M pc lv (.int y :: .int x :: st) := by
  obtain ⟨p, l, e, R, s, m, args, below, meth, c, A, Q⟩ := X
  obtain ⟨hx, hb, -⟩ := C
  exact fun H locs ls hl hP hS => lv_iand hx hb hd (kk H locs ls hl hP hS)
theorem z_ior (C : Zc X cc own nL rm w) {x y : Int32} (hd : decode cc pc = .ok (.ior, 1)) (kk : Zj X nL w M (pc + 1) lv (.int (x ||| y) :: st)) : Zj X nL w M pc lv (.int y :: .int x :: st) := by
  obtain ⟨p, l, e, R, s, m, args, below, meth, c, A, Q⟩ := X
  obtain ⟨hx, hb, -⟩ := C
  exact fun H locs ls hl hP hS => lv_ior hx hb hd (kk H locs ls hl hP hS)
theorem z_ixor (C : Zc X cc own nL rm w) {x y : Int32} (hd : decode cc pc = .ok (.ixor, 1)) (kk : Zj X nL w M (pc + 1) lv (.int (x ^^^ y) :: st)) : Zj X nL w M pc lv (.int y :: .int x :: st) := by
  obtain ⟨p, l, e, R, s, m, args, below, meth, c, A, Q⟩ := X
  obtain ⟨hx, hb, -⟩ := C
  exact fun H locs ls hl hP hS => lv_ixor hx hb hd (kk H locs ls hl hP hS)
theorem z_idiv (C : Zc X cc own nL rm w) {x y : Int32} (hd : decode cc pc = .ok (.idiv, 1)) (hne : ¬ y = 0) (kk : Zj X nL w M (pc + 1) lv (.int (x / y) :: st)) : Zj X nL w M pc lv (.int y :: .int x :: st) := by
  obtain ⟨p, l, e, R, s, m, args, below, meth, c, A, Q⟩ := X
  obtain ⟨hx, hb, -⟩ := C
  exact fun H locs ls hl hP hS => lv_idiv hx hb hd hne (kk H locs ls hl hP hS)
theorem z_irem (C : Zc X cc own nL rm w) {x y : Int32} (hd : decode cc pc = .ok (.irem, 1)) (hne : ¬ y = 0) (kk : Zj X nL w M (pc + 1) lv (.int (x - x / y * y) :: st)) : Zj X nL w M pc lv (.int y :: .int x :: st) := by
  obtain ⟨p, l, e, R, s, m, args, below, meth, c, A, Q⟩ := X
  obtain ⟨hx, hb, -⟩ := C
  exact fun H locs ls hl hP hS => lv_irem hx hb hd hne (kk H locs ls hl hP hS)
theorem z_ladd (C : Zc X cc own nL rm w) {x y : Int64} (hd : decode cc pc = .ok (.ladd, 1)) (kk : Zj X nL w M (pc + 1) lv (.long (x + y) :: st)) : Zj X nL w M pc lv (.long y :: .long x :: st) := by
  obtain ⟨p, l, e, R, s, m, args, below, meth, c, A, Q⟩ := X
  obtain ⟨hx, hb, -⟩ := C
  exact fun H locs ls hl hP hS => lv_ladd hx hb hd (kk H locs ls hl hP hS)
theorem z_lsub (C : Zc X cc own nL rm w) {x y : Int64} (hd : decode cc pc = .ok (.lsub, 1)) (kk : Zj X nL w M (pc + 1) lv (.long (x - y) :: st)) : Zj X nL w M pc lv (.long y :: .long x :: st) := by
  obtain ⟨p, l, e, R, s, m, args, below, meth, c, A, Q⟩ := X
  obtain ⟨hx, hb, -⟩ := C
  exact fun H locs ls hl hP hS => lv_lsub hx hb hd (kk H locs ls hl hP hS)
theorem z_lmul (C : Zc X cc own nL rm w) {x y : Int64} (hd : decode cc pc = .ok (.lmul, 1)) (kk : Zj X nL w M (pc + 1) lv (.long (x * y) :: st)) : Zj X nL w M pc lv (.long y :: .long x :: st) := by
  obtain ⟨p, l, e, R, s, m, args, below, meth, c, A, Q⟩ := X
  obtain ⟨hx, hb, -⟩ := C
  exact fun H locs ls hl hP hS => lv_lmul hx hb hd (kk H locs ls hl hP hS)
theorem z_ldiv (C : Zc X cc own nL rm w) {x y : Int64} (hd : decode cc pc = .ok (.ldiv, 1)) (hne : ¬ y = 0) (kk : Zj X nL w M (pc + 1) lv (.long (x / y) :: st)) : Zj X nL w M pc lv (.long y :: .long x :: st) := by
  obtain ⟨p, l, e, R, s, m, args, below, meth, c, A, Q⟩ := X
  obtain ⟨hx, hb, -⟩ := C
  exact fun H locs ls hl hP hS => lv_ldiv hx hb hd hne (kk H locs ls hl hP hS)
theorem z_lrem (C : Zc X cc own nL rm w) {x y : Int64} (hd : decode cc pc = .ok (.lrem, 1)) (hne : ¬ y = 0) (kk : Zj X nL w M (pc + 1) lv (.long (x - x / y * y) :: st)) : Zj X nL w M pc lv (.long y :: .long x :: st) := by
  obtain ⟨p, l, e, R, s, m, args, below, meth, c, A, Q⟩ := X
  obtain ⟨hx, hb, -⟩ := C
  exact fun H locs ls hl hP hS => lv_lrem hx hb hd hne (kk H locs ls hl hP hS)
theorem z_ishl (C : Zc X cc own nL rm w) {x y : Int32} (hd : decode cc pc = .ok (.ishl, 1)) (kk : Zj X nL w M (pc + 1) lv (.int (x <<< (y &&& 31)) :: st)) : Zj X nL w M pc lv (.int y :: .int x :: st) := by
  obtain ⟨p, l, e, R, s, m, args, below, meth, c, A, Q⟩ := X
  obtain ⟨hx, hb, -⟩ := C
  exact fun H locs ls hl hP hS => lv_ishl hx hb hd (kk H locs ls hl hP hS)
theorem z_ishr (C : Zc X cc own nL rm w) {x y : Int32} (hd : decode cc pc = .ok (.ishr, 1)) (kk : Zj X nL w M (pc + 1) lv (.int (x >>> (y &&& 31)) :: st)) : Zj X nL w M pc lv (.int y :: .int x :: st) := by
  obtain ⟨p, l, e, R, s, m, args, below, meth, c, A, Q⟩ := X
  obtain ⟨hx, hb, -⟩ := C
  exact fun H locs ls hl hP hS => lv_ishr hx hb hd (kk H locs ls hl hP hS)
def ushr32 (x y : Int32) : Int32 := (x.toUInt32 >>> (y.toUInt32 &&& Int32.toUInt32 31)).toInt32
theorem z_iushr (C : Zc X cc own nL rm w) {x y : Int32} (hd : decode cc pc = .ok (.iushr, 1)) (kk : Zj X nL w M (pc + 1) lv (.int (ushr32 x y) :: st)) : Zj X nL w M pc lv (.int y :: .int x :: st) := by
  obtain ⟨p, l, e, R, s, m, args, below, meth, c, A, Q⟩ := X
  obtain ⟨hx, hb, -⟩ := C
  exact fun H locs ls hl hP hS => lv_iushr hx hb hd rfl (kk H locs ls hl hP hS)
theorem z_lshl (C : Zc X cc own nL rm w) {x : Int64} {y : Int32} (hd : decode cc pc = .ok (.lshl, 1)) (kk : Zj X nL w M (pc + 1) lv (.long (x <<< (y.toInt64 &&& 63)) :: st)) : Zj X nL w M pc lv (.int y :: .long x :: st) := by
  obtain ⟨p, l, e, R, s, m, args, below, meth, c, A, Q⟩ := X
  obtain ⟨hx, hb, -⟩ := C
  exact fun H locs ls hl hP hS => lv_lshl hx hb hd rfl (kk H locs ls hl hP hS)
theorem z_i2l (C : Zc X cc own nL rm w) {x : Int32} (hd : decode cc pc = .ok (.i2l, 1)) (kk : Zj X nL w M (pc + 1) lv (.long x.toInt64 :: st)) : Zj X nL w M pc lv (.int x :: st) := by
  obtain ⟨p, l, e, R, s, m, args, below, meth, c, A, Q⟩ := X
  obtain ⟨hx, hb, -⟩ := C
  exact fun H locs ls hl hP hS => lv_i2l hx hb hd rfl (kk H locs ls hl hP hS)
theorem z_i2b (C : Zc X cc own nL rm w) {x : Int32} (hd : decode cc pc = .ok (.i2b, 1)) (kk : Zj X nL w M (pc + 1) lv (.int x.toInt8.toInt32 :: st)) : Zj X nL w M pc lv (.int x :: st) := by
  obtain ⟨p, l, e, R, s, m, args, below, meth, c, A, Q⟩ := X
  obtain ⟨hx, hb, -⟩ := C
  exact fun H locs ls hl hP hS => lv_i2b hx hb hd rfl (kk H locs ls hl hP hS)
theorem z_i2s (C : Zc X cc own nL rm w) {x : Int32} (hd : decode cc pc = .ok (.i2s, 1)) (kk : Zj X nL w M (pc + 1) lv (.int x.toInt16.toInt32 :: st)) : Zj X nL w M pc lv (.int x :: st) := by
  obtain ⟨p, l, e, R, s, m, args, below, meth, c, A, Q⟩ := X
  obtain ⟨hx, hb, -⟩ := C
  exact fun H locs ls hl hP hS => lv_i2s hx hb hd rfl (kk H locs ls hl hP hS)
theorem z_lcmp (C : Zc X cc own nL rm w) {x y : Int64} (hd : decode cc pc = .ok (.lcmp, 1)) (kk : Zj X nL w M (pc + 1) lv (.int (lg_cmp x y) :: st)) : Zj X nL w M pc lv (.long y :: .long x :: st) := by
  obtain ⟨p, l, e, R, s, m, args, below, meth, c, A, Q⟩ := X
  obtain ⟨hx, hb, -⟩ := C
  exact fun H locs ls hl hP hS => W.lcmp hx hb hd (kk H locs ls hl hP hS)
theorem z_dup (C : Zc X cc own nL rm w) {va : Value} (hd : decode cc pc = .ok (.dup, 1)) (hva : va.category = 1) (kk : Zj X nL w M (pc + 1) lv (va :: va :: st)) : Zj X nL w M pc lv (va :: st) := by
  obtain ⟨p, l, e, R, s, m, args, below, meth, c, A, Q⟩ := X
  obtain ⟨hx, hb, -⟩ := C
  exact fun H locs ls hl hP hS => lv_dup hx hb hd hva (kk H locs ls hl hP hS)
theorem z_pop (C : Zc X cc own nL rm w) {va : Value} (hd : decode cc pc = .ok (.pop, 1)) (hva : va.category = 1) (kk : Zj X nL w M (pc + 1) lv st) : Zj X nL w M pc lv (va :: st) := by
  obtain ⟨p, l, e, R, s, m, args, below, meth, c, A, Q⟩ := X
  obtain ⟨hx, hb, -⟩ := C
  exact fun H locs ls hl hP hS => lv_pop hx hb hd hva (kk H locs ls hl hP hS)
theorem z_dup2 (C : Zc X cc own nL rm w) {va vb : Value} (hd : decode cc pc = .ok (.dup2, 1)) (hva : va.category = 1) (hvb : vb.category = 1) (kk : Zj X nL w M (pc + 1) lv (va :: vb :: va :: vb :: st)) : Zj X nL w M pc lv (va :: vb :: st) := by
  obtain ⟨p, l, e, R, s, m, args, below, meth, c, A, Q⟩ := X
  obtain ⟨hx, hb, -⟩ := C
  exact fun H locs ls hl hP hS => lv_dup2_11 hx hb hd hva hvb (kk H locs ls hl hP hS)
theorem z_goto (C : Zc X cc own nL rm w) {off : Int} (tgt : Nat) (hd : decode cc pc = .ok (.goto off, 3)) (ht : (pc : Int) + off = (tgt : Int)) (kk : Zj X nL w M tgt lv st) : Zj X nL w M pc lv st := by
  obtain ⟨p, l, e, R, s, m, args, below, meth, c, A, Q⟩ := X
  obtain ⟨hx, hb, -⟩ := C
  exact fun H locs ls hl hP hS => lv_goto hx hb hd ht (kk H locs ls hl hP hS)
theorem z_if_eq (C : Zc X cc own nL rm w) {x : Int32} {off : Int} (tgt : Nat) (hd : decode cc pc = .ok (.ifCond .eq off, 3)) (ht : (pc : Int) + off = (tgt : Int)) (kt : x = 0 → Zj X nL w M tgt lv st) (kf : ¬ x = 0 → Zj X nL w M (pc + 3) lv st) : Zj X nL w M pc lv (.int x :: st) := by
  obtain ⟨p, l, e, R, s, m, args, below, meth, c, A, Q⟩ := X
  obtain ⟨hx, hb, -⟩ := C
  exact fun H locs ls hl hP hS => lv_if_eq hx hb hd ht (fun h => kt h H locs ls hl hP hS) (fun h => kf h H locs ls hl hP hS)
theorem z_ic_eq (C : Zc X cc own nL rm w) {x y : Int32} {off : Int} (tgt : Nat) (hd : decode cc pc = .ok (.if_icmp .eq off, 3)) (ht : (pc : Int) + off = (tgt : Int)) (kt : x = y → Zj X nL w M tgt lv st) (kf : ¬ x = y → Zj X nL w M (pc + 3) lv st) : Zj X nL w M pc lv (.int y :: .int x :: st) := by
  obtain ⟨p, l, e, R, s, m, args, below, meth, c, A, Q⟩ := X
  obtain ⟨hx, hb, -⟩ := C
  exact fun H locs ls hl hP hS => lv_icmp_eq hx hb hd ht (fun h => kt h H locs ls hl hP hS) (fun h => kf h H locs ls hl hP hS)
theorem z_if_ne (C : Zc X cc own nL rm w) {x : Int32} {off : Int} (tgt : Nat) (hd : decode cc pc = .ok (.ifCond .ne off, 3)) (ht : (pc : Int) + off = (tgt : Int)) (kt : ¬ x = 0 → Zj X nL w M tgt lv st) (kf : x = 0 → Zj X nL w M (pc + 3) lv st) : Zj X nL w M pc lv (.int x :: st) := by
  obtain ⟨p, l, e, R, s, m, args, below, meth, c, A, Q⟩ := X
  obtain ⟨hx, hb, -⟩ := C
  exact fun H locs ls hl hP hS => lv_if_ne hx hb hd ht (fun h => kt h H locs ls hl hP hS) (fun h => kf h H locs ls hl hP hS)
theorem z_ic_ne (C : Zc X cc own nL rm w) {x y : Int32} {off : Int} (tgt : Nat) (hd : decode cc pc = .ok (.if_icmp .ne off, 3)) (ht : (pc : Int) + off = (tgt : Int)) (kt : ¬ x = y → Zj X nL w M tgt lv st) (kf : x = y → Zj X nL w M (pc + 3) lv st) : Zj X nL w M pc lv (.int y :: .int x :: st) := by
  obtain ⟨p, l, e, R, s, m, args, below, meth, c, A, Q⟩ := X
  obtain ⟨hx, hb, -⟩ := C
  exact fun H locs ls hl hP hS => lv_icmp_ne hx hb hd ht (fun h => kt h H locs ls hl hP hS) (fun h => kf h H locs ls hl hP hS)
theorem z_if_lt (C : Zc X cc own nL rm w) {x : Int32} {off : Int} (tgt : Nat) (hd : decode cc pc = .ok (.ifCond .lt off, 3)) (ht : (pc : Int) + off = (tgt : Int)) (kt : x < 0 → Zj X nL w M tgt lv st) (kf : ¬ x < 0 → Zj X nL w M (pc + 3) lv st) : Zj X nL w M pc lv (.int x :: st) := by
  obtain ⟨p, l, e, R, s, m, args, below, meth, c, A, Q⟩ := X
  obtain ⟨hx, hb, -⟩ := C
  exact fun H locs ls hl hP hS => lv_if_lt hx hb hd ht (fun h => kt h H locs ls hl hP hS) (fun h => kf h H locs ls hl hP hS)
theorem z_ic_lt (C : Zc X cc own nL rm w) {x y : Int32} {off : Int} (tgt : Nat) (hd : decode cc pc = .ok (.if_icmp .lt off, 3)) (ht : (pc : Int) + off = (tgt : Int)) (kt : x < y → Zj X nL w M tgt lv st) (kf : ¬ x < y → Zj X nL w M (pc + 3) lv st) : Zj X nL w M pc lv (.int y :: .int x :: st) := by
  obtain ⟨p, l, e, R, s, m, args, below, meth, c, A, Q⟩ := X
  obtain ⟨hx, hb, -⟩ := C
  exact fun H locs ls hl hP hS => lv_icmp_lt hx hb hd ht (fun h => kt h H locs ls hl hP hS) (fun h => kf h H locs ls hl hP hS)
theorem z_if_ge (C : Zc X cc own nL rm w) {x : Int32} {off : Int} (tgt : Nat) (hd : decode cc pc = .ok (.ifCond .ge off, 3)) (ht : (pc : Int) + off = (tgt : Int)) (kt : 0 ≤ x → Zj X nL w M tgt lv st) (kf : ¬ 0 ≤ x → Zj X nL w M (pc + 3) lv st) : Zj X nL w M pc lv (.int x :: st) := by
  obtain ⟨p, l, e, R, s, m, args, below, meth, c, A, Q⟩ := X
  obtain ⟨hx, hb, -⟩ := C
  exact fun H locs ls hl hP hS => lv_if_ge hx hb hd ht (fun h => kt h H locs ls hl hP hS) (fun h => kf h H locs ls hl hP hS)
theorem z_ic_ge (C : Zc X cc own nL rm w) {x y : Int32} {off : Int} (tgt : Nat) (hd : decode cc pc = .ok (.if_icmp .ge off, 3)) (ht : (pc : Int) + off = (tgt : Int)) (kt : y ≤ x → Zj X nL w M tgt lv st) (kf : ¬ y ≤ x → Zj X nL w M (pc + 3) lv st) : Zj X nL w M pc lv (.int y :: .int x :: st) := by
  obtain ⟨p, l, e, R, s, m, args, below, meth, c, A, Q⟩ := X
  obtain ⟨hx, hb, -⟩ := C
  exact fun H locs ls hl hP hS => lv_icmp_ge hx hb hd ht (fun h => kt h H locs ls hl hP hS) (fun h => kf h H locs ls hl hP hS)
theorem z_if_gt (C : Zc X cc own nL rm w) {x : Int32} {off : Int} (tgt : Nat) (hd : decode cc pc = .ok (.ifCond .gt off, 3)) (ht : (pc : Int) + off = (tgt : Int)) (kt : 0 < x → Zj X nL w M tgt lv st) (kf : ¬ 0 < x → Zj X nL w M (pc + 3) lv st) : Zj X nL w M pc lv (.int x :: st) := by
  obtain ⟨p, l, e, R, s, m, args, below, meth, c, A, Q⟩ := X
  obtain ⟨hx, hb, -⟩ := C
  exact fun H locs ls hl hP hS => lv_if_gt hx hb hd ht (fun h => kt h H locs ls hl hP hS) (fun h => kf h H locs ls hl hP hS)
theorem z_ic_gt (C : Zc X cc own nL rm w) {x y : Int32} {off : Int} (tgt : Nat) (hd : decode cc pc = .ok (.if_icmp .gt off, 3)) (ht : (pc : Int) + off = (tgt : Int)) (kt : y < x → Zj X nL w M tgt lv st) (kf : ¬ y < x → Zj X nL w M (pc + 3) lv st) : Zj X nL w M pc lv (.int y :: .int x :: st) := by
  obtain ⟨p, l, e, R, s, m, args, below, meth, c, A, Q⟩ := X
  obtain ⟨hx, hb, -⟩ := C
  exact fun H locs ls hl hP hS => lv_icmp_gt hx hb hd ht (fun h => kt h H locs ls hl hP hS) (fun h => kf h H locs ls hl hP hS)
theorem z_if_le (C : Zc X cc own nL rm w) {x : Int32} {off : Int} (tgt : Nat) (hd : decode cc pc = .ok (.ifCond .le off, 3)) (ht : (pc : Int) + off = (tgt : Int)) (kt : x ≤ 0 → Zj X nL w M tgt lv st) (kf : ¬ x ≤ 0 → Zj X nL w M (pc + 3) lv st) : Zj X nL w M pc lv (.int x :: st) := by
  obtain ⟨p, l, e, R, s, m, args, below, meth, c, A, Q⟩ := X
  obtain ⟨hx, hb, -⟩ := C
  exact fun H locs ls hl hP hS => lv_if_le hx hb hd ht (fun h => kt h H locs ls hl hP hS) (fun h => kf h H locs ls hl hP hS)
theorem z_ic_le (C : Zc X cc own nL rm w) {x y : Int32} {off : Int} (tgt : Nat) (hd : decode cc pc = .ok (.if_icmp .le off, 3)) (ht : (pc : Int) + off = (tgt : Int)) (kt : x ≤ y → Zj X nL w M tgt lv st) (kf : ¬ x ≤ y → Zj X nL w M (pc + 3) lv st) : Zj X nL w M pc lv (.int y :: .int x :: st) := by
  obtain ⟨p, l, e, R, s, m, args, below, meth, c, A, Q⟩ := X
  obtain ⟨hx, hb, -⟩ := C
  exact fun H locs ls hl hP hS => lv_icmp_le hx hb hd ht (fun h => kt h H locs ls hl hP hS) (fun h => kf h H locs ls hl hP hS)
/-- fewer or other locals, by places -/
theorem z_sub (ks : List Nat) {lv' : List (Nat × Value)} (h : lv_pick lv ks = lv') (kk : Zj X nL w M pc lv' st) : Zj X nL w M pc lv st := by
  obtain ⟨p, l, e, R, s, m, args, below, meth, c, A, Q⟩ := X
  exact fun H locs ls hl hP hS => kk H locs ls (lv_sub hl ks h) hP hS
/-- a switch by a table from 0 on -/
theorem z_table (C : Zc X cc own nL rm w) {x : Int32} {dflt hi : Int} {offs : Array Int} {len : Nat} (tgts : List Nat) (td : Nat) (hd : decode cc pc = .ok (.tableswitch dflt 0 hi offs, len)) (ho : offs.toList = tgts.map (fun t : Nat => (t : Int) - (pc : Int))) (hh : hi = (tgts.length : Int) - 1) (hq : dflt = (td : Int) - (pc : Int)) (hn : tgts.length < 1000)
    (kin : ∀ (k t : Nat), tgts[k]? = some t → x = nI k → Zj X nL w M t lv st) (kout : (∀ k, k < tgts.length → ¬ x = nI k) → Zj X nL w M td lv st) : Zj X nL w M pc lv (.int x :: st) := by
  by_cases h : 0 ≤ x.toInt ∧ x.toInt < (tgts.length : Int)
  · have hk : x = nI x.toInt.toNat := by
      apply Int32.toInt_inj.mp
      rw [nI_toInt (by omega)]
      omega
    have hlt : x.toInt.toNat < tgts.length := by omega
    have h1 : tgts[x.toInt.toNat]? = some tgts[x.toInt.toNat] := List.getElem?_eq_getElem hlt
    have kk := kin _ _ h1 hk
    obtain ⟨p, l, e, R, s, m, args, below, meth, c, A, Q⟩ := X
    obtain ⟨hx, hb, -⟩ := C
    refine fun H locs ls hl hP hS => lv_tableIn (tgt := tgts[x.toInt.toNat]) (off := (tgts[x.toInt.toNat] : Int) - (pc : Int)) hx hb hd (by omega) (by omega) ?_ (by omega) (kk H locs ls hl hP hS)
    rw [← Array.getElem?_toList, ho, List.getElem?_map, show (x.toInt - 0).toNat = x.toInt.toNat by omega, h1]
    rfl
  · have kk := kout (fun k hk e => h (by rw [e, nI_toInt (by omega)]; omega))
    obtain ⟨p, l, e, R, s, m, args, below, meth, c, A, Q⟩ := X
    obtain ⟨hx, hb, -⟩ := C
    exact fun H locs ls hl hP hS => lv_tableOut (tgt := td) hx hb hd (by omega) (by omega) (kk H locs ls hl hP hS)
/-! the heap's rows -/
theorem z_get (C : Zc X cc own nL rm w) {ref Cn : String} {T : u_T} {N ci index a : Nat} (hin : ∀ q ∈ u_ws Cn T N, q ∈ zt) (q0 : Nat) {fs : List Value} (he : (w.2.2.2.1 M)[q0]? = some (a, .inr (ci, fs))) (hc : w.2.1[ci]? = some (Cn, T, N)) (k : Nat) (hk : Nat.blt k N = true) (hlink : Cond.fieldLink own index ref (T k).2.1 (T k).2.2.1 ∈ zt) (href : (T k).1 = ref) {v : Value} (hv : fs[k]? = some v) (hd : decode cc pc = .ok (.getfield index, 3))
    (kk : Zj X nL w M (pc + 3) lv (v :: st)) : Zj X nL w M pc lv (.ref a :: st) := by
  obtain ⟨p, l, e, R, s, m, args, below, meth, c, A, Q⟩ := X
  obtain ⟨hx, hb, hml, ho, ht, hK, hDa, hA, -⟩ := C
  subst href
  exact fun H locs ls hl hP hS => va_get hx hb ht hin ho hK hP q0 he hc k (Nat.le_of_ble_eq_true hk) (ht _ hlink) (fun _ h => h) hv hd (kk H locs ls hl hP hS)
theorem z_put (C : Zc X cc own nL rm w) {ref Cn : String} {T : u_T} {N ci index a : Nat} (hin : ∀ q ∈ u_ws Cn T N, q ∈ zt) (ty0 : Nat → FieldType) (hty : ∀ k, k < N → parseFieldDescriptor (T k).2.2.1 = some (ty0 k)) (hnm : ∀ a, a < N → ∀ b, b < N → a ≠ b → (T a).2.1 ≠ (T b).2.1) (q0 : Nat) {fs : List Value} (he : (w.2.2.2.1 M)[q0]? = some (a, .inr (ci, fs))) (hc : w.2.1[ci]? = some (Cn, T, N)) (k : Nat) (hk : Nat.blt k N = true) (hlink : Cond.fieldLink own index ref (T k).2.1 (T k).2.2.1 ∈ zt) (href : (T k).1 = ref) (hfin : (T k).2.2.2 = false) {ty : FieldType} {v : Value} (hty1 : parseFieldDescriptor (T k).2.2.1 = some ty) (hn : narrow ty v = v) (hfit : fits ty v = true) (hl0 : k < fs.length) (hd : decode cc pc = .ok (.putfield index, 3))
    {M2 : Mem} (hset : (w.2.2.2.1 M).set q0 (a, .inr (ci, fs.set k v)) = w.2.2.2.1 M2) (kk : Zj X nL w M2 (pc + 3) lv st) : Zj X nL w M pc lv (v :: .ref a :: st) := by
  obtain ⟨p, l, e, R, s, m, args, below, meth, c, A, Q⟩ := X
  obtain ⟨hx, hb, hml, ho, ht, hK, hDa, hA, -⟩ := C
  subst href
  exact fun H locs ls hl hP hS => va_put hx hb ht hin ty0 hty hnm ho hK hP (hDa M) hS q0 he hc k (Nat.le_of_ble_eq_true hk) (ht _ hlink) (fun _ h => h) hfin hty1 hn hfit hl0 hd (fun H locs hP hD hS => kk H locs ls hl (hset ▸ hP) hS)
theorem z_iald (C : Zc X cc own nL rm w) (q0 t0 : Nat) {a n : Nat} {cA : ClassId} {f : Nat → Int32} (ha : (w.2.2.2.1 M)[q0]? = some (a, .inl (cA, n, .inl f))) (ht : w.2.2.1[t0]? = some (cA, .int)) {i : Int32} (hi : vp_in i n) (hd : decode cc pc = .ok (.iaload, 1))
    (kk : Zj X nL w M (pc + 1) lv (.int (f i.toNatClampNeg) :: st)) : Zj X nL w M pc lv (.int i :: .ref a :: st) := by
  obtain ⟨p, l, e, R, s, m, args, below, meth, c, A, Q⟩ := X
  obtain ⟨hx, hb, hml, ho, -, hK, hDa, hA, -⟩ := C
  exact fun H locs ls hl hP hS => va_iald hx hb hK hP q0 t0 ha ht hi hd (kk H locs ls hl hP hS)
theorem z_iast (C : Zc X cc own nL rm w) (q0 t0 : Nat) {a n : Nat} {cA : ClassId} {f : Nat → Int32} (ha : (w.2.2.2.1 M)[q0]? = some (a, .inl (cA, n, .inl f))) (ht : w.2.2.1[t0]? = some (cA, .int)) {i x : Int32} (hi : vp_in i n) (hd : decode cc pc = .ok (.iastore, 1))
    {M2 : Mem} (hset : (w.2.2.2.1 M).set q0 (a, .inl (cA, n, .inl (upd f i.toNatClampNeg x))) = w.2.2.2.1 M2) (kk : Zj X nL w M2 (pc + 1) lv st) : Zj X nL w M pc lv (.int x :: .int i :: .ref a :: st) := by
  obtain ⟨p, l, e, R, s, m, args, below, meth, c, A, Q⟩ := X
  obtain ⟨hx, hb, hml, ho, -, hK, hDa, hA, -⟩ := C
  exact fun H locs ls hl hP hS => va_iast hx hb hK hP (hDa M) hS q0 t0 ha ht hi hd (fun H locs hP hD hS => kk H locs ls hl (hset ▸ hP) hS)
theorem z_alen (C : Zc X cc own nL rm w) (q0 t0 : Nat) {a : Nat} {cA : ClassId} {x : vp_A} {ty : FieldType} (ha : (w.2.2.2.1 M)[q0]? = some (a, .inl (cA, x))) (ht : w.2.2.1[t0]? = some (cA, ty)) {v : Int32} (hv : Int32.ofNat x.1 = v) (hd : decode cc pc = .ok (.arraylength, 1))
    (kk : Zj X nL w M (pc + 1) lv (.int v :: st)) : Zj X nL w M pc lv (.ref a :: st) := by
  obtain ⟨p, l, e, R, s, m, args, below, meth, c, A, Q⟩ := X
  obtain ⟨hx, hb, hml, ho, -, hK, hDa, hA, -⟩ := C
  exact fun H locs ls hl hP hS => va_alen hx hb hK hP q0 t0 ha ht hv hd (kk H locs ls hl hP hS)
theorem z_aald (C : Zc X cc own nL rm w) (q0 t0 : Nat) {a n : Nat} {cA : ClassId} {Cn : String} {f : Nat → Option Nat} (ha : (w.2.2.2.1 M)[q0]? = some (a, .inl (cA, n, .inr (.inr (.inr (.inr f)))))) (ht : w.2.2.1[t0]? = some (cA, .object Cn)) {i : Int32} (hi : vp_in i n) {v : Value} (hv : va_rf (f i.toNatClampNeg) = v) (hd : decode cc pc = .ok (.aaload, 1))
    (kk : Zj X nL w M (pc + 1) lv (v :: st)) : Zj X nL w M pc lv (.int i :: .ref a :: st) := by
  obtain ⟨p, l, e, R, s, m, args, below, meth, c, A, Q⟩ := X
  obtain ⟨hx, hb, hml, ho, -, hK, hDa, hA, -⟩ := C
  exact fun H locs ls hl hP hS => va_aldq hx hb hK hP q0 t0 ha ht hi hd (hv ▸ kk H locs ls hl hP hS)
theorem z_copy (C : Zc X cc own nL rm w) {index : Nat} (hlink : Cond.methodLink own index arraycopyName ∈ zt) (hnat : Cond.native arraycopyName ∈ zt) (hstat : Cond.static arraycopyName ∈ zt) (hini : Cond.initialized "java/lang/System" ∈ zt) (q0 q1 t0 : Nat) {a0 a n0 n1 : Nat} {c0 : ClassId} {f g : Nat → Int32} (ha0 : (w.2.2.2.1 M)[q0]? = some (a0, .inl (c0, n0, .inl f))) (ha1 : (w.2.2.2.1 M)[q1]? = some (a, .inl (c0, n1, .inl g))) (ht : w.2.2.1[t0]? = some (c0, .int))
    {sp dp n : Int32} (h1 : ¬ sp < 0) (h2 : ¬ dp < 0) (h3 : ¬ n < 0) (h4 : sp.toNatClampNeg + n.toNatClampNeg ≤ n0) (h5 : dp.toNatClampNeg + n.toNatClampNeg ≤ n1) (hfr : 1 ≤ rm.frames) (hlo : (st.map fun v => v.category).sum + (nativeFrameWords "java/lang/System" "arraycopy" 5 + 11) ≤ rm.locals) (hd : decode cc pc = .ok (.invokestatic index, 3))
    {M2 : Mem} (hset : (w.2.2.2.1 M).set q1 (a, .inl (c0, n1, .inl (va_cpy f g sp.toNatClampNeg dp.toNatClampNeg n.toNatClampNeg))) = w.2.2.2.1 M2) (kk : Zj X nL w M2 (pc + 3) lv st) : Zj X nL w M pc lv (.int n :: .int dp :: .ref a :: .int sp :: .ref a0 :: st) := by
  obtain ⟨p, l, e, R, s, m, args, below, meth, c, A, Q⟩ := X
  obtain ⟨hx, hb, hml, ho, htb, hK, hDa, hA, -, hR, -⟩ := C
  subst hR
  exact fun H locs ls hl hP hS => va_copyi hx hb (hml.trans hl.1.symm) ho (htb _ hlink) (htb _ hnat) (htb _ hstat) (htb _ hini) hK hP (hDa M) hS q0 q1 t0 t0 ha0 ha1 ht ht rfl h1 h2 h3 h4 h5 (fun _ _ => rfl) hfr hlo hd (fun H locs hP hD hS => kk H locs ls hl (hset ▸ hP) hS)
/-! returns -/
def Zat (w : ZW) (A : Nat → Prop) (M : Mem) (t : State) : Prop := va_P w.1 w.2.1 (w.2.2.2.1 M) t.heap ∧ va_K w.1 w.2.1 w.2.2.1 t ∧ va_D A (w.2.2.2.1 M)
def Zri (X : ZX) (w : ZW) (ret : Option FieldType) (post : Int32 → Mem → Prop) : Prop := match X with
  | (p, l, e, R, s, m, args, below, meth, c, A, Q) => meth.sig.returnType = ret ∧ Q = MQ below (va_Qi post (Zat w A) A) args s 0 0 A
def Zrl (X : ZX) (w : ZW) (post : Int64 → Mem → Prop) : Prop := match X with
  | (p, l, e, R, s, m, args, below, meth, c, A, Q) => meth.sig.returnType = some .long ∧ Q = MQ below (va_Ql post (Zat w A) A) args s 0 0 A
def Zrv (X : ZX) (w : ZW) (post : Mem → Prop) : Prop := match X with
  | (p, l, e, R, s, m, args, below, meth, c, A, Q) => meth.sig.returnType = none ∧ Q = MQ below (va_Qv post (Zat w A) A) args s 0 0 A
def Zrr (X : ZX) (w : ZW) (ret : Option FieldType) (post : Mem → Prop) (ra : Nat) : Prop := match X with
  | (p, l, e, R, s, m, args, below, meth, c, A, Q) => meth.sig.returnType = ret ∧ Q = MQ below (va_Qr post (fun u a t => a = ra ∧ Zat w A u t) A) args s 0 0 A
theorem z_iret (C : Zc X cc own nL rm w) {post : Int32 → Mem → Prop} (hr : Zri X w (some .int) post) {v : Int32} (hp : post v M) (hd : decode cc pc = .ok (.ireturn, 1)) : Zj X nL w M pc lv [.int v] := by
  obtain ⟨p, l, e, R, s, m, args, below, meth, c, A, Q⟩ := X
  obtain ⟨hx, hb, hml, ho, htb, hK, hDa, hA, hlk, hR, -⟩ := C
  obtain ⟨hr, rfl⟩ := hr
  exact fun H locs ls hl hP hS => W.iret hx hb hr (fun t ht hW => ⟨⟨v, M, rfl, hp, by rw [ht]; exact hP, va_K.moved hW.alike hK, hDa M⟩, hS.F ht⟩) hS.2.2 hd hlk
theorem z_zret (C : Zc X cc own nL rm w) {post : Int32 → Mem → Prop} (hr : Zri X w (some .boolean) post) {v : Int32} (hv : v = 0 ∨ v = 1) (hp : post v M) (hd : decode cc pc = .ok (.ireturn, 1)) : Zj X nL w M pc lv [.int v] := by
  obtain ⟨p, l, e, R, s, m, args, below, meth, c, A, Q⟩ := X
  obtain ⟨hx, hb, hml, ho, htb, hK, hDa, hA, hlk, hR, -⟩ := C
  obtain ⟨hr, rfl⟩ := hr
  have hn : narrow .boolean (.int v) = .int v := by rcases hv with rfl | rfl <;> rfl
  exact fun H locs ls hl hP hS => W.zret hx hb hr hn (fun t ht hW => ⟨⟨v, M, rfl, hp, by rw [ht]; exact hP, va_K.moved hW.alike hK, hDa M⟩, hS.F ht⟩) hS.2.2 hd hlk
theorem z_lret (C : Zc X cc own nL rm w) {post : Int64 → Mem → Prop} (hr : Zrl X w post) {v : Int64} (hp : post v M) (hd : decode cc pc = .ok (.lreturn, 1)) : Zj X nL w M pc lv [.long v] := by
  obtain ⟨p, l, e, R, s, m, args, below, meth, c, A, Q⟩ := X
  obtain ⟨hx, hb, hml, ho, htb, hK, hDa, hA, hlk, hR, -⟩ := C
  obtain ⟨hr, rfl⟩ := hr
  exact fun H locs ls hl hP hS => W.lret hx hb hr (fun t ht hW => ⟨⟨v, M, rfl, hp, by rw [ht]; exact hP, va_K.moved hW.alike hK, hDa M⟩, hS.F ht⟩) hS.2.2 hd hlk
theorem z_vret (C : Zc X cc own nL rm w) {post : Mem → Prop} (hr : Zrv X w post) (hp : post M) (hd : decode cc pc = .ok (.return_, 1)) : Zj X nL w M pc lv [] := by
  obtain ⟨p, l, e, R, s, m, args, below, meth, c, A, Q⟩ := X
  obtain ⟨hx, hb, hml, ho, htb, hK, hDa, hA, hlk, hR, -⟩ := C
  obtain ⟨hr, rfl⟩ := hr
  exact fun H locs ls hl hP hS => W.vret hx hb hr (fun t ht hW => ⟨⟨M, rfl, hp, by rw [ht]; exact hP, va_K.moved hW.alike hK, hDa M⟩, hS.F ht⟩) hS.2.2 hd hlk
end ZR

