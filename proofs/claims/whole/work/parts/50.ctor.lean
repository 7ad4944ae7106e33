/-! constructors: worlds that grow -/
abbrev y_XH_init : MethodName := ⟨"SnowRoad$Sheet", "<init>", "()V"⟩
abbrev y_XG_init : MethodName := ⟨"SnowRoad$Sightings", "<init>", "()V"⟩
abbrev y_XT_init : MethodName := ⟨"SnowRoad$Text", "<init>", "(I)V"⟩
abbrev y_XO_init : MethodName := ⟨"SnowRoad$Told", "<init>", "()V"⟩
abbrev y_XW_init : MethodName := ⟨"SnowRoad$Winter", "<init>", "()V"⟩
abbrev y_R_init : MethodName := ⟨"SnowRoadModel", "<init>", "()V"⟩
abbrev y_X_init : MethodName := ⟨"SnowRoad", "<init>", "()V"⟩
def troom (j : Nat) : Int32 := if j = 0 then 12 else if j = 1 then 24 else if j = 2 then 15 else 8
def Zn (TR : Nat) (A : Nat → Prop) (U : State) (H : Heap) : Prop := va_AO "SnowRoad$Text" U ∧ va_AO "SnowRoad$Sheet" U ∧ va_Nw (.methodLinkNest "SnowRoad" 17 y_XO_init "SnowRoad") U ∧ va_Nw (.methodLinkNest "SnowRoad" 24 y_XG_init "SnowRoad") U ∧ va_Nw (.methodLinkNest "SnowRoad" 41 y_XW_init "SnowRoad") U ∧ va_Nw (.methodLinkNest "SnowRoad" 69 y_XH_init "SnowRoad") U ∧ va_Nw (.fieldLinkNest "SnowRoad$Text" 18 "SnowRoad" "TEXT_ROOM" "[I" "SnowRoad") U ∧ va_Z "SnowRoad" "TEXT_ROOM" "[I" (.ref TR) A U H ∧ va_T .int TR 4 (fun j => .int (troom j)) A U H
theorem zn_go {TR : Nat} {A B : Nat → Prop} {u U : State} {H H1 : Heap} (h : Zn TR A u H) (hW : u.WarmedH U.vm) (hq : ∀ a : Nat, a < H.size → ¬ A a → H1[a]? = H[a]?) (hAB : ∀ q, B q → A q) : Zn TR B U H1 := by
  obtain ⟨h1, h2, h3, h4, h5, h6, h7, h8, h9⟩ := h
  have hvm := hW.alike
  exact ⟨h1.moved hvm, h2.moved hvm, va_Nw.warmM hW h3, va_Nw.warmM hW h4, va_Nw.warmM hW h5, va_Nw.warmM hW h6, va_Nw.warmF hW h7, ((h8.kept hq).narrow hAB).moved hvm, ((h9.kept hq).narrow hAB).moved hvm⟩
theorem zn_same {TR : Nat} {A : Nat → Prop} {u U : State} {H : Heap} (h : Zn TR A u H) (hv : u.vm = U.vm) : Zn TR A U H := by
  obtain ⟨h1, h2, h3, h4, h5, h6, h7, h8, h9⟩ := h
  have hvm : u.vm.Alike U.vm := by rw [hv]; exact Vm.Alike.refl _
  exact ⟨h1.moved hvm, h2.moved hvm, va_Nw.same rfl hv h3, va_Nw.same rfl hv h4, va_Nw.same rfl hv h5, va_Nw.same rfl hv h6, va_Nw.same rfl hv h7, h8.moved hvm, h9.moved hvm⟩
abbrev TYS (cA cT cS : ClassId) : List (ClassId × FieldType) := [(cA, .int), (cT, .object "SnowRoad$Text"), (cS, .object "SnowRoad$Sheet")]
def Zk (X : ZX) (nL : Nat) (D : va_G) (ws : va_W) (kc ks : Nat) (pc : Nat) (lv : List (Nat × Value)) (st : List Value) : Prop :=
  match X with
  | (p, l, e, R, s, m, args, below, meth, c, A, Q) => ∀ (H : Heap) (locs : List Loc) (ls : Array Slot), lv_has ls nL lv → va_P D cls7 ws H → va_D A ws → va_S A s.heap H locs → W p l e R s m args below meth c H locs kc ks Q (F0 m pc ls st)
def Zkc (X : ZX) (cc : ByteArray) (own : String) (nL : Nat) (rm : Room) (D : va_G) (tys : List (ClassId × FieldType)) (TR : Nat) : Prop :=
  match X with
  | (p, l, e, R, s, m, args, below, meth, c, A, Q) => p.tables.exec = Jvm.exec ∧ c.code = cc ∧ c.maxLocals = nL ∧ s.vm.findClass own = some m.cls ∧ (∀ q ∈ zt, q.before args s = true) ∧ va_K D cls7 tys s ∧ (∀ q, s.heap.size ≤ q → A q) ∧ meth.locks = false ∧ R = rm ∧ Zn TR A s s.heap ∧ (meth.name = "<init>" ∨ own = "SnowRoadLaw")
def CtN (D : va_G) (tys : List (ClassId × FieldType)) (TR : Nat) (y : MethodName) (cy : ByteArray) (ml : Nat) (rmy : Room) (av : List Value) (ws0 : va_W) (ws1 : (Nat → Nat) → va_W) (mc ms : Nat) : Prop := ∀ (l : Launch) (sz : Nat), Met l y (zws y cy ml none) rmy (va_Pc av (fun U => U.heap.size = sz ∧ va_P D cls7 ws0 U.heap ∧ va_K D cls7 tys U ∧ va_D (fun _ => True) ws0 ∧ Zn TR (va_A ws0 sz) U U.heap)) (va_Qv (fun _ : Nat → Nat => True) (fun u t => va_P D cls7 (ws1 u) t.heap ∧ va_K D cls7 tys t ∧ va_D (va_A ws0 sz) (ws1 u)) (va_A ws0 sz)) mc ms (va_A ws0 sz)
def Zkr (X : ZX) (D : va_G) (tys : List (ClassId × FieldType)) (ws1 : (Nat → Nat) → va_W) (mc ms : Nat) : Prop := match X with
  | (p, l, e, R, s, m, args, below, meth, c, A, Q) => meth.sig.returnType = none ∧ Q = MQ below (va_Qv (fun _ : Nat → Nat => True) (fun u t => va_P D cls7 (ws1 u) t.heap ∧ va_K D cls7 tys t ∧ va_D A (ws1 u)) A) args s mc ms A
theorem zz_join {A : Nat → Prop} {D : va_G} {cl : List vw_C} {w1 w2 w1' : va_W} {H H1 : Heap} (hP : va_P D cl (w2 ++ w1) H) (hD : va_D A (w2 ++ w1)) (hk : ∀ q : Nat, q < H.size → ¬ va_A w1 H.size q → H1[q]? = H[q]?) (hF : ∀ q, va_A w1 H.size q → A q) (hP1 : va_P D cl w1' H1) (hD1 : va_D (va_A w1 H.size) w1') : va_P D cl (w2 ++ w1') H1 ∧ va_D A (w2 ++ w1') := by
  have left : ∀ (k : Nat) (q : Nat × va_E), w2[k]? = some q → (w2 ++ w1)[k]? = some q := fun k q hq => by
    rw [List.getElem?_append_left (List.getElem?_eq_some_iff.mp hq).1]; exact hq
  have apart : ∀ (k : Nat) (q : Nat × va_E), w2[k]? = some q → q.1 < H.size ∧ ¬ va_A w1 H.size q.1 := by
    intro k q hq
    have hl := (hP k q (left k q hq)).lt
    refine ⟨hl, fun h => ?_⟩
    rcases h with ⟨k2, e, h⟩ | h
    · have h2 : (w2 ++ w1)[w2.length + k2]? = some (q.1, e) := by
        rw [List.getElem?_append_right (Nat.le_add_right _ _), Nat.add_sub_cancel_left]; exact h
      have := hD.1 k (w2.length + k2) q (q.1, e) (left k q hq) h2 rfl
      have hlt := (List.getElem?_eq_some_iff.mp hq).1
      omega
    · omega
  refine ⟨va_P.app (fun k q hq => ?_) hP1, va_D.app ⟨fun i j p q hp hq e => hD.1 i j p q (left i p hp) (left j q hq) e, fun k q hq => hD.2 k q (left k q hq)⟩ (hD1.weaken (fun k q _ h => hF q.1 h)) (fun i j x y hx hy hxy => ?_)⟩
  · obtain ⟨g1, g2⟩ := apart k q hq
    exact (hP k q (left k q hq)).kept (hk q.1 g1 g2)
  · exact (apart i x hx).2 (by rw [hxy]; exact hD1.2 j y hy)
theorem tw_oi : Cond.instanceMethod objectInit ∈ zt := zt_mem 18 (by decide +kernel) (by decide +kernel)
theorem tw_oc : Cond.code objectInit ⟨#[0xb1]⟩ 1 none ∈ zt := zt_mem 19 (by decide +kernel) (by decide +kernel)
theorem tw_ac : Cond.arrayClass (newarray.typeOf .int) ∈ zt := zt_mem 91 (by decide +kernel) (by decide +kernel)
section ZK
variable {X : ZX} {cc : ByteArray} {own : String} {nL : Nat} {rm : Room} {D : va_G} {tys : List (ClassId × FieldType)} {TR : Nat} {ws : va_W} {kc ks pc : Nat} {lv : List (Nat × Value)} {st : List Value}
theorem k_iconst (C : Zkc X cc own nL rm D tys TR) {n : Int} {v : Int32} (hd : decode cc pc = .ok (.iconst n, 1)) (hv : Int32.ofInt n = v) (kk : Zk X nL D ws kc ks (pc + 1) lv (.int v :: st)) : Zk X nL D ws kc ks (pc) lv st := by
  obtain ⟨p, l, e, R, s, m, args, below, meth, c, A, Q⟩ := X
  obtain ⟨hx, hb, hml, ho, ht, hK, hA, hlk, hR, hZn, hin⟩ := C
  exact fun H locs ls hl hP hD hS => lv_iconst hx hb hd hv (kk H locs ls hl hP hD hS)
theorem k_bipush (C : Zkc X cc own nL rm D tys TR) {n : Int} {v : Int32} (hd : decode cc pc = .ok (.bipush n, 2)) (hv : (Int8.ofInt n).toInt32 = v) (kk : Zk X nL D ws kc ks (pc + 2) lv (.int v :: st)) : Zk X nL D ws kc ks (pc) lv st := by
  obtain ⟨p, l, e, R, s, m, args, below, meth, c, A, Q⟩ := X
  obtain ⟨hx, hb, hml, ho, ht, hK, hA, hlk, hR, hZn, hin⟩ := C
  exact fun H locs ls hl hP hD hS => lv_bipush hx hb hd hv (kk H locs ls hl hP hD hS)
theorem k_sipush (C : Zkc X cc own nL rm D tys TR) {n : Int} {v : Int32} (hd : decode cc pc = .ok (.sipush n, 3)) (hv : (Int16.ofInt n).toInt32 = v) (kk : Zk X nL D ws kc ks (pc + 3) lv (.int v :: st)) : Zk X nL D ws kc ks (pc) lv st := by
  obtain ⟨p, l, e, R, s, m, args, below, meth, c, A, Q⟩ := X
  obtain ⟨hx, hb, hml, ho, ht, hK, hA, hlk, hR, hZn, hin⟩ := C
  exact fun H locs ls hl hP hD hS => lv_sipush hx hb hd hv (kk H locs ls hl hP hD hS)
theorem k_aload_n (C : Zkc X cc own nL rm D tys TR) {k : Fin 4} {i : Nat} {x : Nat} (hd : decode cc pc = .ok (.aload_n k, 1)) (hi : (k : Nat) = i) (j : Nat) (hj : lv[j]? = some (i, .ref x)) (kk : Zk X nL D ws kc ks (pc + 1) lv (.ref x :: st)) : Zk X nL D ws kc ks (pc) lv st := by
  obtain ⟨p, l, e, R, s, m, args, below, meth, c, A, Q⟩ := X
  obtain ⟨hx, hb, hml, ho, ht, hK, hA, hlk, hR, hZn, hin⟩ := C
  exact fun H locs ls hl hP hD hS => lv_aload_n hx hb hd hi (lv_at hl j hj) (kk H locs ls hl hP hD hS)
theorem k_iload_n (C : Zkc X cc own nL rm D tys TR) {k : Fin 4} {i : Nat} {x : Int32} (hd : decode cc pc = .ok (.iload_n k, 1)) (hi : (k : Nat) = i) (j : Nat) (hj : lv[j]? = some (i, .int x)) (kk : Zk X nL D ws kc ks (pc + 1) lv (.int x :: st)) : Zk X nL D ws kc ks (pc) lv st := by
  obtain ⟨p, l, e, R, s, m, args, below, meth, c, A, Q⟩ := X
  obtain ⟨hx, hb, hml, ho, ht, hK, hA, hlk, hR, hZn, hin⟩ := C
  exact fun H locs ls hl hP hD hS => lv_iload_n hx hb hd hi (lv_at hl j hj) (kk H locs ls hl hP hD hS)
theorem k_dup (C : Zkc X cc own nL rm D tys TR) {va : Value} (hd : decode cc pc = .ok (.dup, 1)) (hva : va.category = 1) (kk : Zk X nL D ws kc ks (pc + 1) lv (va :: va :: st)) : Zk X nL D ws kc ks (pc) lv (va :: st) := by
  obtain ⟨p, l, e, R, s, m, args, below, meth, c, A, Q⟩ := X
  obtain ⟨hx, hb, hml, ho, ht, hK, hA, hlk, hR, hZn, hin⟩ := C
  exact fun H locs ls hl hP hD hS => lv_dup hx hb hd hva (kk H locs ls hl hP hD hS)
theorem k_goto (C : Zkc X cc own nL rm D tys TR) {off : Int} (tgt : Nat) (hd : decode cc pc = .ok (.goto off, 3)) (h9 : (pc : Int) + off = (tgt : Int)) (kk : Zk X nL D ws kc ks (tgt) lv st) : Zk X nL D ws kc ks (pc) lv st := by
  obtain ⟨p, l, e, R, s, m, args, below, meth, c, A, Q⟩ := X
  obtain ⟨hx, hb, hml, ho, ht, hK, hA, hlk, hR, hZn, hin⟩ := C
  exact fun H locs ls hl hP hD hS => lv_goto hx hb hd h9 (kk H locs ls hl hP hD hS)
theorem k_istore_n (C : Zkc X cc own nL rm D tys TR) {k : Fin 4} {i : Nat} {x : Int32} {lv' : List (Nat × Value)} (hd : decode cc pc = .ok (.istore_n k, 1)) (hi : (k : Nat) = i) (hn : Nat.blt i nL = true) (hl' : z_s1 i (.int x) lv = lv') (kk : Zk X nL D ws kc ks (pc + 1) lv' st) : Zk X nL D ws kc ks (pc) lv (.int x :: st) := by
  obtain ⟨p, l, e, R, s, m, args, below, meth, c, A, Q⟩ := X
  obtain ⟨hx, hb, hml, ho, ht, hK, hA, hlk, hR, hZn, hin⟩ := C
  exact fun H locs ls hl hP hD hS => lv_istore_n hx hb hd hi hl (Nat.le_of_ble_eq_true hn) hl' (fun ls hl => kk H locs ls hl hP hD hS)
theorem k_astore_n (C : Zkc X cc own nL rm D tys TR) {k : Fin 4} {i : Nat} {x : Nat} {lv' : List (Nat × Value)} (hd : decode cc pc = .ok (.astore_n k, 1)) (hi : (k : Nat) = i) (hn : Nat.blt i nL = true) (hl' : z_s1 i (.ref x) lv = lv') (kk : Zk X nL D ws kc ks (pc + 1) lv' st) : Zk X nL D ws kc ks (pc) lv (.ref x :: st) := by
  obtain ⟨p, l, e, R, s, m, args, below, meth, c, A, Q⟩ := X
  obtain ⟨hx, hb, hml, ho, ht, hK, hA, hlk, hR, hZn, hin⟩ := C
  exact fun H locs ls hl hP hD hS => lv_astore_n hx hb hd hi hl (Nat.le_of_ble_eq_true hn) hl' (fun ls hl => kk H locs ls hl hP hD hS)
theorem k_iinc (C : Zkc X cc own nL rm D tys TR) {i : Nat} {n : Int} {x v : Int32} {lv' : List (Nat × Value)} (hd : decode cc pc = .ok (.iinc i n, 3)) (j : Nat) (hj : lv[j]? = some (i, .int x)) (hv : x + Int32.ofInt n = v) (hn : Nat.blt i nL = true) (hl' : z_s1 i (.int v) lv = lv') (kk : Zk X nL D ws kc ks (pc + 3) lv' st) : Zk X nL D ws kc ks (pc) lv st := by
  obtain ⟨p, l, e, R, s, m, args, below, meth, c, A, Q⟩ := X
  obtain ⟨hx, hb, hml, ho, ht, hK, hA, hlk, hR, hZn, hin⟩ := C
  exact fun H locs ls hl hP hD hS => lv_iinc hx hb hd hl hj hv (Nat.le_of_ble_eq_true hn) hl' (fun ls hl => kk H locs ls hl hP hD hS)
theorem k_ic_ge (C : Zkc X cc own nL rm D tys TR) {x y : Int32} {off : Int} (tgt : Nat) (hd : decode cc pc = .ok (.if_icmp .ge off, 3)) (h9 : (pc : Int) + off = (tgt : Int)) (kt : y ≤ x → Zk X nL D ws kc ks (tgt) lv st) (kf : ¬ y ≤ x → Zk X nL D ws kc ks (pc + 3) lv st) : Zk X nL D ws kc ks (pc) lv (.int y :: .int x :: st) := by
  obtain ⟨p, l, e, R, s, m, args, below, meth, c, A, Q⟩ := X
  obtain ⟨hx, hb, hml, ho, ht, hK, hA, hlk, hR, hZn, hin⟩ := C
  exact fun H locs ls hl hP hD hS => lv_icmp_ge hx hb hd h9 (fun h => kt h H locs ls hl hP hD hS) (fun h => kf h H locs ls hl hP hD hS)
theorem k_obj (C : Zkc X cc own nL rm D tys TR) {a idx : Nat} (hl0 : Cond.methodLink own idx objectInit ∈ zt) (hfr : 1 ≤ rm.frames) (hlo : (st.map fun v => v.category).sum + 12 ≤ rm.locals) (hd : decode cc pc = .ok (.invokespecial idx, 3)) (kk : Zk X nL D ws kc ks (pc + 3) lv st) : Zk X nL D ws kc ks (pc) lv (.ref a :: st) := by
  obtain ⟨p, l, e, R, s, m, args, below, meth, c, A, Q⟩ := X
  obtain ⟨hx, hb, hml, ho, ht, hK, hA, hlk, hR, hZn, hin⟩ := C
  subst hR
  exact fun H locs ls hl hP hD hS => W.objInit hx hb ho (ht _ hl0) (ht _ tw_oi) (ht _ tw_oc) rfl (by rw [hml]; exact hl.1) rfl hd hfr (by show 2 * 0 + _ + 12 ≤ _; omega) (W.eq (g2 := F0 m (pc + 3) ls st) rfl (kk H locs ls hl hP hD hS))
theorem k_newa (C : Zkc X cc own nL rm D tys TR) {cA : ClassId} (ht0 : tys[0]? = some (cA, .int)) {n : Int32} {N kc' ks' : Nat} (hn : ¬ n < 0) (hN : n.toNatClampNeg = N) (hbytes : N * 4 ≤ 536870912) (hkc : kc + 1 = kc') (hks : ks + N = ks') (hc : kc' ≤ rm.cells) (hs : ks' ≤ rm.slots) (hd : decode cc pc = .ok (.newarray .int, 2))
    (kk : ∀ qn : Nat, Zk X nL D (ws ++ [(qn, .inl (cA, N, .inl (fun _ => 0)))]) kc' ks' (pc + 2) lv (.ref qn :: st)) : Zk X nL D ws kc ks (pc) lv (.int n :: st) := by
  obtain ⟨p, l, e, R, s, m, args, below, meth, c, A, Q⟩ := X
  obtain ⟨hx, hb, hml, ho, ht, hK, hA, hlk, hR, hZn, hin⟩ := C
  subst hR; subst hkc; subst hks
  intro H locs ls hl hP hD hS
  refine va_newa (atype := .int) (ty := .int) (a0 := (N, .inl (fun _ => 0))) hx hb (ht _ tw_ac) rfl hK hP hD hS hA (fun cA => by rw [vp_cell_i]; rfl) hn hN hbytes hc hs hd (fun qn c' H1 hK1 hP1 hD1 hS1 => ?_)
  have e1 : s.vm.findClass ("[" ++ FieldType.int.toString) = some c' := (hK1.2 tys.length (c', .int) (by rw [List.getElem?_append_right (Nat.le_refl _), Nat.sub_self]; rfl)).2
  have e2 : s.vm.findClass ("[" ++ FieldType.int.toString) = some cA := (hK.2 0 (cA, .int) ht0).2
  have e3 : c' = cA := Option.some.inj (e1.symm.trans e2)
  subst e3
  exact kk qn H1 locs ls hl hP1 hD1 hS1
theorem k_newq (C : Zkc X cc own nL rm D tys TR) {cB : ClassId} {Cn : String} {t0 index : Nat} (ht0 : tys[t0]? = some (cB, .object Cn)) (hlk0 : Cond.classLink own index Cn ∈ zt) (hov : ∀ U : State, ∀ A H, Zn TR A U H → va_AO Cn U) {n : Int32} {N kc' ks' : Nat} (hn : ¬ n < 0) (hN : n.toNatClampNeg = N) (hbytes : N * 4 ≤ 536870912) (hkc : kc + 1 = kc') (hks : ks + N = ks') (hc : kc' ≤ rm.cells) (hs : ks' ≤ rm.slots) (hd : decode cc pc = .ok (.anewarray index, 3))
    (kk : ∀ qn : Nat, Zk X nL D (ws ++ [(qn, .inl (cB, N, .inr (.inr (.inr (.inr (fun _ => none))))))]) kc' ks' (pc + 3) lv (.ref qn :: st)) : Zk X nL D ws kc ks (pc) lv (.int n :: st) := by
  obtain ⟨p, l, e, R, s, m, args, below, meth, c, A, Q⟩ := X
  obtain ⟨hx, hb, hml, ho, ht, hK, hA, hlk, hR, hZn, hin⟩ := C
  subst hR; subst hkc; subst hks
  intro H locs ls hl hP hD hS
  refine va_newq (C := Cn) hx hb ho (ht _ hlk0) (hov s A _ hZn) hK hP hD hS hA hn hN hbytes hc hs hd (fun qn c' H1 hK1 hP1 hD1 hS1 => ?_)
  have e1 := (hK1.2 tys.length (c', .object Cn) (by rw [List.getElem?_append_right (Nat.le_refl _), Nat.sub_self]; rfl)).2
  have e2 := (hK.2 t0 (cB, .object Cn) ht0).2
  obtain ⟨_, _, _, _, _, e1⟩ := e1
  obtain ⟨_, _, _, _, _, e2⟩ := e2
  have e3 : c' = cB := Option.some.inj (e1.symm.trans e2)
  subst e3
  exact kk qn H1 locs ls hl hP1 hD1 hS1
theorem k_new (C : Zkc X cc own nL rm D tys TR) {Cn : String} {T : u_T} {N ci index kc' ks' : Nat} (hin0 : ∀ q ∈ u_ws Cn T N, q ∈ zt) (ty : Nat → FieldType) (hty : ∀ k, k < N → parseFieldDescriptor (T k).2.2.1 = some (ty k)) (hcl : Cond.classLink own index Cn ∈ zt) (hinst : Cond.instantiable Cn N ∈ zt) (hini : Cond.initialized Cn ∈ zt) (hcc : cls7[ci]? = some (Cn, T, N)) {fs : List Value} (hfs : ∀ j, j < N → defaultValue (ty j) = vp_V fs j) (hkc : kc + 1 = kc') (hks : ks + N = ks') (hc : kc' ≤ rm.cells) (hs : ks' ≤ rm.slots) (hd : decode cc pc = .ok (.new index, 3))
    (kk : ∀ qn : Nat, Zk X nL D (ws ++ [(qn, .inr (ci, fs))]) kc' ks' (pc + 3) lv (.ref qn :: st)) : Zk X nL D ws kc ks (pc) lv st := by
  obtain ⟨p, l, e, R, s, m, args, below, meth, c, A, Q⟩ := X
  obtain ⟨hx, hb, hml, ho, ht, hK, hA, hlk, hR, hZn, hin⟩ := C
  subst hR; subst hkc; subst hks
  exact fun H locs ls hl hP hD hS => va_new hx hb ht hin0 ty hty ho (ht _ hcl) (ht _ hinst) (ht _ hini) hK hP hD hS hA hcc hfs hc hs hd (fun qn H1 hP1 hD1 hS1 => kk qn H1 locs ls hl hP1 hD1 hS1)
theorem k_put (C : Zkc X cc own nL rm D tys TR) {ref Cn : String} {T : u_T} {N ci index a : Nat} (hin0 : ∀ q ∈ u_ws Cn T N, q ∈ zt) (ty0 : Nat → FieldType) (hty : ∀ k, k < N → parseFieldDescriptor (T k).2.2.1 = some (ty0 k)) (hnm : ∀ a, a < N → ∀ b, b < N → a ≠ b → (T a).2.1 ≠ (T b).2.1) (q0 : Nat) {fs : List Value} (he : ws[q0]? = some (a, .inr (ci, fs))) (hcc : cls7[ci]? = some (Cn, T, N)) (k : Nat) (hk : Nat.blt k N = true) (hlink : Cond.fieldLink own index ref (T k).2.1 (T k).2.2.1 ∈ zt) (href : (T k).1 = ref) (hown : (T k).1 = own) (hne : ¬ own = "SnowRoadLaw") {ty : FieldType} {v : Value} (hty1 : parseFieldDescriptor (T k).2.2.1 = some ty) (hn : narrow ty v = v) (hfit : fits ty v = true) (hl0 : k < fs.length) (hd : decode cc pc = .ok (.putfield index, 3)) {ws' : va_W} (hset : ws.set q0 (a, .inr (ci, fs.set k v)) = ws')
    (kk : Zk X nL D ws' kc ks (pc + 3) lv st) : Zk X nL D ws kc ks (pc) lv (v :: .ref a :: st) := by
  obtain ⟨p, l, e, R, s, m, args, below, meth, c, A, Q⟩ := X
  obtain ⟨hx, hb, hml, ho, ht, hK, hA, hlk, hR, hZn, hin⟩ := C
  subst href; subst hset
  intro H locs ls hl hP hD hS
  have hin := hin.resolve_right hne
  by_cases hf : (T k).2.2.2 = true
  · exact va_putF hx hb ht hin0 ty0 hty hnm ho hK hP hD hS q0 he hcc k (Nat.le_of_ble_eq_true hk) (ht _ hlink) (fun _ h => h) hf hin hown hty1 hn hfit hl0 hd (fun H locs hP hD hS => kk H locs ls hl hP hD hS)
  · exact va_put hx hb ht hin0 ty0 hty hnm ho hK hP hD hS q0 he hcc k (Nat.le_of_ble_eq_true hk) (ht _ hlink) (fun _ h => h) (by simpa using hf) hty1 hn hfit hl0 hd (fun H locs hP hD hS => kk H locs ls hl hP hD hS)
theorem k_get (C : Zkc X cc own nL rm D tys TR) {ref Cn : String} {T : u_T} {N ci index a : Nat} (hin0 : ∀ q ∈ u_ws Cn T N, q ∈ zt) (q0 : Nat) {fs : List Value} (he : ws[q0]? = some (a, .inr (ci, fs))) (hcc : cls7[ci]? = some (Cn, T, N)) (k : Nat) (hk : Nat.blt k N = true) (hlink : Cond.fieldLink own index ref (T k).2.1 (T k).2.2.1 ∈ zt) (href : (T k).1 = ref) {v : Value} (hv : fs[k]? = some v) (hd : decode cc pc = .ok (.getfield index, 3))
    (kk : Zk X nL D ws kc ks (pc + 3) lv (v :: st)) : Zk X nL D ws kc ks (pc) lv (.ref a :: st) := by
  obtain ⟨p, l, e, R, s, m, args, below, meth, c, A, Q⟩ := X
  obtain ⟨hx, hb, hml, ho, ht, hK, hA, hlk, hR, hZn, hin⟩ := C
  subst href
  exact fun H locs ls hl hP hD hS => va_get hx hb ht hin0 ho hK hP q0 he hcc k (Nat.le_of_ble_eq_true hk) (ht _ hlink) (fun _ h => h) hv hd (kk H locs ls hl hP hD hS)
theorem k_iast (C : Zkc X cc own nL rm D tys TR) (q0 : Nat) {a n : Nat} {cA : ClassId} {f : Nat → Int32} (ha : ws[q0]? = some (a, .inl (cA, n, .inl f))) (ht0 : tys[0]? = some (cA, .int)) {i x : Int32} (hi : vp_in i n) (hd : decode cc pc = .ok (.iastore, 1)) {ws' : va_W} (hset : ws.set q0 (a, .inl (cA, n, .inl (upd f i.toNatClampNeg x))) = ws') (kk : Zk X nL D ws' kc ks (pc + 1) lv st) : Zk X nL D ws kc ks (pc) lv (.int x :: .int i :: .ref a :: st) := by
  obtain ⟨p, l, e, R, s, m, args, below, meth, c, A, Q⟩ := X
  obtain ⟨hx, hb, hml, ho, ht, hK, hA, hlk, hR, hZn, hin⟩ := C
  subst hset
  exact fun H locs ls hl hP hD hS => va_iast hx hb hK hP hD hS q0 0 ha ht0 hi hd (fun H locs hP hD hS => kk H locs ls hl hP hD hS)
theorem k_aast (C : Zkc X cc own nL rm D tys TR) (q0 t0 qk ci : Nat) {a n v : Nat} {cB : ClassId} {r : vw_C} {vs : List Value} {f : Nat → Option Nat} (ha : ws[q0]? = some (a, .inl (cB, n, .inr (.inr (.inr (.inr f)))))) (ht0 : tys[t0]? = some (cB, .object r.1)) (hv : ws[qk]? = some (v, .inr (ci, vs))) (hc : cls7[ci]? = some r) {i : Int32} (hi : vp_in i n) (hd : decode cc pc = .ok (.aastore, 1)) {ws' : va_W} (hset : ws.set q0 (a, .inl (cB, n, .inr (.inr (.inr (.inr (va_up f i.toNatClampNeg (some v))))))) = ws') (kk : Zk X nL D ws' kc ks (pc + 1) lv st) : Zk X nL D ws kc ks (pc) lv (.ref v :: .int i :: .ref a :: st) := by
  obtain ⟨p, l, e, R, s, m, args, below, meth, c, A, Q⟩ := X
  obtain ⟨hx, hb, hml, ho, ht, hK, hA, hlk, hR, hZn, hin⟩ := C
  subst hset
  exact fun H locs ls hl hP hD hS => va_astq hx hb hK hP hD hS q0 t0 qk ci ha ht0 hv hc hi hd (fun H locs hP hD hS => kk H locs ls hl hP hD hS)
theorem k_tr (C : Zkc X cc own nL rm D tys TR) (hown : own = "SnowRoad$Text") (hd : decode cc pc = .ok (.getstatic 18, 3)) (kk : Zk X nL D ws kc ks (pc + 3) lv (.ref TR :: st)) : Zk X nL D ws kc ks (pc) lv st := by
  obtain ⟨p, l, e, R, s, m, args, below, meth, c, A, Q⟩ := X
  obtain ⟨hx, hb, hml, ho, ht, hK, hA, hlk, hR, hZn, hin⟩ := C
  subst hown
  exact fun H locs ls hl hP hD hS => va_getsN hx hb hZn.2.2.2.2.2.2.2.1 hS ho (va_Nw.use rfl hZn.2.2.2.2.2.2.1) (fun _ h => h) hd (kk H locs ls hl hP hD hS)
theorem k_ti (C : Zkc X cc own nL rm D tys TR) {i : Int32} (hi : vp_in i 4) (hd : decode cc pc = .ok (.iaload, 1)) (kk : Zk X nL D ws kc ks (pc + 1) lv (.int (troom (tn i)) :: st)) : Zk X nL D ws kc ks (pc) lv (.int i :: .ref TR :: st) := by
  obtain ⟨p, l, e, R, s, m, args, below, meth, c, A, Q⟩ := X
  obtain ⟨hx, hb, hml, ho, ht, hK, hA, hlk, hR, hZn, hin⟩ := C
  exact fun H locs ls hl hP hD hS => va_ti hx hb hZn.2.2.2.2.2.2.2.2 hS hi rfl hd (kk H locs ls hl hP hD hS)
theorem k_sub (ks0 : List Nat) {lv' : List (Nat × Value)} (h : lv_pick lv ks0 = lv') (kk : Zk X nL D ws kc ks (pc) lv' st) : Zk X nL D ws kc ks (pc) lv st := by
  obtain ⟨p, l, e, R, s, m, args, below, meth, c, A, Q⟩ := X
  exact fun H locs ls hl hP hD hS => kk H locs ls (lv_sub hl ks0 h) hP hD hS
theorem zk_fm {α : Type} {f : Nat → Option α} : ∀ (is : List Nat), (is.filterMap f).length = is.length → is.map f = (is.filterMap f).map some := by
  intro is
  induction is with
  | nil => intro _; rfl
  | cons a t ih =>
    intro h
    cases hf : f a with
    | none =>
      rw [List.filterMap_cons_none hf] at h
      have := List.length_filterMap_le f t
      simp only [List.length_cons] at h
      omega
    | some b =>
      rw [List.filterMap_cons_some hf] at h ⊢
      simp only [List.length_cons, Nat.add_right_cancel_iff] at h
      simp only [List.map_cons, hf, ih h]
theorem k_ret (C : Zkc X cc own nL rm D tys TR) {ws1 : (Nat → Nat) → va_W} {mc ms : Nat} (hr : Zkr X D tys ws1 mc ms) (u : Nat → Nat) (is : List Nat) (hs1 : is.filterMap (fun i => ws[i]?) = ws1 u) (hs2 : (ws1 u).length = is.length) (hnd : va_nd is = true) (hkc : kc = mc) (hks : ks = ms) (hd : decode cc pc = .ok (.return_, 1)) : Zk X nL D ws kc ks (pc) lv [] := by
  obtain ⟨p, l, e, R, s, m, args, below, meth, c, A, Q⟩ := X
  obtain ⟨hx, hb, hml, ho, ht, hK, hA, hlk, hR, hZn, hin⟩ := C
  obtain ⟨hr, rfl⟩ := hr
  subst hkc; subst hks
  exact fun H locs ls hl hP hD hS => W.vret hx hb hr (fun t ht hW => ⟨⟨u, rfl, trivial, by rw [ht]; exact hP.sub is hs1, va_K.moved hW.alike hK, hD.sub is hnd (by rw [← hs1]; exact zk_fm is (by rw [hs1]; exact hs2))⟩, hS.F ht⟩) hS.2.2 hd hlk
/-- a constructor of ours is called on the object that was made last -/
theorem k_ctorN (C : Zkc X cc own nL rm D tys TR) {y : MethodName} {cy : ByteArray} {ml n idx qn mc ms kc' ks' : Nat} {rmy : Room} {As : List Value} {e0 : va_E} {wr : va_W} {ws1 : (Nat → Nat) → va_W} (hcode : Cond.code y cy ml none ∈ zt) (hini : Cond.initialized y.cls ∈ zt) (hinst : Cond.instanceMethod y ∈ zt) (hy : y.name = "<init>") (hd0 : y.cls ≠ "java/lang/invoke/MethodHandle" ∧ y.cls ≠ "java/lang/invoke/VarHandle" ∧ (parseMethodDescriptor y.desc).map (fun d => d.parameters.length) = some n) (hlk0 : ∀ U : State, ∀ A H, Zn TR A U H → va_Nw (.methodLinkNest own idx y "SnowRoad") U) (hR0 : rmy.frames + 1 ≤ rm.frames ∧ 8 + (ml + 11) + rmy.locals ≤ rm.locals ∧ rmy.cells = mc ∧ rmy.slots = ms) (hM : CtN D tys TR y cy ml rmy (.ref qn :: As) [(qn, e0)] ws1 mc ms) (hn : As.length = n) {stk : List Value} (hst : stk = As.reverse ++ .ref qn :: st) (hrm : (st.map fun v => v.category).sum ≤ 8) (hws : ws = wr ++ [(qn, e0)]) (hkc : kc + mc = kc') (hks : ks + ms = ks') (hc : kc' ≤ rm.cells) (hs : ks' ≤ rm.slots) (hd : decode cc pc = .ok (.invokespecial idx, 3))
    (kk : ∀ u : Nat → Nat, Zk X nL D (wr ++ ws1 u) kc' ks' (pc + 3) lv st) : Zk X nL D ws kc ks (pc) lv stk := by
  obtain ⟨p, l, e, R, s, m, args, below, meth, c, A, Q⟩ := X
  obtain ⟨hx, hb, hml, ho, ht, hK, hA, hlk, hR, hZn, hin⟩ := C
  subst hR; subst hkc; subst hks; subst hst; subst hws
  intro H locs ls hl hP hD hS
  have hPc : va_P D cls7 [(qn, e0)] H := fun k x hx => hP (wr.length + k) x (by rw [List.getElem?_append_right (Nat.le_add_right _ _), Nat.add_sub_cancel_left]; exact hx)
  have hDc : va_D A [(qn, e0)] := ⟨fun i j p q hp hq _ => by
      have h1 := (List.getElem?_eq_some_iff.mp hp).1
      have h2 := (List.getElem?_eq_some_iff.mp hq).1
      simp at h1 h2; omega, fun k x hx => hD.2 (wr.length + k) x (by rw [List.getElem?_append_right (Nat.le_add_right _ _), Nat.add_sub_cancel_left]; exact hx)⟩
  have hF : ∀ q, va_A [(qn, e0)] H.size q → A q := by
    intro q h
    rcases h with ⟨k, e, h⟩ | h
    · exact hDc.2 k (q, e) h
    · exact hA q (Nat.le_trans hS.1 h)
  have hG : GoodIn zt (zws y cy ml none) := fun q hq => by
    have hz : q ∈ zt := by
      rcases List.mem_cons.mp hq with rfl | h
      · exact hcode
      · exact h
    exact ⟨hz, good_of_word (zz_good q hz)⟩
  refine va_callv (va_runIN (As := As) (rest := st) ⟨hx, hb, hml, ho, ht⟩ (hM l H.size) ⟨va_cnB n ht hG rfl hR0.2.2.1 hR0.2.2.2 (hlk0 s A _ hZn) (ht _ hini) hd0 ⟨hR0.1, hR0.2.1⟩, hy, ht _ hinst⟩ ⟨fun a U g mk q => by
      obtain ⟨q0, q1, qP, qK, qD, qZ⟩ := q
      exact ⟨q0, q1, qP, va_K.moved (u := U) (U := U.calling g mk a) (Vm.Alike.refl U.vm) qK, qD, zn_same (u := U) (U := U.calling g mk a) qZ rfl⟩, fun U hU hW => ⟨rfl, by rw [hU], by rw [hU]; exact hPc, va_K.moved hW.alike hK, hDc.weaken (fun _ _ _ _ => trivial), by rw [hU]; exact zn_go hZn hW hS.2.1 hF⟩⟩ rfl hn hl.1 rfl (lv_room hrm) hd ⟨hc, hs⟩) hS (fun q _ h => hF q h) hF (fun u t H1 locs ht hvm hw hB hz1 hk1 hS => ?_)
  rw [ht] at hB
  obtain ⟨hP1, hD1⟩ := zz_join hP hD hk1 hF hB.1 hB.2.2
  exact kk u H1 locs ls hl hP1 hD1 hS
/-- a constructor of ours is called on the object that was made last -/
theorem k_ctorI (C : Zkc X cc own nL rm D tys TR) {y : MethodName} {cy : ByteArray} {ml n idx qn mc ms kc' ks' : Nat} {rmy : Room} {As : List Value} {e0 : va_E} {wr : va_W} {ws1 : (Nat → Nat) → va_W} (hcode : Cond.code y cy ml none ∈ zt) (hini : Cond.initialized y.cls ∈ zt) (hinst : Cond.instanceMethod y ∈ zt) (hy : y.name = "<init>") (hd0 : y.cls ≠ "java/lang/invoke/MethodHandle" ∧ y.cls ≠ "java/lang/invoke/VarHandle" ∧ (parseMethodDescriptor y.desc).map (fun d => d.parameters.length) = some n) (hlk0 : Cond.methodLink own idx y ∈ zt) (hR0 : rmy.frames + 1 ≤ rm.frames ∧ 8 + (ml + 11) + rmy.locals ≤ rm.locals ∧ rmy.cells = mc ∧ rmy.slots = ms) (hM : CtN D tys TR y cy ml rmy (.ref qn :: As) [(qn, e0)] ws1 mc ms) (hn : As.length = n) {stk : List Value} (hst : stk = As.reverse ++ .ref qn :: st) (hrm : (st.map fun v => v.category).sum ≤ 8) (hws : ws = wr ++ [(qn, e0)]) (hkc : kc + mc = kc') (hks : ks + ms = ks') (hc : kc' ≤ rm.cells) (hs : ks' ≤ rm.slots) (hd : decode cc pc = .ok (.invokespecial idx, 3))
    (kk : ∀ u : Nat → Nat, Zk X nL D (wr ++ ws1 u) kc' ks' (pc + 3) lv st) : Zk X nL D ws kc ks (pc) lv stk := by
  obtain ⟨p, l, e, R, s, m, args, below, meth, c, A, Q⟩ := X
  obtain ⟨hx, hb, hml, ho, ht, hK, hA, hlk, hR, hZn, hin⟩ := C
  subst hR; subst hkc; subst hks; subst hst; subst hws
  intro H locs ls hl hP hD hS
  have hPc : va_P D cls7 [(qn, e0)] H := fun k x hx => hP (wr.length + k) x (by rw [List.getElem?_append_right (Nat.le_add_right _ _), Nat.add_sub_cancel_left]; exact hx)
  have hDc : va_D A [(qn, e0)] := ⟨fun i j p q hp hq _ => by
      have h1 := (List.getElem?_eq_some_iff.mp hp).1
      have h2 := (List.getElem?_eq_some_iff.mp hq).1
      simp at h1 h2; omega, fun k x hx => hD.2 (wr.length + k) x (by rw [List.getElem?_append_right (Nat.le_add_right _ _), Nat.add_sub_cancel_left]; exact hx)⟩
  have hF : ∀ q, va_A [(qn, e0)] H.size q → A q := by
    intro q h
    rcases h with ⟨k, e, h⟩ | h
    · exact hDc.2 k (q, e) h
    · exact hA q (Nat.le_trans hS.1 h)
  have hG : GoodIn zt (zws y cy ml none) := fun q hq => by
    have hz : q ∈ zt := by
      rcases List.mem_cons.mp hq with rfl | h
      · exact hcode
      · exact h
    exact ⟨hz, good_of_word (zz_good q hz)⟩
  refine va_callv (va_runI (As := As) (rest := st) ⟨hx, hb, hml, ho, ht⟩ (hM l H.size) (cwI n ht hG rfl hR0.2.2.1 hR0.2.2.2 (ht _ hini) (ht _ hlk0) (ht _ hinst) hy hd0 ⟨hR0.1, hR0.2.1⟩) ⟨fun a U g mk q => by
      obtain ⟨q0, q1, qP, qK, qD, qZ⟩ := q
      exact ⟨q0, q1, qP, va_K.moved (u := U) (U := U.calling g mk a) (Vm.Alike.refl U.vm) qK, qD, zn_same (u := U) (U := U.calling g mk a) qZ rfl⟩, fun U hU hW => ⟨rfl, by rw [hU], by rw [hU]; exact hPc, va_K.moved hW.alike hK, hDc.weaken (fun _ _ _ _ => trivial), by rw [hU]; exact zn_go hZn hW hS.2.1 hF⟩⟩ rfl hn hl.1 rfl (lv_room hrm) hd ⟨hc, hs⟩) hS (fun q _ h => hF q h) hF (fun u t H1 locs ht hvm hw hB hz1 hk1 hS => ?_)
  rw [ht] at hB
  obtain ⟨hP1, hD1⟩ := zz_join hP hD hk1 hF hB.1 hB.2.2
  exact kk u H1 locs ls hl hP1 hD1 hS
end ZK
theorem k_met {D : va_G} {tys : List (ClassId × FieldType)} {TR : Nat} {y : MethodName} {cy : ByteArray} {ml : Nat} {rmy : Room} {av : List Value} {ws0 : va_W} {ws1 : (Nat → Nat) → va_W} {mc ms : Nat} (hy : plainName y.cls = true) (hni : y.name = "<init>") (hlen : Nat.ble (lg_sl av).length ml = true)
    (body : ∀ X : ZX, Zkc X cy y.cls ml rmy D tys TR → Zkr X D tys ws1 mc ms → Zk X ml D ws0 0 0 0 (lv_args 0 av) []) : CtN D tys TR y cy ml rmy av ws0 ws1 mc ms := by
  intro l sz
  refine Met.ofW (cc := cy) (maxL := ml) (ret := none) hy rfl ?_
  intro p e s m args below meth c s₁ B hml hv
  obtain ⟨rfl, hsz, hP, hK, hD0, hZs⟩ := hv
  have hts := atoms_spec (ws := zws y cy ml none) B.pre
  subst hsz
  have hD := hD0.self (sz := s.heap.size)
  have hl := lv_entry av (n := ml) (Nat.le_of_ble_eq_true hlen)
  rw [lg_entry_eq]
  exact body (p, l, e, rmy, s, m, av.toArray, below, meth, c, va_A ws0 s.heap.size, _) ⟨B.exec, B.bytes, hml, findClass_of_methodNamed B.named, fun q hq => hts q (List.mem_cons_of_mem _ hq), hK, fun q h => Or.inr h, B.notSynchronized, rfl, hZs, Or.inl (((name_of_methodNamed B.named B.method).1).trans hni)⟩ ⟨B.returns, rfl⟩ s.heap [] _ hl hP hD va_S.rf
