/-! THE CLAIM OUT OF ONE WALK OF THE LAW'S BODY. Your part is whole_start (and what it stands on); all else here is the same for every law, but numbers. -/
def R_law : String := "SnowRoadLaw"
def lw_P (b : Addr) (xs : List Int32) (args : Array Value) (s : State) : Prop := args = #[.ref b] ∧ s.IntsAt b xs ∧ xs.length ≤ 3072 ∧ (Jvm.Cond.and given_1 narrow_1).before args s = true
def lw_Q (_ : Array Value) (s : State) (o : Outcome) (t : State) : Prop := o = .returned (some (.int 1)) ∧ Framed s o t [] 600000 7302250
def lw_Z (below : List Frame) (a : Array Value) (s : State) : State → Prop := fun t => ∃ o, t.status = .running ∧ Ended t below o ∧ lw_Q a s o t
/-- the law's own end, with 1 on the stack, nothing written that was there before, its room as the claim has it -/
theorem lw_ret {p : Program} {l : Launch} {e : Env} {s : State} {m : MethodId} {below : List Frame} {meth : Method} {c : Code} {b : Nat} (hx : p.tables.exec = Jvm.exec) (hb : c.code = code) (hr : meth.sig.returnType = ret) (hlocks : meth.locks = false) {pc : Nat} {H : Heap} {ls : Array Slot} (hdg : decode code pc = .ok (.ireturn, 1)) : W p l e room_1 s m #[Value.ref b] below meth c H [] 600000 7302250 (lw_Z below #[Value.ref b] s) (F0 m pc ls [.int 1]) := by
  intro T hT X
  obtain ⟨fs, hret, hrun, hended, hW, hframe⟩ := X.leave (v := some (.int 1)) (hlocks := hlocks) (fun h => by rw [hr] at h; cases h)
  have hmeth' : T.vm.method? m = some meth := X.method'
  refine ⟨T.setFrames fs, ?_, .returned (some (.int 1)), hrun, hended, rfl, ⟨_, rfl⟩, hW, hframe⟩
  jvm_step X.here [X.here.top, hx, hb, hdg, hmeth', hr, ret, narrow_b1]
  (try refine ⟨rfl, ?_⟩); (try refine ⟨rfl, ?_⟩)
  first | (intro acts; rw [hret _ acts rfl rfl rfl]) | rw [hret _ _ rfl rfl rfl]
  exact Steps.refl _
/-- what holds at the law's entry: the machine, the code, the tables' words (any of lw_tbl by 'hts w (by decide +kernel)'), the script of L ints xs at the cell b, what the Statement gives of the start (any of its parts by flat_of_before) -/
def lw_At (p : Program) (s : State) (m : MethodId) (meth : Method) (c : Code) (b L : Nat) (xs : Nat → Int32) : Prop :=
  p.tables.exec = Jvm.exec ∧ c.code = code ∧ meth.sig.returnType = ret ∧ c.maxLocals = 4 ∧ s.vm.findClass R_law = some m.cls ∧ (∀ w ∈ lw_tbl, w.before #[Value.ref b] s = true) ∧ va_X b L xs s s.heap ∧ b < s.heap.size ∧ meth.locks = false ∧ (Jvm.Cond.and given_1 narrow_1).before #[Value.ref b] s = true
abbrev LXt : Type := Program × Launch × Env × State × MethodId × List Frame × Method × Code
def ZL (Y : LXt) (b : Nat) (gX gR : GX) (MX MR : Mem) (pc : Nat) (lv : List (Nat × Value)) (st : List Value) : Prop := match Y with
  | (p, l, e, s, m, below, meth, c) => ∀ (H : Heap) (locs : List Loc) (ls : Array Slot), lv_has ls 4 lv → va_P gX.1 cls7 (wX gX MX) H → va_P gX.1 cls7 (wR gR MR) H → va_S (fun q : Nat => s.heap.size ≤ q) s.heap H locs → W p l e room_1 s m #[Value.ref b] below meth c H locs 600000 7302250 (lw_Z below #[Value.ref b] s) (F0 m pc ls st)
def ZLc (Y : LXt) (b L : Nat) (xs : Nat → Int32) (gX gR : GX) : Prop := match Y with
  | (p, l, e, s, m, below, meth, c) => lw_At p s m meth c b L xs ∧ gR.1 = gX.1 ∧ gR.2.2 = gX.2.2 ∧ va_K gX.1 cls7 (oX gX).2.2.1 s ∧ (∀ MX MR, va_D (fun q : Nat => s.heap.size ≤ q) (wR gR MR ++ wX gX MX)) ∧ (∀ MX MR, va_D (fun q : Nat => s.heap.size ≤ q) (wX gX MX ++ wR gR MR)) ∧ Zst (oX gX) (fun q : Nat => s.heap.size ≤ q) s s.heap
theorem zt_in {q : Cond} (h : q ∈ zt) : q ∈ lw_tbl := (List.mem_filter.mp h).1
theorem va_P_l {D : va_G} {cl : List vw_C} {w1 w2 : va_W} {H : Heap} (h : va_P D cl (w1 ++ w2) H) : va_P D cl w1 H := fun k q hq => h k q (by rw [List.getElem?_append_left (List.getElem?_eq_some_iff.mp hq).1]; exact hq)
theorem va_P_r {D : va_G} {cl : List vw_C} {w1 w2 : va_W} {H : Heap} (h : va_P D cl (w1 ++ w2) H) : va_P D cl w2 H := fun k q hq => h (w1.length + k) q (by rw [List.getElem?_append_right (Nat.le_add_right _ _), Nat.add_sub_cancel_left]; exact hq)
theorem va_D_r {A : Nat → Prop} {w1 w2 : va_W} (h : va_D A (w1 ++ w2)) : va_D A w2 := by
  have key : ∀ (k : Nat) (q : Nat × va_E), w2[k]? = some q → (w1 ++ w2)[w1.length + k]? = some q := fun k q hq => by rw [List.getElem?_append_right (Nat.le_add_right _ _), Nat.add_sub_cancel_left]; exact hq
  exact ⟨fun i j p q hp hq e => by have := h.1 _ _ p q (key i p hp) (key j q hq) e; omega, fun k q hq => h.2 _ q (key k q hq)⟩
section LR
variable {Y : LXt} {b L : Nat} {xs : Nat → Int32} {gX gR : GX} {MX MR : Mem} {pc : Nat} {lv : List (Nat × Value)} {st : List Value}
theorem l_iconst (C : ZLc Y b L xs gX gR) {n : Int} {v : Int32} (hd : decode code pc = .ok (.iconst n, 1)) (hv : Int32.ofInt n = v) (kk : ZL Y b gX gR MX MR (pc + 1) lv (.int v :: st)) : ZL Y b gX gR MX MR (pc) lv st := by
  obtain ⟨p, l, e, s, m, below, meth, c⟩ := Y
  obtain ⟨⟨hx, hb, hr, hml, ho, hts, hX, hbl, hlk, hgv⟩, hg1, hg2, hK, hD1, hD2, hZ⟩ := C
  exact fun H locs ls hl hP hQ hS => lv_iconst hx hb hd hv (kk H locs ls hl hP hQ hS)
theorem l_bipush (C : ZLc Y b L xs gX gR) {n : Int} {v : Int32} (hd : decode code pc = .ok (.bipush n, 2)) (hv : (Int8.ofInt n).toInt32 = v) (kk : ZL Y b gX gR MX MR (pc + 2) lv (.int v :: st)) : ZL Y b gX gR MX MR (pc) lv st := by
  obtain ⟨p, l, e, s, m, below, meth, c⟩ := Y
  obtain ⟨⟨hx, hb, hr, hml, ho, hts, hX, hbl, hlk, hgv⟩, hg1, hg2, hK, hD1, hD2, hZ⟩ := C
  exact fun H locs ls hl hP hQ hS => lv_bipush hx hb hd hv (kk H locs ls hl hP hQ hS)
theorem l_aload_n (C : ZLc Y b L xs gX gR) {k : Fin 4} {i : Nat} {x : Nat} (hd : decode code pc = .ok (.aload_n k, 1)) (hi : (k : Nat) = i) (j : Nat) (hj : lv[j]? = some (i, .ref x)) (kk : ZL Y b gX gR MX MR (pc + 1) lv (.ref x :: st)) : ZL Y b gX gR MX MR (pc) lv st := by
  obtain ⟨p, l, e, s, m, below, meth, c⟩ := Y
  obtain ⟨⟨hx, hb, hr, hml, ho, hts, hX, hbl, hlk, hgv⟩, hg1, hg2, hK, hD1, hD2, hZ⟩ := C
  exact fun H locs ls hl hP hQ hS => lv_aload_n hx hb hd hi (lv_at hl j hj) (kk H locs ls hl hP hQ hS)
theorem l_iload_n (C : ZLc Y b L xs gX gR) {k : Fin 4} {i : Nat} {x : Int32} (hd : decode code pc = .ok (.iload_n k, 1)) (hi : (k : Nat) = i) (j : Nat) (hj : lv[j]? = some (i, .int x)) (kk : ZL Y b gX gR MX MR (pc + 1) lv (.int x :: st)) : ZL Y b gX gR MX MR (pc) lv st := by
  obtain ⟨p, l, e, s, m, below, meth, c⟩ := Y
  obtain ⟨⟨hx, hb, hr, hml, ho, hts, hX, hbl, hlk, hgv⟩, hg1, hg2, hK, hD1, hD2, hZ⟩ := C
  exact fun H locs ls hl hP hQ hS => lv_iload_n hx hb hd hi (lv_at hl j hj) (kk H locs ls hl hP hQ hS)
theorem l_iadd (C : ZLc Y b L xs gX gR) {x y : Int32} (hd : decode code pc = .ok (.iadd, 1)) (kk : ZL Y b gX gR MX MR (pc + 1) lv (.int (x + y) :: st)) : ZL Y b gX gR MX MR (pc) lv (.int y :: .int x :: st) := by
  obtain ⟨p, l, e, s, m, below, meth, c⟩ := Y
  obtain ⟨⟨hx, hb, hr, hml, ho, hts, hX, hbl, hlk, hgv⟩, hg1, hg2, hK, hD1, hD2, hZ⟩ := C
  exact fun H locs ls hl hP hQ hS => lv_iadd hx hb hd (kk H locs ls hl hP hQ hS)
theorem l_isub (C : ZLc Y b L xs gX gR) {x y : Int32} (hd : decode code pc = .ok (.isub, 1)) (kk : ZL Y b gX gR MX MR (pc + 1) lv (.int (x - y) :: st)) : ZL Y b gX gR MX MR (pc) lv (.int y :: .int x :: st) := by
  obtain ⟨p, l, e, s, m, below, meth, c⟩ := Y
  obtain ⟨⟨hx, hb, hr, hml, ho, hts, hX, hbl, hlk, hgv⟩, hg1, hg2, hK, hD1, hD2, hZ⟩ := C
  exact fun H locs ls hl hP hQ hS => lv_isub hx hb hd (kk H locs ls hl hP hQ hS)
theorem l_iand (C : ZLc Y b L xs gX gR) {x y : Int32} (hd : decode code pc = .ok (.iand, 1)) (kk : ZL Y b gX gR MX MR (pc + 1) lv (.int (x &&& y) :: st)) : ZL Y b gX gR MX MR (pc) lv (.int y :: .int x :: st) := by
  obtain ⟨p, l, e, s, m, below, meth, c⟩ := Y
  obtain ⟨⟨hx, hb, hr, hml, ho, hts, hX, hbl, hlk, hgv⟩, hg1, hg2, hK, hD1, hD2, hZ⟩ := C
  exact fun H locs ls hl hP hQ hS => lv_iand hx hb hd (kk H locs ls hl hP hQ hS)
theorem l_lcmp (C : ZLc Y b L xs gX gR) {x y : Int64} (hd : decode code pc = .ok (.lcmp, 1)) (kk : ZL Y b gX gR MX MR (pc + 1) lv (.int (lg_cmp x y) :: st)) : ZL Y b gX gR MX MR (pc) lv (.long y :: .long x :: st) := by
  obtain ⟨p, l, e, s, m, below, meth, c⟩ := Y
  obtain ⟨⟨hx, hb, hr, hml, ho, hts, hX, hbl, hlk, hgv⟩, hg1, hg2, hK, hD1, hD2, hZ⟩ := C
  exact fun H locs ls hl hP hQ hS => W.lcmp hx hb hd (kk H locs ls hl hP hQ hS)
theorem l_goto (C : ZLc Y b L xs gX gR) {off : Int} (tgt : Nat) (hd : decode code pc = .ok (.goto off, 3)) (h9 : (pc : Int) + off = (tgt : Int)) (kk : ZL Y b gX gR MX MR (tgt) lv st) : ZL Y b gX gR MX MR (pc) lv st := by
  obtain ⟨p, l, e, s, m, below, meth, c⟩ := Y
  obtain ⟨⟨hx, hb, hr, hml, ho, hts, hX, hbl, hlk, hgv⟩, hg1, hg2, hK, hD1, hD2, hZ⟩ := C
  exact fun H locs ls hl hP hQ hS => lv_goto hx hb hd h9 (kk H locs ls hl hP hQ hS)
theorem l_slen (C : ZLc Y b L xs gX gR) (hd : decode code pc = .ok (.arraylength, 1)) (kk : ZL Y b gX gR MX MR (pc + 1) lv (.int (nI L) :: st)) : ZL Y b gX gR MX MR (pc) lv (.ref b :: st) := by
  obtain ⟨p, l, e, s, m, below, meth, c⟩ := Y
  obtain ⟨⟨hx, hb, hr, hml, ho, hts, hX, hbl, hlk, hgv⟩, hg1, hg2, hK, hD1, hD2, hZ⟩ := C
  exact fun H locs ls hl hP hQ hS => va_slen hx hb hX hbl (Nat.not_le.mpr hbl) hS hd (kk H locs ls hl hP hQ hS)
theorem l_sld (C : ZLc Y b L xs gX gR) {i : Int32} (hi : vp_in i L) (hd : decode code pc = .ok (.iaload, 1)) (kk : ZL Y b gX gR MX MR (pc + 1) lv (.int (xs (tn i)) :: st)) : ZL Y b gX gR MX MR (pc) lv (.int i :: .ref b :: st) := by
  obtain ⟨p, l, e, s, m, below, meth, c⟩ := Y
  obtain ⟨⟨hx, hb, hr, hml, ho, hts, hX, hbl, hlk, hgv⟩, hg1, hg2, hK, hD1, hD2, hZ⟩ := C
  exact fun H locs ls hl hP hQ hS => va_sld hx hb hX hbl (Nat.not_le.mpr hbl) hS hi hd (kk H locs ls hl hP hQ hS)
theorem l_iinc (C : ZLc Y b L xs gX gR) {i : Nat} {n : Int} {x v : Int32} {lv' : List (Nat × Value)} (hd : decode code pc = .ok (.iinc i n, 3)) (j : Nat) (hj : lv[j]? = some (i, .int x)) (hv : x + Int32.ofInt n = v) (hn : Nat.blt i 4 = true) (hl' : z_s1 i (.int v) lv = lv') (kk : ZL Y b gX gR MX MR (pc + 3) lv' st) : ZL Y b gX gR MX MR (pc) lv st := by
  obtain ⟨p, l, e, s, m, below, meth, c⟩ := Y
  obtain ⟨⟨hx, hb, hr, hml, ho, hts, hX, hbl, hlk, hgv⟩, hg1, hg2, hK, hD1, hD2, hZ⟩ := C
  exact fun H locs ls hl hP hQ hS => lv_iinc hx hb hd hl hj hv (Nat.le_of_ble_eq_true hn) hl' (fun ls hl => kk H locs ls hl hP hQ hS)
theorem l_sub (ks : List Nat) {lv' : List (Nat × Value)} (h : lv_pick lv ks = lv') (kk : ZL Y b gX gR MX MR (pc) lv' st) : ZL Y b gX gR MX MR (pc) lv st := by
  obtain ⟨p, l, e, s, m, below, meth, c⟩ := Y
  exact fun H locs ls hl hP hQ hS => kk H locs ls (lv_sub hl ks h) hP hQ hS
theorem l_ic_gt (C : ZLc Y b L xs gX gR) {x y : Int32} {off : Int} (tgt : Nat) (hd : decode code pc = .ok (.if_icmp .gt off, 3)) (h9 : (pc : Int) + off = (tgt : Int)) (kt : y < x → ZL Y b gX gR MX MR (tgt) lv st) (kf : ¬ y < x → ZL Y b gX gR MX MR (pc + 3) lv st) : ZL Y b gX gR MX MR (pc) lv (.int y :: .int x :: st) := by
  obtain ⟨p, l, e, s, m, below, meth, c⟩ := Y
  obtain ⟨⟨hx, hb, hr, hml, ho, hts, hX, hbl, hlk, hgv⟩, hg1, hg2, hK, hD1, hD2, hZ⟩ := C
  exact fun H locs ls hl hP hQ hS => lv_icmp_gt hx hb hd h9 (fun h => kt h H locs ls hl hP hQ hS) (fun h => kf h H locs ls hl hP hQ hS)
theorem l_ic_eq (C : ZLc Y b L xs gX gR) {x y : Int32} {off : Int} (tgt : Nat) (hd : decode code pc = .ok (.if_icmp .eq off, 3)) (h9 : (pc : Int) + off = (tgt : Int)) (he : x = y) (kt : ZL Y b gX gR MX MR (tgt) lv st) : ZL Y b gX gR MX MR (pc) lv (.int y :: .int x :: st) := by
  obtain ⟨p, l, e, s, m, below, meth, c⟩ := Y
  obtain ⟨⟨hx, hb, hr, hml, ho, hts, hX, hbl, hlk, hgv⟩, hg1, hg2, hK, hD1, hD2, hZ⟩ := C
  exact fun H locs ls hl hP hQ hS => lv_icmp_eq hx hb hd h9 (fun h => kt H locs ls hl hP hQ hS) (fun h => absurd he h)
theorem l_if_eq (C : ZLc Y b L xs gX gR) {x : Int32} {off : Int} (tgt : Nat) (hd : decode code pc = .ok (.ifCond .eq off, 3)) (h9 : (pc : Int) + off = (tgt : Int)) (he : x = 0) (kt : ZL Y b gX gR MX MR (tgt) lv st) : ZL Y b gX gR MX MR (pc) lv (.int x :: st) := by
  obtain ⟨p, l, e, s, m, below, meth, c⟩ := Y
  obtain ⟨⟨hx, hb, hr, hml, ho, hts, hX, hbl, hlk, hgv⟩, hg1, hg2, hK, hD1, hD2, hZ⟩ := C
  exact fun H locs ls hl hP hQ hS => lv_if_eq hx hb hd h9 (fun h => kt H locs ls hl hP hQ hS) (fun h => absurd he h)
theorem l_table (C : ZLc Y b L xs gX gR) {x : Int32} {dflt hi : Int} {offs : Array Int} {len : Nat} (tgts : List Nat) (td : Nat) (hd : decode code pc = .ok (.tableswitch dflt 0 hi offs, len)) (ho0 : offs.toList = tgts.map (fun t : Nat => (t : Int) - (pc : Int))) (hh : hi = (tgts.length : Int) - 1) (hq : dflt = (td : Int) - (pc : Int)) (hn : tgts.length < 1000)
    (kin : ∀ (k t : Nat), tgts[k]? = some t → x = nI k → ZL Y b gX gR MX MR (t) lv st) (kout : ZL Y b gX gR MX MR (td) lv st) : ZL Y b gX gR MX MR (pc) lv (.int x :: st) := by
  by_cases h : 0 ≤ x.toInt ∧ x.toInt < (tgts.length : Int)
  · have hk : x = nI x.toInt.toNat := by
      apply Int32.toInt_inj.mp
      rw [nI_toInt (by omega)]
      omega
    have hlt : x.toInt.toNat < tgts.length := by omega
    have h1 : tgts[x.toInt.toNat]? = some tgts[x.toInt.toNat] := List.getElem?_eq_getElem hlt
    have kk := kin _ _ h1 hk
    obtain ⟨p, l, e, s, m, below, meth, c⟩ := Y
    obtain ⟨⟨hx, hb, -⟩, -⟩ := C
    refine fun H locs ls hl hP hQ hS => lv_tableIn (tgt := tgts[x.toInt.toNat]) (off := (tgts[x.toInt.toNat] : Int) - (pc : Int)) hx hb hd (by omega) (by omega) ?_ (by omega) (kk H locs ls hl hP hQ hS)
    rw [← Array.getElem?_toList, ho0, List.getElem?_map, show (x.toInt - 0).toNat = x.toInt.toNat by omega, h1]
    rfl
  · obtain ⟨p, l, e, s, m, below, meth, c⟩ := Y
    obtain ⟨⟨hx, hb, -⟩, -⟩ := C
    exact fun H locs ls hl hP hQ hS => lv_tableOut (tgt := td) hx hb hd (by omega) (by omega) (kout H locs ls hl hP hQ hS)
theorem l_ret (C : ZLc Y b L xs gX gR) (hd : decode code pc = .ok (.ireturn, 1)) : ZL Y b gX gR MX MR (pc) lv [.int 1] := by
  obtain ⟨p, l, e, s, m, below, meth, c⟩ := Y
  obtain ⟨⟨hx, hb, hr, hml, ho, hts, hX, hbl, hlk, hgv⟩, hg1, hg2, hK, hD1, hD2, hZ⟩ := C
  exact fun H locs ls hl hP hQ hS => va_forget (fun q hq => hS.2.2 q hq) (lw_ret hx hb hr hlk hd)
theorem l_callXi (C : ZLc Y b L xs gX gR) {y : MethodName} {cy : ByteArray} {ml n idx k : Nat} {rt : Option FieldType} {As rest : List Value} {post : Int32 → Mem → Prop} (hm : Zm true y cy ml rt n (rl k)) (hl : Cond.methodLink "SnowRoadLaw" idx y ∈ zt) (hc : y.cls = "SnowRoad") (hk : Nat.ble k 10 = true) (hml0 : Nat.ble ml 20 = true) (hM : CtI (oX gX) y cy ml rt (rl k) (.ref (ax gX 0) :: As) MX post) (hn : As.length = n) (hst : st = As.reverse ++ .ref (ax gX 0) :: rest) (hrm : Nat.ble (rest.map fun v => v.category).sum 8 = true) (hd : decode code pc = .ok (.invokevirtual idx, 3))
    (kk : ∀ (r : Int32) (M2 : Mem), post r M2 → ZL Y b gX gR M2 MR (pc + 3) lv (.int r :: rest)) : ZL Y b gX gR MX MR pc lv st := by
  subst hst
  obtain ⟨p, l, e, s, m, below, meth, c⟩ := Y
  obtain ⟨⟨hx, hb, hr, hml, ho, hts, hX, hbl, hlk, hgv⟩, hg1, hg2, hK, hD1, hD2, hZ⟩ := C
  intro H locs ls hl' hP hQ hS
  have hDx : va_D (fun q : Nat => s.heap.size ≤ q) (wX gX MX) := va_D_r (hD1 MX MR)
  have hF : ∀ q, va_A (wX gX MX) H.size q → s.heap.size ≤ q := by
    intro q h
    rcases h with ⟨k, e, h⟩ | h
    · exact hDx.2 k (q, e) h
    · exact Nat.le_trans hS.1 h
  have htb : ∀ q ∈ zt, q.before #[Value.ref b] s = true := fun q h => hts q (zt_in h)
  have hk' := Nat.le_of_ble_eq_true hk
  have hml' := Nat.le_of_ble_eq_true hml0
  refine va_calli (va_runV (C := y.cls) (As := As) (rest := rest) ⟨hx, hb, hml, ho, htb⟩ (hM l H.size) (cwV n htb (zm_goodV hm hl) rfl hm.2.2.2.2.2.1 hm.2.2.2.2.2.2 ⟨rfl, hm.2.2.2.2.1⟩ ⟨show k + 1 ≤ 12 by omega, show 8 + (ml + 11) + 40 * k ≤ 470 by omega⟩) ⟨zz_blind, va_recv (q := (y.cls, TX5, 12)) (q0 := 0) (ci := 5) (fs := _) hK hP (by rw [hc]; rfl) rfl, fun U hU hW => ⟨rfl, by rw [hU], by rw [hU]; exact hP, va_K.moved hW.alike hK, hDx.weaken (fun _ _ _ _ => trivial), zz_st (w := oX gX) (M := MX) hZ hS hF hU hW.alike⟩⟩ rfl hn hl'.1 rfl (lv_room (Nat.le_of_ble_eq_true hrm)) hd ⟨Nat.le_refl _, Nat.le_refl _⟩) hS (fun q _ h => hF q h) hF (fun r u t H1 locs ht hvm hw hB hz1 hk1 hS => ?_)
  obtain ⟨hP1, -⟩ := zz_join (va_P.app hQ hP) (hD1 MX MR) hk1 hF (ht ▸ hB.1) hB.2.2
  exact kk r u hw H1 locs ls hl' (va_P_r hP1) (va_P_l hP1) hS
theorem l_callRi (C : ZLc Y b L xs gX gR) {y : MethodName} {cy : ByteArray} {ml n idx k : Nat} {rt : Option FieldType} {As rest : List Value} {post : Int32 → Mem → Prop} (hm : Zm true y cy ml rt n (rl k)) (hl : Cond.methodLink "SnowRoadLaw" idx y ∈ zt) (hc : y.cls = "SnowRoadModel") (hk : Nat.ble k 10 = true) (hml0 : Nat.ble ml 20 = true) (hM : CtI (oR gR) y cy ml rt (rl k) (.ref (ax gR 0) :: As) MR post) (hn : As.length = n) (hst : st = As.reverse ++ .ref (ax gR 0) :: rest) (hrm : Nat.ble (rest.map fun v => v.category).sum 8 = true) (hd : decode code pc = .ok (.invokevirtual idx, 3))
    (kk : ∀ (r : Int32) (M2 : Mem), post r M2 → ZL Y b gX gR MX M2 (pc + 3) lv (.int r :: rest)) : ZL Y b gX gR MX MR pc lv st := by
  subst hst
  obtain ⟨p, l, e, s, m, below, meth, c⟩ := Y
  obtain ⟨⟨hx, hb, hr, hml, ho, hts, hX, hbl, hlk, hgv⟩, hg1, hg2, hK, hD1, hD2, hZ⟩ := C
  intro H locs ls hl' hP hQ hS
  obtain ⟨D0, a0, r0⟩ := gR
  obtain ⟨D1, a1, r1⟩ := gX
  dsimp only at hg1 hg2
  subst hg1; subst hg2
  have hDx : va_D (fun q : Nat => s.heap.size ≤ q) (wR (D0, a0, r0) MR) := va_D_r (hD2 MX MR)
  have hF : ∀ q, va_A (wR (D0, a0, r0) MR) H.size q → s.heap.size ≤ q := by
    intro q h
    rcases h with ⟨k, e, h⟩ | h
    · exact hDx.2 k (q, e) h
    · exact Nat.le_trans hS.1 h
  have htb : ∀ q ∈ zt, q.before #[Value.ref b] s = true := fun q h => hts q (zt_in h)
  have hk' := Nat.le_of_ble_eq_true hk
  have hml' := Nat.le_of_ble_eq_true hml0
  refine va_calli (va_runV (C := y.cls) (As := As) (rest := rest) ⟨hx, hb, hml, ho, htb⟩ (hM l H.size) (cwV n htb (zm_goodV hm hl) rfl hm.2.2.2.2.2.1 hm.2.2.2.2.2.2 ⟨rfl, hm.2.2.2.2.1⟩ ⟨show k + 1 ≤ 12 by omega, show 8 + (ml + 11) + 40 * k ≤ 470 by omega⟩) ⟨zz_blind, va_recv (q := (y.cls, TX6, 35)) (q0 := 0) (ci := 6) (fs := _) hK hQ (by rw [hc]; rfl) rfl, fun U hU hW => ⟨rfl, by rw [hU], by rw [hU]; exact hQ, va_K.moved hW.alike hK, hDx.weaken (fun _ _ _ _ => trivial), zz_st (w := oR (D0, a0, r0)) (M := MR) hZ hS hF hU hW.alike⟩⟩ rfl hn hl'.1 rfl (lv_room (Nat.le_of_ble_eq_true hrm)) hd ⟨Nat.le_refl _, Nat.le_refl _⟩) hS (fun q _ h => hF q h) hF (fun r u t H1 locs ht hvm hw hB hz1 hk1 hS => ?_)
  obtain ⟨hP1, -⟩ := zz_join (va_P.app hP hQ) (hD2 MX MR) hk1 hF (ht ▸ hB.1) hB.2.2
  exact kk r u hw H1 locs ls hl' (va_P_l hP1) (va_P_r hP1) hS
theorem l_callXl (C : ZLc Y b L xs gX gR) {y : MethodName} {cy : ByteArray} {ml n idx k : Nat} {rt : Option FieldType} {As rest : List Value} {post : Int64 → Mem → Prop} (hm : Zm true y cy ml rt n (rl k)) (hl : Cond.methodLink "SnowRoadLaw" idx y ∈ zt) (hc : y.cls = "SnowRoad") (hk : Nat.ble k 10 = true) (hml0 : Nat.ble ml 20 = true) (hM : CtL (oX gX) y cy ml rt (rl k) (.ref (ax gX 0) :: As) MX post) (hn : As.length = n) (hst : st = As.reverse ++ .ref (ax gX 0) :: rest) (hrm : Nat.ble (rest.map fun v => v.category).sum 8 = true) (hd : decode code pc = .ok (.invokevirtual idx, 3))
    (kk : ∀ (r : Int64) (M2 : Mem), post r M2 → ZL Y b gX gR M2 MR (pc + 3) lv (.long r :: rest)) : ZL Y b gX gR MX MR pc lv st := by
  subst hst
  obtain ⟨p, l, e, s, m, below, meth, c⟩ := Y
  obtain ⟨⟨hx, hb, hr, hml, ho, hts, hX, hbl, hlk, hgv⟩, hg1, hg2, hK, hD1, hD2, hZ⟩ := C
  intro H locs ls hl' hP hQ hS
  have hDx : va_D (fun q : Nat => s.heap.size ≤ q) (wX gX MX) := va_D_r (hD1 MX MR)
  have hF : ∀ q, va_A (wX gX MX) H.size q → s.heap.size ≤ q := by
    intro q h
    rcases h with ⟨k, e, h⟩ | h
    · exact hDx.2 k (q, e) h
    · exact Nat.le_trans hS.1 h
  have htb : ∀ q ∈ zt, q.before #[Value.ref b] s = true := fun q h => hts q (zt_in h)
  have hk' := Nat.le_of_ble_eq_true hk
  have hml' := Nat.le_of_ble_eq_true hml0
  refine va_calll (va_runV (C := y.cls) (As := As) (rest := rest) ⟨hx, hb, hml, ho, htb⟩ (hM l H.size) (cwV n htb (zm_goodV hm hl) rfl hm.2.2.2.2.2.1 hm.2.2.2.2.2.2 ⟨rfl, hm.2.2.2.2.1⟩ ⟨show k + 1 ≤ 12 by omega, show 8 + (ml + 11) + 40 * k ≤ 470 by omega⟩) ⟨zz_blind, va_recv (q := (y.cls, TX5, 12)) (q0 := 0) (ci := 5) (fs := _) hK hP (by rw [hc]; rfl) rfl, fun U hU hW => ⟨rfl, by rw [hU], by rw [hU]; exact hP, va_K.moved hW.alike hK, hDx.weaken (fun _ _ _ _ => trivial), zz_st (w := oX gX) (M := MX) hZ hS hF hU hW.alike⟩⟩ rfl hn hl'.1 rfl (lv_room (Nat.le_of_ble_eq_true hrm)) hd ⟨Nat.le_refl _, Nat.le_refl _⟩) hS (fun q _ h => hF q h) hF (fun r u t H1 locs ht hvm hw hB hz1 hk1 hS => ?_)
  obtain ⟨hP1, -⟩ := zz_join (va_P.app hQ hP) (hD1 MX MR) hk1 hF (ht ▸ hB.1) hB.2.2
  exact kk r u hw H1 locs ls hl' (va_P_r hP1) (va_P_l hP1) hS
theorem l_callRl (C : ZLc Y b L xs gX gR) {y : MethodName} {cy : ByteArray} {ml n idx k : Nat} {rt : Option FieldType} {As rest : List Value} {post : Int64 → Mem → Prop} (hm : Zm true y cy ml rt n (rl k)) (hl : Cond.methodLink "SnowRoadLaw" idx y ∈ zt) (hc : y.cls = "SnowRoadModel") (hk : Nat.ble k 10 = true) (hml0 : Nat.ble ml 20 = true) (hM : CtL (oR gR) y cy ml rt (rl k) (.ref (ax gR 0) :: As) MR post) (hn : As.length = n) (hst : st = As.reverse ++ .ref (ax gR 0) :: rest) (hrm : Nat.ble (rest.map fun v => v.category).sum 8 = true) (hd : decode code pc = .ok (.invokevirtual idx, 3))
    (kk : ∀ (r : Int64) (M2 : Mem), post r M2 → ZL Y b gX gR MX M2 (pc + 3) lv (.long r :: rest)) : ZL Y b gX gR MX MR pc lv st := by
  subst hst
  obtain ⟨p, l, e, s, m, below, meth, c⟩ := Y
  obtain ⟨⟨hx, hb, hr, hml, ho, hts, hX, hbl, hlk, hgv⟩, hg1, hg2, hK, hD1, hD2, hZ⟩ := C
  intro H locs ls hl' hP hQ hS
  obtain ⟨D0, a0, r0⟩ := gR
  obtain ⟨D1, a1, r1⟩ := gX
  dsimp only at hg1 hg2
  subst hg1; subst hg2
  have hDx : va_D (fun q : Nat => s.heap.size ≤ q) (wR (D0, a0, r0) MR) := va_D_r (hD2 MX MR)
  have hF : ∀ q, va_A (wR (D0, a0, r0) MR) H.size q → s.heap.size ≤ q := by
    intro q h
    rcases h with ⟨k, e, h⟩ | h
    · exact hDx.2 k (q, e) h
    · exact Nat.le_trans hS.1 h
  have htb : ∀ q ∈ zt, q.before #[Value.ref b] s = true := fun q h => hts q (zt_in h)
  have hk' := Nat.le_of_ble_eq_true hk
  have hml' := Nat.le_of_ble_eq_true hml0
  refine va_calll (va_runV (C := y.cls) (As := As) (rest := rest) ⟨hx, hb, hml, ho, htb⟩ (hM l H.size) (cwV n htb (zm_goodV hm hl) rfl hm.2.2.2.2.2.1 hm.2.2.2.2.2.2 ⟨rfl, hm.2.2.2.2.1⟩ ⟨show k + 1 ≤ 12 by omega, show 8 + (ml + 11) + 40 * k ≤ 470 by omega⟩) ⟨zz_blind, va_recv (q := (y.cls, TX6, 35)) (q0 := 0) (ci := 6) (fs := _) hK hQ (by rw [hc]; rfl) rfl, fun U hU hW => ⟨rfl, by rw [hU], by rw [hU]; exact hQ, va_K.moved hW.alike hK, hDx.weaken (fun _ _ _ _ => trivial), zz_st (w := oR (D0, a0, r0)) (M := MR) hZ hS hF hU hW.alike⟩⟩ rfl hn hl'.1 rfl (lv_room (Nat.le_of_ble_eq_true hrm)) hd ⟨Nat.le_refl _, Nat.le_refl _⟩) hS (fun q _ h => hF q h) hF (fun r u t H1 locs ht hvm hw hB hz1 hk1 hS => ?_)
  obtain ⟨hP1, -⟩ := zz_join (va_P.app hP hQ) (hD2 MX MR) hk1 hF (ht ▸ hB.1) hB.2.2
  exact kk r u hw H1 locs ls hl' (va_P_l hP1) (va_P_r hP1) hS
end LR
