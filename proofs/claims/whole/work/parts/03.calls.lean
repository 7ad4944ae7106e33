/-! calls and contracts -/
def zws (y : MethodName) (cy : ByteArray) (ml : Nat) (rt : Option FieldType) : List Cond := .code y cy ml rt :: zt
def Zpre (w : ZW) (av : List Value) (M : Mem) (sz : Nat) : Array Value → State → Prop := va_Pc av (fun U => U.heap.size = sz ∧ va_P w.1 w.2.1 (w.2.2.2.1 M) U.heap ∧ va_K w.1 w.2.1 w.2.2.1 U ∧ va_D (fun _ => True) (w.2.2.2.1 M) ∧ Zst w (va_A (w.2.2.2.1 M) sz) U U.heap)
/-- the addresses of a world don't hang on what its cells hold -/
def Zok (w : ZW) : Prop := ∀ (M M' : Mem) (k : Nat), ((w.2.2.2.1 M)[k]?).map Prod.fst = ((w.2.2.2.1 M')[k]?).map Prod.fst
def CtI (w : ZW) (y : MethodName) (cy : ByteArray) (ml : Nat) (rt : Option FieldType) (rmy : Room) (av : List Value) (M : Mem) (post : Int32 → Mem → Prop) : Prop := ∀ (l : Launch) (sz : Nat), Met l y (zws y cy ml rt) rmy (Zpre w av M sz) (va_Qi post (Zat w (va_A (w.2.2.2.1 M) sz)) (va_A (w.2.2.2.1 M) sz)) 0 0 (va_A (w.2.2.2.1 M) sz)
def CtL (w : ZW) (y : MethodName) (cy : ByteArray) (ml : Nat) (rt : Option FieldType) (rmy : Room) (av : List Value) (M : Mem) (post : Int64 → Mem → Prop) : Prop := ∀ (l : Launch) (sz : Nat), Met l y (zws y cy ml rt) rmy (Zpre w av M sz) (va_Ql post (Zat w (va_A (w.2.2.2.1 M) sz)) (va_A (w.2.2.2.1 M) sz)) 0 0 (va_A (w.2.2.2.1 M) sz)
def CtV (w : ZW) (y : MethodName) (cy : ByteArray) (ml : Nat) (rt : Option FieldType) (rmy : Room) (av : List Value) (M : Mem) (post : Mem → Prop) : Prop := ∀ (l : Launch) (sz : Nat), Met l y (zws y cy ml rt) rmy (Zpre w av M sz) (va_Qv post (Zat w (va_A (w.2.2.2.1 M) sz)) (va_A (w.2.2.2.1 M) sz)) 0 0 (va_A (w.2.2.2.1 M) sz)
def CtR (w : ZW) (y : MethodName) (cy : ByteArray) (ml : Nat) (rt : Option FieldType) (rmy : Room) (av : List Value) (M : Mem) (post : Mem → Prop) (ra : Nat) : Prop := ∀ (l : Launch) (sz : Nat), Met l y (zws y cy ml rt) rmy (Zpre w av M sz) (va_Qr post (fun u a t => a = ra ∧ Zat w (va_A (w.2.2.2.1 M) sz) u t) (va_A (w.2.2.2.1 M) sz)) 0 0 (va_A (w.2.2.2.1 M) sz)
/-- what the tables say of a method, virtual (v = true) or static -/
def Zm (v : Bool) (y : MethodName) (cy : ByteArray) (ml : Nat) (rt : Option FieldType) (n : Nat) (rmy : Room) : Prop :=
  Cond.code y cy ml rt ∈ zt ∧ Cond.initialized y.cls ∈ zt ∧ (v = true → Cond.instanceMethod y ∈ zt ∧ Cond.selects y.cls y y ∈ zt) ∧ (v = false → Cond.static y ∈ zt) ∧ (y.cls ≠ "java/lang/invoke/MethodHandle" ∧ y.cls ≠ "java/lang/invoke/VarHandle" ∧ (parseMethodDescriptor y.desc).map (fun d => d.parameters.length) = some n) ∧ rmy.cells = 0 ∧ rmy.slots = 0
theorem zm_goodS {y : MethodName} {cy : ByteArray} {ml : Nat} {rt : Option FieldType} {n idx : Nat} {rmy : Room} {own : String} (h : Zm false y cy ml rt n rmy) (hl : Cond.methodLink own idx y ∈ zt) : GoodIn zt (va_wsS own idx y (zws y cy ml rt)) := by
  obtain ⟨h1, h2, -, h4, -⟩ := h
  intro q hq
  have hz : q ∈ zt := by
    rcases List.mem_append.mp hq with h | h
    · simp only [List.mem_cons, List.not_mem_nil, or_false] at h
      rcases h with rfl | rfl | rfl
      · exact hl
      · exact h4 rfl
      · exact h2
    · rcases List.mem_cons.mp h with rfl | h
      · exact h1
      · exact h
  exact ⟨hz, good_of_word (zz_good q hz)⟩
theorem zm_goodV {y : MethodName} {cy : ByteArray} {ml : Nat} {rt : Option FieldType} {n idx : Nat} {rmy : Room} {own : String} (h : Zm true y cy ml rt n rmy) (hl : Cond.methodLink own idx y ∈ zt) : GoodIn zt (wsV own idx y.cls y (zws y cy ml rt)) := by
  obtain ⟨h1, h2, h3, -, -⟩ := h
  intro q hq
  have hz : q ∈ zt := by
    rcases List.mem_append.mp hq with h | h
    · simp only [List.mem_cons, List.not_mem_nil, or_false] at h
      rcases h with rfl | rfl | rfl | rfl
      · exact hl
      · exact (h3 rfl).1
      · exact (h3 rfl).2
      · exact h2
    · rcases List.mem_cons.mp h with rfl | h
      · exact h1
      · exact h
  exact ⟨hz, good_of_word (zz_good q hz)⟩
theorem zok_D {w : ZW} (hw : Zok w) {A : Nat → Prop} {M : Mem} (h : va_D A (w.2.2.2.1 M)) (M' : Mem) : va_D A (w.2.2.2.1 M') := by
  have key : ∀ (k : Nat) (q : Nat × va_E), (w.2.2.2.1 M')[k]? = some q → ∃ q', (w.2.2.2.1 M)[k]? = some q' ∧ q'.1 = q.1 := by
    intro k q hq
    have h1 := hw M M' k
    rw [hq] at h1
    cases h2 : (w.2.2.2.1 M)[k]? with
    | none => rw [h2] at h1; cases h1
    | some q' => rw [h2] at h1; exact ⟨q', rfl, Option.some.inj h1⟩
  refine ⟨fun i j p q hp hq e => ?_, fun k q hq => ?_⟩
  · obtain ⟨p', hp', ep⟩ := key i p hp
    obtain ⟨q', hq', eq⟩ := key j q hq
    exact h.1 i j p' q' hp' hq' (by rw [ep, eq, e])
  · obtain ⟨q', hq', e⟩ := key k q hq
    rw [← e]
    exact h.2 k q' hq'
theorem zok_A {w : ZW} (hw : Zok w) {M M' : Mem} {sz : Nat} : va_A (w.2.2.2.1 M) sz = va_A (w.2.2.2.1 M') sz := by
  have key : ∀ (M M' : Mem) (q : Nat), va_A (w.2.2.2.1 M) sz q → va_A (w.2.2.2.1 M') sz q := by
    intro M M' q h
    rcases h with ⟨k, e, h⟩ | h
    · have h1 := hw M M' k
      rw [h] at h1
      cases h2 : (w.2.2.2.1 M')[k]? with
      | none => rw [h2] at h1; cases h1
      | some q' =>
        rw [h2] at h1
        have h3 : q = q'.1 := Option.some.inj h1
        exact Or.inl ⟨k, q'.2, by rw [h2, h3]⟩
    · exact Or.inr h
  funext q
  exact propext ⟨key M M' q, key M' M q⟩
section ZS
variable {X : ZX} {cc : ByteArray} {own : String} {nL : Nat} {rm : Room} {w : ZW} {M : Mem} {pc : Nat} {lv : List (Nat × Value)} {st : List Value}
theorem zz_blind {av : List Value} {sz : Nat} : FrameBlind (Zpre w av M sz) := fun a U g mk q => by
  obtain ⟨q0, q1, qP, qK, qD, qZ⟩ := q
  exact ⟨q0, q1, qP, va_K.moved (u := U) (U := U.calling g mk a) (Vm.Alike.refl U.vm) qK, qD, va_Z.moved (u := U) (U := U.calling g mk a) (Vm.Alike.refl U.vm) qZ.1, va_T.moved (u := U) (U := U.calling g mk a) (Vm.Alike.refl U.vm) qZ.2⟩
theorem zz_freeA {A : Nat → Prop} {s : State} {H : Heap} {locs : List Loc} (hD : va_D A (w.2.2.2.1 M)) (hS : va_S A s.heap H locs) (hA : ∀ q, s.heap.size ≤ q → A q) : ∀ q, va_A (w.2.2.2.1 M) H.size q → A q := by
  intro q h
  rcases h with ⟨k, e, h⟩ | h
  · exact hD.2 k (q, e) h
  · exact hA q (Nat.le_trans hS.1 h)
theorem zz_st {A : Nat → Prop} {s U : State} {H : Heap} {locs : List Loc} (hZ : Zst w A s s.heap) (hS : va_S A s.heap H locs) (hF : ∀ q, va_A (w.2.2.2.1 M) H.size q → A q) (hU : U.heap = H) (hvm : s.vm.Alike U.vm) : Zst w (va_A (w.2.2.2.1 M) H.size) U U.heap := by
  rw [hU]
  exact ⟨((hZ.1.kept hS.2.1).narrow hF).moved hvm, ((hZ.2.kept hS.2.1).narrow hF).moved hvm⟩
theorem z_callSi (C : Zc X cc own nL rm w) {y : MethodName} {cy : ByteArray} {ml n idx : Nat} {rt : Option FieldType} {rmy : Room} {As rest : List Value} {post : Int32 → Mem → Prop} (hm : Zm false y cy ml rt n rmy) (hl : Cond.methodLink own idx y ∈ zt) (hR : Nat.ble (rmy.frames + 1) rm.frames = true ∧ Nat.ble (8 + (ml + 11) + rmy.locals) rm.locals = true) (hM : CtI w y cy ml rt rmy As M post) (hn : As.length = n) (hst : st = As.reverse ++ rest) (hrm : Nat.ble (rest.map fun v => v.category).sum 8 = true) (hd : decode cc pc = .ok (.invokestatic idx, 3))
    (kk : ∀ (r : Int32) (M2 : Mem), post r M2 → Zj X nL w M2 (pc + 3) lv (.int r :: rest)) : Zj X nL w M pc lv st := by
  subst hst
  obtain ⟨p, l, e, R, s, m, args, below, meth, c, A, Q⟩ := X
  obtain ⟨hx, hb, hml, ho, htb, hK, hDa, hA, hlk, rfl, hZs⟩ := C
  intro H locs ls hl' hP hS
  have hF := zz_freeA (hDa M) hS hA
  refine va_calli (va_runS (As := As) (rest := rest) ⟨hx, hb, hml, ho, htb⟩ (hM l H.size) (va_cwS n htb (zm_goodS hm hl) rfl hm.2.2.2.2.2.1 hm.2.2.2.2.2.2 hm.2.2.2.2.1 ⟨Nat.le_of_ble_eq_true hR.1, Nat.le_of_ble_eq_true hR.2⟩) ⟨zz_blind, fun U hU hW => ⟨rfl, by rw [hU], by rw [hU]; exact hP, va_K.moved hW.alike hK, (hDa M).weaken (fun _ _ _ _ => trivial), zz_st hZs hS hF hU hW.alike⟩⟩ rfl hn hl'.1 rfl (lv_room (Nat.le_of_ble_eq_true hrm)) hd ⟨Nat.zero_le _, Nat.zero_le _⟩) hS (fun q _ h => hF q h) hF (fun r u t H1 locs ht hvm hw hB hz1 hk1 hS => ?_)
  exact kk r u hw H1 locs ls hl' (ht ▸ hB.1) hS
theorem z_callVi (C : Zc X cc own nL rm w) {y : MethodName} {cy : ByteArray} {ml n idx b : Nat} {rt : Option FieldType} {rmy : Room} {As rest : List Value} {post : Int32 → Mem → Prop} (hm : Zm true y cy ml rt n rmy) (hl : Cond.methodLink own idx y ∈ zt) (q0 : Nat) {ci N : Nat} {T : u_T} {fs : List Value} (he : (w.2.2.2.1 M)[q0]? = some (b, .inr (ci, fs))) (hc : w.2.1[ci]? = some (y.cls, T, N)) (hR : Nat.ble (rmy.frames + 1) rm.frames = true ∧ Nat.ble (8 + (ml + 11) + rmy.locals) rm.locals = true) (hM : CtI w y cy ml rt rmy (.ref b :: As) M post) (hn : As.length = n) (hst : st = As.reverse ++ .ref b :: rest) (hrm : Nat.ble (rest.map fun v => v.category).sum 8 = true) (hd : decode cc pc = .ok (.invokevirtual idx, 3))
    (kk : ∀ (r : Int32) (M2 : Mem), post r M2 → Zj X nL w M2 (pc + 3) lv (.int r :: rest)) : Zj X nL w M pc lv st := by
  subst hst
  obtain ⟨p, l, e, R, s, m, args, below, meth, c, A, Q⟩ := X
  obtain ⟨hx, hb, hml, ho, htb, hK, hDa, hA, hlk, rfl, hZs⟩ := C
  intro H locs ls hl' hP hS
  have hF := zz_freeA (hDa M) hS hA
  refine va_calli (va_runV (C := y.cls) (As := As) (rest := rest) ⟨hx, hb, hml, ho, htb⟩ (hM l H.size) (cwV n htb (zm_goodV hm hl) rfl hm.2.2.2.2.2.1 hm.2.2.2.2.2.2 ⟨rfl, hm.2.2.2.2.1⟩ ⟨Nat.le_of_ble_eq_true hR.1, Nat.le_of_ble_eq_true hR.2⟩) ⟨zz_blind, va_recv hK hP hc he, fun U hU hW => ⟨rfl, by rw [hU], by rw [hU]; exact hP, va_K.moved hW.alike hK, (hDa M).weaken (fun _ _ _ _ => trivial), zz_st hZs hS hF hU hW.alike⟩⟩ rfl hn hl'.1 rfl (lv_room (Nat.le_of_ble_eq_true hrm)) hd ⟨Nat.zero_le _, Nat.zero_le _⟩) hS (fun q _ h => hF q h) hF (fun r u t H1 locs ht hvm hw hB hz1 hk1 hS => ?_)
  exact kk r u hw H1 locs ls hl' (ht ▸ hB.1) hS
theorem z_callSl (C : Zc X cc own nL rm w) {y : MethodName} {cy : ByteArray} {ml n idx : Nat} {rt : Option FieldType} {rmy : Room} {As rest : List Value} {post : Int64 → Mem → Prop} (hm : Zm false y cy ml rt n rmy) (hl : Cond.methodLink own idx y ∈ zt) (hR : Nat.ble (rmy.frames + 1) rm.frames = true ∧ Nat.ble (8 + (ml + 11) + rmy.locals) rm.locals = true) (hM : CtL w y cy ml rt rmy As M post) (hn : As.length = n) (hst : st = As.reverse ++ rest) (hrm : Nat.ble (rest.map fun v => v.category).sum 8 = true) (hd : decode cc pc = .ok (.invokestatic idx, 3))
    (kk : ∀ (r : Int64) (M2 : Mem), post r M2 → Zj X nL w M2 (pc + 3) lv (.long r :: rest)) : Zj X nL w M pc lv st := by
  subst hst
  obtain ⟨p, l, e, R, s, m, args, below, meth, c, A, Q⟩ := X
  obtain ⟨hx, hb, hml, ho, htb, hK, hDa, hA, hlk, rfl, hZs⟩ := C
  intro H locs ls hl' hP hS
  have hF := zz_freeA (hDa M) hS hA
  refine va_calll (va_runS (As := As) (rest := rest) ⟨hx, hb, hml, ho, htb⟩ (hM l H.size) (va_cwS n htb (zm_goodS hm hl) rfl hm.2.2.2.2.2.1 hm.2.2.2.2.2.2 hm.2.2.2.2.1 ⟨Nat.le_of_ble_eq_true hR.1, Nat.le_of_ble_eq_true hR.2⟩) ⟨zz_blind, fun U hU hW => ⟨rfl, by rw [hU], by rw [hU]; exact hP, va_K.moved hW.alike hK, (hDa M).weaken (fun _ _ _ _ => trivial), zz_st hZs hS hF hU hW.alike⟩⟩ rfl hn hl'.1 rfl (lv_room (Nat.le_of_ble_eq_true hrm)) hd ⟨Nat.zero_le _, Nat.zero_le _⟩) hS (fun q _ h => hF q h) hF (fun r u t H1 locs ht hvm hw hB hz1 hk1 hS => ?_)
  exact kk r u hw H1 locs ls hl' (ht ▸ hB.1) hS
theorem z_callVl (C : Zc X cc own nL rm w) {y : MethodName} {cy : ByteArray} {ml n idx b : Nat} {rt : Option FieldType} {rmy : Room} {As rest : List Value} {post : Int64 → Mem → Prop} (hm : Zm true y cy ml rt n rmy) (hl : Cond.methodLink own idx y ∈ zt) (q0 : Nat) {ci N : Nat} {T : u_T} {fs : List Value} (he : (w.2.2.2.1 M)[q0]? = some (b, .inr (ci, fs))) (hc : w.2.1[ci]? = some (y.cls, T, N)) (hR : Nat.ble (rmy.frames + 1) rm.frames = true ∧ Nat.ble (8 + (ml + 11) + rmy.locals) rm.locals = true) (hM : CtL w y cy ml rt rmy (.ref b :: As) M post) (hn : As.length = n) (hst : st = As.reverse ++ .ref b :: rest) (hrm : Nat.ble (rest.map fun v => v.category).sum 8 = true) (hd : decode cc pc = .ok (.invokevirtual idx, 3))
    (kk : ∀ (r : Int64) (M2 : Mem), post r M2 → Zj X nL w M2 (pc + 3) lv (.long r :: rest)) : Zj X nL w M pc lv st := by
  subst hst
  obtain ⟨p, l, e, R, s, m, args, below, meth, c, A, Q⟩ := X
  obtain ⟨hx, hb, hml, ho, htb, hK, hDa, hA, hlk, rfl, hZs⟩ := C
  intro H locs ls hl' hP hS
  have hF := zz_freeA (hDa M) hS hA
  refine va_calll (va_runV (C := y.cls) (As := As) (rest := rest) ⟨hx, hb, hml, ho, htb⟩ (hM l H.size) (cwV n htb (zm_goodV hm hl) rfl hm.2.2.2.2.2.1 hm.2.2.2.2.2.2 ⟨rfl, hm.2.2.2.2.1⟩ ⟨Nat.le_of_ble_eq_true hR.1, Nat.le_of_ble_eq_true hR.2⟩) ⟨zz_blind, va_recv hK hP hc he, fun U hU hW => ⟨rfl, by rw [hU], by rw [hU]; exact hP, va_K.moved hW.alike hK, (hDa M).weaken (fun _ _ _ _ => trivial), zz_st hZs hS hF hU hW.alike⟩⟩ rfl hn hl'.1 rfl (lv_room (Nat.le_of_ble_eq_true hrm)) hd ⟨Nat.zero_le _, Nat.zero_le _⟩) hS (fun q _ h => hF q h) hF (fun r u t H1 locs ht hvm hw hB hz1 hk1 hS => ?_)
  exact kk r u hw H1 locs ls hl' (ht ▸ hB.1) hS
theorem z_callSv (C : Zc X cc own nL rm w) {y : MethodName} {cy : ByteArray} {ml n idx : Nat} {rt : Option FieldType} {rmy : Room} {As rest : List Value} {post : Mem → Prop} (hm : Zm false y cy ml rt n rmy) (hl : Cond.methodLink own idx y ∈ zt) (hR : Nat.ble (rmy.frames + 1) rm.frames = true ∧ Nat.ble (8 + (ml + 11) + rmy.locals) rm.locals = true) (hM : CtV w y cy ml rt rmy As M post) (hn : As.length = n) (hst : st = As.reverse ++ rest) (hrm : Nat.ble (rest.map fun v => v.category).sum 8 = true) (hd : decode cc pc = .ok (.invokestatic idx, 3))
    (kk : ∀ (M2 : Mem), post M2 → Zj X nL w M2 (pc + 3) lv rest) : Zj X nL w M pc lv st := by
  subst hst
  obtain ⟨p, l, e, R, s, m, args, below, meth, c, A, Q⟩ := X
  obtain ⟨hx, hb, hml, ho, htb, hK, hDa, hA, hlk, rfl, hZs⟩ := C
  intro H locs ls hl' hP hS
  have hF := zz_freeA (hDa M) hS hA
  refine va_callv (va_runS (As := As) (rest := rest) ⟨hx, hb, hml, ho, htb⟩ (hM l H.size) (va_cwS n htb (zm_goodS hm hl) rfl hm.2.2.2.2.2.1 hm.2.2.2.2.2.2 hm.2.2.2.2.1 ⟨Nat.le_of_ble_eq_true hR.1, Nat.le_of_ble_eq_true hR.2⟩) ⟨zz_blind, fun U hU hW => ⟨rfl, by rw [hU], by rw [hU]; exact hP, va_K.moved hW.alike hK, (hDa M).weaken (fun _ _ _ _ => trivial), zz_st hZs hS hF hU hW.alike⟩⟩ rfl hn hl'.1 rfl (lv_room (Nat.le_of_ble_eq_true hrm)) hd ⟨Nat.zero_le _, Nat.zero_le _⟩) hS (fun q _ h => hF q h) hF (fun u t H1 locs ht hvm hw hB hz1 hk1 hS => ?_)
  exact kk u hw H1 locs ls hl' (ht ▸ hB.1) hS
theorem z_callVv (C : Zc X cc own nL rm w) {y : MethodName} {cy : ByteArray} {ml n idx b : Nat} {rt : Option FieldType} {rmy : Room} {As rest : List Value} {post : Mem → Prop} (hm : Zm true y cy ml rt n rmy) (hl : Cond.methodLink own idx y ∈ zt) (q0 : Nat) {ci N : Nat} {T : u_T} {fs : List Value} (he : (w.2.2.2.1 M)[q0]? = some (b, .inr (ci, fs))) (hc : w.2.1[ci]? = some (y.cls, T, N)) (hR : Nat.ble (rmy.frames + 1) rm.frames = true ∧ Nat.ble (8 + (ml + 11) + rmy.locals) rm.locals = true) (hM : CtV w y cy ml rt rmy (.ref b :: As) M post) (hn : As.length = n) (hst : st = As.reverse ++ .ref b :: rest) (hrm : Nat.ble (rest.map fun v => v.category).sum 8 = true) (hd : decode cc pc = .ok (.invokevirtual idx, 3))
    (kk : ∀ (M2 : Mem), post M2 → Zj X nL w M2 (pc + 3) lv rest) : Zj X nL w M pc lv st := by
  subst hst
  obtain ⟨p, l, e, R, s, m, args, below, meth, c, A, Q⟩ := X
  obtain ⟨hx, hb, hml, ho, htb, hK, hDa, hA, hlk, rfl, hZs⟩ := C
  intro H locs ls hl' hP hS
  have hF := zz_freeA (hDa M) hS hA
  refine va_callv (va_runV (C := y.cls) (As := As) (rest := rest) ⟨hx, hb, hml, ho, htb⟩ (hM l H.size) (cwV n htb (zm_goodV hm hl) rfl hm.2.2.2.2.2.1 hm.2.2.2.2.2.2 ⟨rfl, hm.2.2.2.2.1⟩ ⟨Nat.le_of_ble_eq_true hR.1, Nat.le_of_ble_eq_true hR.2⟩) ⟨zz_blind, va_recv hK hP hc he, fun U hU hW => ⟨rfl, by rw [hU], by rw [hU]; exact hP, va_K.moved hW.alike hK, (hDa M).weaken (fun _ _ _ _ => trivial), zz_st hZs hS hF hU hW.alike⟩⟩ rfl hn hl'.1 rfl (lv_room (Nat.le_of_ble_eq_true hrm)) hd ⟨Nat.zero_le _, Nat.zero_le _⟩) hS (fun q _ h => hF q h) hF (fun u t H1 locs ht hvm hw hB hz1 hk1 hS => ?_)
  exact kk u hw H1 locs ls hl' (ht ▸ hB.1) hS
theorem z_callSr (C : Zc X cc own nL rm w) {y : MethodName} {cy : ByteArray} {ml n idx : Nat} {rt : Option FieldType} {rmy : Room} {As rest : List Value} {post : Mem → Prop} {ra : Nat} (hm : Zm false y cy ml rt n rmy) (hl : Cond.methodLink own idx y ∈ zt) (hR : Nat.ble (rmy.frames + 1) rm.frames = true ∧ Nat.ble (8 + (ml + 11) + rmy.locals) rm.locals = true) (hM : CtR w y cy ml rt rmy As M post ra) (hn : As.length = n) (hst : st = As.reverse ++ rest) (hrm : Nat.ble (rest.map fun v => v.category).sum 8 = true) (hd : decode cc pc = .ok (.invokestatic idx, 3))
    (kk : ∀ (M2 : Mem), post M2 → Zj X nL w M2 (pc + 3) lv (.ref ra :: rest)) : Zj X nL w M pc lv st := by
  subst hst
  obtain ⟨p, l, e, R, s, m, args, below, meth, c, A, Q⟩ := X
  obtain ⟨hx, hb, hml, ho, htb, hK, hDa, hA, hlk, rfl, hZs⟩ := C
  intro H locs ls hl' hP hS
  have hF := zz_freeA (hDa M) hS hA
  refine va_callr (va_runS (As := As) (rest := rest) ⟨hx, hb, hml, ho, htb⟩ (hM l H.size) (va_cwS n htb (zm_goodS hm hl) rfl hm.2.2.2.2.2.1 hm.2.2.2.2.2.2 hm.2.2.2.2.1 ⟨Nat.le_of_ble_eq_true hR.1, Nat.le_of_ble_eq_true hR.2⟩) ⟨zz_blind, fun U hU hW => ⟨rfl, by rw [hU], by rw [hU]; exact hP, va_K.moved hW.alike hK, (hDa M).weaken (fun _ _ _ _ => trivial), zz_st hZs hS hF hU hW.alike⟩⟩ rfl hn hl'.1 rfl (lv_room (Nat.le_of_ble_eq_true hrm)) hd ⟨Nat.zero_le _, Nat.zero_le _⟩) hS (fun q _ h => hF q h) hF (fun u ra2 t H1 locs ht hvm hw hB hz1 hk1 hS => ?_)
  obtain ⟨rfl, hB⟩ := hB
  exact kk u hw H1 locs ls hl' (ht ▸ hB.1) hS
theorem z_callVr (C : Zc X cc own nL rm w) {y : MethodName} {cy : ByteArray} {ml n idx b : Nat} {rt : Option FieldType} {rmy : Room} {As rest : List Value} {post : Mem → Prop} {ra : Nat} (hm : Zm true y cy ml rt n rmy) (hl : Cond.methodLink own idx y ∈ zt) (q0 : Nat) {ci N : Nat} {T : u_T} {fs : List Value} (he : (w.2.2.2.1 M)[q0]? = some (b, .inr (ci, fs))) (hc : w.2.1[ci]? = some (y.cls, T, N)) (hR : Nat.ble (rmy.frames + 1) rm.frames = true ∧ Nat.ble (8 + (ml + 11) + rmy.locals) rm.locals = true) (hM : CtR w y cy ml rt rmy (.ref b :: As) M post ra) (hn : As.length = n) (hst : st = As.reverse ++ .ref b :: rest) (hrm : Nat.ble (rest.map fun v => v.category).sum 8 = true) (hd : decode cc pc = .ok (.invokevirtual idx, 3))
    (kk : ∀ (M2 : Mem), post M2 → Zj X nL w M2 (pc + 3) lv (.ref ra :: rest)) : Zj X nL w M pc lv st := by
  subst hst
  obtain ⟨p, l, e, R, s, m, args, below, meth, c, A, Q⟩ := X
  obtain ⟨hx, hb, hml, ho, htb, hK, hDa, hA, hlk, rfl, hZs⟩ := C
  intro H locs ls hl' hP hS
  have hF := zz_freeA (hDa M) hS hA
  refine va_callr (va_runV (C := y.cls) (As := As) (rest := rest) ⟨hx, hb, hml, ho, htb⟩ (hM l H.size) (cwV n htb (zm_goodV hm hl) rfl hm.2.2.2.2.2.1 hm.2.2.2.2.2.2 ⟨rfl, hm.2.2.2.2.1⟩ ⟨Nat.le_of_ble_eq_true hR.1, Nat.le_of_ble_eq_true hR.2⟩) ⟨zz_blind, va_recv hK hP hc he, fun U hU hW => ⟨rfl, by rw [hU], by rw [hU]; exact hP, va_K.moved hW.alike hK, (hDa M).weaken (fun _ _ _ _ => trivial), zz_st hZs hS hF hU hW.alike⟩⟩ rfl hn hl'.1 rfl (lv_room (Nat.le_of_ble_eq_true hrm)) hd ⟨Nat.zero_le _, Nat.zero_le _⟩) hS (fun q _ h => hF q h) hF (fun u ra2 t H1 locs ht hvm hw hB hz1 hk1 hS => ?_)
  obtain ⟨rfl, hB⟩ := hB
  exact kk u hw H1 locs ls hl' (ht ▸ hB.1) hS
theorem z_rret (C : Zc X cc own nL rm w) {post : Mem → Prop} {a : Nat} {Cn : String} (hr : Zrr X w (some (.object Cn)) post a) (hp : post M) (hd : decode cc pc = .ok (.areturn, 1)) : Zj X nL w M pc lv [.ref a] := by
  obtain ⟨p, l, e, R, s, m, args, below, meth, c, A, Q⟩ := X
  obtain ⟨hx, hb, hml, ho, htb, hK, hDa, hA, hlk, hR, -⟩ := C
  obtain ⟨hr, rfl⟩ := hr
  exact fun H locs ls hl hP hS => W.aret (v := .ref a) hx hb hr (Or.inl ⟨Cn, rfl⟩) (Or.inr ⟨a, rfl⟩) (fun t ht hW => ⟨⟨M, a, rfl, hp, rfl, by rw [ht]; exact hP, va_K.moved hW.alike hK, hDa M⟩, hS.F ht⟩) hS.2.2 hd hlk
end ZS
theorem z_metI {w : ZW} (hw : Zok w) {y : MethodName} {cy : ByteArray} {ml : Nat} {rt : Option FieldType} {rmy : Room} {av : List Value} {M : Mem} {post : Int32 → Mem → Prop} (hy : plainName y.cls = true) (hlen : Nat.ble (lg_sl av).length ml = true)
    (body : ∀ X : ZX, Zc X cy y.cls ml rmy w → Zri X w rt post → Zj X ml w M 0 (lv_args 0 av) []) : CtI w y cy ml rt rmy av M post := by
  intro l sz
  refine Met.ofW (cc := cy) (maxL := ml) (ret := rt) hy rfl ?_
  intro p e s m args below meth c s₁ B hml hv
  obtain ⟨rfl, hsz, hP, hK, hD0, hZs⟩ := hv
  have hts := atoms_spec (ws := zws y cy ml rt) B.pre
  subst hsz
  have hD := hD0.self (sz := s.heap.size)
  have hl := lv_entry av (n := ml) (Nat.le_of_ble_eq_true hlen)
  rw [lg_entry_eq]
  refine body (p, l, e, rmy, s, m, av.toArray, below, meth, c, va_A (w.2.2.2.1 M) s.heap.size, _) ⟨B.exec, B.bytes, hml, findClass_of_methodNamed B.named, fun q hq => hts q (List.mem_cons_of_mem _ hq), hK, zok_D hw hD, fun q h => Or.inr h, B.notSynchronized, rfl, hZs⟩ ⟨B.returns, rfl⟩ s.heap [] _ hl hP va_S.rf
theorem z_metL {w : ZW} (hw : Zok w) {y : MethodName} {cy : ByteArray} {ml : Nat} {rmy : Room} {av : List Value} {M : Mem} {post : Int64 → Mem → Prop} (hy : plainName y.cls = true) (hlen : Nat.ble (lg_sl av).length ml = true)
    (body : ∀ X : ZX, Zc X cy y.cls ml rmy w → Zrl X w post → Zj X ml w M 0 (lv_args 0 av) []) : CtL w y cy ml (some .long) rmy av M post := by
  intro l sz
  refine Met.ofW (cc := cy) (maxL := ml) (ret := some .long) hy rfl ?_
  intro p e s m args below meth c s₁ B hml hv
  obtain ⟨rfl, hsz, hP, hK, hD0, hZs⟩ := hv
  have hts := atoms_spec (ws := zws y cy ml (some .long)) B.pre
  subst hsz
  have hD := hD0.self (sz := s.heap.size)
  have hl := lv_entry av (n := ml) (Nat.le_of_ble_eq_true hlen)
  rw [lg_entry_eq]
  refine body (p, l, e, rmy, s, m, av.toArray, below, meth, c, va_A (w.2.2.2.1 M) s.heap.size, _) ⟨B.exec, B.bytes, hml, findClass_of_methodNamed B.named, fun q hq => hts q (List.mem_cons_of_mem _ hq), hK, zok_D hw hD, fun q h => Or.inr h, B.notSynchronized, rfl, hZs⟩ ⟨B.returns, rfl⟩ s.heap [] _ hl hP va_S.rf
theorem z_metV {w : ZW} (hw : Zok w) {y : MethodName} {cy : ByteArray} {ml : Nat} {rmy : Room} {av : List Value} {M : Mem} {post : Mem → Prop} (hy : plainName y.cls = true) (hlen : Nat.ble (lg_sl av).length ml = true)
    (body : ∀ X : ZX, Zc X cy y.cls ml rmy w → Zrv X w post → Zj X ml w M 0 (lv_args 0 av) []) : CtV w y cy ml none rmy av M post := by
  intro l sz
  refine Met.ofW (cc := cy) (maxL := ml) (ret := none) hy rfl ?_
  intro p e s m args below meth c s₁ B hml hv
  obtain ⟨rfl, hsz, hP, hK, hD0, hZs⟩ := hv
  have hts := atoms_spec (ws := zws y cy ml none) B.pre
  subst hsz
  have hD := hD0.self (sz := s.heap.size)
  have hl := lv_entry av (n := ml) (Nat.le_of_ble_eq_true hlen)
  rw [lg_entry_eq]
  refine body (p, l, e, rmy, s, m, av.toArray, below, meth, c, va_A (w.2.2.2.1 M) s.heap.size, _) ⟨B.exec, B.bytes, hml, findClass_of_methodNamed B.named, fun q hq => hts q (List.mem_cons_of_mem _ hq), hK, zok_D hw hD, fun q h => Or.inr h, B.notSynchronized, rfl, hZs⟩ ⟨B.returns, rfl⟩ s.heap [] _ hl hP va_S.rf
theorem z_metR {w : ZW} (hw : Zok w) {y : MethodName} {cy : ByteArray} {ml : Nat} {rt : Option FieldType} {rmy : Room} {av : List Value} {M : Mem} {post : Mem → Prop} {ra : Nat} (hy : plainName y.cls = true) (hlen : Nat.ble (lg_sl av).length ml = true)
    (body : ∀ X : ZX, Zc X cy y.cls ml rmy w → Zrr X w rt post ra → Zj X ml w M 0 (lv_args 0 av) []) : CtR w y cy ml rt rmy av M post ra := by
  intro l sz
  refine Met.ofW (cc := cy) (maxL := ml) (ret := rt) hy rfl ?_
  intro p e s m args below meth c s₁ B hml hv
  obtain ⟨rfl, hsz, hP, hK, hD0, hZs⟩ := hv
  have hts := atoms_spec (ws := zws y cy ml rt) B.pre
  subst hsz
  have hD := hD0.self (sz := s.heap.size)
  have hl := lv_entry av (n := ml) (Nat.le_of_ble_eq_true hlen)
  rw [lg_entry_eq]
  refine body (p, l, e, rmy, s, m, av.toArray, below, meth, c, va_A (w.2.2.2.1 M) s.heap.size, _) ⟨B.exec, B.bytes, hml, findClass_of_methodNamed B.named, fun q hq => hts q (List.mem_cons_of_mem _ hq), hK, zok_D hw hD, fun q h => Or.inr h, B.notSynchronized, rfl, hZs⟩ ⟨B.returns, rfl⟩ s.heap [] _ hl hP va_S.rf
