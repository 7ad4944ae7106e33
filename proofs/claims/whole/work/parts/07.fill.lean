/-! java.util.Arrays.fill over an array of the class's world -/
def zfill (n : Nat) (v : Int32) (f : Nat → Int32) : Nat → Int32 := fun j => if j < n then v else f j
theorem d_J_fill_0 : decode prog_12_method_103_code 0 = .ok (.iconst 0, 1) := by decide +kernel
theorem d_J_fill_1 : decode prog_12_method_103_code 1 = .ok (.istore_n 2, 1) := by decide +kernel
theorem d_J_fill_2 : decode prog_12_method_103_code 2 = .ok (.aload_n 0, 1) := by decide +kernel
theorem d_J_fill_3 : decode prog_12_method_103_code 3 = .ok (.arraylength, 1) := by decide +kernel
theorem d_J_fill_4 : decode prog_12_method_103_code 4 = .ok (.istore_n 3, 1) := by decide +kernel
theorem d_J_fill_5 : decode prog_12_method_103_code 5 = .ok (.iload_n 2, 1) := by decide +kernel
theorem d_J_fill_6 : decode prog_12_method_103_code 6 = .ok (.iload_n 3, 1) := by decide +kernel
theorem d_J_fill_7 : decode prog_12_method_103_code 7 = .ok (.if_icmp .ge 13, 3) := by decide +kernel
theorem d_J_fill_10 : decode prog_12_method_103_code 10 = .ok (.aload_n 0, 1) := by decide +kernel
theorem d_J_fill_11 : decode prog_12_method_103_code 11 = .ok (.iload_n 2, 1) := by decide +kernel
theorem d_J_fill_12 : decode prog_12_method_103_code 12 = .ok (.iload_n 1, 1) := by decide +kernel
theorem d_J_fill_13 : decode prog_12_method_103_code 13 = .ok (.iastore, 1) := by decide +kernel
theorem d_J_fill_14 : decode prog_12_method_103_code 14 = .ok (.iinc 2 1, 3) := by decide +kernel
theorem d_J_fill_17 : decode prog_12_method_103_code 17 = .ok (.goto (-12), 3) := by decide +kernel
theorem d_J_fill_20 : decode prog_12_method_103_code 20 = .ok (.return_, 1) := by decide +kernel
theorem zfill_0 {M : Mem} {k : Nat} {v : Int32} : upr M k (zfill 0 v (M k)) = M := by
  funext a
  by_cases h : a = k
  · subst h; simp [upr]; funext j; simp [zfill]
  · simp [upr, h]
theorem zfill_1 {M : Mem} {k i : Nat} {v : Int32} (hi : i < 2 ^ 31) : upm (upr M k (zfill i v (M k))) k (tn (nI i)) v = upr M k (zfill (i + 1) v (M k)) := by
  funext a
  by_cases h : a = k
  · subst h
    simp only [upm, upr, if_true]
    funext j
    simp only [upd, zfill, tn, nI_clamp hi]
    by_cases h1 : j = i
    · subst h1; simp
    · by_cases h2 : j < i
      · simp [h1, h2, Nat.lt_succ_of_lt h2]
      · have : ¬ j < i + 1 := by omega
        simp [h1, h2, this]
  · simp [upm, upr, h]
theorem c_J_fill {w : ZW} (hw0 : Zok w) {cA : ClassId} {k a n : Nat} (h : Zar w cA k a n) (hn : n < 2 ^ 30) (M : Mem) (v : Int32) : CtV w y_J_fill prog_12_method_103_code 4 none (rl 0) [.ref a, .int v] M (fun M2 => M2 = upr M k (zfill n v (M k))) := by
  refine z_metV hw0 (by decide) rfl (fun X C hr => ?_)
  show Zj X 4 w M 0 [(0, .ref a), (1, .int v)] []
  have key : ∀ d i, i + d = n → Zj X 4 w (upr M k (zfill i v (M k))) 5 [(0, .ref a), (1, .int v), (2, .int (nI i)), (3, .int (nI n))] [] := by
    intro d
    induction d with
    | zero =>
      intro i hi
      have e : i = n := by omega
      subst e
      refine z_iload_n C d_J_fill_5 rfl 2 rfl ?_
      refine z_iload_n C d_J_fill_6 rfl 3 rfl ?_
      refine z_ic_ge C 20 d_J_fill_7 (by decide) (fun _ => ?_) (fun h1 => ?_)
      · exact z_vret C hr rfl d_J_fill_20
      · exact absurd (nI_le (Nat.le_refl i) (by omega)) h1
    | succ d ih =>
      intro i hi
      refine z_iload_n C d_J_fill_5 rfl 2 rfl ?_
      refine z_iload_n C d_J_fill_6 rfl 3 rfl ?_
      refine z_ic_ge C 20 d_J_fill_7 (by decide) (fun h1 => ?_) (fun _ => ?_)
      · exact absurd h1 (nI_ge (by omega) (by omega))
      · refine z_aload_n C d_J_fill_10 rfl 0 rfl ?_
        refine z_iload_n C d_J_fill_11 rfl 2 rfl ?_
        refine z_iload_n C d_J_fill_12 rfl 1 rfl ?_
        refine z_as h C (vp_in_nI (by omega) (by omega)) d_J_fill_13 (fun M2 hM2 => ?_)
        rw [zfill_1 (by omega)] at hM2
        subst hM2
        refine z_iinc (v := nI (i + 1)) (lv' := [(2, .int (nI (i + 1))), (0, .ref a), (1, .int v), (3, .int (nI n))]) C d_J_fill_14 2 rfl (nI_1 i) rfl rfl ?_
        refine z_goto C 5 d_J_fill_17 (by decide) ?_
        refine z_sub [1, 2, 0, 3] rfl ?_
        exact ih (i + 1) (by omega)
  refine z_iconst (v := nI 0) C d_J_fill_0 (by decide) ?_
  refine z_istore_n (lv' := [(2, .int (nI 0)), (0, .ref a), (1, .int v)]) C d_J_fill_1 rfl rfl rfl ?_
  refine z_aload_n C d_J_fill_2 rfl 1 rfl ?_
  refine z_an h C (v := nI n) rfl d_J_fill_3 ?_
  refine z_istore_n (lv' := [(3, .int (nI n)), (2, .int (nI 0)), (0, .ref a), (1, .int v)]) C d_J_fill_4 rfl rfl rfl ?_
  refine z_sub [2, 3, 1, 0] rfl ?_
  have := key n 0 (by omega)
  rw [zfill_0] at this
  exact this
theorem z_fill {X : ZX} {cc : ByteArray} {own : String} {nL : Nat} {rm : Room} {g : GX} {M : Mem} {pc : Nat} {lv : List (Nat × Value)} {st : List Value} {cA : ClassId} {k a n idx : Nat} {v : Int32} (C : Zc X cc own nL rm (oX g)) (hl : Cond.methodLink own idx y_J_fill ∈ zt) (h : Zar (oX g) cA k a n) (hn : (Nat.ble n 4096 && (Nat.ble 1 rm.frames && Nat.ble 23 rm.locals)) = true) (hrm : Nat.ble (st.map fun v => v.category).sum 8 = true) (hd : decode cc pc = .ok (.invokestatic idx, 3))
    (kk : ∀ M2, M2 = upr M k (zfill n v (M k)) → Zj X nL (oX g) M2 (pc + 3) lv st) : Zj X nL (oX g) M pc lv (.int v :: .ref a :: st) := by
  simp only [Bool.and_eq_true] at hn
  have h1 := Nat.le_of_ble_eq_true hn.1
  exact z_callSv C (As := [.ref a, .int v]) (rest := st) m_J_fill hl ⟨hn.2.1, hn.2.2⟩ (c_J_fill (oX_ok g) h (by omega) M v) rfl rfl hrm hd kk
