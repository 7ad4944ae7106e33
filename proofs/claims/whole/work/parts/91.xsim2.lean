/-! events sorted, ploughs, the whole run -/
def bx (x : Int32) (i : Nat) : Prop := ((x >>> (nI i &&& 31)) &&& 1) = 1
theorem bx_or (x y : Int32) (i : Nat) : bx (x ||| y) i ↔ (bx x i ∨ bx y i) := by
  unfold bx
  rw [sh_or, or1]
theorem bx_0 (i : Nat) : ¬ bx 0 i := by
  unfold bx
  rw [show (0 : Int32) >>> (nI i &&& 31) = 0 by simp]
  decide
theorem bx_1 : ∀ n, n < 24 → ∀ i, i < 24 → (bx ((1 : Int32) <<< (nI n &&& 31)) i ↔ n = i) := by
  unfold bx
  decide +kernel
theorem onX_bx (a : Int32) (e : Nat) : onX a e = true ↔ bx a e := by unfold onX bx; exact decide_eq_true_iff
def thb (T : Tld) (on : Nat → Bool) (h j : Nat) : Prop := ∃ e, e < j ∧ T 7 e = 2 ∧ T 8 e = h ∧ on e = true
/-- only the cells w, w + 7, w + 8 changed -/
def Fs (w : Nat) (M M' : Mem) : Prop := ∀ c, c ≠ w → c ≠ w + 7 → c ≠ w + 8 → M' c = M c
theorem Fs.up {w k i : Nat} {M M1 M2 : Mem} {v : Int32} (h : Fs w M M1) (h2 : M2 = upm M1 k i v) (hk : k = w ∨ k = w + 7 ∨ k = w + 8) : Fs w M M2 := fun c c1 c2 c3 => by
  rw [h2, upm_n (by omega)]; exact h c c1 c2 c3
theorem Fs.fw {w : Nat} {M M' : Mem} (h : Fs w M M') : Fw w M M' := fun c hc => h c (by omega) (by omega) (by omega)
def SE (T : Tld) (on : Nat → Bool) (w j : Nat) (M : Mem) : Prop := HR (M (w + 7)) 24 (fun h => wnd T on h j) ∧ (∀ h, h < 24 → ∀ k, k < 12 → (bx (M (w + 8) h) k ↔ brk T on h k j = true)) ∧ (∀ h, h < 24 → (bx (M w 8) h ↔ thb T on h j))
theorem x_sorts {T : Tld} {M : Mem} {a : Int32} {w : Nat} {post : Mem → Prop} (hw : okW w) (ok : okT T) (hT : XT T M) (K : ∀ M', Fs w M M' → SE T (onX a) w (T 2 3) M' → post M') : wp_XW_sortEvents w a M post := by
  have h8 := ok.2.2.1
  unfold wp_XW_sortEvents
  intro M1 h1 M2 h2 M3 h3
  have hF3 : Fs w M M3 := fun c c1 c2 c3 => by rw [h3, upm_n c1, h2, upr_n c3, h1, upr_n c2]
  have r7 : M3 (w + 7) = zfill 24 (M 10 8) (M (w + 7)) := by rw [h3, upm_n (by omega), h2, upr_n (by omega), h1, upr_s]
  have r8 : M3 (w + 8) = zfill 24 0 (M1 (w + 8)) := by rw [h3, upm_n (by omega), h2, upr_s]
  have r0 : M3 w 8 = 0 := by rw [h3, upm_s, upd_s]
  refine it2_f1 (T 2 3) (by omega) (fun j M' => Fs w M M' ∧ SE T (onX a) w j M') (fun rc j M7 hj hI hrec => ?_) 0 M3 (by omega) ⟨hF3, fun h hh => ?_, fun h hh k hk => ?_, fun h hh => ?_⟩
  rotate_left
  · rw [r7]; unfold zfill; rw [if_pos hh, hT.2.2.2.2.1]; rfl
  · rw [r8]; unfold zfill; rw [if_pos hh]
    exact ⟨fun q => absurd q (bx_0 k), fun q => absurd q (by unfold brk; decide)⟩
  · rw [r0]
    exact ⟨fun q => absurd q (bx_0 h), fun ⟨e, he, _⟩ => absurd he (Nat.not_lt_zero _)⟩
  obtain ⟨hF, s7, s8, s0⟩ := hI
  have hT7 := hT.k (hF.fw.tk hw)
  rw [hT7.2.2.2.2.2.1]
  refine ⟨fun hx => ?_, fun hx => ?_⟩
  · have hj2 : j = T 2 3 := by have := gI hx; omega
    subst hj2
    exact K M7 hF ⟨s7, s8, s0⟩
  · have hlt : j < T 2 3 := ngI hx
    obtain ⟨e7, e8, e9⟩ := hT7.2.2.2.2.2.2.2.2 j hlt
    have b7 := ok.2.2.2.2.2.2.2.1 j
    have b8 := ok.2.2.2.2.2.2.2.2.1 j
    have b9 := ok.2.2.2.2.2.2.2.2.2 j
    refine ⟨fun c => ?_, fun c => ?_⟩
    · have con : onX a j = true := by unfold onX; exact decide_eq_true c
      rw [tnI (by omega : j < 2 ^ 31), e7, e8, e9]
      refine ⟨vI (by omega), ?_⟩
      unfold wp_XW_sortEvent
      rw [tnI (by omega : T 8 j < 2 ^ 31), show (nI (T 7 j) = 0) = (T 7 j = 0) from propext (nI_eq (b := 0) (by omega) (by omega)), show (nI (T 7 j) = 2) = (T 7 j = 2) from propext (nI_eq (b := 2) (by omega) (by omega))]
      have b1 : ∀ k, k < 12 → (bx ((1 : Int32) <<< (nI (T 9 j) &&& 31)) k ↔ T 9 j = k) := fun k hk => bx_1 (T 9 j) (by omega) k (by omega)
      refine ⟨fun k7 => ⟨vI (by omega), fun M10 h10 => ?_⟩, fun k7 => ⟨fun k2 M8 h8' => ?_, fun k2 => ⟨vI (by omega), fun M4 h4 => ?_⟩⟩⟩
      · refine hrec M10 hlt ⟨hF.up h10 (by omega), ?_, fun h hh k hk => ?_, fun h hh => ?_⟩
        · rw [h10, upm_s, s7 (T 8 j) (by omega)]
          refine (s7.up (k := T 8 j) (v := wnd T (onX a) (T 8 j) j + 3) (nI_add _ 3)).eq (fun h hh => ?_)
          rw [wnd]
          by_cases q : h = T 8 j
          · subst q; rw [upN_s, if_pos ⟨k7, rfl, con⟩]
          · rw [upN_n q, if_neg (fun z => q z.2.1.symm)]; rfl
        · rw [h10, upm_n (by omega), s8 h hh k hk, brk]
          simp [k7]
        · rw [h10, upm_n (by omega), s0 h hh]
          exact ⟨fun ⟨e, he, z⟩ => ⟨e, by omega, z⟩, fun ⟨e, he, z⟩ => ⟨e, by
            by_cases q : e = j
            · subst q; omega
            · omega, z⟩⟩
      · refine hrec M8 hlt ⟨hF.up h8' (by omega), ?_, fun h hh k hk => ?_, fun h hh => ?_⟩
        · rw [h8', upm_n (by omega)]
          exact s7.eq (fun h hh => by show _ = wnd _ _ _ _; rw [wnd, if_neg (fun z => k7 z.1)]; rfl)
        · rw [h8', upm_n (by omega), s8 h hh k hk, brk]
          simp [k2]
        · rw [h8', upm_s, upd_s, bx_or, s0 h hh, bx_1 (T 8 j) (by omega) h hh]
          constructor
          · rintro (⟨e, he, z⟩ | z)
            · exact ⟨e, by omega, z⟩
            · exact ⟨j, by omega, k2, z, con⟩
          · rintro ⟨e, he, z⟩
            by_cases q : e = j
            · subst q; exact Or.inr z.2.1
            · exact Or.inl ⟨e, by omega, z⟩
      · have k1 : T 7 j = 1 := by omega
        have w7 : ∀ M' : Mem, M' (w + 7) = M7 (w + 7) → HR (M' (w + 7)) 24 (fun h => wnd T (onX a) h (j + 1)) := fun M' e => by
          rw [e]
          exact s7.eq (fun h hh => by show _ = wnd _ _ _ _; rw [wnd, if_neg (fun z => k7 z.1)]; rfl)
        have w0 : ∀ M' : Mem, M' w = M7 w → ∀ h, h < 24 → (bx (M' w 8) h ↔ thb T (onX a) h (j + 1)) := fun M' e h hh => by
          rw [e, s0 h hh]
          exact ⟨fun ⟨e, he, z⟩ => ⟨e, by omega, z⟩, fun ⟨e, he, z⟩ => ⟨e, by
            by_cases q : e = j
            · subst q; omega
            · omega, z⟩⟩
        have bk : ∀ h k, (brk T (onX a) h k (j + 1) = true) ↔ (brk T (onX a) h k j = true ∨ ((T 8 j = h ∨ T 8 j + 1 = h) ∧ T 9 j = k)) := fun h k => by
          rw [brk]
          simp [k1, con]
        refine ⟨fun q => ?_, fun q => ?_⟩
        · have q := gI (a := 23) q
          refine hrec M4 hlt ⟨hF.up h4 (by omega), w7 M4 (by rw [h4, upm_n (by omega)]), fun h hh k hk => ?_, w0 M4 (by rw [h4, upm_n (by omega)])⟩
          rw [bk, ← s8 h hh k hk, h4, upm_s]
          by_cases z : h = T 8 j
          · subst z; rw [upd_s, bx_or, b1 k hk]; simp
          · rw [upd_n z]
            exact ⟨Or.inl, fun y => y.elim id (fun x => absurd x.1 (by omega))⟩
        · have q := ngI (a := 23) q
          rw [ia1, tnI (by omega : T 8 j + 1 < 2 ^ 31)]
          refine ⟨vI (by omega), fun M9 h9 => ?_⟩
          have r : M9 (w + 8) = upd (upd (M7 (w + 8)) (T 8 j) (M7 (w + 8) (T 8 j) ||| 1 <<< (nI (T 9 j) &&& 31))) (T 8 j + 1) (M7 (w + 8) (T 8 j + 1) ||| 1 <<< (nI (T 9 j) &&& 31)) := by
            rw [h9, upm_s, h4, upm_s, upd_n (by omega)]
          refine hrec M9 hlt ⟨(hF.up h4 (by omega)).up h9 (by omega), w7 M9 (by rw [h9, upm_n (by omega), h4, upm_n (by omega)]), fun h hh k hk => ?_, w0 M9 (by rw [h9, upm_n (by omega), h4, upm_n (by omega)])⟩
          rw [bk, ← s8 h hh k hk, r]
          by_cases y : h = T 8 j + 1
          · subst y; rw [upd_s, bx_or, b1 k hk]; simp
          · rw [upd_n y]
            by_cases z : h = T 8 j
            · subst z; rw [upd_s, bx_or, b1 k hk]; simp
            · rw [upd_n z]
              exact ⟨Or.inl, fun y => y.elim id (fun x => absurd x.1 (by omega))⟩
    · have con : ¬ onX a j = true := fun q => c (of_decide_eq_true q)
      refine hrec M7 hlt ⟨hF, ?_, fun h hh k hk => ?_, fun h hh => ?_⟩
      · exact s7.eq (fun h hh => by show _ = wnd _ _ _ _; rw [wnd, if_neg (fun z => con z.2.2)]; rfl)
      · rw [s8 h hh k hk, brk]
        simp [con]
      · rw [s0 h hh]
        exact ⟨fun ⟨e, he, z⟩ => ⟨e, by omega, z⟩, fun ⟨e, he, z⟩ => ⟨e, by
          by_cases q : e = j
          · subst q; exact absurd z.2.2 con
          · omega, z⟩⟩
theorem thw_none {T : Tld} {on : Nat → Bool} {h : Nat} {d : Nat → Nat} : ∀ j, ¬ thb T on h j → thw T on h d j = d := by
  intro j
  induction j with
  | zero => intro _; rfl
  | succ j ih =>
    intro hn
    rw [thw, if_neg (fun z => hn ⟨j, by omega, z⟩)]
    exact ih (fun ⟨e, he, z⟩ => hn ⟨e, by omega, z⟩)
def XP (w P : Nat) (s : Sim) (M : Mem) : Prop := HR (M (w + 9)) 12 (s 0) ∧ HR (M (w + 10)) P (s 1) ∧ HR (M (w + 11)) P (s 2) ∧ HR (M (w + 6)) P (s 5)
/-- only the ploughs' cells changed -/
def Fp (w : Nat) (M M' : Mem) : Prop := ∀ c, (c ≤ w + 1 ∨ c = w + 7 ∨ c = w + 8 ∨ w + 12 ≤ c) → M' c = M c
theorem Fp.rf {w : Nat} {M : Mem} : Fp w M M := fun _ _ => rfl
theorem Fp.tr {w : Nat} {M M1 M2 : Mem} (h : Fp w M M1) (h2 : Fp w M1 M2) : Fp w M M2 := fun c hc => (h2 c hc).trans (h c hc)
theorem Fp.up {w k i : Nat} {M M1 M2 : Mem} {v : Int32} (h : Fp w M M1) (h2 : M2 = upm M1 k i v) (hk : w + 2 ≤ k ∧ k < w + 12 ∧ k ≠ w + 7 ∧ k ≠ w + 8) : Fp w M M2 := fun c hc => by
  rw [h2, upm_n (by omega)]; exact h c hc
theorem Fp.fw {w : Nat} {M M' : Mem} (h : Fp w M M') : Fw w M M' := fun c hc => h c (by omega)
theorem x_goes {T : Tld} {on : Nat → Bool} {M : Mem} {w h k B : Nat} {s : Sim} {post : Int32 → Mem → Prop} (ok : okT T) (hk : k < T 2 0) (hs : okS B s) (hB : B ≤ 10000) (hP : XP w (T 2 0) s M) (hb : brk T on h k (T 2 3) = false)
    (K : ∀ M', (∀ c, c ≠ w + 6 → c ≠ w + 9 → c ≠ w + 10 → c ≠ w + 11 → M' c = M c) → XP w (T 2 0) (one T on h k s) M' → post (nI (one T on h k s 3 k)) M') : wp_XW_ploughGoes w (nI k) (nI (T 4 k)) M post := by
  have h8 := ok.2.2.1
  obtain ⟨p0, p1, p2, p5⟩ := hP
  have m1 := hs.2.1 k
  have m2 := hs.2.2 k
  have s4 := ok.2.2.2.2.1 k
  have hw : tw s k ≤ 1 := by unfold tw; split <;> (try split) <;> omega
  have hn : nx s k ≤ 11 := by unfold nx tw; split <;> (try split at *) <;> (try split at *) <;> omega
  have hd := hs.1 (nx s k)
  have e3 : (nI (s 0 (nx s k)) ≤ 3 * nI (T 4 k)) ↔ s 0 (nx s k) ≤ 3 * T 4 k := by
    rw [i3_0]; exact nI_leI (by omega) (by omega)
  unfold one at K
  rw [if_neg (by rw [hb]; decide)] at K
  -- what comes once the way is set
  have tail : ∀ M5, (∀ c, c ≠ w + 11 → M5 c = M c) → HR (M5 (w + 11)) (T 2 0) (upN (s 2) k (tw s k)) →
      ∀ u16 : Int32, u16 = (if (M5 (w + 11) k) = 0 then ((M5 (w + 10) k) + 1) else ((M5 (w + 10) k) - 1)) → vp_in u16 12 ∧ ∀ x18 : Int32, x18 = (M5 (w + 9) (tn u16)) → (((x18 ≤ (3 * nI (T 4 k))) → ∀ M20 : Mem, M20 = upm M5 (w + 10) k u16 → ∀ M21 : Mem, M21 = upm M20 (w + 9) (tn u16) 0 → post x18 M21) ∧ (¬ (x18 ≤ (3 * nI (T 4 k))) → ∀ M22 : Mem, M22 = upm M5 (w + 6) k ((M5 (w + 6) k) + 1) → ∀ M23 : Mem, M23 = upm M22 (w + 9) (tn u16) ((M22 (w + 9) (tn u16)) - nI (T 4 k)) → post (nI (T 4 k)) M23)) := by
    intro M5 hF5 r11 u hu
    have r10 := hF5 (w + 10) (by omega)
    have r9 := hF5 (w + 9) (by omega)
    have r6 := hF5 (w + 6) (by omega)
    have hu2 : u = nI (nx s k) := by
      rw [hu, r11 k hk, upN_s, r10, p1 k hk]
      have e1 : (nI (tw s k) = 0) ↔ tw s k = 0 := nI_eq (b := 0) (by omega) (by decide)
      unfold nx
      by_cases c1 : tw s k = 0
      · simp only [e1, c1, if_true]
        exact nI_1 _
      · simp only [e1, c1, if_false]
        have : s 1 k ≠ 0 := fun q => c1 (by unfold tw; simp [q])
        obtain ⟨z, hz⟩ : ∃ z, s 1 k = z + 1 := ⟨s 1 k - 1, by omega⟩
        rw [hz]
        exact isub (b := 1) (by omega)
    subst hu2
    rw [tnI (by omega : nx s k < 2 ^ 31), r9, r6, p0 _ (by omega)]
    refine ⟨vI (by omega), fun x18 hx => ?_⟩
    subst hx
    refine ⟨fun hc => ?_, fun hc => ?_⟩
    · have hc' := e3.mp hc
      rw [if_pos hc'] at K
      intro M14 hM14 M15 hM15
      have kk := K M15 (fun c c1 c2 c3 c4 => by rw [hM15, upm_n c2, hM14, upm_n c3, hF5 c c4]) ⟨?_, ?_, ?_, ?_⟩
      · simpa [upS_eq] using kk
      · rw [hM15, upm_s, hM14, upm_n (by omega), r9]
        have := p0.up (k := nx s k) (v := 0) (x := 0) rfl
        simpa [upS] using this
      · rw [hM15, upm_n (by omega), hM14, upm_s, r10]
        have := p1.up (k := k) (v := nx s k) (x := nI (nx s k)) rfl
        simpa [upS] using this
      · rw [hM15, upm_n (by omega), hM14, upm_n (by omega)]
        simpa [upS] using r11
      · rw [hM15, upm_n (by omega), hM14, upm_n (by omega), r6]
        simpa [upS] using p5
    · have hc' : ¬ s 0 (nx s k) ≤ 3 * T 4 k := fun q => hc (e3.mpr q)
      rw [if_neg hc'] at K
      intro M16 hM16 M17 hM17
      have kk := K M17 (fun c c1 c2 c3 c4 => by rw [hM17, upm_n c2, hM16, upm_n c1, hF5 c c4]) ⟨?_, ?_, ?_, ?_⟩
      · simpa [upS_eq] using kk
      · rw [hM17, upm_s, hM16, upm_n (by omega), r9]
        have := p0.up (k := nx s k) (v := s 0 (nx s k) - T 4 k) (x := M (w + 9) (nx s k) - nI (T 4 k)) (by rw [p0 _ (by omega)]; exact isub (by omega))
        simpa [upS] using this
      · rw [hM17, upm_n (by omega), hM16, upm_n (by omega), r10]
        simpa [upS] using p1
      · rw [hM17, upm_n (by omega), hM16, upm_n (by omega)]
        simpa [upS] using r11
      · rw [hM17, upm_n (by omega), hM16, upm_s, r6]
        have := p5.up (k := k) (v := s 5 k + 1) (x := M (w + 6) k + 1) (by rw [p5 k hk]; exact nI_1 _)
        simpa [upS] using this
  unfold wp_XW_ploughGoes
  rw [tnI (by omega : k < 2 ^ 31)]
  refine ⟨vI (by omega), fun c1 => ⟨fun c2 => ?_, fun c2 => ?_⟩, fun c1 => ?_⟩
  · rw [p1 k hk] at c1 c2
    have c1 := lI (a := 0) c1
    have c2 := lI (j := 11) c2
    refine tail M (fun _ _ => rfl) (p2.eq (fun i hi => ?_))
    by_cases q : i = k
    · subst q; rw [upN_s]; unfold tw; rw [if_neg (by omega), if_neg (by omega)]
    · rw [upN_n q]
  · rw [p1 k hk] at c1 c2
    have c1 := lI (a := 0) c1
    have c2 := nlI (j := 11) c2
    intro M14 h14
    refine tail M14 (fun c hc => by rw [h14, upm_n hc]) ?_
    rw [h14, upm_s]
    exact p2.up (by unfold tw; rw [if_neg (by omega), if_pos (by omega)]; rfl)
  · rw [p1 k hk] at c1
    have c1 := nlI (a := 0) c1
    intro M14 h14
    refine tail M14 (fun c hc => by rw [h14, upm_n hc]) ?_
    rw [h14, upm_s]
    exact p2.up (by unfold tw; rw [if_pos (by omega)]; rfl)
