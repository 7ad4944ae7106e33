/-! THE REFERENCE: a whole hour, all hours -/
abbrev LV : List Nat := [12, 13, 14, 15, 16, 17, 18, 19, 20, 21, 22, 23, 24, 25]
def HI (T : Tld) (on : Nat → Bool) (h : Nat) (M : Mem) : Prop := PS (T 2 0) (sim T on h) M ∧ HR (M 16) (T 2 0) (sim T on h 4) ∧ (∀ k, k < T 2 1 → BR (dep T on) T h k M) ∧ (∀ g, g < h → (∀ i, i < 12 → M 21 (12 * g + i) = nI (sim T on (g + 1) 0 i)) ∧ (∀ k, k < T 2 0 → M 22 (4 * g + k) = nI (sim T on (g + 1) 1 k) ∧ M 23 (4 * g + k) = nI (sim T on (g + 1) 2 k) ∧ M 24 (4 * g + k) = nI (sim T on (g + 1) 3 k)) ∧ (∀ k, k < T 2 1 → M 25 (8 * g + k) = nI (bus (dep T on) (T 6 k) (g + 1)).1 - 1))
theorem one_ne {T : Tld} {on : Nat → Bool} {h k k' : Nat} {s : Sim} {r : Nat} (hk : k' ≠ k) (hr : r = 1 ∨ r = 2 ∨ r = 3) : one T on h k s r k' = s r k' := by
  unfold one
  rcases hr with rfl | rfl | rfl
  · split
    · simp [upS_eq]
    · split <;> simp [upS_eq, hk]
  · split
    · simp [upS_eq]
    · split <;> simp [upS_eq, hk]
  · split
    · simp [upS_eq, hk]
    · split <;> simp [upS_eq, hk]
theorem plo_keep {T : Tld} {on : Nat → Bool} {h k : Nat} {s : Sim} {r : Nat} (hr : r = 1 ∨ r = 2 ∨ r = 3) (j : Nat) (hj : k < j) : plo T on h s j r k = plo T on h s (k + 1) r k := by
  induction j with
  | zero => exact absurd hj (Nat.not_lt_zero _)
  | succ j ih =>
    by_cases c : k = j
    · subst c; rfl
    · rw [plo, one_ne (by omega) hr]
      exact ih (by omega)
theorem one_4 {T : Tld} {on : Nat → Bool} {h k : Nat} {s : Sim} (hb : brk T on h k (T 2 3) = false) : one T on h k s 4 = upN (s 4) k (s 4 k + one T on h k s 3 k) := by
  funext a
  unfold one
  rw [if_neg (by rw [hb]; decide), upN]
  split <;> simp [upS_eq]
theorem one_b {T : Tld} {on : Nat → Bool} {h k : Nat} {s : Sim} (hb : brk T on h k (T 2 3) = true) : one T on h k s = upS s 3 k 0 := by
  unfold one
  rw [if_pos hb]
theorem r_passes {T : Tld} {M : Mem} {h : Nat} {post : Mem → Prop} (ok : okT T) (hT : RT T M) (hh : h < 24) (hI : HI T (onR M) h M) (K : ∀ M', Fr LV M M' → HI T (onR M) (h + 1) M' → post M') : wp_R_passes (nI h) M post := by
  have h8 := ok.2.2.1
  obtain ⟨hP, h16, hbus, hby⟩ := hI
  have hs := sim_ok (T := T) (on := onR M) ok h
  unfold wp_R_passes
  refine r_weathers ok hT hh hP.1 hs.1 (by omega) (fun M1 hF1 h12 => ?_)
  have hT1 := hT.fr hF1
  have hon1 : onR M1 = onR M := onR.fr hF1
  generalize hon : onR M = on at *
  generalize hs0 : upW (sim T on h) 0 (wea T on h (sim T on h 0)) = s0
  have hsim1 : sim T on (h + 1) = plo T on h s0 (T 2 0) := by rw [← hs0]; rfl
  have hok0 : okS (43 * (h + 1)) s0 := by
    rw [← hs0]
    refine ⟨fun i => ?_, fun k => ?_, fun k => ?_⟩
    · simp only [upW, if_true]
      have := wea_le (T := T) (on := on) (h := h) (d := sim T on h 0) (i := i) ok
      have := hs.1 i
      omega
    · simp [upW]; exact hs.2.1 k
    · simp [upW]; exact hs.2.2 k
  have hP1 : PS (T 2 0) s0 M1 := by
    rw [← hs0]
    refine ⟨by simpa [upW] using h12, ?_, ?_, ?_⟩
    · rw [hF1 14 (by decide)]; simpa [upW] using hP.2.1
    · rw [hF1 15 (by decide)]; simpa [upW] using hP.2.2.1
    · rw [hF1 17 (by decide)]; simpa [upW] using hP.2.2.2
  have h161 : HR (M1 16) (T 2 0) (s0 4) := by
    rw [hF1 16 (by decide), ← hs0]; simpa [upW] using h16
  -- the ploughs
  refine it2_f1 (T 2 0) (by omega) (fun j M' => Fr [12, 14, 15, 16, 17, 22, 23, 24] M1 M' ∧ PS (T 2 0) (plo T on h s0 j) M' ∧ HR (M' 16) (T 2 0) (plo T on h s0 j 4) ∧ (∀ x, x < 4 * h → M' 22 x = M1 22 x ∧ M' 23 x = M1 23 x ∧ M' 24 x = M1 24 x) ∧ (∀ k, k < j → M' 22 (4 * h + k) = nI (plo T on h s0 (k + 1) 1 k) ∧ M' 23 (4 * h + k) = nI (plo T on h s0 (k + 1) 2 k) ∧ M' 24 (4 * h + k) = nI (plo T on h s0 (k + 1) 3 k))) (fun rc j M6 hj hI hrec => ?_) 0 M1 (Nat.zero_le _) ⟨Fr.rf, hP1, h161, fun _ _ => ⟨rfl, rfl, rfl⟩, fun k hk => absurd hk (Nat.not_lt_zero _)⟩
  obtain ⟨hF6, hP6, h166, hold6, hnew6⟩ := hI
  have hT6 := hT1.fr hF6
  rw [hT6.2.2.1]
  refine ⟨fun hx => ?_, fun hx => ?_⟩
  · have hj2 : j = T 2 0 := by have := gI hx; omega
    subst hj2
    clear hrec hj hx
    rw [← hsim1] at hP6 h166
    have hF6' : Fr LV M M6 := (hF1.mo (by decide)).tr (hF6.mo (by decide))
    have hbus6 : ∀ k, k < T 2 1 → BR (dep T on) T h k M6 := fun k hk => by
      have := hbus k hk
      unfold BR at this ⊢
      rw [hF6 18 (by decide), hF6 19 (by decide), hF6 20 (by decide), hF1 18 (by decide), hF1 19 (by decide), hF1 20 (by decide)]
      exact this
    have hs1 := sim_ok (T := T) (on := on) ok (h + 1)
    -- the buses
    refine it2_f1 (T 2 1) (by omega) (fun j M' => Fr [18, 19, 20, 25] M6 M' ∧ (∀ k, k < j → BR (dep T on) T (h + 1) k M') ∧ (∀ k, j ≤ k → k < T 2 1 → BR (dep T on) T h k M') ∧ (∀ x, x < 8 * h → M' 25 x = M6 25 x) ∧ (∀ k, k < j → M' 25 (8 * h + k) = nI (bus (dep T on) (T 6 k) (h + 1)).1 - 1)) (fun rc j M11 hj hI hrec => ?_) 0 M6 (Nat.zero_le _) ⟨Fr.rf, fun k hk => absurd hk (Nat.not_lt_zero _), fun k _ hk => hbus6 k hk, fun _ _ => rfl, fun k hk => absurd hk (Nat.not_lt_zero _)⟩
    obtain ⟨hF11, hb1, hb2, hold11, hnew11⟩ := hI
    have hT11 := hT6.fr hF11
    rw [hT11.2.2.2.1]
    refine ⟨fun hx => ?_, fun hx => ?_⟩
    · have hj2 : j = T 2 1 := by have := gI hx; omega
      subst hj2
      clear hrec hj hx
      have p12 : HR (M11 12) 12 (sim T on (h + 1) 0) := by rw [hF11 12 (by decide)]; exact hP6.1
      -- the depths are written down
      refine it2_f1 12 (by omega) (fun j M' => Fr [21] M11 M' ∧ (∀ x, x < 12 * h → M' 21 x = M11 21 x) ∧ (∀ i, i < j → M' 21 (12 * h + i) = nI (sim T on (h + 1) 0 i))) (fun rc j M16 hj hI hrec => ?_) 0 M11 (Nat.zero_le _) ⟨Fr.rf, fun _ _ => rfl, fun k hk => absurd hk (Nat.not_lt_zero _)⟩
      obtain ⟨hF16, hold16, hnew16⟩ := hI
      refine ⟨fun hx => ?_, fun hx => ?_⟩
      · have hj2 : j = 12 := by have := gI (a := 12) hx; omega
        subst hj2
        refine K M16 ((hF6'.tr (hF11.mo (by decide))).tr (hF16.mo (by decide))) ⟨?_, ?_, ?_, ?_⟩
        · unfold PS at hP6 ⊢
          rw [hF16 12 (by decide), hF16 14 (by decide), hF16 15 (by decide), hF16 17 (by decide), hF11 12 (by decide), hF11 14 (by decide), hF11 15 (by decide), hF11 17 (by decide)]
          exact hP6
        · rw [hF16 16 (by decide), hF11 16 (by decide)]
          exact h166
        · intro k hk
          have := hb1 k hk
          unfold BR at this ⊢
          rw [hF16 18 (by decide), hF16 19 (by decide), hF16 20 (by decide)]
          exact this
        · intro g hg
          rw [hF16 22 (by decide), hF16 23 (by decide), hF16 24 (by decide), hF16 25 (by decide), hF11 22 (by decide), hF11 23 (by decide), hF11 24 (by decide)]
          by_cases c : g = h
          · subst c
            refine ⟨hnew16, fun k hk => ?_, fun k hk => hnew11 k hk⟩
            have := hnew6 k hk
            rw [hsim1, plo_keep (Or.inl rfl) (T 2 0) hk, plo_keep (Or.inr (Or.inl rfl)) (T 2 0) hk, plo_keep (Or.inr (Or.inr rfl)) (T 2 0) hk]
            exact this
          · have hg2 : g < h := by omega
            obtain ⟨g1, g2, g3⟩ := hby g hg2
            refine ⟨fun i hi => ?_, fun k hk => ?_, fun k hk => ?_⟩
            · rw [hold16 _ (by omega), hF11 21 (by decide), hF6 21 (by decide), hF1 21 (by decide)]
              exact g1 i hi
            · have := hold6 (4 * g + k) (by omega)
              rw [this.1, this.2.1, this.2.2, hF1 22 (by decide), hF1 23 (by decide), hF1 24 (by decide)]
              exact g2 k hk
            · rw [hold11 _ (by omega), hF6 25 (by decide), hF1 25 (by decide)]
              exact g3 k hk
      · have hlt : j < 12 := ngI (a := 12) hx
        rw [i12, tnI (by omega : j < 2 ^ 31), tnI (by omega : 12 * h + j < 2 ^ 31)]
        refine ⟨vI (by omega), vI (by omega), fun M19 hM19 => hrec M19 hlt ⟨hF16.up hM19 (by decide), fun x hx => ?_, fun i hi => ?_⟩⟩
        · rw [hM19, upm_s, upd_n (by omega)]
          exact hold16 x hx
        · rw [hM19, upm_s]
          by_cases c : i = j
          · subst c
            rw [upd_s, hF16 12 (by decide)]
            exact p12 i hlt
          · rw [upd_n (by omega)]
            exact hnew16 i (by omega)
    · have hlt : j < T 2 1 := ngI hx
      have p12 : HR (M11 12) 12 (dep T on h) := by rw [hF11 12 (by decide)]; exact hP6.1
      refine r_busStep (post := fun M' => rc (nI j + 1) M') (D := dep T on) ok hT11 hh hlt p12 (fun i => by have := hs1.1 i; show sim T on (h + 1) 0 i ≤ _; omega) (hb2 j (Nat.le_refl _) hlt) (fun M' hF' hb' hoth h25 => hrec M' hlt ⟨hF11.tr hF', fun k hk => ?_, fun k hk hk2 => ?_, fun x hx => ?_, fun k hk => ?_⟩)
      · by_cases c : k = j
        · subst c; exact hb'
        · have := hb1 k (by omega)
          unfold BR at this ⊢
          have ho := hoth k c
          rw [ho.1, ho.2.1, ho.2.2]
          exact this
      · have := hb2 k (by omega) hk2
        unfold BR at this ⊢
        have ho := hoth k (by omega)
        rw [ho.1, ho.2.1, ho.2.2]
        exact this
      · rw [h25, upd_n (by omega)]
        exact hold11 x hx
      · rw [h25]
        by_cases c : k = j
        · subst c; rw [upd_s]
        · rw [upd_n (by omega)]
          exact hnew11 k (by omega)
  · have hlt : j < T 2 0 := ngI hx
    have hokj : okS (43 * (h + 1)) (plo T on h s0 j) := plo_ok hok0 j
    have hon6 : onR M6 = on := by rw [onR.fr hF6, hon1]
    rw [i4, tnI (by omega : j < 2 ^ 31), tnI (by omega : 4 * h + j < 2 ^ 31)]
    refine r_isBroken ok hT6 hh (by omega) ?_
    rw [hon6]
    cases hbk : brk T on h j (T 2 3) with
    | false =>
      rw [if_neg (by decide)]
      refine ⟨fun _ => ?_, fun q => absurd rfl q⟩
      refine r_scoops (on := on) (h := h) ok hT6 hlt hokj (by omega) hP6 hbk (fun M37 hF37 hP37 => ⟨vI (by omega), fun M40 hM40 => ⟨vI (by omega), fun M41 hM41 M43 hM43 M44 hM44 => ?_⟩⟩)
      have hFa : Fr [12, 14, 15, 16, 17, 22, 23, 24] M1 M44 := ((((hF6.tr (hF37.mo (by decide))).up hM40 (by decide)).up hM41 (by decide)).up hM43 (by decide)).up hM44 (by decide)
      have q12 : M44 12 = M37 12 := by rw [hM44, upm_n (by decide), hM43, upm_n (by decide), hM41, upm_n (by decide), hM40, upm_n (by decide)]
      have q14 : M44 14 = M37 14 := by rw [hM44, upm_n (by decide), hM43, upm_n (by decide), hM41, upm_n (by decide), hM40, upm_n (by decide)]
      have q15 : M44 15 = M37 15 := by rw [hM44, upm_n (by decide), hM43, upm_n (by decide), hM41, upm_n (by decide), hM40, upm_n (by decide)]
      have q17 : M44 17 = M37 17 := by rw [hM44, upm_n (by decide), hM43, upm_n (by decide), hM41, upm_n (by decide), hM40, upm_n (by decide)]
      have q16 : M44 16 = upd (M6 16) j (M6 16 j + nI (plo T on h s0 (j + 1) 3 j)) := by
        rw [hM44, upm_n (by decide), hM43, upm_n (by decide), hM41, upm_n (by decide), hM40, upm_s, hF37 16 (by decide)]; rfl
      have q22 : M44 22 = upd (M6 22) (4 * h + j) (M37 14 j) := by
        rw [hM44, upm_n (by decide), hM43, upm_n (by decide), hM41, upm_s, hM40, upm_n (by decide), upm_n (by decide), hF37 22 (by decide)]
      have q23 : M44 23 = upd (M6 23) (4 * h + j) (M37 15 j) := by
        rw [hM44, upm_n (by decide), hM43, upm_s, hM41, upm_n (by decide), upm_n (by decide), hM40, upm_n (by decide), upm_n (by decide), hF37 23 (by decide)]
      have q24 : M44 24 = upd (M6 24) (4 * h + j) (nI (plo T on h s0 (j + 1) 3 j)) := by
        rw [hM44, upm_s, hM43, upm_n (by decide), hM41, upm_n (by decide), hM40, upm_n (by decide), hF37 24 (by decide)]; rfl
      refine hrec M44 hlt ⟨hFa, ?_, ?_, fun x hx => ?_, fun k hk => ?_⟩
      · unfold PS
        rw [q12, q14, q15, q17]
        exact hP37
      · rw [q16, plo, one_4 hbk]
        refine h166.up ?_
        rw [h166 j hlt, nI_add]
      · rw [q22, q23, q24, upd_n (by omega), upd_n (by omega), upd_n (by omega)]
        exact hold6 x hx
      · rw [q22, q23, q24]
        by_cases c : k = j
        · subst c
          rw [upd_s, upd_s, upd_s, hP37.2.1 k hlt, hP37.2.2.1 k hlt]
          exact ⟨rfl, rfl, rfl⟩
        · rw [upd_n (by omega), upd_n (by omega), upd_n (by omega)]
          exact hnew6 k (by omega)
    | true =>
      rw [if_pos rfl]
      refine ⟨fun q => absurd q (by decide), fun _ => ⟨vI (by omega), fun M40 hM40 => ⟨vI (by omega), fun M41 hM41 M43 hM43 M44 hM44 => ?_⟩⟩⟩
      have hFa : Fr [12, 14, 15, 16, 17, 22, 23, 24] M1 M44 := (((hF6.up hM40 (by decide)).up hM41 (by decide)).up hM43 (by decide)).up hM44 (by decide)
      have q12 : M44 12 = M6 12 := by rw [hM44, upm_n (by decide), hM43, upm_n (by decide), hM41, upm_n (by decide), hM40, upm_n (by decide)]
      have q14 : M44 14 = M6 14 := by rw [hM44, upm_n (by decide), hM43, upm_n (by decide), hM41, upm_n (by decide), hM40, upm_n (by decide)]
      have q15 : M44 15 = M6 15 := by rw [hM44, upm_n (by decide), hM43, upm_n (by decide), hM41, upm_n (by decide), hM40, upm_n (by decide)]
      have q17 : M44 17 = M6 17 := by rw [hM44, upm_n (by decide), hM43, upm_n (by decide), hM41, upm_n (by decide), hM40, upm_n (by decide)]
      have q16 : M44 16 = upd (M6 16) j (M6 16 j + 0) := by
        rw [hM44, upm_n (by decide), hM43, upm_n (by decide), hM41, upm_n (by decide), hM40, upm_s]
      have q22 : M44 22 = upd (M6 22) (4 * h + j) (M6 14 j) := by
        rw [hM44, upm_n (by decide), hM43, upm_n (by decide), hM41, upm_s, hM40, upm_n (by decide), upm_n (by decide)]
      have q23 : M44 23 = upd (M6 23) (4 * h + j) (M6 15 j) := by
        rw [hM44, upm_n (by decide), hM43, upm_s, hM41, upm_n (by decide), upm_n (by decide), hM40, upm_n (by decide), upm_n (by decide)]
      have q24 : M44 24 = upd (M6 24) (4 * h + j) 0 := by
        rw [hM44, upm_s, hM43, upm_n (by decide), hM41, upm_n (by decide), hM40, upm_n (by decide)]
      have e1 : plo T on h s0 (j + 1) = upS (plo T on h s0 j) 3 j 0 := by rw [plo, one_b hbk]
      refine hrec M44 hlt ⟨hFa, ?_, ?_, fun x hx => ?_, fun k hk => ?_⟩
      · unfold PS at hP6 ⊢
        rw [q12, q14, q15, q17, e1]
        simpa [upS] using hP6
      · rw [q16, e1]
        have : HR (upd (M6 16) j (M6 16 j + 0)) (T 2 0) (upN (plo T on h s0 j 4) j (plo T on h s0 j 4 j)) := h166.up (by rw [h166 j hlt]; simp)
        refine this.eq (fun i hi => ?_)
        unfold upN
        simp only [upS, show (4 : Nat) ≠ 3 by decide, if_false]
        split
        · rename_i q; rw [q]
        · rfl
      · rw [q22, q23, q24, upd_n (by omega), upd_n (by omega), upd_n (by omega)]
        exact hold6 x hx
      · rw [q22, q23, q24]
        by_cases c : k = j
        · subst c
          rw [upd_s, upd_s, upd_s, hP6.2.1 k hlt, hP6.2.2.1 k hlt, e1]
          simp [upS_eq]; rfl
        · rw [upd_n (by omega), upd_n (by omega), upd_n (by omega)]
          exact hnew6 k (by omega)
theorem r_lives {T : Tld} {M : Mem} {post : Mem → Prop} (ok : okT T) (hT : RT T M) (K : ∀ M', Fr LV M M' → HI T (onR M) 24 M' → post M') : wp_R_lives M post := by
  have h8 := ok.2.2.1
  unfold wp_R_lives
  refine it2_f1 12 (by omega) (fun j M' => Fr LV M M' ∧ HR (M' 12) j (fun _ => 0)) (fun rc j M4 hj hI hrec => ?_) 0 M (Nat.zero_le _) ⟨Fr.rf, fun k hk => absurd hk (Nat.not_lt_zero _)⟩
  obtain ⟨hF, hI⟩ := hI
  refine ⟨fun hx => ?_, fun hx => ?_⟩
  · have hj2 : j = 12 := by have := gI (a := 12) hx; omega
    subst hj2
    clear hrec hj hx
    refine it2_f1 (T 2 0) (by omega) (fun j M' => Fr LV M M' ∧ HR (M' 12) 12 (fun _ => 0) ∧ HR (M' 14) j (T 3) ∧ HR (M' 15) j (T 5) ∧ HR (M' 16) j (fun _ => 0) ∧ HR (M' 17) j (fun _ => 0)) (fun rc j M9 hj hI2 hrec => ?_) 0 M4 (Nat.zero_le _) ⟨hF, hI, fun k hk => absurd hk (Nat.not_lt_zero _), fun k hk => absurd hk (Nat.not_lt_zero _), fun k hk => absurd hk (Nat.not_lt_zero _), fun k hk => absurd hk (Nat.not_lt_zero _)⟩
    obtain ⟨hF9, a12, a14, a15, a16, a17⟩ := hI2
    have hT9 := hT.fr hF9
    rw [hT9.2.2.1]
    refine ⟨fun hx => ?_, fun hx => ?_⟩
    · have hj2 : j = T 2 0 := by have := gI hx; omega
      subst hj2
      clear hrec hj hx
      refine it2_f1 (T 2 1) (by omega) (fun j M' => Fr LV M M' ∧ HR (M' 12) 12 (fun _ => 0) ∧ HR (M' 14) (T 2 0) (T 3) ∧ HR (M' 15) (T 2 0) (T 5) ∧ HR (M' 16) (T 2 0) (fun _ => 0) ∧ HR (M' 17) (T 2 0) (fun _ => 0) ∧ ∀ k, k < j → M' 18 k = -1 ∧ M' 19 k = -1 ∧ M' 20 k = 0) (fun rc j M14 hj hI3 hrec => ?_) 0 M9 (Nat.zero_le _) ⟨hF9, a12, a14, a15, a16, a17, fun k hk => absurd hk (Nat.not_lt_zero _)⟩
      obtain ⟨hF14, a12, a14, a15, a16, a17, ab⟩ := hI3
      have hT14 := hT.fr hF14
      rw [hT14.2.2.2.1]
      refine ⟨fun hx => ?_, fun hx => ?_⟩
      · have hj2 : j = T 2 1 := by have := gI hx; omega
        subst hj2
        clear hrec hj hx
        refine it2_f1 24 (by omega) (fun j M' => Fr LV M M' ∧ HI T (onR M) j M') (fun rc j M19 hj hI4 hrec => ?_) 0 M14 (Nat.zero_le _) ⟨hF14, ⟨?_, ?_, ?_, ?_⟩, ?_, ?_, ?_⟩
        · obtain ⟨hF19, hH⟩ := hI4
          refine ⟨fun hx => ?_, fun hx => ?_⟩
          · have hj2 : j = 24 := by have := gI (a := 24) hx; omega
            subst hj2
            exact K M19 hF19 hH
          · have hlt : j < 24 := ngI (a := 24) hx
            have e := onR.fr (M := M) (M' := M19) hF19
            refine r_passes ok (hT.fr hF19) hlt (by rw [e]; exact hH) (fun M' hF' hH' => hrec M' hlt ⟨hF19.tr hF', ?_⟩)
            rw [e] at hH'
            exact hH'
        · exact a12.eq (fun i _ => by simp [sim])
        · exact a14.eq (fun i _ => by simp [sim])
        · exact a15.eq (fun i _ => by simp [sim])
        · exact a17.eq (fun i _ => by simp [sim])
        · exact a16.eq (fun i _ => by simp [sim])
        · intro k hk
          have := ab k hk
          exact ⟨this.1, this.2.1, this.2.2⟩
        · intro g hg
          exact absurd hg (Nat.not_lt_zero _)
      · have hlt : j < T 2 1 := ngI hx
        rw [tnI (by omega : j < 2 ^ 31)]
        refine ⟨vI (by omega), fun M23 h23 M25 h25 M26 h26 => hrec M26 hlt ⟨((hF14.up h23 (by decide)).up h25 (by decide)).up h26 (by decide), ?_, ?_, ?_, ?_, ?_, fun k hk => ?_⟩⟩
        · rw [h26, upm_n (by decide), h25, upm_n (by decide), h23, upm_n (by decide)]; exact a12
        · rw [h26, upm_n (by decide), h25, upm_n (by decide), h23, upm_n (by decide)]; exact a14
        · rw [h26, upm_n (by decide), h25, upm_n (by decide), h23, upm_n (by decide)]; exact a15
        · rw [h26, upm_n (by decide), h25, upm_n (by decide), h23, upm_n (by decide)]; exact a16
        · rw [h26, upm_n (by decide), h25, upm_n (by decide), h23, upm_n (by decide)]; exact a17
        · have r18 : M26 18 = upd (M14 18) j (-1) := by rw [h26, upm_n (by decide), h25, upm_n (by decide), h23, upm_s]
          have r19 : M26 19 = upd (M14 19) j (-1) := by rw [h26, upm_n (by decide), h25, upm_s, h23, upm_n (by decide)]
          have r20 : M26 20 = upd (M14 20) j 0 := by rw [h26, upm_s, h25, upm_n (by decide), h23, upm_n (by decide)]
          rw [r18, r19, r20]
          by_cases c : k = j
          · subst c; rw [upd_s, upd_s, upd_s]; exact ⟨rfl, rfl, rfl⟩
          · rw [upd_n c, upd_n c, upd_n c]; exact ab k (by omega)
    · have hlt : j < T 2 0 := ngI hx
      have hpl := hT9.2.2.2.2.2.2.1 j hlt
      rw [i3_2, i3_0, tnI (by omega : j < 2 ^ 31), tnI (by omega : 3 * j < 2 ^ 31), tnI (by omega : 3 * j + 2 < 2 ^ 31)]
      refine ⟨vI (by omega), vI (by omega), fun M28 h28 => ⟨vI (by omega), fun M31 h31 M32 h32 M33 h33 => hrec M33 hlt ⟨(((hF9.up h28 (by decide)).up h31 (by decide)).up h32 (by decide)).up h33 (by decide), ?_, ?_, ?_, ?_, ?_⟩⟩⟩
      · rw [h33, upm_n (by decide), h32, upm_n (by decide), h31, upm_n (by decide), h28, upm_n (by decide)]; exact a12
      · rw [h33, upm_n (by decide), h32, upm_n (by decide), h31, upm_n (by decide), h28, upm_s]
        intro k hk
        by_cases c : k = j
        · subst c; rw [upd_s]; exact hpl.1
        · rw [upd_n c]; exact a14 k (by omega)
      · rw [h33, upm_n (by decide), h32, upm_n (by decide), h31, upm_s, h28, upm_n (by decide), upm_n (by decide)]
        intro k hk
        by_cases c : k = j
        · subst c; rw [upd_s]; exact hpl.2.2
        · rw [upd_n c]; exact a15 k (by omega)
      · rw [h33, upm_n (by decide), h32, upm_s, h31, upm_n (by decide), h28, upm_n (by decide)]
        intro k hk
        by_cases c : k = j
        · subst c; rw [upd_s]; rfl
        · rw [upd_n c]; exact a16 k (by omega)
      · rw [h33, upm_s, h32, upm_n (by decide), h31, upm_n (by decide), h28, upm_n (by decide)]
        intro k hk
        by_cases c : k = j
        · subst c; rw [upd_s]; rfl
        · rw [upd_n c]; exact a17 k (by omega)
  · have hlt : j < 12 := ngI (a := 12) hx
    rw [tnI (by omega : j < 2 ^ 31)]
    refine ⟨vI (by omega), fun M34 h34 => hrec M34 hlt ⟨hF.up h34 (by decide), ?_⟩⟩
    rw [h34, upm_s]
    intro k hk
    by_cases c : k = j
    · subst c; rw [upd_s]; rfl
    · rw [upd_n c]; exact hI k (by omega)
