/-! the class: all hours, rides, sums -/
theorem x_ploughs {T : Tld} {on : Nat → Bool} {M : Mem} {w h B : Nat} {s0 : Sim} {post : Mem → Prop} (hw : okW w) (ok : okT T) (hT : XT T M) (hh : h < 24) (hok0 : okS B s0) (hB : B ≤ 10000) (hP : XP w (T 2 0) s0 M) (h5 : HR (M (w + 5)) (T 2 0) (s0 4)) (hb : ∀ k, k < 12 → (bx (M (w + 8) h) k ↔ brk T on h k (T 2 3) = true))
    (K : ∀ M', Fp w M M' → XP w (T 2 0) (plo T on h s0 (T 2 0)) M' → HR (M' (w + 5)) (T 2 0) (plo T on h s0 (T 2 0) 4) → (∀ x, x < 4 * h → M' (w + 2) x = M (w + 2) x ∧ M' (w + 3) x = M (w + 3) x ∧ M' (w + 4) x = M (w + 4) x) → (∀ k, k < T 2 0 → M' (w + 2) (4 * h + k) = nI (plo T on h s0 (T 2 0) 1 k) ∧ M' (w + 3) (4 * h + k) = nI (plo T on h s0 (T 2 0) 2 k) ∧ M' (w + 4) (4 * h + k) = nI (plo T on h s0 (T 2 0) 3 k)) → post M') : wp_XW_ploughsGo w (nI h) M post := by
  have h8 := ok.2.2.1
  unfold wp_XW_ploughsGo
  refine it2_f1 (T 2 0) (by omega) (fun j M' => Fp w M M' ∧ XP w (T 2 0) (plo T on h s0 j) M' ∧ HR (M' (w + 5)) (T 2 0) (plo T on h s0 j 4) ∧ (∀ x, x < 4 * h → M' (w + 2) x = M (w + 2) x ∧ M' (w + 3) x = M (w + 3) x ∧ M' (w + 4) x = M (w + 4) x) ∧ (∀ k, k < j → M' (w + 2) (4 * h + k) = nI (plo T on h s0 (k + 1) 1 k) ∧ M' (w + 3) (4 * h + k) = nI (plo T on h s0 (k + 1) 2 k) ∧ M' (w + 4) (4 * h + k) = nI (plo T on h s0 (k + 1) 3 k))) (fun rc j M6 hj hI hrec => ?_) 0 M (Nat.zero_le _) ⟨Fp.rf, hP, h5, fun _ _ => ⟨rfl, rfl, rfl⟩, fun k hk => absurd hk (Nat.not_lt_zero _)⟩
  obtain ⟨hF6, hP6, h56, hold6, hnew6⟩ := hI
  have hT6 := hT.k (hF6.fw.tk hw)
  rw [hT6.2.2.1]
  refine ⟨fun hx => ?_, fun hx => ?_⟩
  · have hj2 : j = T 2 0 := by have := gI hx; omega
    subst hj2
    refine K M6 hF6 hP6 h56 hold6 (fun k hk => ?_)
    rw [plo_keep (Or.inl rfl) (T 2 0) hk, plo_keep (Or.inr (Or.inl rfl)) (T 2 0) hk, plo_keep (Or.inr (Or.inr rfl)) (T 2 0) hk]
    exact hnew6 k hk
  · have hlt : j < T 2 0 := ngI hx
    have hokj : okS B (plo T on h s0 j) := plo_ok hok0 j
    rw [tnI (by omega : h < 2 ^ 31), tnI (by omega : j < 2 ^ 31), hF6 (w + 8) (by omega), (hT6.2.2.2.2.2.2.1 j hlt).2.1]
    have ex : nI h * 4 + nI j = nI (4 * h + j) := by rw [show nI h * 4 = nI (h * 4) from im h 4, nI_add, Nat.mul_comm]
    have hbj := hb j (by omega)
    refine ⟨vI (by omega), fun c => ?_, fun c => ?_⟩
    · have hbk := hbj.mp c
      refine ⟨vI (by omega), fun M40 hM40 x19 hx19 => ?_⟩
      rw [ex] at hx19
      subst hx19
      rw [tnI (by omega : 4 * h + j < 2 ^ 31)]
      refine ⟨vI (by omega), fun M41 hM41 M43 hM43 M44 hM44 => ?_⟩
      have hFa : Fp w M M44 := (((hF6.up hM40 (by omega)).up hM41 (by omega)).up hM43 (by omega)).up hM44 (by omega)
      have q9 : M44 (w + 9) = M6 (w + 9) := by rw [hM44, upm_n (by omega), hM43, upm_n (by omega), hM41, upm_n (by omega), hM40, upm_n (by omega)]
      have q10 : M44 (w + 10) = M6 (w + 10) := by rw [hM44, upm_n (by omega), hM43, upm_n (by omega), hM41, upm_n (by omega), hM40, upm_n (by omega)]
      have q11 : M44 (w + 11) = M6 (w + 11) := by rw [hM44, upm_n (by omega), hM43, upm_n (by omega), hM41, upm_n (by omega), hM40, upm_n (by omega)]
      have q6 : M44 (w + 6) = M6 (w + 6) := by rw [hM44, upm_n (by omega), hM43, upm_n (by omega), hM41, upm_n (by omega), hM40, upm_n (by omega)]
      have q5 : M44 (w + 5) = upd (M6 (w + 5)) j (M6 (w + 5) j + 0) := by
        rw [hM44, upm_n (by omega), hM43, upm_n (by omega), hM41, upm_n (by omega), hM40, upm_s]
      have q2 : M44 (w + 2) = upd (M6 (w + 2)) (4 * h + j) (M6 (w + 10) j) := by
        rw [hM44, upm_n (by omega), hM43, upm_n (by omega), hM41, upm_s, hM40, upm_n (by omega), upm_n (by omega)]
      have q3 : M44 (w + 3) = upd (M6 (w + 3)) (4 * h + j) (M6 (w + 11) j) := by
        rw [hM44, upm_n (by omega), hM43, upm_s, hM41, upm_n (by omega), upm_n (by omega), hM40, upm_n (by omega), upm_n (by omega)]
      have q4 : M44 (w + 4) = upd (M6 (w + 4)) (4 * h + j) 0 := by
        rw [hM44, upm_s, hM43, upm_n (by omega), hM41, upm_n (by omega), hM40, upm_n (by omega)]
      have e1 : plo T on h s0 (j + 1) = upS (plo T on h s0 j) 3 j 0 := by rw [plo, one_b hbk]
      refine hrec M44 hlt ⟨hFa, ?_, ?_, fun x hx => ?_, fun k hk => ?_⟩
      · unfold XP at hP6 ⊢
        rw [q9, q10, q11, q6, e1]
        simpa [upS] using hP6
      · rw [q5, e1]
        have : HR (upd (M6 (w + 5)) j (M6 (w + 5) j + 0)) (T 2 0) (upN (plo T on h s0 j 4) j (plo T on h s0 j 4 j)) := h56.up (by rw [h56 j hlt]; simp)
        refine this.eq (fun i hi => ?_)
        unfold upN
        simp only [upS, show (4 : Nat) ≠ 3 by decide, if_false]
        split
        · rename_i q; rw [q]
        · rfl
      · rw [q2, q3, q4, upd_n (by omega), upd_n (by omega), upd_n (by omega)]
        exact hold6 x hx
      · rw [q2, q3, q4]
        by_cases c : k = j
        · subst c
          rw [upd_s, upd_s, upd_s, hP6.2.1 k hlt, hP6.2.2.1 k hlt, e1]
          simp [upS_eq]; rfl
        · rw [upd_n (by omega), upd_n (by omega), upd_n (by omega)]
          exact hnew6 k (by omega)
    · have hbk : brk T on h j (T 2 3) = false := by
        cases q : brk T on h j (T 2 3) with
        | false => rfl
        | true => exact absurd (hbj.mpr q) c
      refine ⟨vI (by omega), x_goes (on := on) (h := h) ok hlt hokj hB hP6 hbk (fun M37 hF37 hP37 => ?_)⟩
      intro M40 hM40 x12 hx12
      rw [ex] at hx12
      subst hx12
      rw [tnI (by omega : 4 * h + j < 2 ^ 31)]
      refine ⟨vI (by omega), fun M41 hM41 M43 hM43 M44 hM44 => ?_⟩
      have hFa : Fp w M M44 := ((((hF6.tr (fun c hc => hF37 c (by omega) (by omega) (by omega) (by omega))).up hM40 (by omega)).up hM41 (by omega)).up hM43 (by omega)).up hM44 (by omega)
      have q9 : M44 (w + 9) = M37 (w + 9) := by rw [hM44, upm_n (by omega), hM43, upm_n (by omega), hM41, upm_n (by omega), hM40, upm_n (by omega)]
      have q10 : M44 (w + 10) = M37 (w + 10) := by rw [hM44, upm_n (by omega), hM43, upm_n (by omega), hM41, upm_n (by omega), hM40, upm_n (by omega)]
      have q11 : M44 (w + 11) = M37 (w + 11) := by rw [hM44, upm_n (by omega), hM43, upm_n (by omega), hM41, upm_n (by omega), hM40, upm_n (by omega)]
      have q6 : M44 (w + 6) = M37 (w + 6) := by rw [hM44, upm_n (by omega), hM43, upm_n (by omega), hM41, upm_n (by omega), hM40, upm_n (by omega)]
      have q5 : M44 (w + 5) = upd (M6 (w + 5)) j (M6 (w + 5) j + nI (plo T on h s0 (j + 1) 3 j)) := by
        rw [hM44, upm_n (by omega), hM43, upm_n (by omega), hM41, upm_n (by omega), hM40, upm_s, hF37 (w + 5) (by omega) (by omega) (by omega) (by omega)]; rfl
      have q2 : M44 (w + 2) = upd (M6 (w + 2)) (4 * h + j) (M37 (w + 10) j) := by
        rw [hM44, upm_n (by omega), hM43, upm_n (by omega), hM41, upm_s, hM40, upm_n (by omega), upm_n (by omega), hF37 (w + 2) (by omega) (by omega) (by omega) (by omega)]
      have q3 : M44 (w + 3) = upd (M6 (w + 3)) (4 * h + j) (M37 (w + 11) j) := by
        rw [hM44, upm_n (by omega), hM43, upm_s, hM41, upm_n (by omega), upm_n (by omega), hM40, upm_n (by omega), upm_n (by omega), hF37 (w + 3) (by omega) (by omega) (by omega) (by omega)]
      have q4 : M44 (w + 4) = upd (M6 (w + 4)) (4 * h + j) (nI (plo T on h s0 (j + 1) 3 j)) := by
        rw [hM44, upm_s, hM43, upm_n (by omega), hM41, upm_n (by omega), hM40, upm_n (by omega), hF37 (w + 4) (by omega) (by omega) (by omega) (by omega)]; rfl
      refine hrec M44 hlt ⟨hFa, ?_, ?_, fun x hx => ?_, fun k hk => ?_⟩
      · unfold XP
        rw [q9, q10, q11, q6]
        exact hP37
      · rw [q5, plo, one_4 hbk]
        refine h56.up ?_
        rw [h56 j hlt, nI_add]
      · rw [q2, q3, q4, upd_n (by omega), upd_n (by omega), upd_n (by omega)]
        exact hold6 x hx
      · rw [q2, q3, q4]
        by_cases c : k = j
        · subst c
          rw [upd_s, upd_s, upd_s, hP37.2.1 k hlt, hP37.2.2.1 k hlt]
          exact ⟨rfl, rfl, rfl⟩
        · rw [upd_n (by omega), upd_n (by omega), upd_n (by omega)]
          exact hnew6 k (by omega)
def WX (w : Nat) (T : Tld) (on : Nat → Bool) (h : Nat) (M : Mem) : Prop := XP w (T 2 0) (sim T on h) M ∧ HR (M (w + 5)) (T 2 0) (sim T on h 4) ∧ ∀ g, g < h → (∀ i, i < 12 → M (w + 1) (12 * g + i) = nI (sim T on (g + 1) 0 i)) ∧ (∀ k, k < T 2 0 → M (w + 2) (4 * g + k) = nI (sim T on (g + 1) 1 k) ∧ M (w + 3) (4 * g + k) = nI (sim T on (g + 1) 2 k) ∧ M (w + 4) (4 * g + k) = nI (sim T on (g + 1) 3 k))
theorem WX.k {w : Nat} {T : Tld} {on : Nat → Bool} {h : Nat} {M M' : Mem} (hx : WX w T on h M) (k : ∀ c, w < c → c < w + 12 → M' c = M c) : WX w T on h M' := by
  unfold WX XP at hx ⊢
  rw [k (w + 9) (by omega) (by omega), k (w + 10) (by omega) (by omega), k (w + 11) (by omega) (by omega), k (w + 6) (by omega) (by omega), k (w + 5) (by omega) (by omega), k (w + 1) (by omega) (by omega), k (w + 2) (by omega) (by omega), k (w + 3) (by omega) (by omega), k (w + 4) (by omega) (by omega)]
  exact hx
theorem SE.k {T : Tld} {on : Nat → Bool} {w j : Nat} {M M' : Mem} (h : SE T on w j M) (h0 : M' w = M w) (h7 : M' (w + 7) = M (w + 7)) (h8 : M' (w + 8) = M (w + 8)) : SE T on w j M' := by
  unfold SE at h ⊢
  rw [h0, h7, h8]
  exact h
theorem x_hour {T : Tld} {M : Mem} {a : Int32} {w h : Nat} {rc : Mem → Prop} (hw : okW w) (ok : okT T) (hT : XT T M) (hh : h < 24) (hS : SE T (onX a) w (T 2 3) M) (hX : WX w T (onX a) h M) (K : ∀ M', Fw w M M' → SE T (onX a) w (T 2 3) M' → WX w T (onX a) (h + 1) M' → rc M') :
    vp_in (nI h) 24 ∧ wp_XW_snowFalls w (M (fz M) (tn (nI h))) M (fun M15 => wp_XW_windCarries w (M15 (w + 7) (tn (nI h))) M15 (fun M17 => ((((((M17 w 8) >>> (nI h &&& 31)) &&& 1) = 1) → wp_XW_snowThaws w (nI h) a M17 (fun M23 => wp_XW_ploughsGo w (nI h) M23 (fun M25 => (¬ (0 : Int32) < 0 ∧ ¬ ((nI h * 12) : Int32) < 0 ∧ ¬ (12 : Int32) < 0 ∧ tn 0 + tn 12 ≤ 12 ∧ tn (nI h * 12) + tn 12 ≤ 288) ∧ ∀ M27 : Mem, M27 = upr M25 (w + 1) (va_cpy (M25 (w + 9)) (M25 (w + 1)) (tn 0) (tn (nI h * 12)) (tn 12)) → rc M27))) ∧ (¬ ((((M17 w 8) >>> (nI h &&& 31)) &&& 1) = 1) → wp_XW_ploughsGo w (nI h) M17 (fun M20 => (¬ (0 : Int32) < 0 ∧ ¬ ((nI h * 12) : Int32) < 0 ∧ ¬ (12 : Int32) < 0 ∧ tn 0 + tn 12 ≤ 12 ∧ tn (nI h * 12) + tn 12 ≤ 288) ∧ ∀ M22 : Mem, M22 = upr M20 (w + 1) (va_cpy (M20 (w + 9)) (M20 (w + 1)) (tn 0) (tn (nI h * 12)) (tn 12)) → rc M22))))) := by
  have h8 := ok.2.2.1
  obtain ⟨hP, h5, hby⟩ := hX
  generalize hon : onX a = on at *
  have hs := sim_ok (T := T) (on := on) ok h
  have eh : nI h * 12 = nI (12 * h) := by rw [show nI h * 12 = nI (h * 12) from im h 12, Nat.mul_comm]
  rw [eh, tnI (by omega : h < 2 ^ 31), tnI (by omega : 12 * h < 2 ^ 31), show tn 0 = 0 from rfl, show tn 12 = 12 from rfl, hT.2.1 h hh]
  refine ⟨vI hh, x_falls hw ok hT hP.1 hs.1 (by omega) (fun M15 hF15 r15 => ?_)⟩
  have hT15 := hT.k (hF15.tk hw (by omega))
  rw [hF15 (w + 7) (by omega), hS.1 h hh]
  have wl := windAt_le (T := T) (on := on) (h := h) ok
  have fl : ∀ i, fal T h (sim T on h 0) i ≤ 43 * h + 10 := fun i => by
    have := fal_le (T := T) (h := h) (d := sim T on h 0) (i := i) ok
    have := hs.1 i
    omega
  refine x_wind (v := windAt T on h) hw ok hT15 r15 fl (by omega) (by omega) (fun M17 hF17 r17 => ?_)
  have hFa : F1 (w + 9) M M17 := hF15.tr hF17
  have hT17 := hT.k (hFa.tk hw (by omega))
  have bl : ∀ i, blo T (windAt T on h) (fal T h (sim T on h 0)) i ≤ 43 * h + 43 := fun i => by
    have := blo_le (T := T) (w := windAt T on h) (d := fal T h (sim T on h 0)) (i := i)
    have := fl i
    omega
  generalize hs0 : upW (sim T on h) 0 (wea T on h (sim T on h 0)) = s0
  have hsim1 : sim T on (h + 1) = plo T on h s0 (T 2 0) := by rw [← hs0]; rfl
  have hok0 : okS (43 * (h + 1)) s0 := by
    rw [← hs0]
    refine ⟨fun i => ?_, fun k => ?_, fun k => ?_⟩
    · simp only [upW, if_true]
      have := wea_le (T := T) (on := on) (h := h) (d := sim T on h 0) (i := i) ok
      have := hs.1 i
      omega
    · simp [upW]; exact hs.2.1 k
    · simp [upW]; exact hs.2.2 k
  -- the ploughs, once the weather is done
  have tail : ∀ M23, F1 (w + 9) M M23 → HR (M23 (w + 9)) 12 (wea T on h (sim T on h 0)) → wp_XW_ploughsGo w (nI h) M23 (fun M25 => (¬ (0 : Int32) < 0 ∧ ¬ (nI (12 * h) : Int32) < 0 ∧ ¬ (12 : Int32) < 0 ∧ 0 + 12 ≤ 12 ∧ 12 * h + 12 ≤ 288) ∧ ∀ M27 : Mem, M27 = upr M25 (w + 1) (va_cpy (M25 (w + 9)) (M25 (w + 1)) 0 (12 * h) 12) → rc M27) := by
    intro M23 hF23 r23
    have hT23 := hT.k (hF23.tk hw (by omega))
    have hP23 : XP w (T 2 0) s0 M23 := by
      rw [← hs0]
      refine ⟨by simpa [upW] using r23, ?_, ?_, ?_⟩
      · rw [hF23 (w + 10) (by omega)]; simpa [upW] using hP.2.1
      · rw [hF23 (w + 11) (by omega)]; simpa [upW] using hP.2.2.1
      · rw [hF23 (w + 6) (by omega)]; simpa [upW] using hP.2.2.2
    have h523 : HR (M23 (w + 5)) (T 2 0) (s0 4) := by
      rw [hF23 (w + 5) (by omega), ← hs0]; simpa [upW] using h5
    refine x_ploughs (on := on) hw ok hT23 hh hok0 (by omega) hP23 h523 (by rw [hF23 (w + 8) (by omega)]; exact hS.2.1 h hh) (fun M25 hF25 hP25 h525 hold hnew => ?_)
    rw [← hsim1] at hP25 h525 hnew
    refine ⟨⟨by decide, fun q => by have := lI (j := 0) q; omega, by decide, by omega, by omega⟩, fun M27 h27 => ?_⟩
    have n1 : ∀ c, c ≠ w + 1 → M27 c = M25 c := fun c hc => by rw [h27, upr_n hc]
    have r1 : M27 (w + 1) = va_cpy (M25 (w + 9)) (M25 (w + 1)) 0 (12 * h) 12 := by rw [h27, upr_s]
    refine K M27 (fun c hc => by rw [n1 c (by omega), hF25 c (by omega), hF23 c (by omega)]) (hS.k (by rw [n1 _ (by omega), hF25 _ (by omega), hF23 _ (by omega)]) (by rw [n1 _ (by omega), hF25 _ (by omega), hF23 _ (by omega)]) (by rw [n1 _ (by omega), hF25 _ (by omega), hF23 _ (by omega)])) ⟨?_, ?_, fun g hg => ?_⟩
    · unfold XP at hP25 ⊢
      rw [n1 _ (by omega), n1 _ (by omega), n1 _ (by omega), n1 _ (by omega)]
      exact hP25
    · rw [n1 _ (by omega)]; exact h525
    · rw [n1 (w + 2) (by omega), n1 (w + 3) (by omega), n1 (w + 4) (by omega), r1]
      unfold va_cpy
      by_cases c : g = h
      · subst c
        refine ⟨fun i hi => ?_, fun k hk => hnew k hk⟩
        rw [if_pos (by omega), show 0 + (12 * g + i - 12 * g) = i by omega]
        exact hP25.1 i hi
      · have hg2 : g < h := by omega
        obtain ⟨g1, g2⟩ := hby g hg2
        refine ⟨fun i hi => ?_, fun k hk => ?_⟩
        · rw [if_neg (by omega), hF25 (w + 1) (by omega), hF23 (w + 1) (by omega)]
          exact g1 i hi
        · have := hold (4 * g + k) (by omega)
          rw [this.1, this.2.1, this.2.2, hF23 (w + 2) (by omega), hF23 (w + 3) (by omega), hF23 (w + 4) (by omega)]
          exact g2 k hk
  have et : bx (M17 w 8) h ↔ thb T on h (T 2 3) := by rw [hFa w (by omega)]; exact hS.2.2 h hh
  refine ⟨fun c => ?_, fun c => ?_⟩
  · refine x_thaws hw ok hT17 hh r17 bl (by omega) (fun M23 hF23 r23 => tail M23 (hFa.tr hF23) ?_)
    rw [hon] at r23
    exact r23
  · refine tail M17 hFa ?_
    unfold wea
    rw [thw_none _ (fun q => c (et.mpr q))]
    exact r17
theorem x_run {T : Tld} {M : Mem} {a : Int32} {w : Nat} {post : Mem → Prop} (hw : okW w) (ok : okT T) (hT : XT T M) (K : ∀ M', Fw w M M' → WX w T (onX a) 24 M' → post M') : wp_XW_run w a M post := by
  have h8 := ok.2.2.1
  unfold wp_XW_run
  intro M1 h1
  refine it2_f1 (T 2 0) (by omega) (fun j M' => Fw w M M' ∧ HR (M' (w + 9)) 12 (fun _ => 0) ∧ HR (M' (w + 10)) j (T 3) ∧ HR (M' (w + 11)) j (T 5) ∧ HR (M' (w + 5)) j (fun _ => 0) ∧ HR (M' (w + 6)) j (fun _ => 0)) (fun rc j M5 hj hI hrec => ?_) 0 M1 (Nat.zero_le _) ⟨Fw.rf.ur h1 (by omega), fun i hi => by rw [h1, upr_s]; unfold zfill; rw [if_pos hi]; rfl, fun k hk => absurd hk (Nat.not_lt_zero _), fun k hk => absurd hk (Nat.not_lt_zero _), fun k hk => absurd hk (Nat.not_lt_zero _), fun k hk => absurd hk (Nat.not_lt_zero _)⟩
  obtain ⟨hF5, a9, a10, a11, a5, a6⟩ := hI
  have hT5 := hT.k (hF5.tk hw)
  rw [hT5.2.2.1]
  refine ⟨fun hx => ?_, fun hx => ?_⟩
  · have hj2 : j = T 2 0 := by have := gI hx; omega
    subst hj2
    clear hrec
    refine x_sorts hw ok hT5 (fun M7 hF7 hS7 => ?_)
    refine it2_f1 24 (by omega) (fun j M' => Fw w M M' ∧ SE T (onX a) w (T 2 3) M' ∧ WX w T (onX a) j M') (fun rc j M12 hj hI2 hrec => ?_) 0 M7 (Nat.zero_le _) ⟨hF5.tr hF7.fw, hS7, ⟨?_, ?_, ?_, ?_⟩, ?_, fun g hg => absurd hg (Nat.not_lt_zero _)⟩
    rotate_left
    · rw [hF7 _ (by omega) (by omega) (by omega)]; exact a9.eq (fun i _ => by simp [sim])
    · rw [hF7 _ (by omega) (by omega) (by omega)]; exact a10.eq (fun i _ => by simp [sim])
    · rw [hF7 _ (by omega) (by omega) (by omega)]; exact a11.eq (fun i _ => by simp [sim])
    · rw [hF7 _ (by omega) (by omega) (by omega)]; exact a6.eq (fun i _ => by simp [sim])
    · rw [hF7 _ (by omega) (by omega) (by omega)]; exact a5.eq (fun i _ => by simp [sim])
    obtain ⟨hF12, hS12, hX12⟩ := hI2
    refine ⟨fun hx => ?_, fun hx => ?_⟩
    · have hj2 : j = 24 := by have := gI (a := 24) hx; omega
      subst hj2
      exact K M12 hF12 hX12
    · have hlt : j < 24 := ngI (a := 24) hx
      exact x_hour (rc := fun M' => rc (nI j + 1) M') hw ok (hT.k (hF12.tk hw)) hlt hS12 hX12 (fun M' hF' hS' hX' => hrec M' hlt ⟨hF12.tr hF', hS', hX'⟩)
  · have hlt : j < T 2 0 := ngI hx
    have hpl := hT5.2.2.2.2.2.2.1 j hlt
    rw [tnI (by omega : j < 2 ^ 31)]
    have e29 : ∀ M29, M29 = upm M5 (w + 10) j (M5 13 j) → M29 15 j = nI (T 5 j) := fun M29 h29 => by rw [h29, upm_n (by unfold okW at hw; omega)]; exact hpl.2.2
    refine ⟨vI (by omega), fun M29 h29 M30 h30 M31 h31 M32 h32 => hrec M32 hlt ⟨(((hF5.up h29 (by omega)).up h30 (by omega)).up h31 (by omega)).up h32 (by omega), ?_, ?_, ?_, ?_, ?_⟩⟩
    · rw [h32, upm_n (by omega), h31, upm_n (by omega), h30, upm_n (by omega), h29, upm_n (by omega)]; exact a9
    · rw [h32, upm_n (by omega), h31, upm_n (by omega), h30, upm_n (by omega), h29, upm_s]
      intro k hk
      by_cases c : k = j
      · subst c; rw [upd_s]; exact hpl.1
      · rw [upd_n c]; exact a10 k (by omega)
    · rw [h32, upm_n (by omega), h31, upm_n (by omega), h30, upm_s, e29 M29 h29, h29, upm_n (by omega)]
      intro k hk
      by_cases c : k = j
      · subst c; rw [upd_s]
      · rw [upd_n c]; exact a11 k (by omega)
    · rw [h32, upm_n (by omega), h31, upm_s, h30, upm_n (by omega), h29, upm_n (by omega)]
      intro k hk
      by_cases c : k = j
      · subst c; rw [upd_s]; rfl
      · rw [upd_n c]; exact a5 k (by omega)
    · rw [h32, upm_s, h31, upm_n (by omega), h30, upm_n (by omega), h29, upm_n (by omega)]
      intro k hk
      by_cases c : k = j
      · subst c; rw [upd_s]; rfl
      · rw [upd_n c]; exact a6 k (by omega)
