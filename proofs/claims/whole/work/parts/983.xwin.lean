/-! the class: winters -/
theorem x_over2 {T : Tld} {on : Nat → Bool} {M : Mem} {w : Nat} {post : Int32 → Mem → Prop} (hw : okW w) (ok : okT T) (h6 : M 10 6 = nI (T 2 1)) (h16 : ∀ k, k < T 2 1 → M 16 k = nI (T 6 k)) (hX : WX w T on 24 M) (K : ∀ M', F1 w M M' → post (nI (many T on)) M') : wp_XW_busesOver w M post := by
  have h8 := ok.2.2.1
  have w10 : 10 ≠ w ∧ 16 ≠ w := by unfold okW at hw; omega
  unfold wp_XW_busesOver
  refine it3_f2 (T 2 1) (by omega) (fun j x M' => F1 w M M' ∧ x = nI (cnt (ovr T on) j)) (fun rc j x M5 hj hI hrec => ?_) 0 0 M (by omega) ⟨F1.rf, rfl⟩
  obtain ⟨hF, rfl⟩ := hI
  rw [hF 10 w10.1, h6]
  refine ⟨fun hx => ?_, fun hx => ?_⟩
  · have hj2 : j = T 2 1 := by have := gI hx; omega
    subst hj2
    exact K M5 hF
  · have hlt : j < T 2 1 := ngI hx
    have b6 := ok.2.2.2.2.2.2.1 j
    rw [tnI (by omega : j < 2 ^ 31), hF 16 w10.2, h16 j hlt]
    refine ⟨vI (by omega), x_ride (u := 23) ok (hF.wx hX) (by omega) (by omega) (fun M8 hF8 hb => ?_)⟩
    intro u hu
    refine hrec u M8 hlt ⟨hF.tr hF8, ?_⟩
    have hle := (bus_ok (D := dep T on) (s := T 6 j) 24).2.1
    have e := m1_iff (n := (bus (dep T on) (T 6 j) 24).2.1) (by omega)
    rw [hu, hb.2.1, cnt]
    unfold ovr bsT
    by_cases c : (bus (dep T on) (T 6 j) 24).2.1 = 0
    · rw [if_pos (e.mpr c)]; simp [c]
    · rw [if_neg (fun q => c (e.mp q)), ia1]; simp [c]
theorem x_draw {T : Tld} {M : Mem} {s : Int32} {n : Nat} {post : Mem → Prop} (hn : n ≤ 24) (K : ∀ M', F1 57 M M' → HR (M' 57) 24 (wT T s n 1) → post M') : wp_X_drawFall s (nI n) M post := by
  unfold wp_X_drawFall
  intro M1 h1
  refine it3_f2 n (by omega) (fun j x M' => F1 57 M M' ∧ x = dr s j ∧ ∀ i, i < 24 → M' 57 i = nI (if i < j then tn (lot (dr s (i + 1))) else 0)) (fun rc j x M6 hj hI hrec => ?_) 0 s M1 (by omega) ⟨fun c hc => by rw [h1, upr_n hc], rfl, fun i hi => by rw [h1, upr_s]; unfold zfill; rw [if_pos hi, if_neg (Nat.not_lt_zero _)]; rfl⟩
  obtain ⟨hF, rfl, hr⟩ := hI
  refine ⟨fun hx => ?_, fun hx => ?_⟩
  · have hj2 : j = n := by have := gI hx; omega
    subst hj2
    exact K M6 hF (fun i hi => by rw [hr i hi, wT_i])
  · have hlt : j < n := ngI hx
    rw [tnI (by omega : j < 2 ^ 31)]
    intro x8 h8
    have e8 : x8 = dr s (j + 1) := h8
    refine ⟨vI (by omega), fun M9 h9 => ?_⟩
    refine hrec x8 M9 hlt ⟨hF.up h9, e8, fun i hi => ?_⟩
    rw [h9, upm_s]
    by_cases c : i = j
    · subst c
      rw [upd_s, if_pos (by omega), e8]
      exact (lot_le (dr s (i + 1))).2
    · rw [upd_n c, hr i hi]
      by_cases q : i < j
      · rw [if_pos q, if_pos (by omega)]
      · rw [if_neg q, if_neg (by omega)]
theorem xq_winters {A : Ast} {M : Mem} {a1 a2 a3 : Int32} {post : Int32 → Mem → Prop} (ok : okA A) (hX : IX A M) (K : ∀ M', IX A M' → post (q_win A a1 a2 a3) M') : wp_X_winters a1 a2 a3 M post := by
  have okt := okT_tld ok
  unfold wp_X_winters
  unfold q_win at K
  have e24 : ((24 : Int32) < a2) ↔ 24 < a2.toInt := Int32.lt_iff_toInt_lt
  rw [lt0, e24, xq2]
  refine ⟨fun c1 => by rw [if_neg (by unfold inb; omega)] at K; exact K M hX, fun c1 => ⟨fun c2 => by rw [if_neg (by unfold inb; omega)] at K; exact K M hX, fun c2 => ?_⟩⟩
  have c25 : inb a2 25 := by unfold inb; omega
  rw [if_pos c25] at K
  refine ⟨fun c3 => ?_, fun c3 => by rw [if_neg c3] at K; exact K M hX⟩
  rw [if_pos c3] at K
  obtain ⟨n, hn, rfl⟩ := inb_of c25
  rw [tnI (by omega)] at K
  have okw := okT_w okt a1 n
  refine x_draw (T := tld A) (by omega) (fun M5 hF5 h57 => ?_)
  intro M7 h7
  have hX5 := hX.k (M' := M5) (fun c hc => hF5 c (by omega))
  have ez : fz M7 = 57 := by unfold fz; rw [h7, upm_s, upd_s, if_neg (by decide)]
  have g : ∀ c, c ≠ 59 → M7 c = M5 c := fun c hc => by rw [h7, upm_n hc]
  have hT7 : XT (wT (tld A) a1 n) M7 := by
    obtain ⟨a0, a1', a2, a3, a4, a5, a6, a7, a8⟩ := hX5.2.1
    unfold XT
    rw [ez, wT_n (r := 0) (by decide), wT_n (r := 2) (by decide), wT_n (r := 3) (by decide), wT_n (r := 4) (by decide), wT_n (r := 5) (by decide), wT_n (r := 6) (by decide), wT_n (r := 7) (by decide), wT_n (r := 8) (by decide), wT_n (r := 9) (by decide), g 11 (by decide), g 57 (by decide), g 10 (by decide), g 13 (by decide), g 14 (by decide), g 15 (by decide), g 16 (by decide), g 17 (by decide), g 18 (by decide), g 19 (by decide)]
    exact ⟨a0, h57, a2, a3, a4, a5, a6, a7, a8⟩
  refine x_trial okw hT7 (fun M9 hF9 hW => ?_)
  intro M11 h11
  have kx : Kx M5 M11 := fun c hc => by
    by_cases c59 : c = 59
    · subst c59; rw [h11, upm_s, hF9 59 (by omega), h7, upm_s, upd_upd, upd_self]
    · rw [h11, upm_n c59, hF9 c (by omega), g c c59]
  have hX11 := hX5.k kx
  have hW11 : WX 44 (wT (tld A) a1 n) allOn 24 M11 := hW.k (fun c c1 c2 => by rw [h11, upm_n (by omega)])
  unfold v_win at K
  refine ⟨fun q => x_snow (h := 23) okw hW11 (by omega) (by rw [if_pos q] at K; exact K M11 hX11), fun q => ?_⟩
  rw [if_neg q] at K
  refine x_over2 (T := wT (tld A) a1 n) (Or.inr rfl) okw ?_ ?_ hW11 (fun M13 hF13 => K M13 (hX11.k (Kx.w1 hF13)))
  · rw [wT_n (by decide)]; exact hX11.2.1.2.2.2.1
  · rw [wT_n (by decide), wT_n (by decide)]; exact hX11.2.1.2.2.2.2.2.2.2.1
