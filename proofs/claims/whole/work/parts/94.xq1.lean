/-! what the class holds, and its queries of the told winter -/
/-- masks: how many are on; the counted choices -/
def pop (on : Nat → Bool) (E : Nat) : Nat := cnt on E
def chs (T : Tld) (b r n : Nat) : Nat := cnt (fun x => ovr T (onX (nI x)) b && decide (pop (onX (nI x)) (T 2 3) = r)) n
def IXt (A : Ast) (M : Mem) : Prop := ∀ t, t < 4 → M (2 + 2 * t) 0 = nI t ∧ M (2 + 2 * t) 2 = nI (aln A t) ∧ ∀ i, i < aln A t → M (3 + 2 * t) i = abt A t i
def IXs (A : Ast) (M : Mem) : Prop := M 20 2 = nI (asg A) ∧ ∀ j, j < asg A → M 21 j = nI (12 * ase A 0 j + ase A 1 j) ∧ M 22 j = nI (ase A 2 j)
def IXh (A : Ast) (M : Mem) : Prop := ∀ s, s < 4 → M (24 + 2 * s) 1 = afo A s ∧ M (24 + 2 * s) 2 = nI (asz A s) ∧ ∀ i, i < asz A s → M (25 + 2 * s) i = ait A s i
def IXc (T : Tld) (M : Mem) : Prop := (M 0 7 = 0 → WX 32 T allOn 24 M) ∧ (M 0 9 = 0 → ∀ b, b < T 2 1 → ∀ r, r ≤ T 2 3 → M 56 (9 * b + r) = nI (chs T b r (2 ^ T 2 3)))
def IX (A : Ast) (M : Mem) : Prop := IXt A M ∧ XT (tld A) M ∧ M 59 0 = 0 ∧ IXs A M ∧ IXh A M ∧ M 0 4 = afd A ∧ IXc (tld A) M
/-- all but the kept winter's own object, the trial, the drawn fall and the drifts stand -/
def Kx (M M' : Mem) : Prop := ∀ c, (c < 32 ∨ (32 < c ∧ c < 44) ∨ c = 56 ∨ 59 ≤ c) → M' c = M c
theorem Kx.rf {M : Mem} : Kx M M := fun _ _ => rfl
theorem Kx.tr {M M1 M2 : Mem} (h : Kx M M1) (h2 : Kx M1 M2) : Kx M M2 := fun c hc => (h2 c hc).trans (h c hc)
theorem Kx.w {M M' : Mem} (h : Fw 44 M M') : Kx M M' := fun c hc => h c (by omega)
theorem Kx.w1 {M M' : Mem} (h : F1 44 M M') : Kx M M' := fun c hc => h c (by omega)
theorem Kx.k1 {M M' : Mem} (h : F1 32 M M') : Kx M M' := fun c hc => h c (by omega)
theorem fz_12 {M : Mem} (h : M 59 0 = 0) : fz M = 12 := by unfold fz; rw [if_pos h]
theorem XT_kx {T : Tld} {M M' : Mem} (h : XT T M) (h59 : M 59 0 = 0) (k : ∀ c, (10 ≤ c ∧ c ≤ 19) ∨ c = 59 → M' c = M c) : XT T M' := by
  have ez : fz M = 12 := fz_12 h59
  have ez' : fz M' = 12 := fz_12 (by rw [k 59 (by omega)]; exact h59)
  unfold XT at h ⊢
  rw [ez] at h
  rw [ez', k 12 (by omega), k 11 (by omega), k 10 (by omega), k 13 (by omega), k 14 (by omega), k 15 (by omega), k 16 (by omega), k 17 (by omega), k 18 (by omega), k 19 (by omega)]
  exact h
theorem IXt.k {A : Ast} {M M' : Mem} (h : IXt A M) (k : ∀ c, 2 ≤ c ∧ c < 10 → M' c = M c) : IXt A M' := fun t ht => by
  rw [k (2 + 2 * t) (by omega), k (3 + 2 * t) (by omega)]; exact h t ht
theorem IXs.k {A : Ast} {M M' : Mem} (h : IXs A M) (k : ∀ c, 20 ≤ c ∧ c < 23 → M' c = M c) : IXs A M' := by
  unfold IXs at h ⊢
  rw [k 20 (by omega), k 21 (by omega), k 22 (by omega)]; exact h
theorem IXh.k {A : Ast} {M M' : Mem} (h : IXh A M) (k : ∀ c, 24 ≤ c ∧ c < 32 → M' c = M c) : IXh A M' := fun s hs => by
  rw [k (24 + 2 * s) (by omega), k (25 + 2 * s) (by omega)]; exact h s hs
theorem IX.k {A : Ast} {M M' : Mem} (h : IX A M) (k : Kx M M') : IX A M' := by
  obtain ⟨h1, h2, h3, h4, h5, h6, h7, h8⟩ := h
  refine ⟨h1.k (fun c hc => k c (by omega)), XT_kx h2 h3 (fun c hc => k c (by omega)), by rw [k 59 (by omega)]; exact h3, h4.k (fun c hc => k c (by omega)), h5.k (fun c hc => k c (by omega)), by rw [k 0 (by omega)]; exact h6, ?_, ?_⟩
  · rw [k 0 (by omega)]
    exact fun q => (h7 q).k (fun c c1 c2 => k c (by omega))
  · rw [k 0 (by omega), k 56 (by omega)]
    exact h8
theorem x_asTold {A : Ast} {M : Mem} {post : Mem → Prop} (ok : okA A) (hX : IX A M) (K : ∀ M', IX A M' → WX 32 (tld A) allOn 24 M' → post M') : wp_X_asTold M post := by
  have okt := okT_tld ok
  obtain ⟨h1, h2, h3, h4, h5, h6, h7, h8⟩ := hX
  unfold wp_X_asTold wp_X_allEvents
  refine ⟨fun c => K M ⟨h1, h2, h3, h4, h5, h6, h7, h8⟩ (h7 c), fun c => ?_⟩
  refine x_run (Or.inl rfl) okt h2 (fun M3 hF hW => ?_)
  intro M5 h5'
  have hW2 : WX 32 (tld A) allOn 24 M3 := hW.c (fun e he => by rw [h2.2.2.2.2.2.1]; exact all_on _ (by have := okt.2.2.1; omega) e he)
  have hW3 : WX 32 (tld A) allOn 24 M5 := hW2.k (fun c c1 c2 => by rw [h5', upm_n (by omega)])
  have f : ∀ c, c ≠ 0 → (c < 32 ∨ 44 ≤ c) → M5 c = M c := fun c c0 hc => by rw [h5', upm_n c0]; exact hF c (by omega)
  refine K M5 ⟨h1.k (fun c hc => f c (by omega) (by omega)), XT_kx h2 h3 (fun c hc => f c (by omega) (by omega)), by rw [f 59 (by omega) (by omega)]; exact h3, h4.k (fun c hc => f c (by omega) (by omega)), h5.k (fun c hc => f c (by omega) (by omega)), ?_, fun _ => hW3, ?_⟩ hW3
  · rw [h5', upm_s, upd_n (by decide), hF 0 (by omega)]; exact h6
  · rw [h5', upm_s, upd_n (by decide), upm_n (by omega), hF 0 (by omega), hF 56 (by omega)]; exact h8
theorem xqn {a : Int32} {n : Nat} (hn : n < 2 ^ 31) : (pf_X_outside a (nI n) = 0) = inb a n := by
  rw [xo n hn]
  by_cases c : inb a n
  · rw [if_pos c]; exact propext ⟨fun _ => c, fun _ => rfl⟩
  · rw [if_neg c]; exact propext ⟨fun q => absurd q (by decide), fun q => absurd q c⟩
theorem xq24 (a : Int32) : (pf_X_outside a 24 = 0) = inb a 24 := xqn (n := 24) (by omega)
theorem xq12 (a : Int32) : (pf_X_outside a 12 = 0) = inb a 12 := xqn (n := 12) (by omega)
theorem xq2 (a : Int32) : (pf_X_outside a 2 = 0) = inb a 2 := xqn (n := 2) (by omega)
theorem xq3 (a : Int32) : (pf_X_outside a 3 = 0) = inb a 3 := xqn (n := 3) (by omega)
theorem xq4 (a : Int32) : (pf_X_outside a 4 = 0) = inb a 4 := xqn (n := 4) (by omega)
theorem xq_deep {A : Ast} {M : Mem} {a1 a2 : Int32} {post : Int32 → Mem → Prop} (ok : okA A) (hX : IX A M) (K : ∀ M', IX A M' → post (q_deep A a1 a2) M') : wp_X_deep a1 a2 M post := by
  unfold wp_X_deep
  unfold q_deep at K
  rw [xq24, xq12]
  refine ⟨fun c1 => ⟨fun c2 => ?_, fun c2 => by rw [if_pos c1, if_neg c2] at K; exact K M hX⟩, fun c1 => by rw [if_neg c1] at K; exact K M hX⟩
  rw [if_pos c1, if_pos c2] at K
  obtain ⟨h, hh, rfl⟩ := inb_of c1
  obtain ⟨i, hi, rfl⟩ := inb_of c2
  rw [tnI (by omega), tnI (by omega)] at K
  refine x_asTold ok hX (fun M5 hX5 hW => ?_)
  rw [x12, tnI (by omega)]
  refine ⟨vI (by omega), ?_⟩
  rw [hW.d hh hi]
  exact K M5 hX5
theorem xq_at {A : Ast} {M : Mem} {a1 a2 a3 : Int32} {post : Int32 → Mem → Prop} (ok : okA A) (hX : IX A M) (K : ∀ M', IX A M' → post (q_at A a1 a2 a3) M') : wp_X_at a1 a2 a3 M post := by
  have h8 := (okT_tld ok).2.2.1
  unfold wp_X_at
  unfold q_at at K
  rw [xq24, hX.2.1.2.2.1, xqn (by omega), xq3]
  refine ⟨fun c1 => ⟨fun c2 => ⟨fun c3 => ?_, fun c3 => by rw [if_pos c1, if_pos c2, if_neg c3] at K; exact K M hX⟩, fun c2 => by rw [if_pos c1, if_neg c2] at K; exact K M hX⟩, fun c1 => by rw [if_neg c1] at K; exact K M hX⟩
  rw [if_pos c1, if_pos c2, if_pos c3] at K
  obtain ⟨h, hh, rfl⟩ := inb_of c1
  obtain ⟨k, hk, rfl⟩ := inb_of c2
  rw [tnI (by omega), tnI (by omega)] at K
  refine x_asTold ok hX (fun M7 hX7 hW => ?_)
  intro x9 h9
  rw [show nI h * 4 = nI (h * 4) from im h 4, nI_add, Nat.mul_comm] at h9
  subst h9
  rw [tnI (by omega)]
  obtain ⟨w2, w3, w4⟩ := (hW.2.2 h hh).2 k hk
  refine ⟨fun q => ⟨vI (by omega), ?_⟩, fun q => ⟨⟨fun _ => vI (by omega), fun _ => vI (by omega)⟩, fun u hu => ?_⟩⟩
  · rw [w2]; rw [if_pos q] at K; exact K M7 hX7
  · rw [w3, w4] at hu
    rw [if_neg q] at K
    rw [hu]
    by_cases c : a3 = 1
    · rw [if_pos c] at K ⊢; exact K M7 hX7
    · rw [if_neg c] at K ⊢; exact K M7 hX7
theorem xq_rides {A : Ast} {M : Mem} {a1 a2 : Int32} {post : Int32 → Mem → Prop} (ok : okA A) (hX : IX A M) (K : ∀ M', IX A M' → post (q_rides A a1 a2) M') : wp_X_rides a1 a2 M post := by
  have okt := okT_tld ok
  have h8 := okt.2.2.1
  unfold wp_X_rides
  unfold q_rides at K
  rw [xq24, hX.2.1.2.2.2.1, xqn (by omega)]
  refine ⟨fun c1 => ⟨fun c2 => ?_, fun c2 => by rw [if_pos c1, if_neg c2] at K; exact K M hX⟩, fun c1 => by rw [if_neg c1] at K; exact K M hX⟩
  rw [if_pos c1, if_pos c2] at K
  obtain ⟨h, hh, rfl⟩ := inb_of c1
  obtain ⟨k, hk, rfl⟩ := inb_of c2
  rw [tnI (by omega), tnI (by omega)] at K
  refine x_asTold ok hX (fun M5 hX5 hW => ?_)
  rw [tnI (by omega), hX5.2.1.2.2.2.2.2.2.2.1 k hk]
  have b6 := okt.2.2.2.2.2.2.1 k
  refine ⟨vI (by omega), x_ride (u := h) okt hW (by omega) hh (fun M8 hF hb => ?_)⟩
  rw [hb.1]
  exact K M8 (hX5.k (Kx.k1 hF))
theorem xq_snow {A : Ast} {M : Mem} {a1 a2 : Int32} {post : Int32 → Mem → Prop} (ok : okA A) (hX : IX A M) (K : ∀ M', IX A M' → post (q_snow A a1 a2) M') : wp_X_snow a1 a2 M post := by
  have okt := okT_tld ok
  unfold wp_X_snow
  unfold q_snow at K
  rw [xq24, xq2]
  refine ⟨fun c1 => ⟨fun c2 => ?_, fun c2 => by rw [if_pos c1, if_neg c2] at K; exact K M hX⟩, fun c1 => by rw [if_neg c1] at K; exact K M hX⟩
  rw [if_pos c1, if_pos c2] at K
  obtain ⟨h, hh, rfl⟩ := inb_of c1
  rw [tnI (by omega)] at K
  refine ⟨fun q => x_asTold ok hX (fun M9 hX9 hW => x_snow okt hW hh (by rw [if_pos q] at K; exact K M9 hX9)), fun q => x_asTold ok hX (fun M9 hX9 hW => x_deepM okt hW hh (by rw [if_neg q] at K; exact K M9 hX9))⟩
theorem xq_over {A : Ast} {M : Mem} {a1 a2 : Int32} {post : Int32 → Mem → Prop} (ok : okA A) (hX : IX A M) (K : ∀ M', IX A M' → post (q_over A a1 a2) M') : wp_X_over a1 a2 M post := by
  have okt := okT_tld ok
  have h8 := okt.2.2.1
  unfold wp_X_over
  unfold q_over at K
  rw [hX.2.1.2.2.2.1, xqn (by omega), xq2]
  refine ⟨fun c1 => ⟨fun c2 => ?_, fun c2 => by rw [if_pos c1, if_neg c2] at K; exact K M hX⟩, fun c1 => by rw [if_neg c1] at K; exact K M hX⟩
  rw [if_pos c1, if_pos c2] at K
  obtain ⟨k, hk, rfl⟩ := inb_of c1
  rw [tnI (by omega)] at K
  refine x_asTold ok hX (fun M5 hX5 hW => ?_)
  rw [tnI (by omega), hX5.2.1.2.2.2.2.2.2.2.1 k hk]
  have b6 := okt.2.2.2.2.2.2.1 k
  refine ⟨vI (by omega), x_ride (u := 23) okt hW (by omega) (by omega) (fun M8 hF hb => ?_)⟩
  intro u hu
  rw [hb.2.1, hb.2.2] at hu
  rw [hu]
  exact K M8 (hX5.k (Kx.k1 hF))
theorem xq_cleared {A : Ast} {M : Mem} {a1 a2 : Int32} {post : Int32 → Mem → Prop} (ok : okA A) (hX : IX A M) (K : ∀ M', IX A M' → post (q_cleared A a1 a2) M') : wp_X_cleared a1 a2 M post := by
  have okt := okT_tld ok
  have h8 := okt.2.2.1
  unfold wp_X_cleared
  unfold q_cleared at K
  rw [hX.2.1.2.2.1, xqn (by omega), xq2]
  refine ⟨fun c1 => ⟨fun c2 => ?_, fun c2 => by rw [if_pos c1, if_neg c2] at K; exact K M hX⟩, fun c1 => by rw [if_neg c1] at K; exact K M hX⟩
  rw [if_pos c1, if_pos c2] at K
  obtain ⟨k, hk, rfl⟩ := inb_of c1
  rw [tnI (by omega)] at K ⊢
  refine ⟨fun q => x_asTold ok hX (fun M9 hX9 hW => ⟨vI (by omega), ?_⟩), fun q => x_asTold ok hX (fun M9 hX9 hW => ⟨vI (by omega), ?_⟩)⟩
  · rw [hW.2.1 k hk]; rw [if_pos q] at K; exact K M9 hX9
  · rw [hW.1.2.2.2 k hk]; rw [if_neg q] at K; exact K M9 hX9
theorem xq_deepest {A : Ast} {M : Mem} {a1 : Int32} {post : Int32 → Mem → Prop} (ok : okA A) (hX : IX A M) (K : ∀ M', IX A M' → post (q_deepest A a1) M') : wp_X_deepest a1 M post := by
  have okt := okT_tld ok
  unfold wp_X_deepest
  unfold q_deepest at K
  rw [xq3]
  refine ⟨fun c1 => ?_, fun c1 => by rw [if_neg c1] at K; exact K M hX⟩
  rw [if_pos c1] at K
  unfold v_deepest at K
  refine x_asTold ok hX (fun M3 hX3 hW => x_deepP okt hW ?_)
  have al := amx_le (fld (tld A) allOn) 287
  refine ⟨fun q => ⟨vI (by omega), ?_⟩, fun q u hu => ?_⟩
  · rw [tnI (by omega), hW.f (by omega)]; rw [if_pos q] at K; exact K M3 hX3
  · rw [if_neg q] at K
    rw [hu]
    by_cases c : a1 = 1
    · rw [if_pos c] at K ⊢
      rw [show nI (amx (fld (tld A) allOn) 287) / 12 = nI (amx (fld (tld A) allOn) 287 / 12) from pk_div (d := 12) (by omega) (by omega) (by omega)]
      exact K M3 hX3
    · rw [if_neg c] at K ⊢
      rw [show nI (amx (fld (tld A) allOn) 287) - nI (amx (fld (tld A) allOn) 287) / 12 * 12 = nI (amx (fld (tld A) allOn) 287 % 12) from pk_rem (d := 12) (by omega) (by omega) (by omega)]
      exact K M3 hX3
theorem xq_shut {A : Ast} {M : Mem} {post : Int32 → Mem → Prop} (ok : okA A) (hX : IX A M) (K : ∀ M', IX A M' → post (nI (v_shut (tld A))) M') : wp_X_shut M post := by
  have okt := okT_tld ok
  unfold wp_X_shut
  refine it3_f2 24 (by omega) (fun j x M' => IX A M' ∧ x = nI (cnt (fun h => decide (0 < dpm (tld A) allOn h)) j)) (fun rc j x M5 hj hI hrec => ?_) 0 0 M (by omega) ⟨hX, rfl⟩
  obtain ⟨hX5, rfl⟩ := hI
  refine ⟨fun hx => ?_, fun hx => ?_⟩
  · have hj2 : j = 24 := by have := gI (a := 24) hx; omega
    subst hj2
    exact K M5 hX5
  · have hlt : j < 24 := ngI (a := 24) hx
    refine x_asTold ok hX5 (fun M7 hX7 hW => x_deepM okt hW hlt ?_)
    intro u hu
    refine hrec u M7 hlt ⟨hX7, ?_⟩
    have dl : dpm (tld A) allOn j ≤ 12 := cnt_le _ _
    have e : (nI (dpm (tld A) allOn j) ≤ 0) ↔ dpm (tld A) allOn j ≤ 0 := nI_leI (b := 0) (by omega) (by omega)
    rw [hu, cnt]
    by_cases c : dpm (tld A) allOn j ≤ 0
    · rw [if_pos (e.mpr c), if_neg (by simp; omega)]; rfl
    · rw [if_neg (fun q => c (e.mp q)), if_pos (by simp; omega), ia1]
theorem xq_best {A : Ast} {M : Mem} {post : Int32 → Mem → Prop} (ok : okA A) (hX : IX A M) (K : ∀ M', IX A M' → post (v_best (tld A)) M') : wp_X_best M post := by
  have okt := okT_tld ok
  have h8 := okt.2.2.1
  unfold wp_X_best
  refine x_asTold ok hX (fun M1 hX1 hW => ?_)
  have bl : ∀ k, sim (tld A) allOn 24 4 k ≤ 50 * 24 * 24 * (24 + 1) := fun k => sim4_le okt 24 k
  refine it3_f3 (tld A 2 0) (by omega) (fun j x y => x = nI (bst (sim (tld A) allOn 24 4) j).1 - 1 ∧ y = nI (bst (sim (tld A) allOn 24 4) j).2) (fun rc j x y hj hI hrec => ?_) 0 (-1) 0 (by omega) ⟨rfl, rfl⟩
  obtain ⟨rfl, rfl⟩ := hI
  rw [hX1.2.1.2.2.1]
  refine ⟨fun hx => ?_, fun hx => ?_⟩
  · have hj2 : j = tld A 2 0 := by have := gI hx; omega
    subst hj2
    exact K M1 hX1
  · have hlt : j < tld A 2 0 := ngI hx
    have b2 := (bst_le _ _ bl j).2
    have b3 := bl j
    rw [tnI (by omega : j < 2 ^ 31), hW.2.1 j hlt]
    have e : (nI (sim (tld A) allOn 24 4 j) ≤ nI (bst (sim (tld A) allOn 24 4) j).2) ↔ sim (tld A) allOn 24 4 j ≤ (bst (sim (tld A) allOn 24 4) j).2 := nI_leI (by omega) (by omega)
    refine ⟨vI (by omega), fun u hu v hv => hrec u v hlt ⟨?_, ?_⟩⟩
    · rw [hu, bst]
      by_cases c : sim (tld A) allOn 24 4 j ≤ (bst (sim (tld A) allOn 24 4) j).2
      · rw [if_pos (e.mpr c), if_pos c]
      · rw [if_neg (fun q => c (e.mp q)), if_neg c]; exact (m1n (n := j + 1) (by omega)).symm
    · rw [hv, bst]
      by_cases c : sim (tld A) allOn 24 4 j ≤ (bst (sim (tld A) allOn 24 4) j).2
      · rw [if_pos (e.mpr c), if_pos c]
      · rw [if_neg (fun q => c (e.mp q)), if_neg c]
theorem xq_land {A : Ast} {M : Mem} {a1 : Int32} {post : Int32 → Prop} (hX : IX A M) (K : post (q_land A a1)) : wp_X_land a1 M post := by
  unfold wp_X_land
  unfold q_land at K
  simp only [xq12]
  by_cases c1 : inb a1 12
  · obtain ⟨i, hi, rfl⟩ := inb_of c1
    rw [if_pos c1, tnI (by omega)] at K
    refine ⟨⟨fun _ => vI hi, fun q => absurd c1 q⟩, fun u hu => ?_⟩
    rw [if_pos c1, tnI (by omega), hX.2.1.1 i hi] at hu
    rw [hu]; exact K
  · rw [if_neg c1] at K
    refine ⟨⟨fun q => absurd q c1, fun _ => trivial⟩, fun u hu => ?_⟩
    rw [if_neg c1] at hu
    rw [hu]; exact K
theorem xq_fall {A : Ast} {M : Mem} {a1 : Int32} {post : Int32 → Prop} (hX : IX A M) (K : post (q_fall A a1)) : wp_X_fall a1 M post := by
  unfold wp_X_fall
  unfold q_fall at K
  simp only [xq24]
  by_cases c1 : inb a1 24
  · obtain ⟨i, hi, rfl⟩ := inb_of c1
    rw [if_pos c1, tnI (by omega)] at K
    refine ⟨⟨fun _ => vI hi, fun q => absurd c1 q⟩, fun u hu => ?_⟩
    rw [if_pos c1, tnI (by omega), hX.2.1.2.1 i hi] at hu
    rw [hu]; exact K
  · rw [if_neg c1] at K
    refine ⟨⟨fun q => absurd q c1, fun _ => trivial⟩, fun u hu => ?_⟩
    rw [if_neg c1] at hu
    rw [hu]; exact K
theorem xq_bus {A : Ast} {M : Mem} {a1 : Int32} {post : Int32 → Prop} (ok : okA A) (hX : IX A M) (K : post (q_bus A a1)) : wp_X_bus a1 M post := by
  have h8 := (okT_tld ok).2.2.1
  unfold wp_X_bus
  unfold q_bus at K
  rw [hX.2.1.2.2.2.1]
  simp only [xqn (show tld A 2 1 < 2 ^ 31 by omega)]
  by_cases c1 : inb a1 (tld A 2 1)
  · obtain ⟨i, hi, rfl⟩ := inb_of c1
    rw [if_pos c1, tnI (by omega)] at K
    refine ⟨⟨fun _ => vI (by omega), fun q => absurd c1 q⟩, fun u hu => ?_⟩
    rw [if_pos c1, tnI (by omega), hX.2.1.2.2.2.2.2.2.2.1 i hi] at hu
    rw [hu]; exact K
  · rw [if_neg c1] at K
    refine ⟨⟨fun q => absurd q c1, fun _ => trivial⟩, fun u hu => ?_⟩
    rw [if_neg c1] at hu
    rw [hu]; exact K
theorem xq_plough {A : Ast} {M : Mem} {a1 a2 : Int32} {post : Int32 → Prop} (ok : okA A) (hX : IX A M) (K : post (q_plough A a1 a2)) : wp_X_plough a1 a2 M post := by
  have h8 := (okT_tld ok).2.2.1
  unfold wp_X_plough
  unfold q_plough at K
  rw [hX.2.1.2.2.1, xqn (by omega), xq3]
  refine ⟨fun c1 => ⟨fun c2 => ?_, fun c2 => by rw [if_pos c1, if_neg c2] at K; exact K⟩, fun c1 => by rw [if_neg c1] at K; exact K⟩
  rw [if_pos c1, if_pos c2] at K
  obtain ⟨k, hk, rfl⟩ := inb_of c1
  obtain ⟨i, hi, rfl⟩ := inb_of c2
  rw [tnI (by omega), tnI (by omega)] at K
  rw [tnI (by omega : k < 2 ^ 31)]
  obtain ⟨p3, p4, p5⟩ := hX.2.1.2.2.2.2.2.2.1 k hk
  rw [p3, p4, p5]
  rcases i with _ | _ | _ | i
  · exact ⟨fun _ => ⟨vI (by omega), K⟩, fun q => absurd rfl q⟩
  · refine ⟨fun q => absurd q (by decide), fun _ => ⟨⟨fun _ => vI (by omega), fun _ => vI (by omega)⟩, fun u hu => ?_⟩⟩
    rw [if_pos (by decide)] at hu
    rw [hu]; exact K
  · refine ⟨fun q => absurd q (by decide), fun _ => ⟨⟨fun _ => vI (by omega), fun _ => vI (by omega)⟩, fun u hu => ?_⟩⟩
    rw [if_neg (by decide)] at hu
    rw [hu]; exact K
  · omega
theorem xq_count {A : Ast} {M : Mem} {a1 : Int32} {post : Int32 → Mem → Prop} (ok : okA A) (hX : IX A M) (K : ∀ M', IX A M' → post (q_count A a1) M') : wp_X_count a1 M post := by
  have okt := okT_tld ok
  unfold wp_X_count
  refine ⟨fun q => ?_, fun q => ?_, fun q => ?_, fun q => ?_, fun q => ?_, fun q => ?_, fun q => ?_, fun q => ?_, fun q => ?_, fun q0 q1 q2 q3 q4 q5 q6 q7 q8 => ?_⟩
  · rw [hX.2.1.2.2.1]; subst q; exact K M hX
  · rw [hX.2.1.2.2.2.1]; subst q; exact K M hX
  · subst q
    unfold wp_X_allBytes
    refine it2_f2 4 (by omega) (fun j x => x = nI (sumN (aln A) j)) (fun rc j x hj hI hrec => ?_) 0 0 (by omega) rfl
    subst hI
    refine ⟨fun hx => ?_, fun hx => ?_⟩
    · have hj2 : j = 4 := by have := gI (a := 4) hx; omega
      subst hj2
      have e : sumN (aln A) 4 = aln A 0 + aln A 1 + aln A 2 + aln A 3 := by simp [sumN]
      rw [e]; exact K M hX
    · have hlt : j < 4 := ngI (a := 4) hx
      rw [tnI (by omega : j < 2 ^ 31), (hX.1 j hlt).2.1]
      refine ⟨vI hlt, fun x8 h8 => hrec x8 hlt ?_⟩
      rw [h8, nI_add]; rfl
  · rw [hX.2.1.2.2.2.2.1]; subst q; exact K M hX
  · rw [hX.2.1.2.2.2.2.2.1]; subst q; exact K M hX
  · subst q
    exact x_asTold ok hX (fun M2 hX2 hW => x_snow (h := 23) okt hW (by omega) (K M2 hX2))
  · subst q
    exact x_asTold ok hX (fun M2 hX2 hW => x_over (Or.inl rfl) okt hX2.2.1 hW (fun M7 hF => K M7 (hX2.k (Kx.k1 hF))))
  · rw [hX.2.2.2.1.1]; subst q; exact K M hX
  · rw [hX.2.2.2.2.2.1]; subst q; exact K M hX
  · have : q_count A a1 = -2 := by unfold q_count; simp [q0, q1, q2, q3, q4, q5, q6, q7, q8]
    rw [← this]; exact K M hX
