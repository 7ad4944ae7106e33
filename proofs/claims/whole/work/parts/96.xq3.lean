/-! the class: spare, never, strengths, lie -/
theorem many_c {T : Tld} {on on' : Nat → Bool} (hc : ∀ e, e < T 2 3 → on e = on' e) : many T on = many T on' := by
  unfold many ovr bsT
  rw [dep_c hc]
theorem fit_c {A : Ast} {T : Tld} {on on' : Nat → Bool} (hc : ∀ e, e < T 2 3 → on e = on' e) : fit A T on = fit A T on' := by
  unfold fit
  rw [dep_c hc]
theorem x_but {A : Ast} {M : Mem} {x : Int32} {post : Int32 → Mem → Prop} (ok : okA A) (hX : IX A M) (K : ∀ M', IX A M' → post (if alo (tld A) x = true then 1 else 0) M') : wp_X_allOverBut x M post := by
  have okt := okT_tld ok
  have h8 := okt.2.2.1
  unfold wp_X_allOverBut wp_X_allEvents
  rw [hX.2.1.2.2.2.2.2.1]
  refine x_run (Or.inr rfl) okt hX.2.1 (fun M2 hF hW => ?_)
  have hX2 := hX.k (Kx.w hF)
  refine x_over (Or.inr rfl) okt hX2.2.1 hW (fun M4 hF4 => ?_)
  have hX4 := hX2.k (Kx.w1 hF4)
  intro u hu
  rw [hX4.2.1.2.2.2.1, many_c (off_on (by omega) x)] at hu
  have ml := many_le (T := tld A) (on := offm x) okt
  have e : (nI (many (tld A) (offm x)) = nI (tld A 2 1)) ↔ many (tld A) (offm x) = tld A 2 1 := nI_eq (by omega) (by omega)
  have hu2 : u = (if alo (tld A) x = true then 1 else 0) := by
    rw [hu]
    unfold alo
    by_cases c : many (tld A) (offm x) = tld A 2 1
    · rw [if_pos (e.mpr c), if_pos (by simp; exact c)]
    · rw [if_neg (fun q => c (e.mp q)), if_neg (by simp; exact c)]
  rw [hu2]
  refine ⟨?_, K M4 hX4⟩
  split
  · exact Or.inr rfl
  · exact Or.inl rfl
theorem ff_le (p : Nat → Bool) (n : Nat) : ff p n ≤ n := by
  by_cases c : ∀ i, i < n → p i = true
  · rw [ff_all n c]; exact Nat.le_refl _
  · have : ∃ j, j < n ∧ p j = false ∧ ∀ i, i < j → p i = true := by
      have key : ∀ m, m ≤ n → (∀ i, i < m → p i = true) ∨ ∃ j, j < n ∧ p j = false ∧ ∀ i, i < j → p i = true := by
        intro m
        induction m with
        | zero => intro _; exact Or.inl (fun i hi => absurd hi (Nat.not_lt_zero _))
        | succ m ih =>
          intro hm
          rcases ih (by omega) with h | h
          · cases hp : p m with
            | true =>
              refine Or.inl (fun i hi => ?_)
              by_cases q : i = m
              · rw [q]; exact hp
              · exact h i (by omega)
            | false => exact Or.inr ⟨m, by omega, hp, h⟩
          · exact Or.inr h
      rcases key n (Nat.le_refl _) with h | h
      · exact absurd h c
      · exact h
    obtain ⟨j, hj, hp, hl⟩ := this
    rw [ff_at hl hp n hj]; omega
theorem ff_bad (p : Nat → Bool) (n : Nat) (h : ff p n < n) : p (ff p n) = false := by
  have key : ∀ m, m ≤ n → (∀ i, i < m → p i = true) ∨ ∃ j, j < n ∧ p j = false ∧ ∀ i, i < j → p i = true := by
    intro m
    induction m with
    | zero => intro _; exact Or.inl (fun i hi => absurd hi (Nat.not_lt_zero _))
    | succ m ih =>
      intro hm
      rcases ih (by omega) with h | h
      · cases hp : p m with
        | true =>
          refine Or.inl (fun i hi => ?_)
          by_cases q : i = m
          · rw [q]; exact hp
          · exact h i (by omega)
        | false => exact Or.inr ⟨m, by omega, hp, h⟩
      · exact Or.inr h
  rcases key n (Nat.le_refl _) with q | ⟨j, hj, hp, hl⟩
  · rw [ff_all n q] at h; omega
  · rw [ff_at hl hp n hj]; exact hp
def se (T : Tld) : Int32 := if alo T 0 = true then 0 else if sp1 T < T 2 3 then bt1 (sp1 T) else if spa T < T 2 3 then bt1 (spa T) ||| bt1 (spb T (spa T)) else -1
theorem x_spared {A : Ast} {M : Mem} {post : Int32 → Mem → Prop} (ok : okA A) (hX : IX A M) (K : ∀ M', IX A M' → post (se (tld A)) M') : wp_X_sparedEvents M post := by
  have okt := okT_tld ok
  have h8 := okt.2.2.1
  unfold wp_X_sparedEvents
  unfold se at K
  refine x_but ok hX (fun M1 hX1 => ?_)
  rw [c10]
  refine ⟨fun c0 => ?_, fun c0 => by rw [if_pos (Decidable.not_not.mp c0)] at K; exact K M1 hX1⟩
  rw [if_neg c0] at K
  refine it2_f1 (tld A 2 3) (by omega) (fun j M' => IX A M' ∧ ∀ a, a < j → (!alo (tld A) (bt1 a)) = true) (fun rc j M7 hj hI hrec => ?_) 0 M1 (by omega) ⟨hX1, fun a ha => absurd ha (Nat.not_lt_zero _)⟩
  obtain ⟨hX7, hn⟩ := hI
  rw [hX7.2.1.2.2.2.2.2.1]
  refine ⟨fun hx => ?_, fun hx => ?_⟩
  · have hj2 : j = tld A 2 3 := by have := gI hx; omega
    subst hj2
    have e1 : sp1 (tld A) = tld A 2 3 := ff_all _ hn
    rw [if_neg (by omega)] at K
    refine it2_f1 (tld A 2 3) (by omega) (fun i M' => IX A M' ∧ ∀ a, a < i → decide (spb (tld A) a = tld A 2 3) = true) (fun rc2 i M12 hi hI2 hrec2 => ?_) 0 M7 (by omega) ⟨hX7, fun a ha => absurd ha (Nat.not_lt_zero _)⟩
    obtain ⟨hX12, hn2⟩ := hI2
    rw [hX12.2.1.2.2.2.2.2.1]
    refine ⟨fun hx2 => ?_, fun hx2 => ?_⟩
    · have hi2 : i = tld A 2 3 := by have := gI hx2; omega
      subst hi2
      have e2 : spa (tld A) = tld A 2 3 := ff_all _ hn2
      rw [if_neg (by omega)] at K
      exact K M12 hX12
    · have hlt2 : i < tld A 2 3 := ngI hx2
      rw [ia1]
      refine it2_f1 (tld A 2 3) (by omega) (fun b M' => IX A M' ∧ i < b ∧ ∀ a, a < b → (decide (a ≤ i) || !alo (tld A) (bt1 i ||| bt1 a)) = true) (fun rc3 b M17 hb hI3 hrec3 => ?_) (i + 1) M12 (by omega) ⟨hX12, by omega, fun a ha => by rw [decide_eq_true (by omega : a ≤ i)]; rfl⟩
      obtain ⟨hX17, hib, hn3⟩ := hI3
      rw [hX17.2.1.2.2.2.2.2.1]
      refine ⟨fun hx3 => ?_, fun hx3 => ?_⟩
      · have hb2 : b = tld A 2 3 := by have := gI hx3; omega
        subst hb2
        have e3 : spb (tld A) i = tld A 2 3 := ff_all _ hn3
        rw [← ia1]
        refine hrec2 M17 hlt2 ⟨hX17, fun a ha => ?_⟩
        by_cases q : a = i
        · rw [q]; exact decide_eq_true e3
        · exact hn2 a (by omega)
      · have hlt3 : b < tld A 2 3 := ngI hx3
        refine x_but (x := bt1 i ||| bt1 b) ok hX17 (fun M19 hX19 => ?_)
        rw [c10]
        refine ⟨fun c => ?_, fun c => ?_⟩
        · refine hrec3 M19 hlt3 ⟨hX19, by omega, fun a ha => ?_⟩
          by_cases q : a = b
          · subst q
            cases h : alo (tld A) (bt1 i ||| bt1 a) with
            | true => exact absurd h c
            | false => simp
          · exact hn3 a (by omega)
        · have c := Decidable.not_not.mp c
          have e3 : spb (tld A) i = b := ff_at hn3 (by rw [c, decide_eq_false (by omega)]; rfl) _ hlt3
          have e2 : spa (tld A) = i := ff_at hn2 (decide_eq_false (by omega)) _ hlt2
          rw [e2, if_pos hlt2, e3] at K
          exact K M19 hX19
  · have hlt : j < tld A 2 3 := ngI hx
    refine x_but (x := bt1 j) ok hX7 (fun M22 hX22 => ?_)
    rw [c10]
    refine ⟨fun c => ?_, fun c => ?_⟩
    · refine hrec M22 hlt ⟨hX22, fun a ha => ?_⟩
      by_cases q : a = j
      · subst q
        cases h : alo (tld A) (bt1 a) with
        | true => exact absurd h c
        | false => rfl
      · exact hn a (by omega)
    · have c := Decidable.not_not.mp c
      have e1 : sp1 (tld A) = j := ff_at hn (by rw [c]; rfl) _ hlt
      rw [e1, if_pos hlt] at K
      exact K M22 hX22
theorem b_one : ∀ a, a < 8 → pf_J_bitCount (bt1 a) = 1 ∧ bt1 a ≠ -1 ∧ bt1 a ≠ 0 ∧ pf_J_numberOfTrailingZeros (bt1 a) = nI a ∧ bt1 a &&& (bt1 a - 1) = 0 := by decide +kernel
theorem b_two : ∀ a, a < 8 → ∀ b, b < 8 → a < b → pf_J_bitCount (bt1 a ||| bt1 b) = 2 ∧ bt1 a ||| bt1 b ≠ -1 ∧ bt1 a ||| bt1 b ≠ 0 ∧ pf_J_numberOfTrailingZeros (bt1 a ||| bt1 b) = nI a ∧ (bt1 a ||| bt1 b) &&& ((bt1 a ||| bt1 b) - 1) = bt1 b := by decide +kernel
theorem xq_spare {A : Ast} {M : Mem} {a1 : Int32} {post : Int32 → Mem → Prop} (ok : okA A) (hX : IX A M) (K : ∀ M', IX A M' → post (q_spare A a1) M') : wp_X_spare a1 M post := by
  have h8 := (okT_tld ok).2.2.1
  unfold wp_X_spare
  unfold q_spare at K
  have e1 : (a1 < -1) ↔ a1.toInt < -1 := Int32.lt_iff_toInt_lt
  have e2 : (a1 < 2) ↔ a1.toInt < 2 := Int32.lt_iff_toInt_lt
  rw [e1, e2]
  refine ⟨fun c1 => by rw [if_neg (by omega)] at K; exact K M hX, fun c1 => ⟨fun c2 => ?_, fun c2 => by rw [if_neg (by omega)] at K; exact K M hX⟩⟩
  rw [if_pos (by omega)] at K
  refine x_spared ok hX (fun M3 hX3 => ?_)
  have K := K M3 hX3
  unfold v_spare at K
  unfold se
  by_cases d0 : alo (tld A) 0 = true
  · rw [if_pos d0] at K ⊢
    refine ⟨fun q => absurd q (by decide), fun _ => ⟨fun q => ?_, fun q u8 h8' u11 h11 => ?_⟩⟩
    · rw [if_pos q] at K; exact K
    · rw [if_neg q] at K
      have : u8 = 0 := by rw [h8']; split <;> rfl
      rw [if_pos this] at h11
      rw [h11]; exact K
  · rw [if_neg d0] at K ⊢
    by_cases d1 : sp1 (tld A) < tld A 2 3
    · rw [if_pos d1] at K ⊢
      obtain ⟨p1, p2, p3, p4, p5⟩ := b_one (sp1 (tld A)) (by omega)
      refine ⟨fun q => absurd q p2, fun _ => ⟨fun q => ?_, fun q u8 h8' u11 h11 => ?_⟩⟩
      · rw [if_pos q] at K; rw [p1]; exact K
      · rw [if_neg q] at K
        by_cases z : a1 = 0
        · rw [if_pos z] at K h8'
          rw [h8', if_neg p3, p4] at h11
          rw [h11]; exact K
        · rw [if_neg z] at K h8'
          rw [h8', p5, if_pos rfl] at h11
          rw [h11]; exact K
    · rw [if_neg d1] at K ⊢
      by_cases d2 : spa (tld A) < tld A 2 3
      · rw [if_pos d2] at K ⊢
        have s1 := ff_bad _ _ d2
        have s1 : ¬ spb (tld A) (spa (tld A)) = tld A 2 3 := of_decide_eq_false s1
        have s2 : spb (tld A) (spa (tld A)) ≤ tld A 2 3 := ff_le _ _
        have s3 : spb (tld A) (spa (tld A)) < tld A 2 3 := by omega
        have s4 := ff_bad _ _ s3
        have s5 : spa (tld A) < spb (tld A) (spa (tld A)) := by
          have : (decide (spb (tld A) (spa (tld A)) ≤ spa (tld A)) || !alo (tld A) (bt1 (spa (tld A)) ||| bt1 (spb (tld A) (spa (tld A))))) = false := s4
          rw [Bool.or_eq_false_iff] at this
          have := of_decide_eq_false this.1
          omega
        obtain ⟨p1, p2, p3, p4, p5⟩ := b_two (spa (tld A)) (by omega) (spb (tld A) (spa (tld A))) (by omega) s5
        obtain ⟨-, -, r3, r4, -⟩ := b_one (spb (tld A) (spa (tld A))) (by omega)
        refine ⟨fun q => absurd q p2, fun _ => ⟨fun q => ?_, fun q u8 h8' u11 h11 => ?_⟩⟩
        · rw [if_pos q] at K; rw [p1]; exact K
        · rw [if_neg q] at K
          by_cases z : a1 = 0
          · rw [if_pos z] at K h8'
            rw [h8', if_neg p3, p4] at h11
            rw [h11]; exact K
          · rw [if_neg z] at K h8'
            rw [h8', p5, if_neg r3, r4] at h11
            rw [h11]; exact K
      · rw [if_neg d2] at K ⊢
        exact ⟨fun _ => K, fun q => absurd rfl q⟩
theorem fitD_no {A : Ast} {D : Nat → Nat → Nat} {j : Nat} (h : fitD A D j = false) : ∀ n, j ≤ n → fitD A D n = false := by
  intro n hn
  induction n with
  | zero => rw [show j = 0 by omega] at h; exact h
  | succ n ih =>
    by_cases c : j = n + 1
    · rw [← c]; exact h
    · rw [fitD, ih (by omega)]; rfl
theorem x_fit {A : Ast} {T : Tld} {on : Nat → Bool} {M : Mem} {w : Nat} {post : Int32 → Prop} (okA : okA A) (ok : okT T) (hs : IXs A M) (hW : WX w T on 24 M) (K : post (if fit A T on = true then 1 else 0)) : wp_XG_fit w M post := by
  have h8 := okA.2.2.2.2.1
  unfold wp_XG_fit
  rw [hs.1]
  refine it1_f1 (asg A) (by omega) (fun j => fitD A (dep T on) j = true) (fun rc j hj hI hrec => ?_) 0 (by omega) rfl
  refine ⟨fun hx => ?_, fun hx => ?_⟩
  · have hj2 : j = asg A := by have := gI hx; omega
    subst hj2
    have : fit A T on = true := hI
    rw [if_pos this] at K; exact K
  · have hlt : j < asg A := ngI hx
    obtain ⟨s1, s2⟩ := hs.2 j hlt
    obtain ⟨b0, b1, b2⟩ := okA.2.2.2.2.2.1 j hlt
    have dl := dep_le (T := T) (on := on) ok (h := ase A 0 j) (by omega) (ase A 1 j)
    rw [tnI (by omega : j < 2 ^ 31), s1, s2, tnI (by omega : 12 * ase A 0 j + ase A 1 j < 2 ^ 31), hW.d (by omega) (by omega)]
    have e : (nI (dep T on (ase A 0 j) (ase A 1 j)) = nI (ase A 2 j)) ↔ dep T on (ase A 0 j) (ase A 1 j) = ase A 2 j := nI_eq (by omega) (by omega)
    rw [e]
    refine ⟨vI (by omega), vI (by omega), fun c => hrec () hlt (by rw [fitD, hI, decide_eq_true c]; rfl), fun c => ?_⟩
    have : fit A T on = false := fitD_no (j := j + 1) (by rw [fitD, decide_eq_false c, Bool.and_false]) _ (by omega)
    rw [if_neg (by rw [this]; decide)] at K
    exact K
theorem bts_s (p : Nat → Bool) (n : Nat) : bts p (n + 1) = (if p n = true then bts p n ||| bt1 n else bts p n) := by
  rw [bts]
  cases p n with
  | true => simp
  | false => simp
theorem xq_never {A : Ast} {M : Mem} {post : Int32 → Mem → Prop} (ok : okA A) (hX : IX A M) (K : ∀ M', IX A M' → post (v_never A (tld A)) M') : wp_X_never M post := by
  have okt := okT_tld ok
  have h8 := okt.2.2.1
  unfold wp_X_never
  refine it3_f2 (tld A 2 3) (by omega) (fun j x M' => IX A M' ∧ x = bts (fun e => fit A (tld A) (offm (bt1 e))) j) (fun rc j x M5 hj hI hrec => ?_) 0 0 M (by omega) ⟨hX, rfl⟩
  obtain ⟨hX5, rfl⟩ := hI
  unfold wp_X_allEvents
  rw [hX5.2.1.2.2.2.2.2.1]
  refine ⟨fun hx => ?_, fun hx => ?_⟩
  · have hj2 : j = tld A 2 3 := by have := gI hx; omega
    subst hj2
    exact K M5 hX5
  · have hlt : j < tld A 2 3 := ngI hx
    refine x_run (Or.inr rfl) okt hX5.2.1 (fun M8 hF hW => ?_)
    have hX8 := hX5.k (Kx.w hF)
    have hW2 : WX 44 (tld A) (offm (bt1 j)) 24 M8 := hW.c (off_on (by omega) (bt1 j))
    refine x_fit ok okt hX8.2.2.2.1 hW2 ?_
    intro u hu
    refine hrec u M8 hlt ⟨hX8, ?_⟩
    rw [hu, bts_s]
    cases fit A (tld A) (offm (bt1 j)) with
    | true => simp; rfl
    | false => simp
theorem xq_strengths {A : Ast} {M : Mem} {a1 : Int32} {post : Int32 → Mem → Prop} (ok : okA A) (hX : IX A M) (K : ∀ M', IX A M' → post (q_str A a1) M') : wp_X_strengths a1 M post := by
  have okt := okT_tld ok
  have h8 := okt.2.2.1
  unfold wp_X_strengths
  unfold q_str at K
  rw [hX.2.1.2.2.1, xqn (by omega)]
  refine ⟨fun c1 => ?_, fun c1 => by rw [if_neg c1] at K; exact K M hX⟩
  rw [if_pos c1] at K
  obtain ⟨k, hk, rfl⟩ := inb_of c1
  rw [tnI (by omega)] at K
  refine it3_f2 10 (by omega) (fun j x M' => IX A M' ∧ 1 ≤ j ∧ x = bts (pStr A (tld A) k) j) (fun rc j x M7 hj hI hrec => ?_) 1 0 M (by omega) ⟨hX, Nat.le_refl _, by simp [bts, pStr]⟩
  obtain ⟨hX7, h1, rfl⟩ := hI
  refine ⟨fun hx => ?_, fun hx => ?_⟩
  · have hj2 : j = 10 := by have := lI (a := 9) hx; omega
    subst hj2
    exact K M7 hX7
  · have hlt : j < 10 := by have := nlI (a := 9) hx; omega
    refine x_tryStrength ok hX7 hk (by omega) (fun M9 hX9 _ _ hW => x_fit ok (okT_up4 okt (by omega)) hX9.2.2.2.1 hW ?_)
    intro u hu
    refine hrec u M9 hlt ⟨hX9, by omega, ?_⟩
    rw [hu, bts_s]
    unfold pStr
    rw [decide_eq_true h1, Bool.true_and]
    cases fit A (upT (tld A) 4 k j) allOn with
    | true => simp; rfl
    | false => simp
theorem xq_lie {A : Ast} {M : Mem} {a1 : Int32} {post : Int32 → Mem → Prop} (ok : okA A) (hX : IX A M) (K : ∀ M', IX A M' → post (q_lie A a1) M') : wp_X_lie a1 M post := by
  have okt := okT_tld ok
  unfold wp_X_lie
  unfold q_lie at K
  rw [xq12]
  refine ⟨fun c1 => ?_, fun c1 => by rw [if_neg c1] at K; exact K M hX⟩
  rw [if_pos c1] at K
  obtain ⟨k, hk, rfl⟩ := inb_of c1
  rw [tnI (by omega)] at K
  refine it3_f2 3 (by omega) (fun j x M' => IX A M' ∧ x = bts (fun v => fit A (upT (tld A) 0 k v) allOn) j) (fun rc j x M7 hj hI hrec => ?_) 0 0 M (by omega) ⟨hX, rfl⟩
  obtain ⟨hX7, rfl⟩ := hI
  refine ⟨fun hx => ?_, fun hx => ?_⟩
  · have hj2 : j = 3 := by have := gI (a := 3) hx; omega
    subst hj2
    exact K M7 hX7
  · have hlt : j < 3 := ngI (a := 3) hx
    refine x_tryLand ok hX7 hk (by omega) (fun M9 hX9 _ hW => x_fit ok (okT_up0 okt (by omega)) hX9.2.2.2.1 hW ?_)
    intro u hu
    refine hrec u M9 hlt ⟨hX9, ?_⟩
    rw [hu, bts_s]
    cases fit A (upT (tld A) 0 k j) allOn with
    | true => simp; rfl
    | false => simp
