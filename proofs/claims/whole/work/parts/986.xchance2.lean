/-! the class: chance, its answer -/
theorem x_power {M : Mem} {c n : Nat} {post : Int64 → Prop} (hc : c ≤ 16) (hn : n ≤ 8) (K : post (lN (c ^ n))) : wp_X_power (nI c) (nI n) M post := by
  unfold wp_X_power
  refine it2_f2 n (by omega) (fun j x => x = lN (c ^ j)) (fun rc j x hj hI hrec => ?_) 0 1 (by omega) rfl
  subst hI
  refine ⟨fun hx => ?_, fun hx => ?_⟩
  · have hj2 : j = n := by have := gI hx; omega
    subst hj2
    exact K
  · have hlt : j < n := ngI hx
    intro x6 h6
    refine hrec x6 hlt ?_
    rw [h6, nI_l (by omega), lN_mul, Nat.pow_succ]
theorem odd_cop {v : Nat} (h : v % 2 = 1) (d : Nat) : Nat.gcd v (2 ^ d) = 1 := by
  have h1 : Nat.Coprime v 2 := by
    show Nat.gcd v 2 = 1
    rw [Nat.gcd_comm, Nat.gcd_rec, h]
    rfl
  exact Nat.Coprime.pow_right d h1
theorem cpt_x {A v s d : Nat} {w : Int32} (hA : v * 2 ^ s = A) (h : d = 0 ∨ v % 2 = 1) : cpt A (2 ^ (s + d)) w = lN (if w = 0 then v else 2 ^ d) := by
  have hg : Nat.gcd A (2 ^ (s + d)) = 2 ^ s := by
    rw [← hA, Nat.pow_add, Nat.mul_comm (2 ^ s) (2 ^ d), Nat.gcd_mul_right]
    rcases h with h | h
    · subst h; simp
    · rw [odd_cop h, Nat.one_mul]
  have hp : 0 < 2 ^ s := Nat.pow_pos (by decide)
  unfold cpt
  rw [hg]
  by_cases c : w = 0
  · rw [if_pos c, if_pos c, ← hA, Nat.mul_div_cancel _ hp]
  · rw [if_neg c, if_neg c, Nat.pow_add, Nat.mul_comm, Nat.mul_div_cancel _ hp]
theorem xq_chance {A : Ast} {M : Mem} {a1 a2 a3 : Int32} {post : Int64 → Mem → Prop} (ok : okA A) (hX : IX A M) (K : ∀ M', IX A M' → post (q_chance A a1 a2 a3) M') : wp_X_chance a1 a2 a3 M post := by
  have okt := okT_tld ok
  have h8 := okt.2.2.1
  have ht := two_le okt
  unfold wp_X_chance
  unfold q_chance at K
  have e16 : ((16 : Int32) < a1) ↔ 16 < a1.toInt := Int32.lt_iff_toInt_lt
  rw [lt0, e16, hX.2.1.2.2.2.1, xqn (by omega), xq2]
  refine ⟨fun c1 => by rw [if_neg (by unfold inb; omega)] at K; exact K M hX, fun c1 => ⟨fun c2 => by rw [if_neg (by unfold inb; omega)] at K; exact K M hX, fun c2 => ?_⟩⟩
  have c17 : inb a1 17 := by unfold inb; omega
  rw [if_pos c17] at K
  refine ⟨fun c3 => ⟨fun c4 => ?_, fun c4 => by rw [if_pos c3, if_neg c4] at K; exact K M hX⟩, fun c3 => by rw [if_neg c3] at K; exact K M hX⟩
  rw [if_pos c3, if_pos c4] at K
  obtain ⟨c, hc, rfl⟩ := inb_of c17
  obtain ⟨b, hb, rfl⟩ := inb_of c3
  rw [tnI (by omega), tnI (by omega)] at K
  refine x_choices ok hX (fun M7 hX7 h9 => ?_)
  have hch := hX7.2.2.2.2.2.2.2 h9
  have e9 := hX7.2.1.2.2.2.2.2.1
  generalize hE : tld A 2 3 = E at *
  have al := abv_le (T := tld A) (b := b) okt (show c ≤ 16 by omega)
  have ax := abv_x (T := tld A) (c := c) (b := b) okt
  rw [hE] at ax
  generalize hA0 : abv (tld A) c b = A0 at *
  rw [e9]
  refine it2_f2 (E + 1) (by omega) (fun j x => x = lN (sumN (fun r => c ^ r * (16 - c) ^ (E - r) * chs (tld A) b r (2 ^ E)) j)) (fun rc j x hj hI hrec => ?_) 0 0 (by omega) rfl
  subst hI
  refine ⟨fun hx => ?_, fun hx => ?_⟩
  · have hj2 : j = E + 1 := by have := lI hx; omega
    subst hj2
    rw [← ax]
    intro x14 h14
    rw [show (4 : Int32) * nI E = nI (4 * E) from pk_mul 4 _] at h14
    subst h14
    have fin : ∀ v d, d ≤ 4 * E → v * 2 ^ (4 * E - d) = A0 → (d = 0 ∨ v % 2 = 1) → ∀ u : Int64, u = (if a3 = 0 then lN v else ((1 : Int64) <<< (Int32.toInt64 (nI d) &&& 63))) → post u M7 := by
      intro v d hd hv hor u hu
      rw [sh4 d (by omega)] at hu
      have e : u = cpt A0 (2 ^ (4 * E)) a3 := by
        have := cpt_x (w := a3) hv hor
        rw [show 4 * E - d + d = 4 * E by omega] at this
        rw [this, hu]
        split <;> rfl
      rw [e]
      have := K M7 hX7
      unfold v_ch at this
      rw [hA0, hE] at this
      exact this
    refine it2_R (fun x y => ∃ v d, d ≤ 4 * E ∧ v ≤ A0 ∧ v * 2 ^ (4 * E - d) = A0 ∧ x = lN v ∧ y = nI d) (fun _ y => tn y) ?_ 4096 (lN A0) (nI (4 * E)) ⟨A0, 4 * E, Nat.le_refl _, Nat.le_refl _, by simp, rfl, rfl⟩ (by rw [tnI (by omega)]; omega)
    rintro rc2 x y ⟨v, d, hd, hvA, hv, rfl, rfl⟩ hrec2
    refine ⟨fun q => ?_, fun q => ?_⟩
    · have q := gI (j := 0) q
      exact fin v d hd hv (Or.inl (by omega))
    · have q := ngI (j := 0) q
      have e2 : lN v - lN v / 2 * 2 = lN (v % 2) := pk_lRem (b := 2) (by omega) (by omega) (by omega)
      rw [e2, lg_eq]
      refine ⟨fun z => ?_, fun z => ?_⟩
      · have z := (pk_lEQ (a := v % 2) (b := 0) (by omega) (by omega)).mp z
        rw [show lN v / 2 = lN (v / 2) from pk_lDiv (b := 2) (by omega) (by omega) (by omega)]
        have ed : nI d + -1 = nI (d - 1) := by
          obtain ⟨d', rfl⟩ : ∃ d', d = d' + 1 := ⟨d - 1, by omega⟩
          rw [← ia1, show d' + 1 - 1 = d' by omega]; grind
        refine hrec2 _ _ ⟨v / 2, d - 1, by omega, by omega, ?_, rfl, ed⟩ (by rw [ed, tnI (by omega), tnI (by omega)]; omega)
        rw [show 4 * E - (d - 1) = (4 * E - d) + 1 by omega, Nat.pow_succ, Nat.mul_comm (2 ^ _) 2, ← Nat.mul_assoc, show v / 2 * 2 = v by omega]
        exact hv
      · refine fin v d hd hv (Or.inr ?_)
        have : ¬ v % 2 = 0 := fun y => z (by rw [y]; rfl)
        omega
  · have hlt : j < E + 1 := by have := nlI hx; omega
    have e16' : (16 : Int32) - nI c = nI (16 - c) := isub (a := 16) (by omega)
    refine x_power (by omega) (by omega) ?_
    rw [e16', isub (by omega)]
    refine x_power (by omega) (by omega) ?_
    rw [show nI b * 9 = nI (b * 9) from im b 9, nI_add, tnI (by omega), Nat.mul_comm b 9, hch b hb j (by omega)]
    have cl : chs (tld A) b j (2 ^ E) ≤ 2 ^ E := cnt_le _ _
    refine ⟨vI (by omega), fun x30 h30 => hrec x30 hlt ?_⟩
    rw [h30, nI_l (by omega), lN_mul, lN_mul, lN_add]; rfl
