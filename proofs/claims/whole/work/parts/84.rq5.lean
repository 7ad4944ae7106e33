/-! chance -/
theorem lg_eq {x y : Int64} : (lg_cmp x y = 0) ↔ x = y := by
  unfold lg_cmp
  by_cases h1 : y < x
  · simp only [h1, if_true]
    refine ⟨fun q => absurd q (by decide), fun q => ?_⟩
    subst q
    rw [Int64.lt_iff_toInt_lt] at h1
    omega
  · simp only [h1, if_false]
    by_cases h2 : x = y
    · simp [h2]
    · simp only [h2, if_false]
      exact ⟨fun q => absurd q (by decide), fun q => q.elim⟩
theorem sh1 : ∀ E, E < 9 → (1 : Int32) <<< (nI E &&& 31) = nI (2 ^ E) := by decide +kernel
theorem sh4 : ∀ d, d < 33 → (1 : Int64) <<< (Int32.toInt64 (nI d) &&& 63) = lN (2 ^ d) := by decide +kernel
def wgt (c : Nat) (on : Nat → Bool) : Nat → Nat
  | 0 => 1
  | e + 1 => wgt c on e * (if on e = true then c else 16 - c)
theorem wgt_le {c : Nat} {on : Nat → Bool} (hc : c ≤ 16) (e : Nat) : wgt c on e ≤ 16 ^ e := by
  induction e with
  | zero => exact Nat.le_refl _
  | succ e ih =>
    rw [wgt, Nat.pow_succ]
    exact Nat.mul_le_mul ih (by split <;> omega)
def gch (T : Tld) (c b x : Nat) : Nat := (if ovr T (offm (nI x)) b = true then 1 else 0) * wgt c (offm (nI x)) (T 2 3)
def abv (T : Tld) (c b : Nat) : Nat := sumN (gch T c b) (2 ^ T 2 3)
theorem gch_le {T : Tld} {c b x : Nat} (ok : okT T) (hc : c ≤ 16) : gch T c b x ≤ 16 ^ 8 := by
  have h := wgt_le (on := offm (nI x)) hc (T 2 3)
  have h2 : 16 ^ T 2 3 ≤ 16 ^ 8 := Nat.pow_le_pow_right (by decide) ok.2.2.1.2.2.2
  unfold gch
  split
  · rw [Nat.one_mul]; omega
  · rw [Nat.zero_mul]; omega
theorem two_le {T : Tld} (ok : okT T) : 1 ≤ 2 ^ T 2 3 ∧ 2 ^ T 2 3 ≤ 256 := by
  have h2 : 2 ^ T 2 3 ≤ 2 ^ 8 := Nat.pow_le_pow_right (by decide) ok.2.2.1.2.2.2
  have h1 : 0 < 2 ^ T 2 3 := Nat.pow_pos (by decide)
  exact ⟨h1, h2⟩
theorem abv_le {T : Tld} {c b : Nat} (ok : okT T) (hc : c ≤ 16) : abv T c b < 2 ^ 41 := by
  have h := sumN_le (f := gch T c b) (B := 16 ^ 8) (fun x => gch_le ok hc) (2 ^ T 2 3)
  have h2 := (two_le ok).2
  have h3 : 2 ^ T 2 3 * 16 ^ 8 ≤ 256 * 16 ^ 8 := Nat.mul_le_mul_right _ h2
  have h4 : 256 * 16 ^ 8 < 2 ^ 41 := by decide
  unfold abv
  omega
def cpt (a b : Nat) (w : Int32) : Int64 := lN ((if w = 0 then a else b) / Nat.gcd a b)
def v_ch (T : Tld) (c b : Nat) (w : Int32) : Int64 := cpt (abv T c b) (2 ^ (4 * T 2 3)) w
theorem r_eucl {A B : Nat} {w : Int32} {post : Int64 → Prop} (hA : A < 2 ^ 41) (hB : B < 2 ^ 41) (hB0 : 0 < B) (K : post (cpt A B w)) : ∀ (t a b n : Nat), t + 1 < n → a * b < 2 ^ t → b ≤ a → a < 2 ^ 41 → 0 < a → Nat.gcd a b = Nat.gcd A B →
    it2 (fun rec1 (l3 : Int64) (l4 : Int64) => ((((lg_cmp l4 0) = 0) → ∀ u7 : Int64, u7 = (if w = 0 then (lN A) else (lN B)) → ¬ l3 = 0 ∧ post (u7 / l3)) ∧ (¬ ((lg_cmp l4 0) = 0) → ¬ l4 = 0 ∧ ∀ x11 : Int64, x11 = (l3 - l3 / l4 * l4) → rec1 l4 x11))) n (lN a) (lN b) := by
  intro t
  induction t with
  | zero =>
    intro a b n hn hab hba ha ha0 hg
    have hb : b = 0 := by
      rcases Nat.mul_eq_zero.mp (by omega : a * b = 0) with h | h
      · omega
      · exact h
    subst hb
    obtain ⟨n, rfl⟩ : ∃ m, n = m + 1 := ⟨n - 1, by omega⟩
    rw [Nat.gcd_zero_right] at hg
    refine ⟨fun _ u hu => ⟨fun q => ?_, ?_⟩, fun q => absurd (lg_eq.mpr rfl) q⟩
    · have := (pk_lEQ (a := a) (b := 0) (by omega) (by omega)).mp q; omega
    · rw [hu]
      have e : (if w = 0 then lN A else lN B) = lN (if w = 0 then A else B) := by split <;> rfl
      rw [e, pk_lDiv (by split <;> omega) ha0 (by omega), hg]
      exact K
  | succ t ih =>
    intro a b n hn hab hba ha ha0 hg
    obtain ⟨n, rfl⟩ : ∃ m, n = m + 1 := ⟨n - 1, by omega⟩
    by_cases hb : b = 0
    · subst hb
      rw [Nat.gcd_zero_right] at hg
      refine ⟨fun _ u hu => ⟨fun q => ?_, ?_⟩, fun q => absurd (lg_eq.mpr rfl) q⟩
      · have := (pk_lEQ (a := a) (b := 0) (by omega) (by omega)).mp q; omega
      · rw [hu]
        have e : (if w = 0 then lN A else lN B) = lN (if w = 0 then A else B) := by split <;> rfl
        rw [e, pk_lDiv (by split <;> omega) ha0 (by omega), hg]
        exact K
    · have hb0 : 0 < b := by omega
      have nb : ¬ lN b = 0 := fun q => hb ((pk_lEQ (a := b) (b := 0) (by omega) (by omega)).mp q)
      refine ⟨fun q => absurd (lg_eq.mp q) nb, fun _ => ⟨nb, fun x hx => ?_⟩⟩
      rw [hx, pk_lRem (by omega) hb0 (by omega)]
      have hm := Nat.mod_lt a hb0
      have h2 : 2 * (a % b) ≤ a := by
        have h3 := Nat.div_add_mod a b
        have h4 : 1 ≤ a / b := Nat.div_pos hba hb0
        have h5 : b * 1 ≤ b * (a / b) := Nat.mul_le_mul_left b h4
        omega
      refine ih b (a % b) n (by omega) ?_ (by omega) (by omega) hb0 ?_
      · have h6 : b * (2 * (a % b)) ≤ b * a := Nat.mul_le_mul_left b h2
        have h7 : b * (2 * (a % b)) = 2 * (b * (a % b)) := by rw [Nat.mul_left_comm]
        have h8 : b * a = a * b := Nat.mul_comm _ _
        rw [Nat.pow_succ] at hab
        omega
      · rw [← hg, Nat.gcd_comm a b, Nat.gcd_rec b a, Nat.gcd_comm]
theorem r_part {M : Mem} {A B : Nat} {w : Int32} {post : Int64 → Prop} (hA : A < 2 ^ 41) (hB : B < 2 ^ 41) (hB0 : 0 < B) (K : post (cpt A B w)) : wp_R_part (lN A) (lN B) w M post := by
  unfold wp_R_part
  by_cases h : B ≤ A
  · exact r_eucl hA hB hB0 K 82 A B 4096 (by omega) (by
      have : A * B < 2 ^ 41 * 2 ^ 41 := Nat.mul_lt_mul'' hA hB
      omega) h hA (by omega) rfl
  · have nb : ¬ lN B = 0 := fun q => by have := (pk_lEQ (a := B) (b := 0) (by omega) (by omega)).mp q; omega
    refine ⟨fun q => absurd (lg_eq.mp q) nb, fun _ => ⟨nb, fun x hx => ?_⟩⟩
    rw [hx, pk_lRem (by omega) hB0 (by omega), Nat.mod_eq_of_lt (by omega)]
    exact r_eucl hA hB hB0 K 82 B A 4095 (by omega) (by
      have : B * A < 2 ^ 41 * 2 ^ 41 := Nat.mul_lt_mul'' hB hA
      omega) (by omega) hB hB0 (Nat.gcd_comm _ _)
theorem r_chanceOf {T : Tld} {M : Mem} {c b : Nat} {w : Int32} {post : Int64 → Mem → Prop} (ok : okT T) (hT : RT T M) (h16 : M 0 16 = 0) (hc : c ≤ 16) (hb : b < T 2 1) (K : ∀ M', Fr LV M M' → post (v_ch T c b w) M') : wp_R_chanceOf (nI c) (nI b) w M post := by
  have h8 := ok.2.2.1
  have ht := two_le ok
  unfold wp_R_chanceOf
  refine it3_f2 (2 ^ T 2 3) (by omega) (fun j x M' => Fr (0 :: LV) M M' ∧ (∃ v, M' 0 = upd (M 0) 16 v) ∧ x = lN (sumN (gch T c b) j)) (fun rc j x M5 hj hI hrec => ?_) 0 0 M (by omega) ⟨Fr.rf, ⟨M 0 16, (upd_self _ _).symm⟩, rfl⟩
  obtain ⟨hF, ⟨v, hv⟩, rfl⟩ := hI
  have e14 : M5 0 14 = nI (T 2 3) := by rw [hv, upd_n (by decide)]; exact hT.2.2.2.2.2.1
  rw [e14, sh1 _ (by omega)]
  refine ⟨fun hx => ?_, fun hx => ?_⟩
  · have hj2 : j = 2 ^ T 2 3 := by have := gI hx; omega
    subst hj2
    intro M7 h7
    have e7 : M7 0 14 = nI (T 2 3) := by rw [h7, upm_s, upd_n (by decide), e14]
    rw [e7, show (4 : Int32) * nI (T 2 3) = nI (4 * T 2 3) from pk_mul 4 _, sh4 _ (by omega)]
    have hp : 2 ^ (4 * T 2 3) ≤ 2 ^ 32 := Nat.pow_le_pow_right (by decide) (by omega)
    refine r_part (abv_le ok hc) (by omega) (Nat.pow_pos (by decide)) (K M7 (fun c hc => ?_))
    by_cases c0 : c = 0
    · subst c0; rw [h7, upm_s, hv, upd_upd, ← h16, upd_self]
    · rw [h7, upm_n c0]; exact hF c (by simp at hc ⊢; omega)
  · have hlt : j < 2 ^ T 2 3 := ngI hx
    intro M8 h8'
    have r0 : M8 0 = upd (M 0) 16 (nI j) := by rw [h8', upm_s, hv, upd_upd]
    have hF8 : Fr (0 :: LV) M M8 := hF.up h8' (by decide)
    have hT8 : RT T M8 := by
      have := RT_gone (x := nI j) hT rfl
      refine RT.fr (L := LV) this (fun c hc => ?_)
      by_cases c0 : c = 0
      · subst c0; rw [r0, upm_s]
      · rw [upm_n c0]; exact hF8 c (by simp at hc ⊢; omega)
    have hon : onR M8 = offm (nI j) := by
      funext e
      unfold onR offm
      rw [r0, upd_s]
    refine r_lives ok hT8 (fun M9 hF9 hH => ?_)
    rw [hon] at hH
    refine ⟨vI (by omega), fun u hu => ?_⟩
    rw [tnI (by omega : b < 2 ^ 31), (hH.2.2.1 b hb).2.1] at hu
    have e9 : M9 0 14 = nI (T 2 3) := by rw [hF9 0 (by decide), r0, upd_n (by decide)]; exact hT.2.2.2.2.2.1
    rw [e9]
    have hu2 : u = lN (if ovr T (offm (nI j)) b = true then 1 else 0) := by
      have hle := (bus_ok (D := dep T (offm (nI j))) (s := T 6 b) 24).2.1
      have e := m1_iff (n := (bus (dep T (offm (nI j))) (T 6 b) 24).2.1) (by omega)
      rw [hu]
      unfold ovr bsT
      by_cases c : (bus (dep T (offm (nI j))) (T 6 b) 24).2.1 = 0
      · rw [if_pos (e.mpr c)]; simp [c]; rfl
      · rw [if_neg (fun q => c (e.mp q))]; simp [c]; rfl
    refine it2_f2 (T 2 3) (by omega) (fun e y => y = lN ((if ovr T (offm (nI j)) b = true then 1 else 0) * wgt c (offm (nI j)) e)) (fun rc2 e y he hI2 hrec2 => ?_) 0 u (by omega) (by rw [hu2, wgt, Nat.mul_one])
    subst hI2
    refine ⟨fun hx2 => ?_, fun hx2 => ?_⟩
    · have hj2 : e = T 2 3 := by have := gI hx2; omega
      subst hj2
      refine hrec _ _ hlt ⟨hF8.tr (hF9.mo (by decide)), ⟨nI j, by rw [hF9 0 (by decide), r0]⟩, ?_⟩
      rw [lN_add]; rfl
    · have hlt2 : e < T 2 3 := ngI hx2
      intro u22 h22
      refine hrec2 _ hlt2 ?_
      have e16 : (16 : Int32) - nI c = nI (16 - c) := isub (a := 16) hc
      have h23 : u22 = lN (if offm (nI j) e = true then c else 16 - c) := by
        rw [h22, e16, nI_l (by omega), nI_l (by omega)]
        unfold offm
        by_cases q : pf_R_isIn (nI j) (nI e) = 0
        · simp [q]
        · simp [q]
      rw [h23, lN_mul, wgt, Nat.mul_assoc]
def q_chance (A : Ast) (a1 a2 a3 : Int32) : Int64 := if inb a1 17 then (if inb a2 (tld A 2 1) then (if inb a3 2 then v_ch (tld A) (tn a1) (tn a2) a3 else -9223372036854775806) else -9223372036854775806) else -9223372036854775806
theorem rq_chance {A : Ast} {M : Mem} {a1 a2 a3 : Int32} {post : Int64 → Mem → Prop} (ok : okA A) (hR : IR A M) (K : ∀ M', IR A M' → post (q_chance A a1 a2 a3) M') : wp_R_chance a1 a2 a3 M post := by
  have okt := okT_tld ok
  have h8 := okt.2.2.1
  unfold wp_R_chance
  refine r_find2 ok hR (fun M1 hF => ?_)
  unfold q_chance at K
  rw [show pf_R_no (-2) = -9223372036854775806 from by decide, ri (a := a1) (hi := 16) 17 rfl, c10]
  refine ⟨fun c1 => by rw [if_neg c1] at K; exact K M1 hF.1, fun c1 => ?_⟩
  have c1 := Decidable.not_not.mp c1
  rw [if_pos c1] at K
  refine r_isBus hF.2.1.2.2.2.1 (by omega) ?_
  rw [c10]
  refine ⟨fun c2 => by rw [if_neg c2] at K; exact K M1 hF.1, fun c2 => ?_⟩
  have c2 := Decidable.not_not.mp c2
  rw [if_pos c2] at K
  rw [r_two, c10]
  refine ⟨fun c3 => by rw [if_neg c3] at K; exact K M1 hF.1, fun c3 => ?_⟩
  have c3 := Decidable.not_not.mp c3
  rw [if_pos c3] at K
  obtain ⟨c, hc, rfl⟩ := inb_of c1
  obtain ⟨b, hb, rfl⟩ := inb_of c2
  rw [tnI (by omega), tnI (by omega)] at K
  exact r_chanceOf okt hF.2.1 hF.1.g (by omega) hb (fun M' hF' => K M' (hF.j.fr hF').1)
