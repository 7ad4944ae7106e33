/-! the class: ask -/
def sl (p : Nat → Bool) : Nat → Nat → Nat
  | 0, _ => 0
  | n + 1, q => if p n = true ∧ cnt p n = q then n else sl p n q
theorem cnt_cg {p r : Nat → Bool} : ∀ n, (∀ i, i < n → p i = r i) → cnt p n = cnt r n := by
  intro n
  induction n with
  | zero => intro _; rfl
  | succ n ih => intro h; rw [cnt, cnt, ih (fun i hi => h i (by omega)), h n (by omega)]
def mxN (G : Nat → Nat) : Nat → Nat
  | 0 => 0
  | n + 1 => max (mxN G n) (G n)
theorem mxN_cg {G H : Nat → Nat} : ∀ n, (∀ i, i < n → G i = H i) → mxN G n = mxN H n := by
  intro n
  induction n with
  | zero => intro _; rfl
  | succ n ih => intro h; rw [mxN, mxN, ih (fun i hi => h i (by omega)), h n (by omega)]
theorem mxN_le {G : Nat → Nat} {B : Nat} : ∀ n, (∀ i, i < n → G i ≤ B) → mxN G n ≤ B := by
  intro n
  induction n with
  | zero => intro _; exact Nat.zero_le _
  | succ n ih =>
    intro h
    rw [mxN]
    have := ih (fun i hi => h i (by omega))
    have := h n (by omega)
    omega
theorem le_mxN {G : Nat → Nat} : ∀ n i, i < n → G i ≤ mxN G n := by
  intro n
  induction n with
  | zero => intro i hi; omega
  | succ n ih =>
    intro i hi
    rw [mxN]
    by_cases c : i = n
    · subst c; omega
    · have := ih i (by omega); omega
theorem cnt_sl (p g : Nat → Bool) : ∀ m, cnt (fun v => p v && g v) m = cnt (fun q => g (sl p m q)) (cnt p m) := by
  intro m
  induction m with
  | zero => rfl
  | succ m ih =>
    cases hp : p m with
    | true =>
      have e1 : cnt p (m + 1) = cnt p m + 1 := by rw [cnt, hp, if_pos rfl]
      rw [e1]
      have e2 : cnt (fun q => g (sl p (m + 1) q)) (cnt p m) = cnt (fun q => g (sl p m q)) (cnt p m) := cnt_cg _ (fun q hq => by
        show g (sl p (m + 1) q) = g (sl p m q)
        rw [sl, if_neg (by omega)])
      have e3 : sl p (m + 1) (cnt p m) = m := by rw [sl, if_pos ⟨hp, rfl⟩]
      show cnt (fun v => p v && g v) m + (if (p m && g m) = true then 1 else 0) = cnt (fun q => g (sl p (m + 1) q)) (cnt p m) + (if g (sl p (m + 1) (cnt p m)) = true then 1 else 0)
      rw [e2, e3, ih, hp, Bool.true_and]
    | false =>
      have e1 : cnt p (m + 1) = cnt p m := by rw [cnt, hp]; rfl
      rw [e1]
      have e2 : cnt (fun q => g (sl p (m + 1) q)) (cnt p m) = cnt (fun q => g (sl p m q)) (cnt p m) := cnt_cg _ (fun q hq => by
        show g (sl p (m + 1) q) = g (sl p m q)
        rw [sl, if_neg (by rw [hp]; simp)])
      rw [e2, ← ih, cnt, hp]; rfl
theorem mx_sl (p : Nat → Bool) (G : Nat → Nat) : ∀ m, mxN (fun v => if p v = true then G v else 0) m = mxN (fun q => G (sl p m q)) (cnt p m) := by
  intro m
  induction m with
  | zero => rfl
  | succ m ih =>
    cases hp : p m with
    | true =>
      have e1 : cnt p (m + 1) = cnt p m + 1 := by rw [cnt, hp, if_pos rfl]
      rw [e1]
      have e2 : mxN (fun q => G (sl p (m + 1) q)) (cnt p m) = mxN (fun q => G (sl p m q)) (cnt p m) := mxN_cg _ (fun q hq => by
        show G (sl p (m + 1) q) = G (sl p m q)
        rw [sl, if_neg (by omega)])
      have e3 : sl p (m + 1) (cnt p m) = m := by rw [sl, if_pos ⟨hp, rfl⟩]
      show max (mxN (fun v => if p v = true then G v else 0) m) (if p m = true then G m else 0) = max (mxN (fun q => G (sl p (m + 1) q)) (cnt p m)) (G (sl p (m + 1) (cnt p m)))
      rw [e2, e3, ih, hp, if_pos rfl]
    | false =>
      have e1 : cnt p (m + 1) = cnt p m := by rw [cnt, hp]; rfl
      rw [e1]
      have e2 : mxN (fun q => G (sl p (m + 1) q)) (cnt p m) = mxN (fun q => G (sl p m q)) (cnt p m) := mxN_cg _ (fun q hq => by
        show G (sl p (m + 1) q) = G (sl p m q)
        rw [sl, if_neg (by rw [hp]; simp)])
      show max (mxN (fun v => if p v = true then G v else 0) m) (if p m = true then G m else 0) = _
      rw [e2, ← ih, hp, if_neg (by decide)]
      omega
theorem sm_iff {F : Nat → Nat → Nat} {a b h : Nat} : ∀ n, sm F a b h n = true ↔ ∀ i, i < n → F a (12 * h + i) = F b (12 * h + i) := by
  intro n
  induction n with
  | zero => exact ⟨fun _ i hi => absurd hi (Nat.not_lt_zero _), fun _ => rfl⟩
  | succ n ih =>
    rw [sm, Bool.and_eq_true, ih, decide_eq_true_iff]
    constructor
    · rintro ⟨h1, h2⟩ i hi
      by_cases c : i = n
      · subst c; exact h2
      · exact h1 i (by omega)
    · intro h1
      exact ⟨fun i hi => h1 i (by omega), h1 n (by omega)⟩
theorem cnt_up {P Q : Nat → Bool} {a : Nat} : ∀ n, (∀ b, b < n → P b = true → b = a ∨ Q b = true) → cnt P n ≤ (if a < n then 1 else 0) + cnt Q n := by
  intro n
  induction n with
  | zero => intro _; exact Nat.zero_le _
  | succ n ih =>
    intro h
    have h1 := ih (fun b hb => h b (by omega))
    rw [cnt, cnt]
    have h2 := h n (by omega)
    by_cases c : P n = true
    · rcases h2 c with e | e
      · subst e
        rw [if_pos c, if_pos (by omega)]
        rw [if_neg (Nat.lt_irrefl _)] at h1
        omega
      · rw [if_pos c, if_pos e]
        split at h1
        · rw [if_pos (by omega)]; omega
        · omega
    · rw [if_neg c]
      split at h1
      · rw [if_pos (by omega)]; omega
      · omega
theorem cnt_dn {P Q : Nat → Bool} {a : Nat} (hP : P a = true) (hQ : Q a = false) : ∀ n, (∀ b, b < n → Q b = true → P b = true) → (if a < n then 1 else 0) + cnt Q n ≤ cnt P n := by
  intro n
  induction n with
  | zero => intro _; simp [cnt]
  | succ n ih =>
    intro h
    have h1 := ih (fun b hb => h b (by omega))
    rw [cnt, cnt]
    by_cases e : a = n
    · subst e
      rw [if_pos (by omega), hP, hQ, if_pos rfl, if_neg (by decide)]
      rw [if_neg (Nat.lt_irrefl _)] at h1
      omega
    · have e2 : (if a < n + 1 then 1 else 0) = (if a < n then 1 else 0) := by
        by_cases z : a < n
        · rw [if_pos z, if_pos (by omega)]
        · rw [if_neg z, if_neg (by omega)]
      rw [e2]
      by_cases c : Q n = true
      · rw [if_pos c, if_pos (h n (by omega) c)]; omega
      · rw [if_neg c]; omega
def cu (F : Nat → Nat → Nat) (h N a : Nat) : Nat := 1 + cnt (fun b => decide (a < b) && sm F a b h 12) N
theorem cu_mx (F : Nat → Nat → Nat) (h N : Nat) : mxN (cu F h N) N = mxN (fun a => cnt (fun b => sm F a b h 12) N) N := by
  apply Nat.le_antisymm
  · refine mxN_le N (fun a ha => Nat.le_trans ?_ (le_mxN (G := fun a => cnt (fun b => sm F a b h 12) N) N a ha))
    have := cnt_dn (P := fun b => sm F a b h 12) (Q := fun b => decide (a < b) && sm F a b h 12) (a := a) ((sm_iff 12).mpr (fun _ _ => rfl)) (by simp) N (fun b _ hb => by
      rw [Bool.and_eq_true] at hb; exact hb.2)
    rw [if_pos ha] at this
    exact this
  · refine mxN_le N (fun a ha => ?_)
    have key : ∀ m a, a < m → a < N → cnt (fun b => sm F a b h 12) N ≤ mxN (cu F h N) N := by
      intro m
      induction m with
      | zero => intro a h1; omega
      | succ m ih =>
        intro a h1 h2
        by_cases c : ∃ b, b < a ∧ sm F a b h 12 = true
        · obtain ⟨b, hb, hs⟩ := c
          have e : cnt (fun r => sm F a r h 12) N = cnt (fun r => sm F b r h 12) N := cnt_cg N (fun r _ => by
            have s1 := (sm_iff 12).mp hs
            apply Bool.eq_iff_iff.mpr
            rw [sm_iff, sm_iff]
            exact ⟨fun q i hi => (s1 i hi).symm.trans (q i hi), fun q i hi => (s1 i hi).trans (q i hi)⟩)
          rw [e]
          exact ih b (by omega) (by omega)
        · have := cnt_up (P := fun b => sm F a b h 12) (Q := fun b => decide (a < b) && sm F a b h 12) (a := a) N (fun b _ hb => by
            by_cases q : b = a
            · exact Or.inl q
            · right
              have : a < b := by
                by_cases z : b < a
                · exact absurd ⟨b, z, hb⟩ c
                · omega
              simp [this]; exact hb)
          rw [if_pos h2] at this
          exact Nat.le_trans this (le_mxN (G := cu F h N) N a h2)
    exact key (a + 1) a (by omega) ha
theorem sm_sl (F : Nat → Nat → Nat) (f : Nat → Nat) (a b h : Nat) : ∀ n, sm (fun q => F (f q)) a b h n = sm F (f a) (f b) h n := by
  intro n
  induction n with
  | zero => rfl
  | succ n ih => rw [sm, sm, ih]
theorem alk_mx (F : Nat → Nat → Nat) (p : Nat → Bool) (h : Nat) : alk F p h 10 = mxN (cu (fun q => F (sl p 10 q)) h (cnt p 10)) (cnt p 10) := by
  rw [cu_mx]
  have e1 : ∀ n, alk F p h n = mxN (fun v => if p v = true then cnt (fun b => p b && sm F v b h 12) 10 else 0) n := by
    intro n
    induction n with
    | zero => rfl
    | succ n ih =>
      rw [alk, mxN, ih]
      congr 1
      unfold grp
      cases p n with
      | true => rw [if_pos rfl]; exact cnt_cg _ (fun b _ => by simp)
      | false =>
        rw [if_neg (by decide)]
        have : ∀ k, cnt (fun b => false && (p b && sm F n b h 12)) k = 0 := by
          intro k
          induction k with
          | zero => rfl
          | succ k ih => rw [cnt, ih]; simp
        exact this 10
  rw [e1, mx_sl]
  refine mxN_cg _ (fun q _ => ?_)
  rw [cnt_sl]
  exact cnt_cg _ (fun r _ => (sm_sl F (sl p 10) q r h 12).symm)
def DR (F : Nat → Nat → Nat) (N : Nat) (M : Mem) : Prop := ∀ q, q < N → ∀ x, x < 288 → M 58 (288 * q + x) = nI (F q x)
theorem x_same {F : Nat → Nat → Nat} {M : Mem} {a b h N : Nat} {post : Int32 → Prop} (hN : N ≤ 9) (ha : a < N) (hb : b < N) (hh : h < 24) (hD : DR F N M) (hB : ∀ v x, v < N → x < 288 → F v x ≤ 10000) (K : post (if sm F a b h 12 = true then 1 else 0)) : wp_X_sameDrift (nI h) (nI a) (nI b) M post := by
  unfold wp_X_sameDrift
  intro x1 h1 x2 h2
  have e : ∀ c, (nI c * 24 + nI h) * 12 = nI (288 * c + 12 * h) := fun c => by
    rw [show nI c * 24 = nI (c * 24) from im c 24, nI_add, show nI (c * 24 + h) * 12 = nI ((c * 24 + h) * 12) from im _ 12]
    congr 1; omega
  rw [e] at h1 h2
  subst h1
  subst h2
  refine it1_f1 12 (by omega) (fun j => ∀ i, i < j → F a (12 * h + i) = F b (12 * h + i)) (fun rc j hj hI hrec => ?_) 0 (by omega) (fun i hi => absurd hi (Nat.not_lt_zero _))
  refine ⟨fun hx => ?_, fun hx => ?_⟩
  · have hj2 : j = 12 := by have := gI (a := 12) hx; omega
    subst hj2
    rw [if_pos ((sm_iff 12).mpr hI)] at K
    exact K
  · have hlt : j < 12 := ngI (a := 12) hx
    rw [nI_add, nI_add, tnI (by omega), tnI (by omega), show 288 * a + 12 * h + j = 288 * a + (12 * h + j) by omega, show 288 * b + 12 * h + j = 288 * b + (12 * h + j) by omega, hD a ha _ (by omega), hD b hb _ (by omega)]
    have b1 := hB a (12 * h + j) ha (by omega)
    have b2 := hB b (12 * h + j) hb (by omega)
    rw [nI_eq (by omega) (by omega)]
    refine ⟨vI (by omega), vI (by omega), fun c => hrec () hlt (fun i hi => ?_), fun c => ?_⟩
    · by_cases q : i = j
      · subst q; exact c
      · exact hI i (by omega)
    · rw [if_neg (fun q => c ((sm_iff 12).mp q j hlt))] at K
      exact K
theorem x_most {F : Nat → Nat → Nat} {M : Mem} {h N : Nat} {post : Int32 → Prop} (hN : N ≤ 9) (hh : h < 24) (hD : DR F N M) (hB : ∀ v x, v < N → x < 288 → F v x ≤ 10000) (K : post (nI (mxN (cu F h N) N))) : wp_X_mostAlike (nI h) (nI N) M post := by
  unfold wp_X_mostAlike
  have cul : ∀ a, cu F h N a ≤ 10 := fun a => by
    have := cnt_le (fun b => decide (a < b) && sm F a b h 12) N
    unfold cu; omega
  refine it2_f2 N (by omega) (fun j x => x = nI (mxN (cu F h N) j)) (fun rc j x hj hI hrec => ?_) 0 0 (by omega) rfl
  subst hI
  refine ⟨fun hx => ?_, fun hx => ?_⟩
  · have hj2 : j = N := by have := gI hx; omega
    subst hj2
    exact K
  · have hlt : j < N := ngI hx
    rw [ia1]
    have c0 : ∀ m, m ≤ j + 1 → cnt (fun b => decide (j < b) && sm F j b h 12) m = 0 := by
      intro m
      induction m with
      | zero => intro _; rfl
      | succ m ih =>
        intro hm
        rw [cnt, ih (by omega), decide_eq_false (by omega), Bool.false_and, if_neg (by decide)]
    refine it2_f2 N (by omega) (fun b y => j < b ∧ y = nI (1 + cnt (fun b => decide (j < b) && sm F j b h 12) b)) (fun rc2 b y hb hI2 hrec2 => ?_) (j + 1) 1 (by omega) ⟨by omega, by rw [c0 _ (Nat.le_refl _)]; rfl⟩
    obtain ⟨hjb, rfl⟩ := hI2
    refine ⟨fun hx2 => ?_, fun hx2 => ?_⟩
    · have hb2 : b = N := by have := gI hx2; omega
      subst hb2
      intro x11 h11
      change x11 = pf_J_max (nI (mxN (cu F h b) j)) (nI (cu F h b j)) at h11
      rw [← ia1]
      refine hrec _ hlt ?_
      have l1 := mxN_le (G := cu F h b) (B := 10) j (fun i _ => cul i)
      have l2 := cul j
      rw [h11, mxN]
      unfold pf_J_max
      split
      · rename_i q
        have q := lI q
        congr 1; omega
      · rename_i q
        have q := nlI q
        congr 1; omega
    · have hlt2 : b < N := ngI hx2
      refine x_same hN hlt hlt2 hh hD hB ?_
      intro u hu
      refine hrec2 u hlt2 ⟨by omega, ?_⟩
      rw [hu, cnt, decide_eq_true hjb, Bool.true_and]
      cases sm F j b h 12 with
      | true => simp; rw [ia1]; rfl
      | false => simp
theorem xq_ask {A : Ast} {M : Mem} {a1 : Int32} {post : Int32 → Mem → Prop} (ok : okA A) (hX : IX A M) (K : ∀ M', IX A M' → post (q_ask A a1) M') : wp_X_ask a1 M post := by
  have okt := okT_tld ok
  have h8 := okt.2.2.1
  unfold wp_X_ask
  unfold q_ask at K
  rw [hX.2.1.2.2.1, xqn (by omega)]
  refine ⟨fun c1 => ?_, fun c1 => by rw [if_neg c1] at K; exact K M hX⟩
  rw [if_pos c1] at K
  obtain ⟨k, hk, rfl⟩ := inb_of c1
  rw [tnI (by omega)] at K
  generalize hp : pStr A (tld A) k = p at *
  have hp0 : p 0 = false := by rw [← hp]; rfl
  have hB : ∀ v x, v < 10 → x < 288 → FS (tld A) k v x ≤ 10000 := fun v x hv hx => fld_le (okT_up4 okt (by omega)) hx
  refine it3_f2 10 (by omega) (fun j x M' => IX A M' ∧ 1 ≤ j ∧ x = nI (cnt p j) ∧ cnt p j + 1 ≤ j ∧ DR (fun q => FS (tld A) k (sl p j q)) (cnt p j) M') (fun rc j x M7 hj hI hrec => ?_) 1 0 M (by omega) ⟨hX, Nat.le_refl _, by simp [cnt, hp0]; rfl, by simp [cnt, hp0], fun q hq => by simp [cnt, hp0] at hq⟩
  obtain ⟨hX7, h1, rfl, hc, hD⟩ := hI
  refine ⟨fun hx => ?_, fun hx => ?_⟩
  · have hj2 : j = 10 := by have := lI (a := 9) hx; omega
    subst hj2
    have slt : ∀ m q, 0 < m → sl p m q < m := by
      intro m
      induction m with
      | zero => intro q h; omega
      | succ m ih =>
        intro q _
        rw [sl]
        split
        · omega
        · by_cases z : m = 0
          · subst z; rw [sl]; omega
          · have := ih q (by omega); omega
    have hB2 : ∀ v x, v < cnt p 10 → x < 288 → (fun q => FS (tld A) k (sl p 10 q)) v x ≤ 10000 := fun v x _ hx => hB _ x (slt 10 v (by omega)) hx
    let g := fun h => alk (FS (tld A) k) p h 10
    have gle : ∀ h, g h ≤ 10 := by
      intro h
      have : ∀ n, alk (FS (tld A) k) p h n ≤ 10 := by
        intro n
        induction n with
        | zero => exact Nat.zero_le _
        | succ n ih =>
          rw [alk]
          have : grp (FS (tld A) k) p h n ≤ 10 := cnt_le _ _
          omega
      exact this 10
    refine it3_f3 24 (by omega) (fun i x y => (i = 0 ∧ x = 0 ∧ y = -1) ∨ (i ≠ 0 ∧ x = nI (amn g i).1 ∧ y = nI (amn g i).2)) (fun rc2 i x y hi hxy hrec2 => ?_) 0 0 (-1) (by omega) (Or.inl ⟨rfl, rfl, rfl⟩)
    refine ⟨fun hx2 => ?_, fun hx2 => ?_⟩
    · have hi2 : i = 24 := by have := gI (a := 24) hx2; omega
      subst hi2
      rcases hxy with ⟨q, -⟩ | ⟨-, rfl, rfl⟩
      · exact absurd q (by decide)
      · have := K M7 hX7
        unfold v_ask at this
        rw [hp] at this
        exact this
    · have hlt2 : i < 24 := ngI (a := 24) hx2
      refine x_most (by omega) hlt2 hD hB2 ?_
      rw [← alk_mx]
      intro u17 h17 u18 h18
      change u17 = (if y = -1 then nI i else (if y ≤ nI (g i) then x else nI i)) at h17
      change u18 = (if y = -1 then nI (g i) else (if y ≤ nI (g i) then y else nI (g i))) at h18
      refine hrec2 _ _ hlt2 (Or.inr ⟨by omega, ?_⟩)
      have g1 := gle i
      rw [h17, h18, amn]
      rcases hxy with ⟨rfl, rfl, rfl⟩ | ⟨j0, rfl, rfl⟩
      · rw [if_pos rfl, if_pos rfl, if_neg (fun q => q.1 rfl)]
        exact ⟨rfl, rfl⟩
      · have g2 := (amn_le (g := g) (B := 10) i (fun i _ => gle i)).2
        have n1 : ¬ nI (amn g i).2 = -1 := fun q => by
          have q2 := congrArg Int32.toInt q
          rw [nI_toInt (by omega)] at q2
          have : (-1 : Int32).toInt = -1 := rfl
          omega
        rw [if_neg n1, if_neg n1]
        have e : (nI (amn g i).2 ≤ nI (g i)) ↔ (amn g i).2 ≤ g i := nI_leI (by omega) (by omega)
        by_cases c : (amn g i).2 ≤ g i
        · rw [if_pos (e.mpr c), if_pos (e.mpr c), if_pos ⟨j0, c⟩]; exact ⟨rfl, rfl⟩
        · rw [if_neg (fun q => c (e.mp q)), if_neg (fun q => c (e.mp q)), if_neg (fun q => c q.2)]; exact ⟨rfl, rfl⟩
  · have hlt : j < 10 := by have := nlI (a := 9) hx; omega
    refine x_tryStrength ok hX7 hk (by omega) (fun M20 hX20 _ h58 hW => x_fit ok (okT_up4 okt (by omega)) hX20.2.2.2.1 hW ?_)
    have epj : p j = fit A (upT (tld A) 4 k j) allOn := by
      rw [← hp]; unfold pStr; rw [decide_eq_true h1, Bool.true_and]
    rw [← epj, c10]
    refine ⟨fun c => ?_, fun c => ?_⟩
    · have pj : p j = false := by
        cases q : p j with
        | false => rfl
        | true => exact absurd q c
      have ec : cnt p (j + 1) = cnt p j := by rw [cnt, pj]; rfl
      refine hrec _ M20 hlt ⟨hX20, by omega, by rw [ec], by omega, ?_⟩
      rw [ec]
      intro q hq x hx
      rw [h58, hD q hq x hx]
      show _ = nI (FS (tld A) k (sl p (j + 1) q) x)
      rw [sl, if_neg (by omega)]
    · have pj : p j = true := Decidable.not_not.mp c
      have ec : cnt p (j + 1) = cnt p j + 1 := by rw [cnt, pj, if_pos rfl]
      have e288 : nI (cnt p j) * 24 * 12 = nI (288 * cnt p j) := by
        rw [show nI (cnt p j) * 24 = nI (cnt p j * 24) from im _ 24, show nI (cnt p j * 24) * 12 = nI (cnt p j * 24 * 12) from im _ 12]
        congr 1; omega
      rw [e288, tnI (by omega), show tn 0 = 0 from rfl, show tn 288 = 288 from rfl]
      refine ⟨⟨by decide, fun q => by have := lI (j := 0) q; omega, by decide, by omega, by omega⟩, fun M24 h24 => ?_⟩
      have kx : Kx M20 M24 := fun c hc => by rw [h24, upr_n (by omega)]
      refine hrec _ M24 hlt ⟨hX20.k kx, by omega, by rw [ec]; exact ia1 _, by omega, ?_⟩
      rw [ec]
      intro q hq x hx
      rw [h24, upr_s, h58]
      show va_cpy _ _ 0 (288 * cnt p j) 288 (288 * q + x) = nI (FS (tld A) k (sl p (j + 1) q) x)
      unfold va_cpy
      by_cases c2 : q = cnt p j
      · subst c2
        rw [if_pos (by omega), sl, if_pos ⟨pj, rfl⟩, show 0 + (288 * cnt p j + x - 288 * cnt p j) = x by omega]
        exact hW.f hx
      · rw [if_neg (by omega), sl, if_neg (by omega)]
        exact hD q (by omega) x hx
