theorem rng {b : Int32} {lo hi : Nat} {bl bh : Int32} (hl : bl = nI lo) (hh : bh = nI hi) (h1 : lo < 1000) (h2 : hi < 1000) : (bl ≤ b ∧ b ≤ bh) ↔ ((lo : Int) ≤ b.toInt ∧ b.toInt ≤ hi) := by
  subst hl; subst hh
  rw [Int32.le_iff_toInt_le, Int32.le_iff_toInt_le, nI_toInt (by omega), nI_toInt (by omega)]
theorem rngE {b : Int32} {lo hi : Nat} (h : (lo : Int) ≤ b.toInt ∧ b.toInt ≤ hi) (h2 : hi < 1000) : ∃ k : Nat, lo + k ≤ hi ∧ b = nI (lo + k) ∧ b - nI lo = nI k := by
  refine ⟨(b.toInt - lo).toNat, by omega, ?_, ?_⟩
  · apply Int32.toInt_inj.mp
    rw [nI_toInt (by omega)]; omega
  · have e : b = nI (lo + (b.toInt - lo).toNat) := by
      apply Int32.toInt_inj.mp
      rw [nI_toInt (by omega)]; omega
    rw [e, isub (by omega)]
    congr 1
    rw [nI_toInt (by omega)]; omega
theorem let_ref (b : Int32) (hi : Nat) (h2 : hi < 1000) : pf_R_letterOf b (nI hi) = if 97 ≤ b ∧ b ≤ nI hi then nI (tn (b - 97)) else -9 := by
  unfold pf_R_letterOf
  rw [rin (a := b) (l := 97) (h := hi) rfl (l64 (by omega))]
  have e1 := rng (b := b) (lo := 97) (hi := hi) (bl := 97) rfl rfl (by omega) h2
  by_cases c : 97 ≤ b.toInt ∧ b.toInt ≤ hi
  · obtain ⟨k, hk, e, e2⟩ := rngE (lo := 97) c h2
    rw [if_pos c, if_neg (by decide), if_pos (e1.mpr c), show b - 97 = nI k from e2, tnI (by omega)]
  · rw [if_neg c, if_pos rfl, if_neg (fun q => c (e1.mp q))]
theorem fig_ref1 (b : Int32) : pf_R_figureOf b 1 = if 49 ≤ b ∧ b ≤ 57 then nI (tn (b - 48)) else -9 := by
  unfold pf_R_figureOf
  rw [rin (a := b) (l := 49) (h := 57) rfl rfl]
  have e1 := rng (b := b) (lo := 49) (hi := 57) (bl := 49) (bh := 57) rfl rfl (by omega) (by omega)
  by_cases c : 49 ≤ b.toInt ∧ b.toInt ≤ 57
  · obtain ⟨k, hk, e, e2⟩ := rngE (lo := 48) (hi := 57) (b := b) (by omega) (by omega)
    rw [if_pos c, if_neg (by decide), if_pos (e1.mpr c), show b - 48 = nI k from e2, tnI (by omega)]
  · rw [if_neg c, if_pos rfl, if_neg (fun q => c (e1.mp q))]
def pv (j : Nat) (b : Int32) : Nat := if j % 4 = 0 then tn (b - 97) else if j % 4 = 1 then tn (b - 48) else if j % 4 = 2 then (if b = 101 then 0 else 1) else 0
theorem tn_lt (x : Int32) : tn x < 2 ^ 31 := by unfold tn; exact Int32.toNatClampNeg_lt x
theorem pv_lt (j : Nat) (b : Int32) : pv j b < 2 ^ 31 := by
  unfold pv
  have h1 := tn_lt (b - 97)
  have h2 := tn_lt (b - 48)
  split
  · exact h1
  · split
    · exact h2
    · split
      · split <;> decide
      · decide
theorem plo_ref (j : Nat) (b : Int32) : pf_R_ploughOf (nI (j % 4)) b = if okb 2 j b = true then nI (pv j b) else -9 := by
  unfold pf_R_ploughOf okb pv
  have hj : j % 4 < 4 := Nat.mod_lt _ (by decide)
  generalize j % 4 = r at hj ⊢
  simp only [show (2 : Nat) ≠ 0 by decide, show (2 : Nat) ≠ 1 by decide, if_false, if_true]
  rcases r with _ | _ | _ | _ | r
  · rw [if_pos (show nI 0 = 0 from rfl), show (108 : Int32) = nI 108 from rfl, let_ref b 108 (by decide)]
    simp
  · rw [if_neg (show ¬ nI (0 + 1) = 0 by decide), if_pos (show nI (0 + 1) = 1 from rfl), fig_ref1]
    simp
  · rw [if_neg (show ¬ nI (0 + 1 + 1) = 0 by decide), if_neg (show ¬ nI (0 + 1 + 1) = 1 by decide), if_pos (show nI (0 + 1 + 1) = 2 from rfl)]
    by_cases c1 : b = 101
    · simp [c1]; rfl
    · by_cases c2 : b = 119
      · simp [c2]; rfl
      · simp [c1, c2]
  · rw [if_neg (show ¬ nI (0 + 1 + 1 + 1) = 0 by decide), if_neg (show ¬ nI (0 + 1 + 1 + 1) = 1 by decide), if_neg (show ¬ nI (0 + 1 + 1 + 1) = 2 by decide)]
    by_cases c1 : b = 59
    · simp [c1]; rfl
    · simp [c1]
  · omega
theorem r_readsBuses {M : Mem} {n : Nat} {b : Nat → Int32} {post : Int32 → Mem → Prop} (hty : M 6 3 = nI n) (hn : n ≤ 8) (hb : ∀ i, i < n → M 5 (72 + i) = b i)
    (K : ∀ M', Fr [0, 10] M M' → (∀ i, i ≠ 11 → M' 0 i = M 0 i) → M' 0 11 = nI (mnt 3 b n) → (∀ k, k < mnt 3 b n → M' 10 k = nI (tn (b k - 97))) → post (flt 3 b n) M') : wp_R_readsBuses M post := by
  unfold wp_R_readsBuses
  intro M1 hM1
  refine it2_f1 n (by omega) (fun j M' => Fr [0, 10] M M' ∧ (∀ i, i ≠ 11 → M' 0 i = M 0 i) ∧ M' 0 11 = nI j ∧ (∀ i, i < j → okb 3 i (b i) = true) ∧ (∀ k, k < j → M' 10 k = nI (tn (b k - 97)))) (fun rc j M5 hj hI hrec => ?_) 0 M1 (Nat.zero_le _) ⟨Fr.rf.up hM1 (by decide), fun i hi => by rw [hM1, upm_s, upd_n hi], by rw [hM1, upm_s, upd_s]; rfl, fun k hk => absurd hk (Nat.not_lt_zero _), fun k hk => absurd hk (Nat.not_lt_zero _)⟩
  obtain ⟨hF, hsl, hc, hok, hI⟩ := hI
  rw [show tn 3 = 3 from rfl, hF 6 (by decide), hty, hF 5 (by decide)]
  refine ⟨vI (j := 3) (by omega), fun hx => ?_, fun hx => ?_⟩
  · have hj2 : j = n := by have := gI hx; omega
    subst hj2
    obtain ⟨e1, e2⟩ := flt_good (t := 3) hok (by omega)
    rw [e1] at K
    exact K M5 hF hsl (by rw [e2]; exact hc) (by rw [e2]; exact hI)
  · have hlt : j < n := ngI hx
    rw [show (72 : Int32) + nI j = nI (72 + j) from nI_add 72 j, tnI (by omega : j < 2 ^ 31), tnI (by omega : 72 + j < 2 ^ 31), hb j hlt, show (120 : Int32) = nI 120 from rfl, let_ref _ 120 (by decide)]
    refine ⟨vI (by omega), fun u hu => ?_⟩
    have hoj : okb 3 j (b j) = decide (97 ≤ b j ∧ b j ≤ nI 120) := rfl
    by_cases ho : 97 ≤ b j ∧ b j ≤ nI 120
    · rw [if_pos ho] at hu
      subst hu
      refine ⟨fun q => absurd q (nn9 (tn_lt _)), fun _ => ⟨vI (by omega), fun M12 h12 M14 h14 => hrec M14 hlt ⟨(hF.up h12 (by decide)).up h14 (by decide), fun i hi => ?_, ?_, fun i hi => ?_, fun k hk => ?_⟩⟩⟩
      · rw [h14, upm_s, upd_n hi, h12, upm_n (by decide)]; exact hsl i hi
      · rw [h14, upm_s, upd_s, h12, upm_n (by decide), hc]; exact nI_1 j
      · by_cases c : i = j
        · subst c; rw [hoj]; exact decide_eq_true ho
        · exact hok i (by omega)
      · rw [h14, upm_n (by decide), h12, upm_s]
        by_cases c : k = j
        · subst c; rw [upd_s]
        · rw [upd_n c]; exact hI k (by omega)
    · rw [if_neg ho] at hu
      subst hu
      refine ⟨fun _ M15 h15 => ?_, fun q => absurd rfl q⟩
      obtain ⟨e1, e2⟩ := flt_bad (t := 3) hok (by rw [hoj]; exact decide_eq_false ho) hlt
      rw [e1] at K
      refine K M15 (hF.up h15 (by decide)) (fun i hi => ?_) ?_ ?_
      · rw [h15, upm_s, upd_n hi]; exact hsl i hi
      · rw [h15, upm_s, upd_s, e2]; rfl
      · rw [e2]; intro k hk; exact absurd hk (Nat.not_lt_zero _)
theorem r_readsPloughs {M : Mem} {n : Nat} {b : Nat → Int32} {post : Int32 → Mem → Prop} (hty : M 6 2 = nI n) (hn : n ≤ 15) (hb : ∀ i, i < n → M 5 (48 + i) = b i)
    (K : ∀ M', Fr [0, 9] M M' → (∀ i, i ≠ 9 → M' 0 i = M 0 i) → M' 0 9 = nI ((mnt 2 b n + 1) / 4) → (∀ i, i < mnt 2 b n → i % 4 < 3 → M' 9 (3 * (i / 4) + i % 4) = nI (pv i (b i))) → post (flt 2 b n) M') : wp_R_readsPloughs M post := by
  unfold wp_R_readsPloughs
  intro M1 hM1
  refine ⟨vI (j := 2) (by omega), ?_⟩
  have r6 : M1 6 = M 6 := by rw [hM1, upm_n (by decide)]
  rw [r6, show tn 2 = 2 from rfl, hty]
  refine it2_f1 n (by omega) (fun j M' => Fr [0, 9] M M' ∧ (∀ i, i ≠ 9 → M' 0 i = M 0 i) ∧ M' 0 9 = nI ((j + 1) / 4) ∧ (∀ i, i < j → okb 2 i (b i) = true) ∧ (∀ i, i < j → i % 4 < 3 → M' 9 (3 * (i / 4) + i % 4) = nI (pv i (b i)))) (fun rc j M6 hj hI hrec => ?_) 0 M1 (Nat.zero_le _) ⟨Fr.rf.up hM1 (by decide), fun i hi => by rw [hM1, upm_s, upd_n hi], by rw [hM1, upm_s, upd_s]; rfl, fun k hk => absurd hk (Nat.not_lt_zero _), fun k hk => absurd hk (Nat.not_lt_zero _)⟩
  obtain ⟨hF, hsl, hc, hok, hI⟩ := hI
  rw [hF 5 (by decide)]
  refine ⟨fun hx => ?_, fun hx => ?_⟩
  · have hj2 : j = n := by have := gI hx; omega
    subst hj2
    have e0 : (nI j ≤ 0) ↔ j = 0 := by
      rw [show (0 : Int32) = nI 0 from rfl, nI_leI (by omega) (by omega)]; omega
    have er : nI j - nI j / 4 * 4 = nI (j % 4) := pk_rem (d := 4) (by omega) (by decide) (by decide)
    have e3 : (nI (j % 4) = 3) ↔ j % 4 = 3 := nI_eq (b := 3) (by omega) (by decide)
    refine ⟨fun h0 => ?_, fun h0 => ?_⟩
    · have h0' := e0.mp h0
      obtain ⟨e1, e2⟩ := flt_good (t := 2) hok (by omega)
      rw [e1, e2] at K
      exact K M6 hF hsl hc hI
    · have h0' : j ≠ 0 := fun q => h0 (e0.mpr q)
      rw [er, e3]
      refine ⟨fun h3 => ?_, fun h3 M10 h10 => ?_⟩
      · obtain ⟨e1, e2⟩ := flt_good (t := 2) hok (by omega)
        rw [e1, e2] at K
        exact K M6 hF hsl hc hI
      · obtain ⟨e1, e2⟩ := flt_open (t := 2) hok ⟨rfl, h0', h3⟩
        rw [e1, e2] at K
        refine K M10 (hF.up h10 (by decide)) (fun i hi => ?_) ?_ (fun k hk => absurd hk (Nat.not_lt_zero _))
        · rw [h10, upm_s, upd_n hi]; exact hsl i hi
        · rw [h10, upm_s, upd_s]; rfl
  · have hlt : j < n := ngI hx
    intro x11 hx11
    have er : nI j - nI j / 4 * 4 = nI (j % 4) := pk_rem (d := 4) (by omega) (by decide) (by decide)
    have ed : nI j / 4 = nI (j / 4) := pk_div (d := 4) (by omega) (by decide) (by decide)
    rw [er] at hx11
    subst hx11
    rw [show (48 : Int32) + nI j = nI (48 + j) from nI_add 48 j, tnI (by omega : 48 + j < 2 ^ 31), hb j hlt, plo_ref, ed, i3_0, nI_add, tnI (by omega : 3 * (j / 4) + j % 4 < 2 ^ 31)]
    refine ⟨vI (by omega), fun u hu => ?_⟩
    have e2' : (nI (j % 4) = 2) ↔ j % 4 = 2 := nI_eq (b := 2) (by omega) (by decide)
    have cnt' : ∀ u : Int32, u = (if nI (j % 4) = 2 then 1 else 0) → nI ((j + 1) / 4) + u = nI ((j + 1 + 1) / 4) := by
      intro u hu
      rw [hu]
      by_cases c : j % 4 = 2
      · rw [if_pos (e2'.mpr c), show (1 : Int32) = nI 1 from rfl, nI_add]
        congr 1; omega
      · rw [if_neg (fun q => c (e2'.mp q)), show (0 : Int32) = nI 0 from rfl, nI_add]
        congr 1; omega
    cases ho : okb 2 j (b j) with
    | true =>
      rw [ho, if_pos rfl] at hu
      subst hu
      have hok' : ∀ i, i < j + 1 → okb 2 i (b i) = true := fun i hi => by
        by_cases c : i = j
        · subst c; exact ho
        · exact hok i (by omega)
      refine ⟨fun q => absurd q (nn9 (pv_lt _ _)), fun _ => ⟨fun h3 u hu M19 h19 => ?_, fun h3 => ⟨vI (by omega), fun M21 h21 u hu M25 h25 => ?_⟩⟩⟩
      · have h3' : 3 ≤ j % 4 := gI (a := 3) h3
        refine hrec M19 hlt ⟨hF.up h19 (by decide), fun i hi => ?_, ?_, hok', fun i hi hi3 => ?_⟩
        · rw [h19, upm_s, upd_n hi]; exact hsl i hi
        · rw [h19, upm_s, upd_s, hc]; exact cnt' u hu
        · rw [h19, upm_n (by decide)]
          by_cases c : i = j
          · subst c; omega
          · exact hI i (by omega) hi3
      · have h3' : j % 4 < 3 := ngI (a := 3) h3
        refine hrec M25 hlt ⟨(hF.up h21 (by decide)).up h25 (by decide), fun i hi => ?_, ?_, hok', fun i hi hi3 => ?_⟩
        · rw [h25, upm_s, upd_n hi, h21, upm_n (by decide)]; exact hsl i hi
        · rw [h25, upm_s, upd_s, h21, upm_n (by decide), hc]; exact cnt' u hu
        · rw [h25, upm_n (by decide), h21, upm_s]
          by_cases c : i = j
          · subst c; rw [upd_s]
          · rw [upd_n (by omega)]; exact hI i (by omega) hi3
    | false =>
      rw [ho, if_neg (by decide)] at hu
      subst hu
      refine ⟨fun _ M27 h27 => ?_, fun q => absurd rfl q⟩
      obtain ⟨e1, e2⟩ := flt_bad (t := 2) hok ho hlt
      rw [e1, e2] at K
      refine K M27 (hF.up h27 (by decide)) (fun i hi => ?_) ?_ (fun k hk => absurd hk (Nat.not_lt_zero _))
      · rw [h27, upm_s, upd_n hi]; exact hsl i hi
      · rw [h27, upm_s, upd_s]; rfl
