/-! THE REFERENCE reads its texts -/
theorem r_plains {M : Mem} {post : Mem → Prop} (K : ∀ M', Fr [7] M M' → HR (M' 7) 12 (fun _ => 0) → post M') : wp_R_plains M post := by
  unfold wp_R_plains
  refine it2_f1 12 (by omega) (fun j M' => Fr [7] M M' ∧ HR (M' 7) j (fun _ => 0)) (fun rc j M4 hj hI hrec => ?_) 0 M (Nat.zero_le _) ⟨Fr.rf, fun k hk => absurd hk (Nat.not_lt_zero _)⟩
  obtain ⟨hF, hI⟩ := hI
  refine ⟨fun hx => ?_, fun hx => ?_⟩
  · have hj2 : j = 12 := by have := gI (a := 12) hx; omega
    subst hj2
    exact K M4 hF hI
  · have hlt : j < 12 := ngI (a := 12) hx
    rw [tnI (by omega : j < 2 ^ 31)]
    refine ⟨vI (by omega), fun M6 h6 => hrec M6 hlt ⟨hF.up h6 (by decide), ?_⟩⟩
    rw [h6, upm_s]
    intro k hk
    by_cases c : k = j
    · subst c; rw [upd_s]; rfl
    · rw [upd_n c]; exact hI k (by omega)
theorem r_clears {M : Mem} {post : Mem → Prop} (K : ∀ M', Fr [8] M M' → HR (M' 8) 24 (fun _ => 0) → post M') : wp_R_clears M post := by
  unfold wp_R_clears
  refine it2_f1 24 (by omega) (fun j M' => Fr [8] M M' ∧ HR (M' 8) j (fun _ => 0)) (fun rc j M4 hj hI hrec => ?_) 0 M (Nat.zero_le _) ⟨Fr.rf, fun k hk => absurd hk (Nat.not_lt_zero _)⟩
  obtain ⟨hF, hI⟩ := hI
  refine ⟨fun hx => ?_, fun hx => ?_⟩
  · have hj2 : j = 24 := by have := gI (a := 24) hx; omega
    subst hj2
    exact K M4 hF hI
  · have hlt : j < 24 := ngI (a := 24) hx
    rw [tnI (by omega : j < 2 ^ 31)]
    refine ⟨vI (by omega), fun M6 h6 => hrec M6 hlt ⟨hF.up h6 (by decide), ?_⟩⟩
    rw [h6, upm_s]
    intro k hk
    by_cases c : k = j
    · subst c; rw [upd_s]; rfl
    · rw [upd_n c]; exact hI k (by omega)
theorem lc_ref (b : Int32) : (if b = 111 then (0 : Int32) else (if b = 104 then 1 else (if b = 99 then 2 else (-9)))) = if okb 0 0 b = true then nI (lc b) else -9 := by
  unfold okb lc
  by_cases c1 : b = 111
  · simp [c1]; rfl
  · by_cases c2 : b = 104
    · simp [c2]; rfl
    · by_cases c3 : b = 99
      · simp [c3]; rfl
      · simp [c1, c2, c3]
theorem lc_le (b : Int32) : lc b ≤ 2 := by unfold lc; split <;> (try split) <;> omega
theorem nn9 {n : Nat} (h : n < 2 ^ 31) : ¬ nI n = (-9 : Int32) := by
  intro q
  have : (nI n).toInt = -9 := by rw [q]; rfl
  rw [nI_toInt h] at this
  omega
theorem r_readsLand {M : Mem} {n : Nat} {b : Nat → Int32} {post : Int32 → Mem → Prop} (hty : M 6 0 = nI n) (hn : n ≤ 12) (hb : ∀ i, i < n → M 5 i = b i)
    (K : ∀ M', Fr [7] M M' → HR (M' 7) 12 (fun i => if i < mnt 0 b n then lc (b i) else 0) → post (flt 0 b n) M') : wp_R_readsLand M post := by
  unfold wp_R_readsLand
  refine r_plains (fun M1 hF1 h71 => ?_)
  refine it2_f1 n (by omega) (fun j M' => Fr [7] M M' ∧ (∀ i, i < j → okb 0 i (b i) = true) ∧ HR (M' 7) 12 (fun i => if i < j then lc (b i) else 0)) (fun rc j M6 hj hI hrec => ?_) 0 M1 (Nat.zero_le _) ⟨hF1, fun k hk => absurd hk (Nat.not_lt_zero _), h71.eq (fun i _ => by simp)⟩
  obtain ⟨hF, hok, hI⟩ := hI
  rw [show tn 0 = 0 from rfl, hF 6 (by decide), hty, hF 5 (by decide)]
  refine ⟨vI (j := 0) (by omega), fun hx => ?_, fun hx => ?_⟩
  · have hj2 : j = n := by have := gI hx; omega
    subst hj2
    obtain ⟨e1, e2⟩ := flt_good (t := 0) hok (by omega)
    rw [e1] at K
    exact K M6 hF (by rw [e2]; exact hI)
  · have hlt : j < n := ngI hx
    rw [tnI (by omega : j < 2 ^ 31), hb j hlt, lc_ref]
    refine ⟨vI (by omega), fun u hu => ?_⟩
    have hoj : okb 0 j (b j) = okb 0 0 (b j) := rfl
    cases ho : okb 0 0 (b j) with
    | true =>
      rw [ho, if_pos rfl] at hu
      subst hu
      have := lc_le (b j)
      refine ⟨fun q => absurd q (nn9 (by omega)), fun _ => ⟨vI (by omega), fun M15 h15 => hrec M15 hlt ⟨hF.up h15 (by decide), fun i hi => ?_, ?_⟩⟩⟩
      · by_cases c : i = j
        · subst c; rw [hoj, ho]
        · exact hok i (by omega)
      · rw [h15, upm_s]
        refine (hI.up (k := j) (v := lc (b j)) rfl).eq (fun i hi => ?_)
        unfold upN
        by_cases c : i = j
        · subst c; simp
        · by_cases c2 : i < j
          · simp [c, c2, Nat.lt_succ_of_lt c2]
          · have : ¬ i < j + 1 := by omega
            simp [c, c2, this]
    | false =>
      rw [ho, if_neg (by decide)] at hu
      subst hu
      refine ⟨fun _ => r_plains (fun M17 hF17 h17 => ?_), fun q => absurd rfl q⟩
      obtain ⟨e1, e2⟩ := flt_bad (t := 0) hok (by rw [hoj, ho]) hlt
      rw [e1] at K
      exact K M17 (hF.tr hF17) (by rw [e2]; exact h17.eq (fun i _ => by simp))
theorem fig_ref (b : Int32) : pf_R_figureOf b 0 = if okb 1 0 b = true then nI (tn (b - 48)) else -9 := by
  unfold pf_R_figureOf okb
  rw [rin (a := b) (l := 48) (h := 57) rfl rfl]
  simp only [Nat.one_ne_zero, if_false, if_true, decide_eq_true_eq]
  have e1 : (48 ≤ b ∧ b ≤ 57) ↔ (48 ≤ b.toInt ∧ b.toInt ≤ 57) := by
    rw [Int32.le_iff_toInt_le, Int32.le_iff_toInt_le]; rfl
  by_cases c : 48 ≤ b.toInt ∧ b.toInt ≤ 57
  · rw [if_pos c, if_neg (by decide), if_pos (e1.mpr c)]
    obtain ⟨k, hk, e⟩ : ∃ k : Nat, k ≤ 9 ∧ b = nI (48 + k) := ⟨(b.toInt - 48).toNat, by omega, by
      apply Int32.toInt_inj.mp
      rw [nI_toInt (by omega)]; omega⟩
    subst e
    rw [show (48 : Int32) = nI 48 from rfl, isub (by omega), tnI (by omega)]
  · rw [if_neg c, if_pos rfl, if_neg (fun q => c (e1.mp q))]
theorem r_readsFall {M : Mem} {n : Nat} {b : Nat → Int32} {post : Int32 → Mem → Prop} (hty : M 6 1 = nI n) (hn : n ≤ 24) (hb : ∀ i, i < n → M 5 (24 + i) = b i)
    (K : ∀ M', Fr [8] M M' → HR (M' 8) 24 (fun i => if i < mnt 1 b n then tn (b i - 48) else 0) → post (flt 1 b n) M') : wp_R_readsFall M post := by
  unfold wp_R_readsFall
  refine r_clears (fun M1 hF1 h71 => ?_)
  refine it2_f1 n (by omega) (fun j M' => Fr [8] M M' ∧ (∀ i, i < j → okb 1 i (b i) = true) ∧ HR (M' 8) 24 (fun i => if i < j then tn (b i - 48) else 0)) (fun rc j M6 hj hI hrec => ?_) 0 M1 (Nat.zero_le _) ⟨hF1, fun k hk => absurd hk (Nat.not_lt_zero _), h71.eq (fun i _ => by simp)⟩
  obtain ⟨hF, hok, hI⟩ := hI
  rw [show tn 1 = 1 from rfl, hF 6 (by decide), hty, hF 5 (by decide)]
  refine ⟨vI (j := 1) (by omega), fun hx => ?_, fun hx => ?_⟩
  · have hj2 : j = n := by have := gI hx; omega
    subst hj2
    obtain ⟨e1, e2⟩ := flt_good (t := 1) hok (by omega)
    rw [e1] at K
    exact K M6 hF (by rw [e2]; exact hI)
  · have hlt : j < n := ngI hx
    rw [show (24 : Int32) + nI j = nI (24 + j) from nI_add 24 j, tnI (by omega : j < 2 ^ 31), tnI (by omega : 24 + j < 2 ^ 31), hb j hlt, fig_ref]
    refine ⟨vI (by omega), fun u hu => ?_⟩
    have hoj : okb 1 j (b j) = okb 1 0 (b j) := rfl
    cases ho : okb 1 0 (b j) with
    | true =>
      rw [ho, if_pos rfl] at hu
      subst hu
      refine ⟨fun q => absurd q (nn9 (by unfold tn; have := Int32.toNatClampNeg_lt (b j - 48); omega)), fun _ => ⟨vI (by omega), fun M15 h15 => hrec M15 hlt ⟨hF.up h15 (by decide), fun i hi => ?_, ?_⟩⟩⟩
      · by_cases c : i = j
        · subst c; rw [hoj, ho]
        · exact hok i (by omega)
      · rw [h15, upm_s]
        refine (hI.up (k := j) (v := tn (b j - 48)) rfl).eq (fun i hi => ?_)
        unfold upN
        by_cases c : i = j
        · subst c; simp
        · by_cases c2 : i < j
          · simp [c, c2, Nat.lt_succ_of_lt c2]
          · have : ¬ i < j + 1 := by omega
            simp [c, c2, this]
    | false =>
      rw [ho, if_neg (by decide)] at hu
      subst hu
      refine ⟨fun _ => r_clears (fun M17 hF17 h17 => ?_), fun q => absurd rfl q⟩
      obtain ⟨e1, e2⟩ := flt_bad (t := 1) hok (by rw [hoj, ho]) hlt
      rw [e1] at K
      exact K M17 (hF.tr hF17) (by rw [e2]; exact h17.eq (fun i _ => by simp))
