/-! the class: texts -/
theorem i0 (n : Nat) (h : n < 1000) : (nI n = 0) = (n = 0) := propext (nI_eq (b := 0) (by omega) (by omega))
theorem i1' (n : Nat) (h : n < 1000) : (nI n = 1) = (n = 1) := propext (nI_eq (b := 1) (by omega) (by omega))
theorem i2' (n : Nat) (h : n < 1000) : (nI n = 2) = (n = 2) := propext (nI_eq (b := 2) (by omega) (by omega))
theorem ltle (x y : Int32) : (x < y) = ¬ (y ≤ x) := propext Int32.not_le.symm
theorem rg2 (b lo hi : Int32) : (if b < lo then (0 : Int32) else (if hi < b then 0 else 1)) = (if decide (lo ≤ b ∧ b ≤ hi) = true then 1 else 0) := by
  simp only [ltle, decide_eq_true_iff]
  by_cases c1 : lo ≤ b
  · by_cases c2 : b ≤ hi
    · simp [c1, c2]
    · simp [c1, c2]
  · simp [c1]
theorem x_may {M : Mem} {t i : Nat} {b : Int32} {post : Int32 → Prop} (ht : t < 4) (hi : i < 1000) (h0 : M (2 + 2 * t) 0 = nI t) (K : post (if okb t i b = true then 1 else 0)) : wp_XT_mayStand t (nI i) b M post := by
  have two : ∀ c : Bool, (if c = true then (1 : Int32) else 0) = 0 ∨ (if c = true then (1 : Int32) else 0) = 1 := fun c => by cases c <;> simp
  unfold wp_XT_mayStand
  rw [h0, i0 t (by omega), i1' t (by omega), i2' t (by omega)]
  refine ⟨fun c u hu => ?_, fun c u hu => ?_, fun c => ?_, fun c0 c1 c2 u hu => ?_⟩
  · subst c
    have e : u = (if okb 0 i b = true then 1 else 0) := by
      rw [hu]
      simp only [okb, if_true]
      by_cases c1 : b = 111
      · simp [c1]
      · by_cases c2 : b = 104
        · simp [c2]
        · by_cases c3 : b = 99
          · simp [c3]
          · simp [c1, c2, c3]
    rw [e]; exact ⟨two _, K⟩
  · subst c
    rw [rg2] at hu
    have e : u = (if okb 1 i b = true then 1 else 0) := hu
    rw [e]; exact ⟨two _, K⟩
  · subst c
    rw [show nI i - nI i / 4 * 4 = nI (i % 4) from pk_rem (d := 4) (by omega) (by omega) (by omega)]
    have e : pf_XT_mayStandInPloughs (nI (i % 4)) b = (if okb 2 i b = true then 1 else 0) := by
      unfold pf_XT_mayStandInPloughs
      rw [rg2, rg2]
      simp only [i0 (i % 4) (by omega), i1' (i % 4) (by omega), i2' (i % 4) (by omega), okb, show (2 : Nat) ≠ 0 by decide, show (2 : Nat) ≠ 1 by decide, if_false, if_true]
      by_cases c0 : i % 4 = 0
      · simp only [c0, if_true]
      · by_cases c1 : i % 4 = 1
        · simp only [c1, if_true, show (1 : Nat) ≠ 0 by decide, if_false]
        · by_cases c2 : i % 4 = 2
          · simp only [c2, if_true, show (2 : Nat) ≠ 0 by decide, show (2 : Nat) ≠ 1 by decide, if_false]
            by_cases c3 : b = 101
            · simp [c3]
            · by_cases c4 : b = 119
              · simp [c4]
              · simp [c3, c4]
          · simp only [c0, c1, c2, if_false, decide_eq_true_iff]
    rw [e]; exact ⟨two _, K⟩
  · rw [rg2] at hu
    have t3 : t = 3 := by omega
    subst t3
    have e : u = (if okb 3 i b = true then 1 else 0) := hu
    rw [e]; exact ⟨two _, K⟩
theorem x_ff {M : Mem} {t n : Nat} {b : Nat → Int32} {post : Int32 → Prop} (ht : t < 4) (hn : n ≤ tlen t) (h0 : M (2 + 2 * t) 0 = nI t) (h2 : M (2 + 2 * t) 2 = nI n) (hb : ∀ i, i < n → M (3 + 2 * t) i = b i) (K : post (flt t b n)) : wp_XT_firstFault t M post := by
  have l24 := tlen_le t ht
  unfold wp_XT_firstFault
  rw [h0, h2]
  refine it1_f1 n (by omega) (fun j => ∀ i, i < j → okb t i (b i) = true) (fun rc j hj hI hrec => ?_) 0 (by omega) (fun i hi => absurd hi (Nat.not_lt_zero _))
  refine ⟨fun hx => ?_, fun hx => ?_⟩
  · have hj2 : j = n := by have := gI hx; omega
    subst hj2
    intro u8 h8 u10 h10
    rw [show nI j - nI j / 4 * 4 = nI (j % 4) from pk_rem (d := 4) (by omega) (by omega) (by omega)] at h8
    have e3 : (nI (j % 4) = 3) ↔ j % 4 = 3 := nI_eq (b := 3) (by omega) (by omega)
    have e0 : (nI j = 0) ↔ j = 0 := nI_eq (b := 0) (by omega) (by omega)
    have e2 : (nI t = 2) ↔ t = 2 := nI_eq (b := 2) (by omega) (by omega)
    by_cases c : t = 2 ∧ j ≠ 0 ∧ j % 4 ≠ 3
    · rw [(flt_open hI c).1] at K
      rw [if_pos (e2.mpr c.1), if_neg (fun q => c.2.1 (e0.mp q)), if_neg (fun q => c.2.2 (e3.mp q))] at h8
      rw [if_pos h8] at h10
      rw [h10]; exact K
    · rw [(flt_good hI c).1] at K
      have : u8 = 1 := by
        rw [h8]
        by_cases z : t = 2
        · rw [if_pos (e2.mpr z)]
          by_cases y : j = 0
          · rw [if_pos (e0.mpr y)]
          · rw [if_neg (fun q => y (e0.mp q)), if_pos (e3.mpr (by omega))]
        · rw [if_neg (fun q => z (e2.mp q))]
      rw [this, if_neg (by decide)] at h10
      rw [h10]; exact K
  · have hlt : j < n := ngI hx
    rw [tnI (by omega : j < 2 ^ 31), hb j hlt]
    refine ⟨vI (by omega), x_may ht (by omega) h0 ?_⟩
    rw [c10]
    refine ⟨fun c => ?_, fun c => hrec () hlt (fun i hi => ?_)⟩
    · have hf : okb t j (b j) = false := by
        cases q : okb t j (b j) with
        | false => rfl
        | true => exact absurd q c
      rw [(flt_bad hI hf hlt).1] at K
      exact K
    · by_cases q : i = j
      · rw [q]; exact Decidable.not_not.mp c
      · exact hI i (by omega)
theorem x_meant {M : Mem} {t n : Nat} {b : Nat → Int32} {post : Int32 → Prop} (ht : t < 4) (hn : n ≤ tlen t) (h0 : M (2 + 2 * t) 0 = nI t) (h2 : M (2 + 2 * t) 2 = nI n) (hb : ∀ i, i < n → M (3 + 2 * t) i = b i) (K : post (nI (mnt t b n))) : wp_XT_meant t M post := by
  have l24 := tlen_le t ht
  unfold wp_XT_meant
  refine x_ff ht hn h0 h2 hb ?_
  intro u hu
  have : u = nI (mnt t b n) := by
    rw [hu, h2]
    unfold flt mnt
    have nm : ∀ m : Nat, m < 1000 → ¬ nI m = (-1 : Int32) := fun m hm q => by
      have := congrArg Int32.toInt q
      rw [nI_toInt (by omega)] at this
      have e : (-1 : Int32).toInt = -1 := rfl
      omega
    have fl : fpl t b n ≤ n := ff_le _ _
    by_cases c : fpl t b n < n
    · rw [if_pos c, if_pos c, if_neg (nm _ (by omega))]; rfl
    · rw [if_neg c, if_neg c]
      by_cases d : t = 2 ∧ n ≠ 0 ∧ n % 4 ≠ 3
      · rw [if_pos d, if_pos d, if_neg (nm _ (by omega))]; rfl
      · rw [if_neg d, if_neg d, if_pos rfl]
  rw [this]; exact K
theorem xq_fault {A : Ast} {M : Mem} {a1 : Int32} {post : Int32 → Prop} (ok : okA A) (hX : IX A M) (K : post (q_fault A a1)) : wp_X_fault a1 M post := by
  unfold wp_X_fault
  unfold q_fault at K
  rw [xq4]
  refine ⟨fun c1 => ?_, fun c1 => by rw [if_neg c1] at K; exact K⟩
  rw [if_pos c1] at K
  obtain ⟨t, ht, rfl⟩ := inb_of c1
  rw [tnI (by omega)] at K ⊢
  obtain ⟨x0, x2, x3⟩ := hX.1 t ht
  exact ⟨vI ht, x_ff ht (ok.1 t ht) x0 x2 x3 K⟩
/-! the told, taken from a text anew -/
theorem x_land {A : Ast} {M : Mem} {post : Mem → Prop} (ok : okA A) (hX : IXt A M) (K : ∀ M', F1 11 M M' → HR (M' 11) 12 (tld A 0) → post M') : wp_XO_takeLand 0 M post := by
  obtain ⟨x0, x2, x3⟩ := hX 0 (by decide)
  have ha := ok.1 0 (by decide)
  have hm := am_le ok (t := 0) (by decide)
  simp only [tlen] at ha hm; simp at ha hm
  unfold wp_XO_takeLand
  refine x_meant (by decide) (ok.1 0 (by decide)) x0 x2 x3 ?_
  change it2 _ _ _ _
  refine it2_f1 12 (by omega) (fun j M' => F1 11 M M' ∧ HR (M' 11) j (tld A 0)) (fun rc j M5 hj hI hrec => ?_) 0 M (by omega) ⟨F1.rf, fun i hi => absurd hi (Nat.not_lt_zero _)⟩
  obtain ⟨hF, hr⟩ := hI
  refine ⟨fun hx => ?_, fun hx => ?_⟩
  · have hj2 : j = 12 := by have := gI (a := 12) hx; omega
    subst hj2
    exact K M5 hF hr
  · have hlt : j < 12 := ngI (a := 12) hx
    change (((nI (am A 0) ≤ nI j) → True) ∧ (¬ (nI (am A 0) ≤ nI j) → vp_in (nI j) (tlen 0))) ∧ (∀ u9 : Int32, u9 = (if nI (am A 0) ≤ nI j then 111 else (M5 (3 + 2 * 0) (tn (nI j)))) → ∀ u12 : Int32, u12 = (if u9 = 111 then 0 else (if u9 = 104 then 1 else 2)) → vp_in (nI j) 12 ∧ ∀ M13 : Mem, M13 = upm M5 11 (tn (nI j)) u12 → rc (nI j + 1) M13)
    rw [tnI (by omega : j < 2 ^ 31)]
    refine ⟨⟨fun _ => trivial, fun _ => vI (by simp [tlen]; omega) (by simp [tlen])⟩, fun u9 h9 u12 h12 => ⟨vI hlt, fun M13 h13 => hrec M13 hlt ⟨hF.up h13, fun i hi => ?_⟩⟩⟩
    rw [h13, upm_s]
    by_cases c : i = j
    · subst c
      rw [upd_s]
      have e12 : u12 = nI (lc u9) := by
        rw [h12]; unfold lc
        by_cases q : u9 = 111
        · rw [if_pos q, if_pos q]; rfl
        · rw [if_neg q, if_neg q]
          by_cases z : u9 = 104
          · rw [if_pos z, if_pos z]; rfl
          · rw [if_neg z, if_neg z]; rfl
      rw [e12, h9]
      show _ = nI (if i < am A 0 then lc (abt A 0 i) else 0)
      by_cases q : am A 0 ≤ i
      · rw [if_pos ((nI_leI (by omega) (by omega)).mpr q), if_neg (by omega)]; rfl
      · rw [if_neg (fun z => q ((nI_leI (by omega) (by omega)).mp z)), if_pos (by omega), hF 3 (by decide), x3 i (by have := (mnt_ok (t := 0) (b := abt A 0) (n := aln A 0) (i := i) (by unfold am at q; omega)).1; exact this)]
    · rw [upd_n c]; exact hr i (by omega)
theorem x_fall {A : Ast} {M : Mem} {post : Mem → Prop} (ok : okA A) (hX : IXt A M) (h59 : M 59 0 = 0) (K : ∀ M', F1 12 M M' → HR (M' 12) 24 (tld A 1) → post M') : wp_XO_takeFall 1 M post := by
  obtain ⟨x0, x2, x3⟩ := hX 1 (by decide)
  have ha := ok.1 1 (by decide)
  have hm := am_le ok (t := 1) (by decide)
  simp only [tlen] at ha hm; simp at ha hm
  unfold wp_XO_takeFall
  refine x_meant (by decide) (ok.1 1 (by decide)) x0 x2 x3 ?_
  change it2 _ _ _ _
  refine it2_f1 24 (by omega) (fun j M' => F1 12 M M' ∧ HR (M' 12) j (tld A 1)) (fun rc j M5 hj hI hrec => ?_) 0 M (by omega) ⟨F1.rf, fun i hi => absurd hi (Nat.not_lt_zero _)⟩
  obtain ⟨hF, hr⟩ := hI
  have ez : fz M5 = 12 := fz_12 (by rw [hF 59 (by decide)]; exact h59)
  rw [ez]
  refine ⟨fun hx => ?_, fun hx => ?_⟩
  · have hj2 : j = 24 := by have := gI (a := 24) hx; omega
    subst hj2
    exact K M5 hF hr
  · have hlt : j < 24 := ngI (a := 24) hx
    change (((nI (am A 1) ≤ nI j) → True) ∧ (¬ (nI (am A 1) ≤ nI j) → vp_in (nI j) (tlen 1))) ∧ (∀ u9 : Int32, u9 = (if nI (am A 1) ≤ nI j then 0 else ((M5 (3 + 2 * 1) (tn (nI j))) - 48)) → vp_in (nI j) 24 ∧ ∀ M10 : Mem, M10 = upm M5 12 (tn (nI j)) u9 → rc (nI j + 1) M10)
    rw [tnI (by omega : j < 2 ^ 31)]
    refine ⟨⟨fun _ => trivial, fun _ => vI (by simp [tlen]; omega) (by simp [tlen])⟩, fun u9 h9 => ⟨vI hlt, fun M13 h13 => hrec M13 hlt ⟨hF.up h13, fun i hi => ?_⟩⟩⟩
    rw [h13, upm_s]
    by_cases c : i = j
    · subst c
      rw [upd_s, h9]
      show _ = nI (if i < am A 1 then tn (abt A 1 i - 48) else 0)
      by_cases q : am A 1 ≤ i
      · rw [if_pos ((nI_leI (by omega) (by omega)).mpr q), if_neg (by omega)]; rfl
      · obtain ⟨m1, m2⟩ := mnt_ok (t := 1) (b := abt A 1) (n := aln A 1) (i := i) (by unfold am at q; omega)
        rw [if_neg (fun z => q ((nI_leI (by omega) (by omega)).mp z)), if_pos (by omega), hF 5 (by decide), x3 i m1]
        simp only [okb, Nat.one_ne_zero, if_false, if_true, decide_eq_true_eq] at m2
        exact (rng_tn (lo := 48) (hi := 57) (bl := 48) (bh := 57) rfl rfl (by omega) (by omega) m2 48 (by omega)).2
    · rw [upd_n c]; exact hr i (by omega)
theorem x_buses {A : Ast} {M : Mem} {post : Mem → Prop} (ok : okA A) (hX : IXt A M) (K : ∀ M', (∀ c, c ≠ 10 → c ≠ 16 → M' c = M c) → M' 10 = upd (M 10) 6 (nI (tld A 2 1)) → (∀ k, k < tld A 2 1 → M' 16 k = nI (tld A 6 k)) → post M') : wp_XO_takeBuses 3 M post := by
  obtain ⟨x0, x2, x3⟩ := hX 3 (by decide)
  have ha := ok.1 3 (by decide)
  have hm := am_le ok (t := 3) (by decide)
  simp only [tlen] at ha hm; simp at ha hm
  have e21 : tld A 2 1 = am A 3 := by simp [tld]
  rw [e21] at K
  unfold wp_XO_takeBuses
  refine x_meant (by decide) (ok.1 3 (by decide)) x0 x2 x3 ?_
  intro M2 h2
  change M2 = upm M 10 6 (nI (am A 3)) at h2
  refine it2_f1 (am A 3) (by omega) (fun j M' => (∀ c, c ≠ 10 → c ≠ 16 → M' c = M c) ∧ M' 10 = upd (M 10) 6 (nI (am A 3)) ∧ (∀ k, k < j → M' 16 k = nI (tld A 6 k))) (fun rc j M6 hj hI hrec => ?_) 0 M2 (by omega) ⟨fun c c1 c2 => by rw [h2, upm_n c1], by rw [h2, upm_s], fun i hi => absurd hi (Nat.not_lt_zero _)⟩
  obtain ⟨hF, h10, hr⟩ := hI
  rw [show M6 10 6 = nI (am A 3) by rw [h10, upd_s]]
  refine ⟨fun hx => ?_, fun hx => ?_⟩
  · have hj2 : j = am A 3 := by have := gI hx; omega
    subst hj2
    exact K M6 hF h10 hr
  · have hlt : j < am A 3 := ngI hx
    rw [tnI (by omega : j < 2 ^ 31)]
    refine ⟨vI (by simp [tlen]; omega) (by simp [tlen]), vI (by omega), fun M9 h9 => hrec M9 hlt ⟨fun c c1 c2 => by rw [h9, upm_n c2]; exact hF c c1 c2, by rw [h9, upm_n (by decide)]; exact h10, fun i hi => ?_⟩⟩
    rw [h9, upm_s]
    by_cases c : i = j
    · subst c
      obtain ⟨m1, m2⟩ := mnt_ok (t := 3) (b := abt A 3) (n := aln A 3) (i := i) (by unfold am at hlt; omega)
      rw [upd_s, hF 9 (by decide) (by decide), x3 i m1]
      have e6 : tld A 6 i = tn (abt A 3 i - 97) := by simp [tld, hlt]
      rw [e6]
      simp only [okb, show (3 : Nat) ≠ 0 by decide, show (3 : Nat) ≠ 1 by decide, show (3 : Nat) ≠ 2 by decide, if_false, decide_eq_true_eq] at m2
      exact (rng_tn (lo := 97) (hi := 120) (bl := 97) (bh := 120) rfl rfl (by omega) (by omega) m2 97 (by omega)).2
    · rw [upd_n c]; exact hr i (by omega)
theorem x_plh {A : Ast} {M : Mem} {post : Mem → Prop} (ok : okA A) (hX : IXt A M) (K : ∀ M', (∀ c, c ≠ 10 → c ≠ 13 → c ≠ 14 → c ≠ 15 → M' c = M c) → M' 10 = upd (M 10) 2 (nI (tld A 2 0)) → (∀ k, k < tld A 2 0 → M' 13 k = nI (tld A 3 k) ∧ M' 14 k = nI (tld A 4 k) ∧ M' 15 k = nI (tld A 5 k)) → post M') : wp_XO_takePloughs 2 M post := by
  obtain ⟨x0, x2, x3⟩ := hX 2 (by decide)
  have ha := ok.1 2 (by decide)
  have hm := am_le ok (t := 2) (by decide)
  simp only [tlen] at ha hm; simp at ha hm
  have e20 : tld A 2 0 = (am A 2 + 1) / 4 := by simp [tld]
  rw [e20] at K
  unfold wp_XO_takePloughs
  refine x_meant (by decide) (ok.1 2 (by decide)) x0 x2 x3 ?_
  intro M2 h2
  refine it2_R (fun x M' => ∃ k, 4 * k ≤ am A 2 + 1 ∧ x = nI (4 * k) ∧ (∀ c, c ≠ 10 → c ≠ 13 → c ≠ 14 → c ≠ 15 → M' c = M c) ∧ M' 10 = upd (M 10) 2 (nI k) ∧ (∀ j, j < k → M' 13 j = nI (tld A 3 j) ∧ M' 14 j = nI (tld A 4 j) ∧ M' 15 j = nI (tld A 5 j))) (fun x _ => 20 - tn x) ?_ 4096 0 M2 ⟨0, by omega, rfl, fun c c1 c2 c3 c4 => by rw [h2, upm_n c1], by rw [h2, upm_s]; rfl, fun i hi => absurd hi (Nat.not_lt_zero _)⟩ (by decide)
  rintro rc x M6 ⟨k, hk, rfl, hF, h10, hr⟩ hrec
  change ((nI (am A 2) ≤ nI (4 * k) + 2) → post M6) ∧ (¬ (nI (am A 2) ≤ nI (4 * k) + 2) → _)
  have ep2 : nI (4 * k) + 2 = nI (4 * k + 2) := nI_add _ 2
  have ep1 : nI (4 * k) + 1 = nI (4 * k + 1) := nI_add _ 1
  rw [ep2, ep1]
  refine ⟨fun q => ?_, fun q => ?_⟩
  · have q := gI q
    have hk2 : k = (am A 2 + 1) / 4 := by omega
    rw [← hk2] at K
    exact K M6 hF h10 hr
  · have q := ngI q
    rw [show M6 10 2 = nI k by rw [h10, upd_s], tnI (by omega : 4 * k < 2 ^ 31), tnI (by omega : k < 2 ^ 31), tnI (by omega : 4 * k + 1 < 2 ^ 31), tnI (by omega : 4 * k + 2 < 2 ^ 31)]
    refine ⟨fun q4 => absurd (gI (a := 4) q4) (by omega), fun _ => ⟨vI (by simp [tlen]; omega) (by simp [tlen]), vI (by omega), fun M9 h9 => ⟨vI (by simp [tlen]; omega) (by simp [tlen]), ?_⟩⟩⟩
    rw [show M9 10 2 = nI k by rw [h9, upm_n (by decide), h10, upd_s], tnI (by omega : k < 2 ^ 31)]
    refine ⟨vI (by omega), fun M12 h12 => ⟨vI (by simp [tlen]; omega) (by simp [tlen]), fun u16 h16 => ?_⟩⟩
    rw [show M12 10 2 = nI k by rw [h12, upm_n (by decide), h9, upm_n (by decide), h10, upd_s], tnI (by omega : k < 2 ^ 31)]
    refine ⟨vI (by omega), fun M17 h17 M19 h19 => ?_⟩
    have e17 : M17 10 2 = nI k := by rw [h17, upm_n (by decide), h12, upm_n (by decide), h9, upm_n (by decide), h10, upd_s]
    rw [e17, ia1] at h19
    have e4 : nI (4 * k) + 4 = nI (4 * (k + 1)) := nI_add _ 4
    refine hrec _ _ ⟨k + 1, by omega, e4, fun c c1 c2 c3 c4 => by rw [h19, upm_n c1, h17, upm_n c4, h12, upm_n c3, h9, upm_n c2]; exact hF c c1 c2 c3 c4, by rw [h19, upm_s, h17, upm_n (by decide), h12, upm_n (by decide), h9, upm_n (by decide), h10, upd_upd], fun j hj => ?_⟩ (by rw [e4, tnI (by omega), tnI (by omega)]; omega)
    have m0 := mnt_ok (t := 2) (b := abt A 2) (n := aln A 2) (i := 4 * k) (by unfold am at q; omega)
    have m1 := mnt_ok (t := 2) (b := abt A 2) (n := aln A 2) (i := 4 * k + 1) (by unfold am at q; omega)
    have m2 := mnt_ok (t := 2) (b := abt A 2) (n := aln A 2) (i := 4 * k + 2) (by unfold am at q; omega)
    have y7 : M6 7 = M 7 := hF 7 (by decide) (by decide) (by decide) (by decide)
    have y97 : M9 7 = M 7 := by rw [h9, upm_n (by decide), y7]
    have y127 : M12 7 = M 7 := by rw [h12, upm_n (by decide), y97]
    have r13 : M19 13 = upd (M6 13) k (M 7 (4 * k) - 97) := by rw [h19, upm_n (by decide), h17, upm_n (by decide), h12, upm_n (by decide), h9, upm_s, show (3 + 2 * 2 : Nat) = 7 from rfl, y7]
    have r14 : M19 14 = upd (M6 14) k (M 7 (4 * k + 1) - 48) := by rw [h19, upm_n (by decide), h17, upm_n (by decide), h12, upm_s, show (3 + 2 * 2 : Nat) = 7 from rfl, y97, h9, upm_n (by decide)]
    have r15 : M19 15 = upd (M6 15) k u16 := by rw [h19, upm_n (by decide), h17, upm_s, h12, upm_n (by decide), h9, upm_n (by decide)]
    rw [show (3 + 2 * 2 : Nat) = 7 from rfl] at x3 h16
    rw [y127, x3 (4 * k + 2) m2.1] at h16
    rw [r13, r14, r15]
    by_cases c : j = k
    · subst c
      rw [upd_s, upd_s, upd_s, x3 (4 * j) m0.1, x3 (4 * j + 1) m1.1]
      have z0 := m0.2
      have z1 := m1.2
      simp only [okb, show (2 : Nat) ≠ 0 by decide, show (2 : Nat) ≠ 1 by decide, if_false, if_true, show 4 * j % 4 = 0 by omega, decide_eq_true_eq] at z0
      simp only [okb, show (2 : Nat) ≠ 0 by decide, show (2 : Nat) ≠ 1 by decide, if_false, if_true, show (4 * j + 1) % 4 = 1 by omega, Nat.one_ne_zero, decide_eq_true_eq] at z1
      refine ⟨?_, ?_, ?_⟩
      · rw [show tld A 3 j = tn (abt A 2 (4 * j) - 97) by simp [tld, q]]
        exact (rng_tn (lo := 97) (hi := 108) (bl := 97) (bh := 108) rfl rfl (by omega) (by omega) z0 97 (by omega)).2
      · rw [show tld A 4 j = tn (abt A 2 (4 * j + 1) - 48) by simp [tld, q]]
        exact (rng_tn (lo := 49) (hi := 57) (bl := 49) (bh := 57) rfl rfl (by omega) (by omega) z1 48 (by omega)).2
      · rw [show tld A 5 j = (if abt A 2 (4 * j + 2) = 101 then 0 else 1) by simp [tld, q], h16]
        split <;> rfl
    · rw [upd_n c, upd_n c, upd_n c]; exact hr j (by omega)
