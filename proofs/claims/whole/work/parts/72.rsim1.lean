/-! THE REFERENCE: one hour -/
def RT (T : Tld) (M : Mem) : Prop := HR (M 7) 12 (T 0) ∧ HR (M 8) 24 (T 1) ∧ M 0 9 = nI (T 2 0) ∧ M 0 11 = nI (T 2 1) ∧ M 0 13 = nI (T 2 2) ∧ M 0 14 = nI (T 2 3) ∧ (∀ k, k < T 2 0 → M 9 (3 * k) = nI (T 3 k) ∧ M 9 (3 * k + 1) = nI (T 4 k) ∧ M 9 (3 * k + 2) = nI (T 5 k)) ∧ (∀ k, k < T 2 1 → M 10 k = nI (T 6 k)) ∧ (∀ e, e < T 2 3 → M 11 (3 * e) = nI (T 7 e) ∧ M 11 (3 * e + 1) = nI (T 8 e) ∧ M 11 (3 * e + 2) = nI (T 9 e))
def onR (M : Mem) (e : Nat) : Bool := decide (pf_R_isIn (M 0 16) (nI e) = 0)
theorem RT.fr {T : Tld} {M M' : Mem} {L : List Nat} (h : RT T M) (hF : Fr L M M') (h0 : 0 ∉ L := by decide) (h7 : 7 ∉ L := by decide) (h8 : 8 ∉ L := by decide) (h9 : 9 ∉ L := by decide) (h10 : 10 ∉ L := by decide) (h11 : 11 ∉ L := by decide) : RT T M' := by
  unfold RT
  rw [hF 0 h0, hF 7 h7, hF 8 h8, hF 9 h9, hF 10 h10, hF 11 h11]
  exact h
theorem onR.fr {M M' : Mem} {L : List Nat} (hF : Fr L M M') (h0 : 0 ∉ L := by decide) : onR M' = onR M := by
  funext e
  unfold onR
  rw [hF 0 h0]
theorem r_isTold {T : Tld} {M : Mem} {e kd : Nat} {a3 : Int32} {post : Int32 → Prop} (ok : okT T) (hT : RT T M) (he : e < T 2 3) (hk : kd ≤ 2) (hp : post (if T 7 e = kd ∧ nI (T 8 e) = a3 ∧ onR M e = true then 1 else 0)) : wp_R_isTold (nI e) (nI kd) a3 M post := by
  have h8 := ok.2.2.1
  have h7 := ok.2.2.2.2.2.2.2.1 e
  have hev := hT.2.2.2.2.2.2.2.2 e he
  unfold wp_R_isTold
  rw [i3_0, i3_1' e]
  have t1 : tn (nI (3 * e)) = 3 * e := tnI (by omega)
  have t2 : tn (nI (3 * e + 1)) = 3 * e + 1 := tnI (by omega)
  rw [t1, t2, hev.1, hev.2.1]
  refine ⟨vI (by omega), ⟨fun _ => vI (by omega), fun _ => trivial⟩, fun u hu => ?_⟩
  have e1 : (nI (T 7 e) = nI kd) ↔ T 7 e = kd := nI_eq (by omega) (by omega)
  have hu2 : u = (if T 7 e = kd ∧ nI (T 8 e) = a3 ∧ onR M e = true then 1 else 0) := by
    rw [hu]
    by_cases c1 : T 7 e = kd
    · by_cases c2 : nI (T 8 e) = a3
      · by_cases c3 : pf_R_isIn (M 0 16) (nI e) = 0
        · simp [c1, c2, c3, onR]
        · simp [c1, c2, c3, onR]
      · simp [c1, c2]
    · simp [e1, c1]
  refine ⟨?_, by rw [hu2]; exact hp⟩
  rw [hu2]
  split
  · exact Or.inr rfl
  · exact Or.inl rfl
theorem u_fal {a f : Nat} (ha : a ≤ 2) (hf : f ≤ 9) : (if nI a = 2 then (if nI f ≤ 0 then (0 : Int32) else 1) else 0) = nI (if a = 2 ∧ 0 < f then 1 else 0) := by
  have : ∀ a, a < 3 → ∀ f, f < 10 → (if nI a = 2 then (if nI f ≤ 0 then (0 : Int32) else 1) else 0) = nI (if a = 2 ∧ 0 < f then 1 else 0) := by decide
  exact this a (by omega) f (by omega)
theorem r_weathers {T : Tld} {M : Mem} {h B : Nat} {d : Nat → Nat} {post : Mem → Prop} (ok : okT T) (hT : RT T M) (hh : h < 24) (hd : HR (M 12) 12 d) (hB : ∀ i, d i ≤ B) (hB2 : B ≤ 10000)
    (K : ∀ M', Fr [12, 13] M M' → HR (M' 12) 12 (wea T (onR M) h d) → post M') : wp_R_weathers (nI h) M post := by
  have h8 := ok.2.2.1
  unfold wp_R_weathers
  rw [hT.2.2.2.2.1]
  refine it2_f2 (T 2 3) (by omega) (fun j x => x = nI (wnd T (onR M) h j)) (fun rc j x hj hI hrec => ?_) 0 _ (Nat.zero_le _) rfl
  subst hI
  rw [hT.2.2.2.2.2.1]
  refine ⟨fun hx => ?_, fun hx => ?_⟩
  · have hj2 : j = T 2 3 := by have := gI hx; omega
    subst hj2
    clear hrec hj hx
    have hw : windAt T (onR M) h ≤ 33 := windAt_le ok
    change windAt T (onR M) h ≤ 33 at hw
    generalize hwe : wnd T (onR M) h (T 2 3) = wv
    have hwv : windAt T (onR M) h = wv := hwe
    rw [hwv] at hw
    refine it2_f1 12 (by omega) (fun j M' => Fr [12, 13] M M' ∧ HR (M' 12) 12 (fun i => if i < j then fal T h d i else d i) ∧ HR (M' 13) j (car T wv (fal T h d))) (fun rc j M' hj hI hrec => ?_) 0 M (Nat.zero_le _) ⟨Fr.rf, fun i hi => by rw [hd i hi]; simp, fun i hi => absurd hi (Nat.not_lt_zero _)⟩
    obtain ⟨hF, hI1, hI2⟩ := hI
    refine ⟨fun hx => ?_, fun hx => ?_⟩
    · have hj2 : j = 12 := by have := gI (a := 12) hx; omega
      subst hj2
      clear hrec hj hx
      refine it2_f1 12 (by omega) (fun j M2 => Fr [12, 13] M M2 ∧ HR (M2 12) 12 (fun i => if i < j then blo T wv (fal T h d) i else fal T h d i) ∧ HR (M2 13) 12 (car T wv (fal T h d))) (fun rc j M2 hj hI hrec => ?_) 0 M' (Nat.zero_le _) ⟨hF, fun i hi => by rw [hI1 i hi]; simp [hi], hI2⟩
      obtain ⟨hF, hI1, hI2⟩ := hI
      refine ⟨fun hx => ?_, fun hx => ?_⟩
      · have hj2 : j = 12 := by have := gI (a := 12) hx; omega
        subst hj2
        clear hrec hj hx
        refine it2_f1 (T 2 3) (by omega) (fun j M3 => Fr [12, 13] M M3 ∧ HR (M3 12) 12 (thw T (onR M) h (blo T wv (fal T h d)) j)) (fun rc j M3 hj hI hrec => ?_) 0 M2 (Nat.zero_le _) ⟨hF, fun i hi => by rw [hI1 i hi]; simp [hi, thw]⟩
        obtain ⟨hF3, hI3⟩ := hI
        have hT3 := hT.fr hF3
        rw [hT3.2.2.2.2.2.1]
        refine ⟨fun hx => ?_, fun hx => ?_⟩
        · have hj2 : j = T 2 3 := by have := gI hx; omega
          subst hj2
          refine K M3 hF3 ?_
          unfold wea
          rw [hwv]
          exact hI3
        · have hlt : j < T 2 3 := ngI hx
          refine r_isTold (kd := 2) ok hT3 hlt (Nat.le_refl _) ?_
          rw [onR.fr hF3]
          have e8 : (nI (T 8 j) = nI h) ↔ T 8 j = h := nI_eq (by have := ok.2.2.2.2.2.2.2.2.1 j; omega) (by omega)
          refine ⟨fun hx => hrec _ hlt ⟨hF3, ?_⟩, fun hx => ?_⟩
          · unfold thw
            rw [if_neg]
            · exact hI3
            · rintro ⟨c1, c2, c3⟩
              rw [if_pos ⟨c1, e8.mpr c2, c3⟩] at hx
              cases hx
          · have hc : T 7 j = 2 ∧ nI (T 8 j) = nI h ∧ onR M j = true := by
              by_cases c : T 7 j = 2 ∧ nI (T 8 j) = nI h ∧ onR M j = true
              · exact c
              · rw [if_neg c] at hx; exact absurd rfl hx
            have hev := (hT3.2.2.2.2.2.2.2.2 j hlt).2.2
            have h9 := ok.2.2.2.2.2.2.2.2.2 j
            rw [i3_2, tnI (by omega), hev, tnI (by omega)]
            refine ⟨vI (by omega), vI (by omega), fun M4 hM4 => hrec M4 hlt ⟨hF3.up hM4 (by decide), ?_⟩⟩
            rw [hM4, upm_s]
            have e2 : thw T (onR M) h (blo T wv (fal T h d)) (j + 1) = upN (thw T (onR M) h (blo T wv (fal T h d)) j) (T 9 j) (thw T (onR M) h (blo T wv (fal T h d)) j (T 9 j) / 2) := by
              rw [thw, if_pos ⟨hc.1, e8.mp hc.2.1, hc.2.2⟩]
            rw [e2]
            refine hI3.up ?_
            rw [hI3 _ (by omega)]
            have b1 := thw_le (T := T) (on := onR M) (h := h) (d := blo T wv (fal T h d)) j (T 9 j)
            have b2 := blo_le (T := T) (w := wv) (d := fal T h d) (i := T 9 j)
            have b3 := fal_le (T := T) (h := h) (d := d) (i := T 9 j) ok
            have b4 := hB (T 9 j)
            exact pk_div (d := 2) (by omega) (by decide) (by decide)
      · have hlt : j < 12 := ngI (a := 12) hx
        rw [tnI (by omega : j < 2 ^ 31)]
        have e0 : (nI j ≤ 0) ↔ j = 0 := by
          rw [show (0 : Int32) = nI 0 from rfl, nI_leI (by omega) (by omega)]; omega
        refine ⟨vI (by omega), ⟨fun _ => trivial, fun hn => ?_⟩, fun u hu M3 hM3 => hrec M3 hlt ⟨hF.up hM3 (by decide), ?_, ?_⟩⟩
        · have : j ≠ 0 := fun q => hn (e0.mpr q)
          rw [show (1 : Int32) = nI 1 from rfl, isub (by omega)]
          exact vI (by omega)
        · have hu2 : u = nI (if j = 0 then 0 else car T wv (fal T h d) (j - 1)) := by
            rw [hu]
            by_cases c : j = 0
            · simp [c, nI_0]
            · rw [if_neg (fun q => c (e0.mp q)), if_neg c, show (1 : Int32) = nI 1 from rfl, isub (by omega), tnI (by omega)]
              exact hI2 _ (by omega)
          rw [hM3, upm_s]
          have hup : HR (upd (M2 12) j (M2 12 j + (u - M2 13 j))) 12 (upN (fun i => if i < j then blo T wv (fal T h d) i else fal T h d i) j (blo T wv (fal T h d) j)) := by
            refine hI1.up ?_
            rw [hI1 j hlt, hI2 j hlt, hu2]
            simp only [Nat.lt_irrefl, if_false]
            exact ablo car_le.1
          refine hup.eq (fun i hi => ?_)
          unfold upN
          by_cases c : i = j
          · subst c; simp
          · by_cases c2 : i < j
            · simp [c, c2, Nat.lt_succ_of_lt c2]
            · have : ¬ i < j + 1 := by omega
              simp [c, c2, this]
        · rw [hM3, upm_n (by decide)]
          exact hI2
    · have hlt : j < 12 := ngI (a := 12) hx
      rw [tnI (by omega : j < 2 ^ 31), tnI (by omega : h < 2 ^ 31)]
      have hT3 := hT.fr hF
      have hl := hT3.1 j hlt
      have hf := hT3.2.1 h hh
      have b1 := ok.1 j
      have b2 := ok.2.1 h
      refine ⟨vI (by omega), vI (by omega), fun u hu M3 hM3 u2 hu2 M4 hM4 => hrec M4 hlt ⟨(hF.up hM3 (by decide)).up hM4 (by decide), ?_, ?_⟩⟩
      · rw [hM4, upm_n (by decide), hM3, upm_s]
        have hup : HR (upd (M' 12) j (M' 12 j + (M' 8 h + u))) 12 (upN (fun i => if i < j then fal T h d i else d i) j (fal T h d j)) := by
          refine hI1.up ?_
          rw [hI1 j hlt, hf, hu, hl, hf, u_fal b1 b2]
          simp only [Nat.lt_irrefl, if_false]
          rw [nI_add, nI_add]
          rfl
        refine hup.eq (fun i hi => ?_)
        unfold upN
        by_cases c : i = j
        · subst c; simp
        · by_cases c2 : i < j
          · simp [c, c2, Nat.lt_succ_of_lt c2]
          · have : ¬ i < j + 1 := by omega
            simp [c, c2, this]
      · rw [hM4, upm_s]
        intro i hi
        by_cases c : i = j
        · subst c
          rw [upd_s, hu2, hM3, upm_n (by decide), upm_s, upd_s, hl]
          have e2 : (nI (T 0 i) = 0) ↔ T 0 i = 0 := nI_eq (b := 0) (by omega) (by decide)
          have hv : M' 12 i + (M' 8 h + u) = nI (fal T h d i) := by
            rw [hI1 i hlt, hf, hu, hl, hf, u_fal b1 b2]
            simp only [Nat.lt_irrefl, if_false]
            rw [nI_add, nI_add]
            rfl
          rw [hv]
          have b3 := fal_le (T := T) (h := h) (d := d) (i := i) ok
          have b4 := hB i
          unfold car pf_R_lesser
          simp only [e2]
          by_cases c1 : T 0 i = 0
          · simp only [c1, if_true]
            by_cases c2 : fal T h d i ≤ wv
            · rw [if_pos (nI_le c2 (by omega)), Nat.min_eq_right c2]
            · rw [if_neg (nI_ge (by omega) (by omega)), Nat.min_eq_left (by omega)]
          · simp only [c1, if_false]; rfl
        · rw [upd_n c, hM3, upm_n (by decide)]
          exact hI2 i (by omega)
  · have hlt : j < T 2 3 := ngI hx
    refine r_isTold (kd := 0) ok hT hlt (Nat.zero_le _) ?_
    intro u hu
    refine hrec _ hlt ?_
    have e8 : (nI (T 8 j) = nI h) ↔ T 8 j = h := nI_eq (by have := ok.2.2.2.2.2.2.2.2.1 j; omega) (by omega)
    by_cases c : T 7 j = 0 ∧ T 8 j = h ∧ onR M j = true
    · have c' : T 7 j = 0 ∧ nI (T 8 j) = nI h ∧ onR M j = true := ⟨c.1, e8.mpr c.2.1, c.2.2⟩
      rw [if_pos c', if_neg (by decide)] at hu
      rw [hu, wnd, if_pos c, ← nI_add]; rfl
    · have c' : ¬ (T 7 j = 0 ∧ nI (T 8 j) = nI h ∧ onR M j = true) := fun q => c ⟨q.1, e8.mp q.2.1, q.2.2⟩
      rw [if_neg c', if_pos rfl] at hu
      rw [hu, wnd, if_neg c, ← nI_add]; rfl
