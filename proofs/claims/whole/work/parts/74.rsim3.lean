/-! THE REFERENCE: buses, a whole hour, all hours -/
theorem upd_upd (f : Nat → Int32) (k : Nat) (x y : Int32) : upd (upd f k x) k y = upd f k y := by
  funext j
  unfold upd
  split <;> rfl
theorem adv_le {d : Nat → Nat} : ∀ (n m : Nat), m ≤ 11 → m ≤ adv d n m ∧ adv d n m ≤ 11 := by
  intro n
  induction n with
  | zero => intro m h; exact ⟨Nat.le_refl _, h⟩
  | succ n ih =>
    intro m h
    unfold adv
    split
    · rename_i c
      have := ih (m + 1) (by omega)
      omega
    · exact ⟨Nat.le_refl _, h⟩
theorem bus_pre {D : Nat → Nat → Nat} {s : Nat} (h : Nat) (hs : h ≤ s) : bus D s h = (0, 0, 0) := by
  induction h with
  | zero => rfl
  | succ h ih => rw [bus, if_pos (Or.inl (by omega)), ih (by omega)]
theorem bus_ok {D : Nat → Nat → Nat} {s : Nat} (h : Nat) : (bus D s h).1 ≤ 12 ∧ (bus D s h).2.1 ≤ h ∧ (bus D s h).2.2 ≤ h ∧ (s < h → 1 ≤ (bus D s h).1) := by
  induction h with
  | zero => exact ⟨Nat.zero_le _, Nat.zero_le _, Nat.zero_le _, fun q => absurd q (Nat.not_lt_zero _)⟩
  | succ h ih =>
    unfold bus
    split
    · rename_i c
      refine ⟨ih.1, by omega, by omega, fun q => ?_⟩
      by_cases c2 : s < h
      · exact ih.2.2.2 c2
      · have : s = h := by omega
        subst this
        rcases c with c | c
        · omega
        · rw [bus_pre s (Nat.le_refl _)] at c; exact absurd rfl c
    · have h1 : (if h = s then 0 else (bus D s h).1 - 1) ≤ 11 := by split <;> omega
      have h2 := adv_le (d := D h) 3 _ h1
      generalize (if h = s then 0 else (bus D s h).1 - 1) = fr at h1 h2 ⊢
      refine ⟨by dsimp only; omega, ?_, ?_, fun _ => by dsimp only; omega⟩
      · dsimp only; split <;> omega
      · dsimp only; split <;> omega
theorem r_drexit {M M9 : Mem} {h k j : Nat} {m fr : Nat} {post : Mem → Prop} (hj : j ≤ 3) (hm : m = fr + j) (hm11 : m ≤ 11) (hF : Fr [18, 19, 20] M M9) (h18 : M9 18 = upd (M 18) k (nI (fr + j))) (h19 : M9 19 = M 19) (h20 : M9 20 = M 20)
    (K : ∀ M', Fr [18, 19, 20] M M' → M' 18 = upd (M 18) k (nI m) → M' 19 = upd (M 19) k (if m = 11 then nI h else (-1)) → M' 20 = upd (M 20) k (M 20 k + nI (if m = fr then 1 else 0)) → post M') :
    ∀ u12 : Int32, u12 = (if nI j = 0 then 1 else 0) → ∀ M13 : Mem, M13 = upm M9 20 k ((M9 20 k) + u12) → ∀ u15 : Int32, u15 = (if (M13 18 k) = 11 then nI h else (-1)) → ∀ M16 : Mem, M16 = upm M13 19 k u15 → post M16 := by
  intro u hu M13 hM13 u15 hu15 M16 hM16
  have e0 : (nI j = 0) ↔ j = 0 := nI_eq (b := 0) (by omega) (by decide)
  have e1 : (nI (fr + j) = 11) ↔ m = 11 := by rw [← hm]; exact nI_eq (b := 11) (by omega) (by decide)
  refine K M16 ((hF.up hM13 (by decide)).up hM16 (by decide)) ?_ ?_ ?_
  · rw [hM16, upm_n (by decide), hM13, upm_n (by decide), h18, hm]
  · rw [hM16, upm_s, hM13, upm_n (by decide), h19]
    congr 1
    rw [hu15, hM13, upm_n (by decide), h18, upd_s]
    simp only [e1]
  · rw [hM16, upm_n (by decide), hM13, upm_s, h20, hu]
    congr 2
    by_cases c : j = 0
    · have : m = fr := by omega
      simp only [e0, c, this, if_true]; rfl
    · have : ¬ m = fr := by omega
      simp only [e0, c, this, if_false]; rfl
theorem r_drives {M : Mem} {h k fr : Nat} {d : Nat → Nat} {a3 : Int32} {post : Mem → Prop} (hh : h < 24) (hk : k < 8) (hfr : fr ≤ 11) (hd : HR (M 12) 12 d) (hB : ∀ i, d i ≤ 10000) (ha : (a3 = 0 ∧ M 18 k = nI fr) ∨ (¬ a3 = 0 ∧ fr = 0))
    (K : ∀ M', Fr [18, 19, 20] M M' → M' 18 = upd (M 18) k (nI (adv d 3 fr)) → M' 19 = upd (M 19) k (if adv d 3 fr = 11 then nI h else (-1)) → M' 20 = upd (M 20) k (M 20 k + nI (if adv d 3 fr = fr then 1 else 0)) → post M') : wp_R_drives (nI h) (nI k) a3 M post := by
  unfold wp_R_drives
  rw [tnI (by omega : k < 2 ^ 31)]
  refine ⟨⟨fun _ => vI (by omega), fun _ => trivial⟩, fun u hu => ⟨vI (by omega), fun M4 hM4 => ?_⟩⟩
  have hu2 : u = nI fr := by
    rw [hu]
    rcases ha with ⟨a, b⟩ | ⟨a, b⟩
    · rw [if_pos a, b]
    · rw [if_neg a, b]; rfl
  refine it2_f1 3 (by omega) (fun j M9 => Fr [18, 19, 20] M M9 ∧ M9 18 = upd (M 18) k (nI (fr + j)) ∧ M9 19 = M 19 ∧ M9 20 = M 20 ∧ adv d 3 fr = adv d (3 - j) (fr + j) ∧ fr + j ≤ 11) (fun rc j M9 hj hI hrec => ?_) 0 M4 (by omega) ⟨Fr.rf.up hM4 (by decide), by rw [hM4, upm_s, hu2]; rfl, by rw [hM4, upm_n (by decide)], by rw [hM4, upm_n (by decide)], rfl, hfr⟩
  obtain ⟨hF, h18, h19, h20, hadv, hle⟩ := hI
  have r12 : M9 12 = M 12 := hF 12 (by decide)
  have v18 : M9 18 k = nI (fr + j) := by rw [h18, upd_s]
  refine ⟨fun hx => ?_, fun hx => ?_⟩
  · have hj3 : j = 3 := by have := gI (a := 3) hx; omega
    subst hj3
    exact r_drexit (by omega) hadv (by rw [hadv]; exact hle) hF h18 h19 h20 K
  · have hlt : j < 3 := ngI (a := 3) hx
    obtain ⟨n, hn⟩ : ∃ n, 3 - j = n + 1 := ⟨2 - j, by omega⟩
    rw [v18]
    refine ⟨fun hx => ?_, fun hx => ?_⟩
    · have h11 : 11 ≤ fr + j := gI (a := 11) hx
      have e : adv d 3 fr = fr + j := by
        rw [hadv, hn, adv, if_neg (by omega)]
      exact r_drexit (by omega) e (by rw [e]; exact hle) hF h18 h19 h20 K
    · have h11 : fr + j < 11 := ngI (a := 11) hx
      rw [ia1, tnI (by omega), r12, hd _ (by omega)]
      refine ⟨vI (by omega), fun hx => ?_, fun hx => ?_⟩
      · have h4 : 4 < d (fr + j + 1) := lI (a := 4) hx (by omega) (by have := hB (fr + j + 1); omega)
        have e : adv d 3 fr = fr + j := by
          rw [hadv, hn, adv, if_neg (by omega)]
        exact r_drexit (by omega) e (by rw [e]; exact hle) hF h18 h19 h20 K
      · have h4 : d (fr + j + 1) ≤ 4 := nlI (a := 4) hx (by omega) (by have := hB (fr + j + 1); omega)
        intro M38 hM38
        refine hrec M38 hlt ⟨hF.up hM38 (by decide), ?_, ?_, ?_, ?_, ?_⟩
        · rw [hM38, upm_s, h18, upd_upd]; rfl
        · rw [hM38, upm_n (by decide), h19]
        · rw [hM38, upm_n (by decide), h20]
        · rw [hadv, hn, adv, if_pos ⟨h11, h4⟩]
          congr 1
          omega
        · omega
/-- buses' rows behind the first h hours -/
def BR (D : Nat → Nat → Nat) (T : Tld) (h k : Nat) (M : Mem) : Prop := M 18 k = nI (bus D (T 6 k) h).1 - 1 ∧ M 19 k = nI (bus D (T 6 k) h).2.1 - 1 ∧ M 20 k = nI (bus D (T 6 k) h).2.2
theorem m1_iff {n : Nat} (h : n < 2 ^ 31) : (nI n - 1 = (-1 : Int32)) ↔ n = 0 := by
  constructor
  · intro q
    have : nI n = 0 := by
      have q2 : nI n - 1 + 1 = (-1 : Int32) + 1 := by rw [q]
      have q3 : nI n - 1 + 1 = nI n := by grind
      rw [q3] at q2
      exact q2
    exact (nI_eq (b := 0) h (by decide)).mp this
  · intro q; subst q; rfl
theorem r_busStep {T : Tld} {M : Mem} {h k : Nat} {D : Nat → Nat → Nat} {post : Mem → Prop} (ok : okT T) (hT : RT T M) (hh : h < 24) (hk : k < T 2 1) (hd : HR (M 12) 12 (D h)) (hB : ∀ i, D h i ≤ 10000) (hb : BR D T h k M)
    (K : ∀ M', Fr [18, 19, 20, 25] M M' → BR D T (h + 1) k M' → (∀ j, j ≠ k → M' 18 j = M 18 j ∧ M' 19 j = M 19 j ∧ M' 20 j = M 20 j) → M' 25 = upd (M 25) (8 * h + k) (nI (bus D (T 6 k) (h + 1)).1 - 1) → post M') :
    vp_in (nI k) 8 ∧ (((nI h < (M 10 (tn (nI k)))) → vp_in ((8 * nI h) + nI k) 192 ∧ ∀ M23 : Mem, M23 = upm M 25 (tn ((8 * nI h) + nI k)) (M 18 (tn (nI k))) → post M23) ∧ (¬ (nI h < (M 10 (tn (nI k)))) → ((((M 19 (tn (nI k))) = (-1)) → ∀ u29 : Int32, u29 = (if nI h = (M 10 (tn (nI k))) then 1 else 0) → wp_R_drives (nI h) (nI k) u29 M (fun M30 => vp_in ((8 * nI h) + nI k) 192 ∧ ∀ M32 : Mem, M32 = upm M30 25 (tn ((8 * nI h) + nI k)) (M30 18 (tn (nI k))) → post M32)) ∧ (¬ ((M 19 (tn (nI k))) = (-1)) → vp_in ((8 * nI h) + nI k) 192 ∧ ∀ M26 : Mem, M26 = upm M 25 (tn ((8 * nI h) + nI k)) (M 18 (tn (nI k))) → post M26)))) := by
  have h8 := ok.2.2.1
  have b6 := ok.2.2.2.2.2.2.1 k
  obtain ⟨b1, b2, b3⟩ := hb
  have bo := bus_ok (D := D) (s := T 6 k) h
  rw [i8, tnI (by omega : k < 2 ^ 31), tnI (by omega : 8 * h + k < 2 ^ 31), hT.2.2.2.2.2.2.2.1 k hk]
  have same : (h < T 6 k ∨ (bus D (T 6 k) h).2.1 ≠ 0) → ∀ M' : Mem, M' = upm M 25 (8 * h + k) (M 18 k) → post M' := by
    intro hc M' hM'
    have e : bus D (T 6 k) (h + 1) = bus D (T 6 k) h := by rw [bus, if_pos hc]
    refine K M' (Fr.rf.up hM' (by decide)) ?_ (fun j hj => ?_) ?_
    · unfold BR
      rw [e, hM', upm_n (by decide), upm_n (by decide), upm_n (by decide)]
      exact ⟨b1, b2, b3⟩
    · rw [hM', upm_n (by decide), upm_n (by decide), upm_n (by decide)]
      exact ⟨rfl, rfl, rfl⟩
    · rw [hM', upm_s, e, b1]
  refine ⟨vI (by omega), fun hc => ⟨vI (by omega), same (Or.inl (lI hc))⟩, fun hc => ⟨fun ho u hu => ?_, fun ho => ⟨vI (by omega), same (Or.inr ?_)⟩⟩⟩
  · have hs : T 6 k ≤ h := nlI hc
    rw [b2] at ho
    have ho2 : (bus D (T 6 k) h).2.1 = 0 := (m1_iff (by omega)).mp ho
    have e6 : (nI h = nI (T 6 k)) ↔ h = T 6 k := nI_eq (by omega) (by omega)
    have efr : (if h = T 6 k then 0 else (bus D (T 6 k) h).1 - 1) ≤ 11 := by split <;> omega
    have eb : bus D (T 6 k) (h + 1) = (adv (D h) 3 (if h = T 6 k then 0 else (bus D (T 6 k) h).1 - 1) + 1, (if adv (D h) 3 (if h = T 6 k then 0 else (bus D (T 6 k) h).1 - 1) = 11 then h + 1 else 0), (bus D (T 6 k) h).2.2 + (if adv (D h) 3 (if h = T 6 k then 0 else (bus D (T 6 k) h).1 - 1) = (if h = T 6 k then 0 else (bus D (T 6 k) h).1 - 1) then 1 else 0)) := by
      rw [bus, if_neg (by omega)]
    generalize hfr : (if h = T 6 k then 0 else (bus D (T 6 k) h).1 - 1) = fr at efr eb
    refine r_drives hh (by omega) efr hd hB ?_ (fun M' hF g18 g19 g20 => ⟨vI (by omega), fun M32 hM32 => ?_⟩)
    · by_cases c : h = T 6 k
      · right
        rw [if_pos c] at hfr
        refine ⟨?_, hfr.symm⟩
        rw [hu, if_pos (e6.mpr c)]; decide
      · left
        rw [if_neg c] at hfr
        refine ⟨by rw [hu, if_neg (fun q => c (e6.mp q))], ?_⟩
        rw [b1, ← hfr]
        have := bo.2.2.2 (by omega)
        obtain ⟨z, hz⟩ : ∃ z, (bus D (T 6 k) h).1 = z + 1 := ⟨(bus D (T 6 k) h).1 - 1, by omega⟩
        rw [hz]
        exact nI_pred z
    · have ra := adv_le (d := D h) 3 fr efr
      refine K M32 ((hF.mo (by decide)).up hM32 (by decide)) ?_ (fun j hj => ?_) ?_
      · unfold BR
        rw [eb, hM32, upm_n (by decide), upm_n (by decide), upm_n (by decide), g18, g19, g20, upd_s, upd_s, upd_s]
        refine ⟨(nI_pred _).symm, ?_, ?_⟩
        · dsimp only
          split
          · exact (nI_pred _).symm
          · rfl
        · dsimp only
          rw [b3, nI_add]
      · rw [hM32, upm_n (by decide), upm_n (by decide), upm_n (by decide), g18, g19, g20, upd_n hj, upd_n hj, upd_n hj]
        exact ⟨rfl, rfl, rfl⟩
      · rw [hM32, upm_s, g18, upd_s, eb, hF 25 (by decide)]
        dsimp only
        rw [show nI (adv (D h) 3 fr + 1) - 1 = nI (adv (D h) 3 fr) from nI_pred _]
  · intro q
    rw [b2, q] at ho
    exact ho rfl
