/-! the class: wind, events, sights, sheets -/
theorem tld_am {A B : Ast} (h1 : aln B = aln A) (h2 : abt B = abt A) : (∀ t, am B t = am A t) := fun t => by unfold am; rw [h1, h2]
theorem tld_06 {A B : Ast} (h1 : aln B = aln A) (h2 : abt B = abt A) : tld B 0 = tld A 0 ∧ tld B 1 = tld A 1 ∧ tld B 2 0 = tld A 2 0 ∧ tld B 2 1 = tld A 2 1 ∧ tld B 3 = tld A 3 ∧ tld B 4 = tld A 4 ∧ tld B 5 = tld A 5 ∧ tld B 6 = tld A 6 := by
  have e := tld_am h1 h2
  refine ⟨?_, ?_, ?_, ?_, ?_, ?_, ?_, ?_⟩
  · funext i
    show (if i < am B 0 then lc (abt B 0 i) else 0) = (if i < am A 0 then lc (abt A 0 i) else 0)
    rw [e, h2]
  · funext i
    show (if i < am B 1 then tn (abt B 1 i - 48) else 0) = (if i < am A 1 then tn (abt A 1 i - 48) else 0)
    rw [e, h2]
  · show (am B 2 + 1) / 4 = (am A 2 + 1) / 4
    rw [e]
  · show am B 3 = am A 3
    rw [e]
  · funext i
    show (if 4 * i + 2 < am B 2 then tn (abt B 2 (4 * i) - 97) else 0) = (if 4 * i + 2 < am A 2 then tn (abt A 2 (4 * i) - 97) else 0)
    rw [e, h2]
  · funext i
    show (if 4 * i + 2 < am B 2 then tn (abt B 2 (4 * i + 1) - 48) else 0) = (if 4 * i + 2 < am A 2 then tn (abt A 2 (4 * i + 1) - 48) else 0)
    rw [e, h2]
  · funext i
    show (if 4 * i + 2 < am B 2 then (if abt B 2 (4 * i + 2) = 101 then 0 else 1) else 0) = (if 4 * i + 2 < am A 2 then (if abt A 2 (4 * i + 2) = 101 then 0 else 1) else 0)
    rw [e, h2]
  · funext i
    show (if i < am B 3 then tn (abt B 3 i - 97) else 0) = (if i < am A 3 then tn (abt A 3 i - 97) else 0)
    rw [e, h2]
theorem tld_r2 (A : Ast) (i : Nat) : tld A 2 i = (if i = 0 then (am A 2 + 1) / 4 else if i = 1 then am A 3 else if i = 2 then awd A else if i = 3 then aev A else 0) := by simp [tld]
theorem tld_r7 (A : Ast) (i : Nat) : tld A 7 i = (if i < aev A then aet A 0 i else 0) ∧ tld A 8 i = (if i < aev A then aet A 1 i else 0) ∧ tld A 9 i = (if i < aev A then aet A 2 i else 0) := by simp [tld]
theorem tld_hi (A : Ast) {r : Nat} (h : 10 ≤ r) : tld A r = fun _ => 0 := by
  funext i
  simp [tld, show r ≠ 0 by omega, show r ≠ 1 by omega, show r ≠ 2 by omega, show r ≠ 3 by omega, show r ≠ 4 by omega, show r ≠ 5 by omega, show r ≠ 6 by omega, show r ≠ 7 by omega, show r ≠ 8 by omega, show r ≠ 9 by omega]
theorem tld_eq {A B : Ast} (h1 : aln B = aln A) (h2 : abt B = abt A) (h3 : awd B = awd A) (h4 : aev B = aev A) (h5 : aet B = aet A) : tld B = tld A := by
  obtain ⟨e0, e1, e20, e21, e3, e4, e5, e6⟩ := tld_06 h1 h2
  funext r
  by_cases c : 10 ≤ r
  · rw [tld_hi A c, tld_hi B c]
  · have : r = 0 ∨ r = 1 ∨ r = 2 ∨ r = 3 ∨ r = 4 ∨ r = 5 ∨ r = 6 ∨ r = 7 ∨ r = 8 ∨ r = 9 := by omega
    rcases this with rfl | rfl | rfl | rfl | rfl | rfl | rfl | rfl | rfl | rfl
    · exact e0
    · exact e1
    · funext i; rw [tld_r2, tld_r2, tld_am h1 h2, tld_am h1 h2, h3, h4]
    · exact e3
    · exact e4
    · exact e5
    · exact e6
    · funext i; rw [(tld_r7 A i).1, (tld_r7 B i).1, h4, h5]
    · funext i; rw [(tld_r7 A i).2.1, (tld_r7 B i).2.1, h4, h5]
    · funext i; rw [(tld_r7 A i).2.2, (tld_r7 B i).2.2, h4, h5]
theorem IX.wd {A : Ast} {M M' : Mem} {v : Nat} (hX : IX A M) (hF : ∀ c, c ≠ 0 → c ≠ 10 → M' c = M c) (h10 : M' 10 = upd (M 10) 8 (nI v)) (h0 : M' 0 = upd (upd (M 0) 7 1) 9 1) : IX (sWd A v) M' := by
  obtain ⟨h1, h2, h3, h4, h5, h6, h7⟩ := hX
  obtain ⟨a0, a1, a2, a3, a4, a5, a6, a7, a8⟩ := h2
  rw [fz_12 h3] at a1
  obtain ⟨e0, e1, e20, e21, e3, e4, e5, e6⟩ := tld_06 (A := A) (B := sWd A v) rfl rfl
  have ez : fz M' = 12 := fz_12 (by rw [hF 59 (by decide) (by decide)]; exact h3)
  refine ⟨IXt.k (A := A) h1 (fun c hc => hF c (by omega) (by omega)), ?_, by rw [hF 59 (by decide) (by decide)]; exact h3, IXs.k (A := A) h4 (fun c hc => hF c (by omega) (by omega)), IXh.k (A := A) h5 (fun c hc => hF c (by omega) (by omega)), by rw [h0, upd_n (by decide), upd_n (by decide)]; exact h6, IXc_1 h0⟩
  have e22 : tld (sWd A v) 2 2 = v := by rw [tld_r2]; rfl
  have e23 : tld (sWd A v) 2 3 = tld A 2 3 := by rw [tld_r2, tld_r2]; rfl
  have e7 : tld (sWd A v) 7 = tld A 7 := by funext i; rw [(tld_r7 _ i).1, (tld_r7 A i).1]; rfl
  have e8 : tld (sWd A v) 8 = tld A 8 := by funext i; rw [(tld_r7 _ i).2.1, (tld_r7 A i).2.1]; rfl
  have e9 : tld (sWd A v) 9 = tld A 9 := by funext i; rw [(tld_r7 _ i).2.2, (tld_r7 A i).2.2]; rfl
  unfold XT
  rw [ez, e0, e1, e20, e21, e3, e4, e5, e6, e22, e23, e7, e8, e9, hF 11 (by decide) (by decide), hF 12 (by decide) (by decide), hF 13 (by decide) (by decide), hF 14 (by decide) (by decide), hF 15 (by decide) (by decide), hF 16 (by decide) (by decide), hF 17 (by decide) (by decide), hF 18 (by decide) (by decide), hF 19 (by decide) (by decide), h10]
  exact ⟨a0, a1, by rw [upd_n (by decide)]; exact a2, by rw [upd_n (by decide)]; exact a3, by rw [upd_s], by rw [upd_n (by decide)]; exact a5, a6, a7, a8⟩
theorem IX.ev {A : Ast} {M M' : Mem} {n : Nat} {f : Nat → Nat → Nat} (hX : IX A M) (hF : ∀ c, c ≠ 0 → c ≠ 10 → c ≠ 17 → c ≠ 18 → c ≠ 19 → M' c = M c) (h10 : M' 10 = upd (M 10) 9 (nI n)) (h0 : M' 0 = upd (upd (M 0) 7 1) 9 1) (he : ∀ e, e < n → M' 17 e = nI (f 0 e) ∧ M' 18 e = nI (f 1 e) ∧ M' 19 e = nI (f 2 e)) : IX (sEv A n f) M' := by
  obtain ⟨h1, h2, h3, h4, h5, h6, h7⟩ := hX
  obtain ⟨a0, a1, a2, a3, a4, a5, a6, a7, a8⟩ := h2
  rw [fz_12 h3] at a1
  obtain ⟨e0, e1, e20, e21, e3, e4, e5, e6⟩ := tld_06 (A := A) (B := sEv A n f) rfl rfl
  have g : ∀ c, c ≠ 0 → (c < 10 ∨ (10 < c ∧ c < 17) ∨ 19 < c) → M' c = M c := fun c c0 hc => hF c c0 (by omega) (by omega) (by omega) (by omega)
  have ez : fz M' = 12 := fz_12 (by rw [g 59 (by decide) (by omega)]; exact h3)
  refine ⟨IXt.k (A := A) h1 (fun c hc => g c (by omega) (by omega)), ?_, by rw [g 59 (by decide) (by omega)]; exact h3, IXs.k (A := A) h4 (fun c hc => g c (by omega) (by omega)), IXh.k (A := A) h5 (fun c hc => g c (by omega) (by omega)), by rw [h0, upd_n (by decide), upd_n (by decide)]; exact h6, IXc_1 h0⟩
  have e22 : tld (sEv A n f) 2 2 = tld A 2 2 := by rw [tld_r2, tld_r2]; rfl
  have e23 : tld (sEv A n f) 2 3 = n := by rw [tld_r2]; rfl
  unfold XT
  rw [ez, e0, e1, e20, e21, e3, e4, e5, e6, e22, e23, g 11 (by decide) (by omega), g 12 (by decide) (by omega), g 13 (by decide) (by omega), g 14 (by decide) (by omega), g 15 (by decide) (by omega), g 16 (by decide) (by omega), h10]
  refine ⟨a0, a1, by rw [upd_n (by decide)]; exact a2, by rw [upd_n (by decide)]; exact a3, by rw [upd_n (by decide)]; exact a4, by rw [upd_s], a6, a7, fun e hlt => ?_⟩
  obtain ⟨p1, p2, p3⟩ := he e hlt
  obtain ⟨q1, q2, q3⟩ := tld_r7 (sEv A n f) e
  have ae : aev (sEv A n f) = n := rfl
  rw [ae, if_pos hlt] at q1 q2 q3
  rw [p1, p2, p3, q1, q2, q3]
  exact ⟨rfl, rfl, rfl⟩
theorem xm_wind {A : Ast} {M : Mem} {a1 : Int32} {post : Int32 → Mem → Prop} (ok : okA A) (hX : IX A M) (K : ∀ M', IX (m_wind A a1).2 M' → post (m_wind A a1).1 M') : wp_X_wind a1 M post := by
  unfold wp_X_wind
  unfold m_wind at K
  have e9 : (a1 ≤ 9) ↔ a1.toInt ≤ 9 := Int32.le_iff_toInt_le
  rw [lt0, e9]
  refine ⟨fun c1 => by rw [if_neg (by unfold inb; omega)] at K; exact K M hX, fun c1 => ⟨fun c2 => ?_, fun c2 => by rw [if_neg (by unfold inb; omega)] at K; exact K M hX⟩⟩
  have c3 : inb a1 10 := by unfold inb; omega
  rw [if_pos c3] at K
  obtain ⟨v, hv, rfl⟩ := inb_of c3
  rw [tnI (by omega)] at K
  intro M3 h3
  unfold wp_X_changed
  intro M4 h4 M5 h5
  have aw : M 10 8 = nI (awd A) := by rw [hX.2.1.2.2.2.2.1]; rw [tld_r2]; rfl
  rw [aw]
  refine K M5 (hX.wd (fun c c0 c10 => by rw [h5, upm_n c0, h4, upm_n c0, h3, upm_n c10]) (by rw [h5, upm_n (by decide), h4, upm_n (by decide), h3, upm_s]) (by rw [h5, upm_s, h4, upm_s, h3, upm_n (by decide)]))
theorem xm_event {A : Ast} {M : Mem} {a1 a2 a3 : Int32} {post : Int32 → Mem → Prop} (ok : okA A) (hX : IX A M) (K : ∀ M', IX (m_event A a1 a2 a3).2 M' → post (m_event A a1 a2 a3).1 M') : wp_X_event a1 a2 a3 M post := by
  have h8 := ok.2.2.1
  unfold wp_X_event
  unfold m_event at K
  have em : (pf_X_mayBeEvent a1 a2 a3 = 0) ↔ ¬ (inb a1 3 ∧ inb a2 24 ∧ inb a3 12) := by
    unfold pf_X_mayBeEvent
    simp only [xq3, xq24, xq12]
    by_cases c1 : inb a1 3
    · by_cases c2 : inb a2 24
      · by_cases c3 : inb a3 12
        · rw [if_pos c1, if_pos c2, if_pos c3]; exact ⟨fun q => absurd q (by decide), fun q => absurd ⟨c1, c2, c3⟩ q⟩
        · rw [if_pos c1, if_pos c2, if_neg c3]; simp [c3]
      · rw [if_pos c1, if_neg c2]; simp [c2]
    · rw [if_neg c1]; simp [c1]
  rw [em]
  refine ⟨fun c => ?_, fun c => ?_⟩
  · by_cases c1 : inb a1 3
    · by_cases c2 : inb a2 24
      · rw [if_pos c1, if_pos c2, if_neg (fun c3 => c ⟨c1, c2, c3⟩)] at K; exact K M hX
      · rw [if_pos c1, if_neg c2] at K; exact K M hX
    · rw [if_neg c1] at K; exact K M hX
  · obtain ⟨c1, c2, c3⟩ := Decidable.not_not.mp c
    rw [if_pos c1, if_pos c2, if_pos c3] at K
    obtain ⟨x, hx, rfl⟩ := inb_of c1
    obtain ⟨y, hy, rfl⟩ := inb_of c2
    obtain ⟨z, hz, rfl⟩ := inb_of c3
    rw [tnI (by omega), tnI (by omega), tnI (by omega)] at K
    have e9 : M 10 9 = nI (aev A) := by rw [hX.2.1.2.2.2.2.2.1]; rw [tld_r2]; rfl
    unfold wp_XO_addEvent
    rw [e9, tnI (by omega)]
    refine ⟨fun c4 => ?_, fun c4 => ?_⟩
    · have c4 := lI (j := 8) c4
      rw [if_neg (by omega)] at K
      refine ⟨vI (by omega), fun M2 h2 => ?_⟩
      rw [show M2 10 9 = nI (aev A) by rw [h2, upm_n (by decide)]; exact e9, tnI (by omega)]
      refine ⟨vI (by omega), fun M4 h4 => ?_⟩
      rw [show M4 10 9 = nI (aev A) by rw [h4, upm_n (by decide), h2, upm_n (by decide)]; exact e9, tnI (by omega)]
      refine ⟨vI (by omega), fun M6 h6 M8 h8' => ⟨fun q => absurd q (by decide), fun _ => ?_⟩⟩
      rw [show M6 10 9 = nI (aev A) by rw [h6, upm_n (by decide), h4, upm_n (by decide), h2, upm_n (by decide)]; exact e9, ia1] at h8'
      unfold wp_X_changed
      intro M9 h9 M10 h10
      have r10 : M10 10 = upd (M 10) 9 (nI (aev A + 1)) := by rw [h10, upm_n (by decide), h9, upm_n (by decide), h8', upm_s, h6, upm_n (by decide), h4, upm_n (by decide), h2, upm_n (by decide)]
      have r17 : M10 17 = upd (M 17) (aev A) (nI x) := by rw [h10, upm_n (by decide), h9, upm_n (by decide), h8', upm_n (by decide), h6, upm_n (by decide), h4, upm_n (by decide), h2, upm_s]
      have r18 : M10 18 = upd (M 18) (aev A) (nI y) := by rw [h10, upm_n (by decide), h9, upm_n (by decide), h8', upm_n (by decide), h6, upm_n (by decide), h4, upm_s, h2, upm_n (by decide)]
      have r19 : M10 19 = upd (M 19) (aev A) (nI z) := by rw [h10, upm_n (by decide), h9, upm_n (by decide), h8', upm_n (by decide), h6, upm_s, h4, upm_n (by decide), h2, upm_n (by decide)]
      rw [show M10 10 9 = nI (aev A + 1) by rw [r10, upd_s]]
      refine K M10 (hX.ev (fun c c0 c10 c17 c18 c19 => by rw [h10, upm_n c0, h9, upm_n c0, h8', upm_n c10, h6, upm_n c19, h4, upm_n c18, h2, upm_n c17]) r10 (by rw [h10, upm_s, h9, upm_s, h8', upm_n (by decide), h6, upm_n (by decide), h4, upm_n (by decide), h2, upm_n (by decide)]) (fun e he => ?_))
      rw [r17, r18, r19]
      unfold addE
      by_cases c : e = aev A
      · subst c
        rw [upd_s, upd_s, upd_s, upN_s, upN_s, upN_s]
        exact ⟨rfl, rfl, rfl⟩
      · rw [upd_n c, upd_n c, upd_n c, upN_n c, upN_n c, upN_n c]
        have he2 : e < aev A := by omega
        have := hX.2.1.2.2.2.2.2.2.2.2 e (by rw [tld_r2]; exact he2)
        rw [(tld_r7 A e).1, (tld_r7 A e).2.1, (tld_r7 A e).2.2, if_pos he2, if_pos he2, if_pos he2] at this
        exact this
    · have c4 := nlI (j := 8) c4
      rw [if_pos (by omega)] at K
      exact ⟨fun _ => K M hX, fun q => absurd rfl q⟩
theorem xm_back {A : Ast} {M : Mem} {post : Int32 → Mem → Prop} (ok : okA A) (hX : IX A M) (K : ∀ M', IX (m_back A).2 M' → post (m_back A).1 M') : wp_X_back M post := by
  have h8 := ok.2.2.1
  unfold wp_X_back
  unfold m_back at K
  have e9 : M 10 9 = nI (aev A) := by rw [hX.2.1.2.2.2.2.2.1]; rw [tld_r2]; rfl
  rw [e9, i0 _ (by omega)]
  refine ⟨fun c => by rw [if_pos c] at K; exact K M hX, fun c => ?_⟩
  rw [if_neg c] at K
  intro M2 h2
  rw [m1n (by omega)] at h2
  unfold wp_X_changed
  intro M3 h3 M4 h4
  have r10 : M4 10 = upd (M 10) 9 (nI (aev A - 1)) := by rw [h4, upm_n (by decide), h3, upm_n (by decide), h2, upm_s]
  rw [show M4 10 9 = nI (aev A - 1) by rw [r10, upd_s]]
  refine K M4 (hX.ev (fun c c0 c10 c17 c18 c19 => by rw [h4, upm_n c0, h3, upm_n c0, h2, upm_n c10]) r10 (by rw [h4, upm_s, h3, upm_s, h2, upm_n (by decide)]) (fun e he => ?_))
  have he2 : e < aev A := by omega
  have := hX.2.1.2.2.2.2.2.2.2.2 e (by rw [tld_r2]; exact he2)
  rw [(tld_r7 A e).1, (tld_r7 A e).2.1, (tld_r7 A e).2.2, if_pos he2, if_pos he2, if_pos he2] at this
  rw [h4, upm_n (by decide), upm_n (by decide), upm_n (by decide), h3, upm_n (by decide), upm_n (by decide), upm_n (by decide), h2, upm_n (by decide), upm_n (by decide), upm_n (by decide)]
  exact this
theorem IX.sg {A : Ast} {M M' : Mem} {n : Nat} {f : Nat → Nat → Nat} (hX : IX A M) (hF : ∀ c, c ≠ 20 → c ≠ 21 → c ≠ 22 → M' c = M c) (h20 : M' 20 2 = nI n) (he : ∀ j, j < n → M' 21 j = nI (12 * f 0 j + f 1 j) ∧ M' 22 j = nI (f 2 j)) : IX (sSg A n f) M' := by
  obtain ⟨h1, h2, h3, h4, h5, h6, h7, h8⟩ := hX
  have et : tld (sSg A n f) = tld A := tld_eq rfl rfl rfl rfl rfl
  have g : ∀ c, (c < 20 ∨ 22 < c) → M' c = M c := fun c hc => hF c (by omega) (by omega) (by omega)
  refine ⟨IXt.k (A := A) h1 (fun c hc => g c (by omega)), by rw [et]; exact XT_kx h2 h3 (fun c hc => g c (by omega)), by rw [g 59 (by omega)]; exact h3, ⟨h20, he⟩, IXh.k (A := A) h5 (fun c hc => g c (by omega)), by rw [g 0 (by omega)]; exact h6, ?_⟩
  rw [et]
  refine ⟨?_, ?_⟩
  · rw [g 0 (by omega)]
    exact fun q => (h7 q).k (fun c c1 c2 => g c (by omega))
  · rw [g 0 (by omega), g 56 (by omega)]; exact h8
theorem xm_seen {A : Ast} {M : Mem} {a1 a2 a3 : Int32} {post : Int32 → Mem → Prop} (ok : okA A) (hX : IX A M) (K : ∀ M', IX (m_seen A a1 a2 a3).2 M' → post (m_seen A a1 a2 a3).1 M') : wp_X_seen a1 a2 a3 M post := by
  have h8 := ok.2.2.2.2.1
  unfold wp_X_seen
  unfold m_seen at K
  have e9 : (a3 ≤ 99) ↔ a3.toInt ≤ 99 := Int32.le_iff_toInt_le
  rw [xq24, xq12, lt0, e9]
  refine ⟨fun c1 => ⟨fun c2 => ⟨fun c3 => by rw [if_pos c1, if_pos c2, if_neg (by unfold inb; omega)] at K; exact K M hX, fun c3 => ⟨fun c4 => ?_, fun c4 => by rw [if_pos c1, if_pos c2, if_neg (by unfold inb; omega)] at K; exact K M hX⟩⟩, fun c2 => by rw [if_pos c1, if_neg c2] at K; exact K M hX⟩, fun c1 => by rw [if_neg c1] at K; exact K M hX⟩
  have c5 : inb a3 100 := by unfold inb; omega
  rw [if_pos c1, if_pos c2, if_pos c5] at K
  obtain ⟨x, hx, rfl⟩ := inb_of c1
  obtain ⟨y, hy, rfl⟩ := inb_of c2
  obtain ⟨z, hz, rfl⟩ := inb_of c5
  rw [tnI (by omega), tnI (by omega), tnI (by omega)] at K
  have e20 := hX.2.2.2.1.1
  unfold wp_XG_add
  rw [e20, x12, tnI (by omega)]
  refine ⟨fun c6 => ?_, fun c6 => ?_⟩
  · have c6 := lI (j := 8) c6
    rw [if_neg (by omega)] at K
    refine ⟨vI (by omega), fun M2 h2 => ?_⟩
    rw [show M2 20 2 = nI (asg A) by rw [h2, upm_n (by decide)]; exact e20, tnI (by omega)]
    refine ⟨vI (by omega), fun M4 h4 M6 h6 u hu => ?_⟩
    rw [show M4 20 2 = nI (asg A) by rw [h4, upm_n (by decide), h2, upm_n (by decide)]; exact e20, ia1] at h6
    have r20 : M6 20 2 = nI (asg A + 1) := by rw [h6, upm_s, upd_s]
    rw [if_neg (by decide), r20] at hu
    rw [hu]
    refine K M6 (hX.sg (fun c c20 c21 c22 => by rw [h6, upm_n c20, h4, upm_n c22, h2, upm_n c21]) r20 (fun j hj => ?_))
    rw [show M6 21 = upd (M 21) (asg A) (nI (12 * x + y)) by rw [h6, upm_n (by decide), h4, upm_n (by decide), h2, upm_s], show M6 22 = upd (M 22) (asg A) (nI z) by rw [h6, upm_n (by decide), h4, upm_s, h2, upm_n (by decide)]]
    unfold addE
    by_cases c : j = asg A
    · subst c; rw [upd_s, upd_s, upN_s, upN_s, upN_s]; exact ⟨rfl, rfl⟩
    · rw [upd_n c, upd_n c, upN_n c, upN_n c, upN_n c]
      exact hX.2.2.2.1.2 j (by omega)
  · have c6 := nlI (j := 8) c6
    rw [if_pos (by omega)] at K
    intro u hu
    rw [if_pos rfl] at hu
    rw [hu]; exact K M hX
theorem xm_forget {A : Ast} {M : Mem} {post : Int32 → Mem → Prop} (hX : IX A M) (K : ∀ M', IX (m_forget A).2 M' → post (m_forget A).1 M') : wp_X_forget M post := by
  unfold wp_X_forget
  intro M1 h1
  rw [hX.2.2.2.1.1]
  exact K M1 (hX.sg (fun c c20 c21 c22 => by rw [h1, upm_n c20]) (by rw [h1, upm_s, upd_s]; rfl) (fun j hj => absurd hj (Nat.not_lt_zero _)))
