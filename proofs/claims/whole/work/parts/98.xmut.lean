/-! the class: what changes -/
theorem ltx {A : Ast} {t n u : Nat} {b : Nat → Int32} (h : u ≠ t) : am (sTx A t n b) u = am A u ∧ abt (sTx A t n b) u = abt A u := by
  have e1 : aln (sTx A t n b) u = aln A u := upN_n h
  have e2 : abt (sTx A t n b) u = abt A u := by
    show (if u = t then b else abt A u) = _
    rw [if_neg h]
  exact ⟨by unfold am; rw [e1, e2], e2⟩
theorem tx0 {A : Ast} {t n : Nat} {b : Nat → Int32} (h : 0 ≠ t) : tld (sTx A t n b) 0 = tld A 0 := by
  funext i
  show (if i < am (sTx A t n b) 0 then lc (abt (sTx A t n b) 0 i) else 0) = (if i < am A 0 then lc (abt A 0 i) else 0)
  rw [(ltx h).1, (ltx h).2]
theorem tx1 {A : Ast} {t n : Nat} {b : Nat → Int32} (h : 1 ≠ t) : tld (sTx A t n b) 1 = tld A 1 := by
  funext i
  show (if i < am (sTx A t n b) 1 then tn (abt (sTx A t n b) 1 i - 48) else 0) = (if i < am A 1 then tn (abt A 1 i - 48) else 0)
  rw [(ltx h).1, (ltx h).2]
theorem tx20 {A : Ast} {t n : Nat} {b : Nat → Int32} (h : 2 ≠ t) : tld (sTx A t n b) 2 0 = tld A 2 0 ∧ tld (sTx A t n b) 3 = tld A 3 ∧ tld (sTx A t n b) 4 = tld A 4 ∧ tld (sTx A t n b) 5 = tld A 5 := by
  refine ⟨?_, ?_, ?_, ?_⟩
  · show (am (sTx A t n b) 2 + 1) / 4 = (am A 2 + 1) / 4
    rw [(ltx h).1]
  · funext i
    show (if 4 * i + 2 < am (sTx A t n b) 2 then tn (abt (sTx A t n b) 2 (4 * i) - 97) else 0) = (if 4 * i + 2 < am A 2 then tn (abt A 2 (4 * i) - 97) else 0)
    rw [(ltx h).1, (ltx h).2]
  · funext i
    show (if 4 * i + 2 < am (sTx A t n b) 2 then tn (abt (sTx A t n b) 2 (4 * i + 1) - 48) else 0) = (if 4 * i + 2 < am A 2 then tn (abt A 2 (4 * i + 1) - 48) else 0)
    rw [(ltx h).1, (ltx h).2]
  · funext i
    show (if 4 * i + 2 < am (sTx A t n b) 2 then (if abt (sTx A t n b) 2 (4 * i + 2) = 101 then 0 else 1) else 0) = (if 4 * i + 2 < am A 2 then (if abt A 2 (4 * i + 2) = 101 then 0 else 1) else 0)
    rw [(ltx h).1, (ltx h).2]
theorem tx21 {A : Ast} {t n : Nat} {b : Nat → Int32} (h : 3 ≠ t) : tld (sTx A t n b) 2 1 = tld A 2 1 ∧ tld (sTx A t n b) 6 = tld A 6 := by
  refine ⟨?_, ?_⟩
  · show am (sTx A t n b) 3 = am A 3
    rw [(ltx h).1]
  · funext i
    show (if i < am (sTx A t n b) 3 then tn (abt (sTx A t n b) 3 i - 97) else 0) = (if i < am A 3 then tn (abt A 3 i - 97) else 0)
    rw [(ltx h).1, (ltx h).2]
theorem txo {A : Ast} {t n : Nat} {b : Nat → Int32} : tld (sTx A t n b) 2 2 = tld A 2 2 ∧ tld (sTx A t n b) 2 3 = tld A 2 3 ∧ tld (sTx A t n b) 7 = tld A 7 ∧ tld (sTx A t n b) 8 = tld A 8 ∧ tld (sTx A t n b) 9 = tld A 9 := by
  refine ⟨?_, ?_, ?_, ?_, ?_⟩
  · show awd (sTx A t n b) = awd A; rfl
  · show aev (sTx A t n b) = aev A; rfl
  · funext i
    show (if i < aev (sTx A t n b) then aet (sTx A t n b) 0 i else 0) = (if i < aev A then aet A 0 i else 0)
    rfl
  · funext i
    show (if i < aev (sTx A t n b) then aet (sTx A t n b) 1 i else 0) = (if i < aev A then aet A 1 i else 0)
    rfl
  · funext i
    show (if i < aev (sTx A t n b) then aet (sTx A t n b) 2 i else 0) = (if i < aev A then aet A 2 i else 0)
    rfl
theorem x_take {A : Ast} {M : Mem} {t n : Nat} {b : Nat → Int32} {post : Mem → Prop} (ok' : okA (sTx A t n b)) (ht : t < 4) (hTx : IXt (sTx A t n b) M) (hT : XT (tld A) M) (h59 : M 59 0 = 0) (K : ∀ M', (∀ c, c ≠ 0 → (c < 10 ∨ 19 < c) → M' c = M c) → M' 0 = upd (upd (M 0) 7 1) 9 1 → XT (tld (sTx A t n b)) M' → post M') : wp_X_takeText (nI t) M post := by
  obtain ⟨a0, a1, a2, a3, a4, a5, a6, a7, a8⟩ := hT
  rw [fz_12 h59] at a1
  have ch : ∀ M1 : Mem, (∀ c, (c < 10 ∨ 19 < c) → M1 c = M c) → (fz M1 = 12 → XT (tld (sTx A t n b)) M1) → wp_X_changed M1 post := by
    intro M1 hF hT1
    unfold wp_X_changed
    intro M2 h2 M3 h3
    have e59 : M1 59 0 = 0 := by rw [hF 59 (by omega)]; exact h59
    refine K M3 (fun c c0 hc => by rw [h3, upm_n c0, h2, upm_n c0, hF c hc]) (by rw [h3, upm_s, h2, upm_s, hF 0 (by omega)]) ?_
    exact XT_kx (hT1 (fz_12 e59)) e59 (fun c hc => by rw [h3, upm_n (by omega), h2, upm_n (by omega)])
  unfold wp_X_takeText
  rw [i0 t (by omega), i1' t (by omega), i2' t (by omega), tnI (by omega : t < 2 ^ 31)]
  refine ⟨fun c => ⟨vI ht, ?_⟩, fun c => ⟨vI ht, ?_⟩, fun c => ⟨vI ht, ?_⟩, fun c0 c1 c2 => ⟨vI ht, ?_⟩⟩
  · subst c
    refine x_land ok' hTx (fun M1 hF h11 => ch M1 (fun c hc => hF c (by omega)) (fun ez => ?_))
    unfold XT
    obtain ⟨o1, o2, o3, o4, o5⟩ := txo (A := A) (t := 0) (n := n) (b := b)
    rw [ez, o1, o2, o3, o4, o5, hF 12 (by decide), hF 10 (by decide), hF 13 (by decide), hF 14 (by decide), hF 15 (by decide), hF 16 (by decide), hF 17 (by decide), hF 18 (by decide), hF 19 (by decide), tx1 (by decide), (tx20 (A := A) (n := n) (b := b) (show 2 ≠ 0 by decide)).1, (tx20 (A := A) (n := n) (b := b) (show 2 ≠ 0 by decide)).2.1, (tx20 (A := A) (n := n) (b := b) (show 2 ≠ 0 by decide)).2.2.1, (tx20 (A := A) (n := n) (b := b) (show 2 ≠ 0 by decide)).2.2.2, (tx21 (A := A) (n := n) (b := b) (show 3 ≠ 0 by decide)).1, (tx21 (A := A) (n := n) (b := b) (show 3 ≠ 0 by decide)).2]
    exact ⟨h11, a1, a2, a3, a4, a5, a6, a7, a8⟩
  · subst c
    refine x_fall ok' hTx h59 (fun M1 hF h12 => ch M1 (fun c hc => hF c (by omega)) (fun ez => ?_))
    unfold XT
    obtain ⟨o1, o2, o3, o4, o5⟩ := txo (A := A) (t := 1) (n := n) (b := b)
    rw [ez, o1, o2, o3, o4, o5, hF 11 (by decide), hF 10 (by decide), hF 13 (by decide), hF 14 (by decide), hF 15 (by decide), hF 16 (by decide), hF 17 (by decide), hF 18 (by decide), hF 19 (by decide), tx0 (by decide), (tx20 (A := A) (n := n) (b := b) (show 2 ≠ 1 by decide)).1, (tx20 (A := A) (n := n) (b := b) (show 2 ≠ 1 by decide)).2.1, (tx20 (A := A) (n := n) (b := b) (show 2 ≠ 1 by decide)).2.2.1, (tx20 (A := A) (n := n) (b := b) (show 2 ≠ 1 by decide)).2.2.2, (tx21 (A := A) (n := n) (b := b) (show 3 ≠ 1 by decide)).1, (tx21 (A := A) (n := n) (b := b) (show 3 ≠ 1 by decide)).2]
    exact ⟨a0, h12, a2, a3, a4, a5, a6, a7, a8⟩
  · subst c
    refine x_plh ok' hTx (fun M1 hF h10 hp => ch M1 (fun c hc => hF c (by omega) (by omega) (by omega) (by omega)) (fun ez => ?_))
    have f : ∀ c, c = 11 ∨ c = 12 ∨ c = 16 ∨ c = 17 ∨ c = 18 ∨ c = 19 → M1 c = M c := fun c hc => hF c (by omega) (by omega) (by omega) (by omega)
    unfold XT
    obtain ⟨o1, o2, o3, o4, o5⟩ := txo (A := A) (t := 2) (n := n) (b := b)
    rw [ez, o1, o2, o3, o4, o5, f 11 (by omega), f 12 (by omega), f 16 (by omega), f 17 (by omega), f 18 (by omega), f 19 (by omega), tx0 (by decide), tx1 (by decide), (tx21 (A := A) (n := n) (b := b) (show 3 ≠ 2 by decide)).1, (tx21 (A := A) (n := n) (b := b) (show 3 ≠ 2 by decide)).2]
    refine ⟨a0, a1, by rw [h10, upd_s], by rw [h10, upd_n (by decide)]; exact a3, by rw [h10, upd_n (by decide)]; exact a4, by rw [h10, upd_n (by decide)]; exact a5, hp, a7, a8⟩
  · have t3 : t = 3 := by omega
    subst t3
    refine x_buses ok' hTx (fun M1 hF h10 hp => ch M1 (fun c hc => hF c (by omega) (by omega)) (fun ez => ?_))
    have f : ∀ c, c = 11 ∨ c = 12 ∨ c = 13 ∨ c = 14 ∨ c = 15 ∨ c = 17 ∨ c = 18 ∨ c = 19 → M1 c = M c := fun c hc => hF c (by omega) (by omega)
    unfold XT
    obtain ⟨o1, o2, o3, o4, o5⟩ := txo (A := A) (t := 3) (n := n) (b := b)
    rw [ez, o1, o2, o3, o4, o5, f 11 (by omega), f 12 (by omega), f 13 (by omega), f 14 (by omega), f 15 (by omega), f 17 (by omega), f 18 (by omega), f 19 (by omega), tx0 (by decide), tx1 (by decide), (tx20 (A := A) (n := n) (b := b) (show 2 ≠ 3 by decide)).1, (tx20 (A := A) (n := n) (b := b) (show 2 ≠ 3 by decide)).2.1, (tx20 (A := A) (n := n) (b := b) (show 2 ≠ 3 by decide)).2.2.1, (tx20 (A := A) (n := n) (b := b) (show 2 ≠ 3 by decide)).2.2.2]
    refine ⟨a0, a1, by rw [h10, upd_n (by decide)]; exact a2, by rw [h10, upd_s], by rw [h10, upd_n (by decide)]; exact a4, by rw [h10, upd_n (by decide)]; exact a5, a6, hp, a8⟩
theorem IXc_1 {T : Tld} {M : Mem} {f : Nat → Int32} (h : M 0 = upd (upd f 7 1) 9 1) : IXc T M := by
  refine ⟨fun q => ?_, fun q => ?_⟩
  · rw [h, upd_n (by decide), upd_s] at q; exact absurd q (by decide)
  · rw [h, upd_s] at q; exact absurd q (by decide)
/-- a text changed, then taken -/
theorem x_texted {A : Ast} {M M1 : Mem} {t n : Nat} {b : Nat → Int32} {post : Mem → Prop} (ok' : okA (sTx A t n b)) (ht : t < 4) (hX : IX A M) (hF : ∀ c, c ≠ 2 + 2 * t → c ≠ 3 + 2 * t → M1 c = M c) (e0 : M1 (2 + 2 * t) 0 = nI t) (e2 : M1 (2 + 2 * t) 2 = nI n) (e3 : ∀ i, i < n → M1 (3 + 2 * t) i = b i) (K : ∀ M', IX (sTx A t n b) M' → M' (2 + 2 * t) 2 = nI n → post M') : wp_X_takeText (nI t) M1 post := by
  obtain ⟨h1, h2, h3, h4, h5, h6, h7⟩ := hX
  have hTx : IXt (sTx A t n b) M1 := fun u hu => by
    by_cases c : u = t
    · subst c
      refine ⟨e0, ?_, fun i hi => ?_⟩
      · rw [e2]; show nI n = nI (upN (aln A) u n u); rw [upN_s]
      · change i < upN (aln A) u n u at hi
        rw [upN_s] at hi
        rw [e3 i hi]
        show b i = (if u = u then b else abt A u) i
        rw [if_pos rfl]
    · have : aln (sTx A t n b) u = aln A u := upN_n c
      rw [this, (ltx c).2, hF (2 + 2 * u) (by omega) (by omega), hF (3 + 2 * u) (by omega) (by omega)]
      exact h1 u hu
  have e59 : M1 59 0 = 0 := by rw [hF 59 (by omega) (by omega)]; exact h3
  refine x_take ok' ht hTx (XT_kx h2 h3 (fun c hc => hF c (by omega) (by omega))) e59 (fun M' hF' h0 hT' => ?_)
  have f : ∀ c, 20 ≤ c → M' c = M c := fun c hc => by rw [hF' c (by omega) (by omega), hF c (by omega) (by omega)]
  refine K M' ⟨hTx.k (fun c hc => hF' c (by omega) (by omega)), hT', by rw [f 59 (by omega)]; exact h3, IXs.k (A := A) h4 (fun c hc => f c (by omega)), IXh.k (A := A) h5 (fun c hc => f c (by omega)), ?_, IXc_1 h0⟩ (by rw [hF' _ (by omega) (by omega)]; exact e2)
  rw [h0, upd_n (by decide), upd_n (by decide), hF 0 (by omega) (by omega)]
  exact h6
theorem xm_type {A : Ast} {M : Mem} {a1 a2 : Int32} {post : Int32 → Mem → Prop} (ok : okA A) (hX : IX A M) (K : ∀ M', IX (m_type A a1 a2).2 M' → post (m_type A a1 a2).1 M') : wp_X_type a1 a2 M post := by
  have oky := okA_type ok a1 a2
  unfold wp_X_type
  unfold m_type at K oky
  rw [xq4, show (pf_X_outside a2 256 = 0) = inb a2 256 from xqn (n := 256) (by omega)]
  refine ⟨fun c1 => ⟨fun c2 => ?_, fun c2 => by rw [if_pos c1, if_neg c2] at K; exact K M hX⟩, fun c1 => by rw [if_neg c1] at K; exact K M hX⟩
  rw [if_pos c1, if_pos c2] at K oky
  obtain ⟨t, ht, rfl⟩ := inb_of c1
  rw [tnI (by omega : t < 2 ^ 31)] at K oky ⊢
  refine ⟨vI ht, ?_⟩
  obtain ⟨x0, x2, x3⟩ := hX.1 t ht
  have l24 := tlen_le t ht
  have hl := ok.1 t ht
  unfold wp_XT_append
  rw [x2, tnI (by omega : aln A t < 2 ^ 31)]
  refine ⟨fun c3 => ?_, fun c3 => ?_⟩
  · have c3 := lI c3
    rw [if_neg (by omega)] at K oky
    refine ⟨vI (by omega), fun M2 h2 M4 h4 => ⟨fun q => absurd q (by decide), fun _ => ?_⟩⟩
    rw [show M2 (2 + 2 * t) 2 = nI (aln A t) by rw [h2, upm_n (by omega)]; exact x2, ia1] at h4
    refine x_texted oky ht hX (fun c c1 c2 => by rw [h4, upm_n c1, h2, upm_n c2]) (by rw [h4, upm_s, upd_n (by decide), h2, upm_n (by omega)]; exact x0) (by rw [h4, upm_s, upd_s]) (fun i hi => ?_) (fun M10 hX10 e => ?_)
    · rw [h4, upm_n (by omega), h2, upm_s]
      by_cases q : i = aln A t
      · subst q; rw [upd_s, upd_s]
      · rw [upd_n q, upd_n q]; exact x3 i (by omega)
    · rw [e]; exact K M10 hX10
  · have c3 := nlI c3
    rw [if_pos (by omega)] at K
    exact ⟨fun _ => K M hX, fun q => absurd rfl q⟩
theorem xm_wipe {A : Ast} {M : Mem} {a1 : Int32} {post : Int32 → Mem → Prop} (ok : okA A) (hX : IX A M) (K : ∀ M', IX (m_wipe A a1).2 M' → post (m_wipe A a1).1 M') : wp_X_wipe a1 M post := by
  have oky := okA_wipe ok a1
  unfold wp_X_wipe
  unfold m_wipe at K oky
  rw [xq4]
  refine ⟨fun c1 => ?_, fun c1 => by rw [if_neg c1] at K; exact K M hX⟩
  rw [if_pos c1] at K oky
  obtain ⟨t, ht, rfl⟩ := inb_of c1
  rw [tnI (by omega : t < 2 ^ 31)] at K oky ⊢
  obtain ⟨x0, x2, x3⟩ := hX.1 t ht
  refine ⟨vI ht, fun x5 h5 M7 h7 => ?_⟩
  rw [h5, x2]
  exact x_texted oky ht hX (fun c c1 c2 => by rw [h7, upm_n c1]) (by rw [h7, upm_s, upd_n (by decide)]; exact x0) (by rw [h7, upm_s, upd_s]; rfl) (fun i hi => absurd hi (Nat.not_lt_zero _)) (fun M10 hX10 e => K M10 hX10)
theorem xm_undo {A : Ast} {M : Mem} {a1 : Int32} {post : Int32 → Mem → Prop} (ok : okA A) (hX : IX A M) (K : ∀ M', IX (m_undo A a1).2 M' → post (m_undo A a1).1 M') : wp_X_undo a1 M post := by
  have oky := okA_undo ok a1
  unfold wp_X_undo
  unfold m_undo at K oky
  rw [xq4]
  refine ⟨fun c1 => ?_, fun c1 => by rw [if_neg c1] at K; exact K M hX⟩
  rw [if_pos c1] at K oky
  obtain ⟨t, ht, rfl⟩ := inb_of c1
  rw [tnI (by omega : t < 2 ^ 31)] at K oky ⊢
  obtain ⟨x0, x2, x3⟩ := hX.1 t ht
  have l24 := tlen_le t ht
  have hl := ok.1 t ht
  refine ⟨vI ht, ?_⟩
  rw [x2, i0 _ (by omega)]
  refine ⟨fun c3 => by rw [if_pos c3] at K; exact K M hX, fun c3 => ?_⟩
  rw [if_neg c3] at K oky
  intro M7 h7
  rw [m1n (by omega)] at h7
  refine x_texted oky ht hX (fun c c1 c2 => by rw [h7, upm_n c1]) (by rw [h7, upm_s, upd_n (by decide)]; exact x0) (by rw [h7, upm_s, upd_s]) (fun i hi => by rw [h7, upm_n (by omega)]; exact x3 i (by omega)) (fun M10 hX10 e => ?_)
  rw [e]; exact K M10 hX10
