/-! the class: what is tried on the trial winter -/
theorem XT_up {T T' : Tld} {M M' : Mem} {c : Nat} (h : XT T M) (hc : c = 11 ∨ c = 13 ∨ c = 14) (hF : F1 c M M') (h11 : HR (M' 11) 12 (T' 0)) (hp : ∀ k, k < T 2 0 → M' 13 k = nI (T' 3 k) ∧ M' 14 k = nI (T' 4 k) ∧ M' 15 k = nI (T' 5 k)) (e1 : T' 1 = T 1) (e2 : T' 2 = T 2) (e6 : T' 6 = T 6) (e7 : T' 7 = T 7) (e8 : T' 8 = T 8) (e9 : T' 9 = T 9) : XT T' M' := by
  have ez : fz M' = fz M := by unfold fz; rw [hF 59 (by omega)]
  have ef : M' (fz M) = M (fz M) := by
    rcases fz_cs M with e | e <;> rw [e]
    · exact hF 12 (by omega)
    · exact hF 57 (by omega)
  obtain ⟨a0, a1, a2, a3, a4, a5, a6, a7, a8⟩ := h
  unfold XT
  rw [ez, ef, e1, e2, e6, e7, e8, e9, hF 10 (by omega), hF 16 (by omega), hF 17 (by omega), hF 18 (by omega), hF 19 (by omega)]
  exact ⟨h11, a1, a2, a3, a4, a5, hp, a7, a8⟩
theorem XT_land {T : Tld} {M M' : Mem} {i v : Nat} (h : XT T M) (hM : M' = upm M 11 i (nI v)) : XT (upT T 0 i v) M' := by
  have hF : F1 11 M M' := F1.rf.up hM
  refine XT_up h (Or.inl rfl) hF ?_ (fun k hk => ?_) (upT_n (by decide)) (upT_n (by decide)) (upT_n (by decide)) (upT_n (by decide)) (upT_n (by decide)) (upT_n (by decide))
  · rw [upT_s, hM, upm_s]; exact h.1.up rfl
  · rw [upT_n (by decide), upT_n (by decide), upT_n (by decide), hF 13 (by decide), hF 14 (by decide), hF 15 (by decide)]
    exact h.2.2.2.2.2.2.1 k hk
theorem XT_begin {T : Tld} {M M' : Mem} {i v : Nat} (h : XT T M) (hM : M' = upm M 13 i (nI v)) : XT (upT T 3 i v) M' := by
  have hF : F1 13 M M' := F1.rf.up hM
  refine XT_up h (Or.inr (Or.inl rfl)) hF ?_ (fun k hk => ?_) (upT_n (by decide)) (upT_n (by decide)) (upT_n (by decide)) (upT_n (by decide)) (upT_n (by decide)) (upT_n (by decide))
  · rw [upT_n (by decide), hF 11 (by decide)]; exact h.1
  · obtain ⟨p3, p4, p5⟩ := h.2.2.2.2.2.2.1 k hk
    rw [upT_s, upT_n (by decide), upT_n (by decide), hF 14 (by decide), hF 15 (by decide)]
    refine ⟨?_, p4, p5⟩
    rw [hM, upm_s]
    by_cases c : k = i
    · subst c; rw [upd_s, upN_s]
    · rw [upd_n c, upN_n c]; exact p3
theorem XT_strong {T : Tld} {M M' : Mem} {i v : Nat} (h : XT T M) (hM : M' = upm M 14 i (nI v)) : XT (upT T 4 i v) M' := by
  have hF : F1 14 M M' := F1.rf.up hM
  refine XT_up h (Or.inr (Or.inr rfl)) hF ?_ (fun k hk => ?_) (upT_n (by decide)) (upT_n (by decide)) (upT_n (by decide)) (upT_n (by decide)) (upT_n (by decide)) (upT_n (by decide))
  · rw [upT_n (by decide), hF 11 (by decide)]; exact h.1
  · obtain ⟨p3, p4, p5⟩ := h.2.2.2.2.2.2.1 k hk
    rw [upT_n (by decide), upT_s, upT_n (by decide), hF 13 (by decide), hF 15 (by decide)]
    refine ⟨p3, ?_, p5⟩
    rw [hM, upm_s]
    by_cases c : k = i
    · subst c; rw [upd_s, upN_s]
    · rw [upd_n c, upN_n c]; exact p4
/-- a run with all events on the trial -/
theorem x_trial {T : Tld} {M : Mem} {post : Mem → Prop} (ok : okT T) (hT : XT T M) (K : ∀ M', Fw 44 M M' → WX 44 T allOn 24 M' → post M') : wp_X_allEvents M (fun r => wp_XW_run 44 r M post) := by
  unfold wp_X_allEvents
  refine x_run (Or.inr rfl) ok hT (fun M' hF hW => K M' hF (hW.c (fun e he => ?_)))
  rw [hT.2.2.2.2.2.1]
  exact all_on _ (by have := ok.2.2.1; omega) e he
theorem x_tryLand {A : Ast} {M : Mem} {i v : Nat} {post : Mem → Prop} (ok : okA A) (hX : IX A M) (hi : i < 12) (hv : v ≤ 2) (K : ∀ M', IX A M' → Kx M M' → WX 44 (upT (tld A) 0 i v) allOn 24 M' → post M') : wp_X_tryLand (nI i) (nI v) M post := by
  have okt := okT_tld ok
  unfold wp_X_tryLand
  rw [tnI (by omega : i < 2 ^ 31)]
  refine ⟨vI hi, fun M2 h2 => x_trial (okT_up0 okt hv) (XT_land hX.2.1 h2) (fun M4 hF hW => ?_)⟩
  intro M6 h6
  have k : Kx M M6 := fun c hc => by
    by_cases c11 : c = 11
    · subst c11; rw [h6, upm_s, hF 11 (by omega), h2, upm_s, upd_upd, upd_self]
    · rw [h6, upm_n c11, hF c (by omega), h2, upm_n c11]
  exact K M6 (hX.k k) k (hW.k (fun c c1 c2 => by rw [h6, upm_n (by omega)]))
theorem x_tryStrength {A : Ast} {M : Mem} {i v : Nat} {post : Mem → Prop} (ok : okA A) (hX : IX A M) (hi : i < tld A 2 0) (hv : v ≤ 9) (K : ∀ M', IX A M' → Kx M M' → M' 58 = M 58 → WX 44 (upT (tld A) 4 i v) allOn 24 M' → post M') : wp_X_tryStrength (nI i) (nI v) M post := by
  have okt := okT_tld ok
  have h8 := okt.2.2.1
  unfold wp_X_tryStrength
  rw [tnI (by omega : i < 2 ^ 31)]
  refine ⟨vI (by omega), fun M2 h2 => x_trial (okT_up4 okt hv) (XT_strong hX.2.1 h2) (fun M4 hF hW => ?_)⟩
  intro M6 h6
  have k : Kx M M6 := fun c hc => by
    by_cases c11 : c = 14
    · subst c11; rw [h6, upm_s, hF 14 (by omega), h2, upm_s, upd_upd, upd_self]
    · rw [h6, upm_n c11, hF c (by omega), h2, upm_n c11]
  exact K M6 (hX.k k) k (by rw [h6, upm_n (by decide), hF 58 (by omega), h2, upm_n (by decide)]) (hW.k (fun c c1 c2 => by rw [h6, upm_n (by omega)]))
theorem xq_begin {A : Ast} {M : Mem} {a1 a2 : Int32} {post : Int32 → Mem → Prop} (ok : okA A) (hX : IX A M) (K : ∀ M', IX A M' → post (q_begin A a1 a2) M') : wp_X_begin a1 a2 M post := by
  have okt := okT_tld ok
  have h8 := okt.2.2.1
  unfold wp_X_begin
  unfold q_begin at K
  rw [hX.2.1.2.2.1, xqn (by omega), xq2]
  refine ⟨fun c1 => ⟨fun c2 => ?_, fun c2 => by rw [if_pos c1, if_neg c2] at K; exact K M hX⟩, fun c1 => by rw [if_neg c1] at K; exact K M hX⟩
  rw [if_pos c1, if_pos c2] at K
  obtain ⟨k, hk, rfl⟩ := inb_of c1
  rw [tnI (by omega)] at K ⊢
  have gle : ∀ i, i < 12 → gBeg (tld A) k i ≤ 8 := fun i hi => many_le (okT_up3 okt (by omega))
  refine ⟨vI (by omega), ?_⟩
  refine it4_f3 12 (by omega) (fun j x y M' => (∀ c, (c < 32 ∨ (32 < c ∧ c < 44) ∨ c = 56 ∨ 59 ≤ c) → c ≠ 13 → M' c = M c) ∧ (∃ v, M' 13 = upd (M 13) k v) ∧ ((j = 0 ∧ x = 0 ∧ y = -1) ∨ (j ≠ 0 ∧ x = nI (amf (gBeg (tld A) k) j).1 ∧ y = nI (amf (gBeg (tld A) k) j).2))) (fun rc j x y M11 hj hI hrec => ?_) 0 0 (-1) M (by omega) ⟨fun _ _ _ => rfl, ⟨M 13 k, (upd_self _ _).symm⟩, Or.inl ⟨rfl, rfl, rfl⟩⟩
  obtain ⟨hF, ⟨v, hv⟩, hxy⟩ := hI
  refine ⟨fun hx => ?_, fun hx => ?_⟩
  · have hj2 : j = 12 := by have := gI (a := 12) hx; omega
    subst hj2
    intro M13 h13 u hu
    have kx : Kx M M13 := fun c hc => by
      by_cases c13 : c = 13
      · subst c13; rw [h13, upm_s, hv, upd_upd, upd_self]
      · rw [h13, upm_n c13, hF c hc c13]
    rcases hxy with ⟨q, -⟩ | ⟨-, rfl, rfl⟩
    · exact absurd q (by decide)
    · rw [hu]; exact K M13 (hX.k kx)
  · have hlt : j < 12 := ngI (a := 12) hx
    intro M17 h17
    have r13 : M17 13 = upd (M 13) k (nI j) := by rw [h17, upm_s, hv, upd_upd]
    have hF17 : ∀ c, (c < 32 ∨ (32 < c ∧ c < 44) ∨ c = 56 ∨ 59 ≤ c) → M17 c = upm M 13 k (nI j) c := fun c hc => by
      by_cases c13 : c = 13
      · subst c13; rw [r13, upm_s]
      · rw [h17, upm_n c13, hF c hc c13, upm_n c13]
    have hT17 : XT (upT (tld A) 3 k j) M17 := XT_kx (XT_begin hX.2.1 rfl) (by rw [upm_n (by decide)]; exact hX.2.2.1) (fun c hc => hF17 c (by omega))
    refine x_trial (okT_up3 okt (by omega)) hT17 (fun M19 hF19 hW => ?_)
    refine x_over (Or.inr rfl) (okT_up3 okt (by omega)) (hT17.k (hF19.tk (Or.inr rfl))) hW (fun M21 hF21 => ?_)
    intro u24 h24 u25 h25
    change u24 = (if nI (gBeg (tld A) k j) ≤ y then x else nI j) at h24
    change u25 = (if nI (gBeg (tld A) k j) ≤ y then y else nI (gBeg (tld A) k j)) at h25
    refine hrec _ _ M21 hlt ⟨fun c hc c13 => by rw [hF21 c (by omega), hF19 c (by omega), hF17 c hc, upm_n c13], ⟨nI j, by rw [hF21 13 (by omega), hF19 13 (by omega), r13]⟩, Or.inr ⟨by omega, ?_⟩⟩
    have g1 := gle j hlt
    rw [h24, h25, amf]
    rcases hxy with ⟨rfl, rfl, rfl⟩ | ⟨j0, rfl, rfl⟩
    · have n1 : ¬ nI (gBeg (tld A) k 0) ≤ -1 := by
        rw [Int32.le_iff_toInt_le, nI_toInt (by omega)]
        have : (-1 : Int32).toInt = -1 := rfl
        omega
      rw [if_neg n1, if_neg n1, if_neg (fun q => q.1 rfl)]
      exact ⟨rfl, rfl⟩
    · have g2 := (amf_le (g := gBeg (tld A) k) (B := 8) j (fun i hi => gle i (by omega))).2
      have e : (nI (gBeg (tld A) k j) ≤ nI (amf (gBeg (tld A) k) j).2) ↔ gBeg (tld A) k j ≤ (amf (gBeg (tld A) k) j).2 := nI_leI (by omega) (by omega)
      by_cases c : gBeg (tld A) k j ≤ (amf (gBeg (tld A) k) j).2
      · rw [if_pos (e.mpr c), if_pos (e.mpr c), if_pos ⟨j0, c⟩]; exact ⟨rfl, rfl⟩
      · rw [if_neg (fun q => c (e.mp q)), if_neg (fun q => c (e.mp q)), if_neg (fun q => c q.2)]; exact ⟨rfl, rfl⟩
theorem xq_hedge {A : Ast} {M : Mem} {a1 : Int32} {post : Int32 → Mem → Prop} (ok : okA A) (hX : IX A M) (K : ∀ M', IX A M' → post (q_hedge A a1) M') : wp_X_hedge a1 M post := by
  have okt := okT_tld ok
  unfold wp_X_hedge
  unfold q_hedge at K
  rw [xq2]
  refine ⟨fun c1 => ?_, fun c1 => by rw [if_neg c1] at K; exact K M hX⟩
  rw [if_pos c1] at K
  have gle : ∀ i, i < 12 → gHed (tld A) i ≤ 120000 := fun i hi => snw_le (okT_up0 okt (by omega)) (by omega)
  refine it4_f3 12 (by omega) (fun j x y M' => IX A M' ∧ ((j = 0 ∧ x = 0 ∧ y = -1) ∨ (j ≠ 0 ∧ x = nI (amn (gHed (tld A)) j).1 ∧ y = nI (amn (gHed (tld A)) j).2))) (fun rc j x y M8 hj hI hrec => ?_) 0 0 (-1) M (by omega) ⟨hX, Or.inl ⟨rfl, rfl, rfl⟩⟩
  obtain ⟨hX8, hxy⟩ := hI
  refine ⟨fun hx => ?_, fun hx => ?_⟩
  · have hj2 : j = 12 := by have := gI (a := 12) hx; omega
    subst hj2
    intro u hu
    rcases hxy with ⟨q, -⟩ | ⟨-, rfl, rfl⟩
    · exact absurd q (by decide)
    · rw [hu]; exact K M8 hX8
  · have hlt : j < 12 := ngI (a := 12) hx
    refine x_tryLand (v := 1) ok hX8 hlt (by omega) (fun M13 hX13 _ hW => ?_)
    refine x_snow (h := 23) (okT_up0 okt (by omega)) hW (by omega) ?_
    intro u17 h17 u18 h18
    change u17 = (if y = -1 then nI j else (if y ≤ nI (gHed (tld A) j) then x else nI j)) at h17
    change u18 = (if y = -1 then nI (gHed (tld A) j) else (if y ≤ nI (gHed (tld A) j) then y else nI (gHed (tld A) j))) at h18
    refine hrec _ _ M13 hlt ⟨hX13, Or.inr ⟨by omega, ?_⟩⟩
    have g1 := gle j hlt
    rw [h17, h18, amn]
    rcases hxy with ⟨rfl, rfl, rfl⟩ | ⟨j0, rfl, rfl⟩
    · rw [if_pos rfl, if_pos rfl, if_neg (fun q => q.1 rfl)]
      exact ⟨rfl, rfl⟩
    · have g2 := (amn_le (g := gHed (tld A)) (B := 120000) j (fun i hi => gle i (by omega))).2
      have n1 : ¬ nI (amn (gHed (tld A)) j).2 = -1 := fun q => by
        have q2 := congrArg Int32.toInt q
        rw [nI_toInt (by omega)] at q2
        have : (-1 : Int32).toInt = -1 := rfl
        omega
      rw [if_neg n1, if_neg n1]
      have e : (nI (amn (gHed (tld A)) j).2 ≤ nI (gHed (tld A) j)) ↔ (amn (gHed (tld A)) j).2 ≤ gHed (tld A) j := nI_leI (by omega) (by omega)
      by_cases c : (amn (gHed (tld A)) j).2 ≤ gHed (tld A) j
      · rw [if_pos (e.mpr c), if_pos (e.mpr c), if_pos ⟨j0, c⟩]; exact ⟨rfl, rfl⟩
      · rw [if_neg (fun q => c (e.mp q)), if_neg (fun q => c (e.mp q)), if_neg (fun q => c q.2)]; exact ⟨rfl, rfl⟩
theorem xq_start {A : Ast} {M : Mem} {a1 a2 : Int32} {post : Int32 → Mem → Prop} (ok : okA A) (hX : IX A M) (K : ∀ M', IX A M' → post (q_start A a1 a2) M') : wp_X_start a1 a2 M post := by
  have okt := okT_tld ok
  have h8 := okt.2.2.1
  unfold wp_X_start
  unfold q_start at K
  rw [hX.2.1.2.2.2.1, xqn (by omega), xq2]
  refine ⟨fun c1 => ⟨fun c2 => ?_, fun c2 => by rw [if_pos c1, if_neg c2] at K; exact K M hX⟩, fun c1 => by rw [if_neg c1] at K; exact K M hX⟩
  rw [if_pos c1, if_pos c2] at K
  refine x_asTold ok hX (fun M5 hX5 hW => ?_)
  have ole : ∀ h, oSt (tld A) h ≤ 24 := fun h => (bus_ok (D := dep (tld A) allOn) (s := h) 24).2.1
  refine it4_f3 24 (by omega) (fun j x y M' => IX A M' ∧ WX 32 (tld A) allOn 24 M' ∧ x = nI (stt (oSt (tld A)) j).1 - 1 ∧ y = nI (stt (oSt (tld A)) j).2 - 1 ∧ ((stt (oSt (tld A)) j).1 = 0 → (stt (oSt (tld A)) j).2 = 0)) (fun rc j x y M12 hj hI hrec => ?_) 0 (-1) (-1) M5 (by omega) ⟨hX5, hW, rfl, rfl, fun _ => rfl⟩
  obtain ⟨hX12, hW12, rfl, rfl, h00⟩ := hI
  obtain ⟨s1, s2, s3⟩ := stt_le ole j
  refine ⟨fun hx => ?_, fun hx => ?_⟩
  · have hj2 : j = 24 := by have := gI (a := 24) hx; omega
    subst hj2
    intro u hu
    rw [hu]
    have := K M12 hX12
    unfold v_start at this
    by_cases c : (stt (oSt (tld A)) 24).1 = 0
    · rw [if_pos c] at this
      rw [c, h00 c]
      have e : (if a2 = 0 then nI 0 - 1 else nI 0 - 1) = (-1 : Int32) := by split <;> rfl
      rw [e]; exact this
    · rw [if_neg c] at this
      exact this
  · have hlt : j < 24 := ngI (a := 24) hx
    refine x_ride (s := j) (u := 23) okt hW12 hlt (by omega) (fun M17 hF hb => ?_)
    intro u22 h22 u23 h23
    have b13 : M17 32 13 = nI (oSt (tld A) j) - 1 := hb.2.1
    rw [b13] at h22 h23
    have oj := ole j
    have e1 := m1_iff (n := oSt (tld A) j) (by omega)
    have e2 := m1_iff (n := (stt (oSt (tld A)) j).2) (by omega)
    refine hrec _ _ M17 hlt ⟨hX12.k (Kx.k1 hF), hF.wx hW12, ?_⟩
    rw [stt]
    by_cases c : oSt (tld A) j = 0
    · rw [if_pos (e1.mpr c)] at h22 h23
      rw [if_pos (Or.inl c)]
      exact ⟨h22, h23, h00⟩
    · rw [if_neg (fun q => c (e1.mp q))] at h22 h23
      by_cases d : (stt (oSt (tld A)) j).2 = 0
      · have d1 : (stt (oSt (tld A)) j).1 = 0 := by
          by_cases z : (stt (oSt (tld A)) j).1 = 0
          · exact z
          · exact absurd d (s3 z)
        rw [if_pos (e2.mpr d)] at h22 h23
        rw [if_neg (by omega)]
        refine ⟨?_, h23, fun q => by simp at q⟩
        rw [h22]; exact (m1n (n := j + 1) (by omega)).symm
      · have d1 : (stt (oSt (tld A)) j).1 ≠ 0 := fun z => d (h00 z)
        rw [if_neg (fun q => d (e2.mp q))] at h22 h23
        have e3 : (nI (stt (oSt (tld A)) j).2 - 1 ≤ nI (oSt (tld A) j) - 1) ↔ (stt (oSt (tld A)) j).2 ≤ oSt (tld A) j := by
          rw [m1n (by omega), m1n (by omega), nI_leI (by omega) (by omega)]; omega
        by_cases f : (stt (oSt (tld A)) j).2 ≤ oSt (tld A) j
        · rw [if_pos (e3.mpr f)] at h22 h23
          rw [if_pos (Or.inr ⟨d1, f⟩)]
          exact ⟨h22, h23, h00⟩
        · rw [if_neg (fun q => f (e3.mp q))] at h22 h23
          rw [if_neg (by omega)]
          refine ⟨?_, h23, fun q => by simp at q⟩
          rw [h22]; exact (m1n (n := j + 1) (by omega)).symm
/-! masks -/
theorem bx_and (x y : Int32) (i : Nat) : bx (x &&& y) i ↔ (bx x i ∧ bx y i) := by
  unfold bx
  have e : (x &&& y) >>> (nI i &&& 31) = (x >>> (nI i &&& 31)) &&& (y >>> (nI i &&& 31)) := by
    apply Int32.toBitVec_inj.mp
    simp only [Int32.toBitVec_and, Int32.toBitVec_shiftRight]
    exact BitVec.sshiftRight_and_distrib _ _ _
  rw [e]
  generalize x >>> (nI i &&& 31) = a
  generalize y >>> (nI i &&& 31) = b
  have e2 : (a &&& b) &&& 1 = (a &&& 1) &&& (b &&& 1) := by
    apply Int32.toBitVec_inj.mp
    simp only [Int32.toBitVec_and]
    ext j hj
    simp
    cases a.toBitVec[j] <;> cases b.toBitVec[j] <;> simp
  rw [e2]
  rcases a01 a with c | c <;> rcases a01 b with d | d <;> rw [c, d] <;> decide
theorem m1sh : ∀ i, i < 24 → (-1 : Int32) >>> (nI i &&& 31) = -1 := by decide +kernel
theorem bx_not (x : Int32) {i : Nat} (hi : i < 24) : bx (x ^^^ (-1)) i ↔ ¬ bx x i := by
  unfold bx
  have e : (x ^^^ (-1)) >>> (nI i &&& 31) = (x >>> (nI i &&& 31)) ^^^ ((-1) >>> (nI i &&& 31)) := by
    apply Int32.toBitVec_inj.mp
    simp only [Int32.toBitVec_xor, Int32.toBitVec_shiftRight]
    exact BitVec.sshiftRight_xor_distrib _ _ _
  rw [e, m1sh i hi]
  generalize x >>> (nI i &&& 31) = a
  have e3 : ∀ b : Int32, (a ^^^ b) &&& 1 = (a &&& 1) ^^^ (b &&& 1) := by
    intro b
    apply Int32.toBitVec_inj.mp
    simp only [Int32.toBitVec_and, Int32.toBitVec_xor]
    ext j hj
    simp
    cases a.toBitVec[j] <;> cases b.toBitVec[j] <;> simp
  have e2 : (a ^^^ (-1)) &&& 1 = (a &&& 1) ^^^ 1 := by
    rw [e3, show (-1 : Int32) &&& 1 = 1 from by decide]
  rw [e2]
  rcases a01 a with c | c <;> rw [c] <;> decide
theorem off_on {E : Nat} (hE : E < 9) (x : Int32) : ∀ e, e < E → onX ((((1 : Int32) <<< (nI E &&& 31)) - 1) &&& (x ^^^ (-1))) e = offm x e := by
  intro e he
  have h1 : bx (((1 : Int32) <<< (nI E &&& 31)) - 1) e := (onX_bx _ _).mp (all_on E hE e he)
  have h2 : onX ((((1 : Int32) <<< (nI E &&& 31)) - 1) &&& (x ^^^ (-1))) e = true ↔ offm x e = true := by
    rw [onX_bx, bx_and, bx_not x (by omega)]
    unfold offm
    rw [decide_eq_true_iff]
    unfold pf_R_isIn
    rw [c10]
    exact ⟨fun q => q.2, fun q => ⟨h1, q⟩⟩
  cases h3 : offm x e with
  | true => exact h2.mpr h3
  | false =>
    cases h4 : onX ((((1 : Int32) <<< (nI E &&& 31)) - 1) &&& (x ^^^ (-1))) e with
    | false => rfl
    | true => rw [h2.mp h4] at h3; exact absurd h3 (by decide)
