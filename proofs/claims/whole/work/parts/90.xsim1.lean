/-! THE CLASS: the hours one by one -/
def XT (T : Tld) (M : Mem) : Prop := HR (M 11) 12 (T 0) ∧ HR (M (fz M)) 24 (T 1) ∧ M 10 2 = nI (T 2 0) ∧ M 10 6 = nI (T 2 1) ∧ M 10 8 = nI (T 2 2) ∧ M 10 9 = nI (T 2 3) ∧ (∀ k, k < T 2 0 → M 13 k = nI (T 3 k) ∧ M 14 k = nI (T 4 k) ∧ M 15 k = nI (T 5 k)) ∧ (∀ k, k < T 2 1 → M 16 k = nI (T 6 k)) ∧ (∀ e, e < T 2 3 → M 17 e = nI (T 7 e) ∧ M 18 e = nI (T 8 e) ∧ M 19 e = nI (T 9 e))
def Tk (M M' : Mem) : Prop := ∀ c, (10 ≤ c ∧ c ≤ 19) ∨ c = 57 ∨ c = 59 → M' c = M c
theorem Tk.rf {M : Mem} : Tk M M := fun _ _ => rfl
theorem Tk.tr {M M1 M2 : Mem} (h : Tk M M1) (h2 : Tk M1 M2) : Tk M M2 := fun c hc => (h2 c hc).trans (h c hc)
theorem fz_cs (M : Mem) : fz M = 12 ∨ fz M = 57 := by
  unfold fz; split
  · exact Or.inl rfl
  · exact Or.inr rfl
theorem XT.k {T : Tld} {M M' : Mem} (h : XT T M) (k : Tk M M') : XT T M' := by
  have ez : fz M' = fz M := by unfold fz; rw [k 59 (by omega)]
  have ef : M' (fz M) = M (fz M) := by
    rcases fz_cs M with e | e <;> rw [e]
    · exact k 12 (by omega)
    · exact k 57 (by omega)
  unfold XT at h ⊢
  rw [ez, ef, k 11 (by omega), k 10 (by omega), k 13 (by omega), k 14 (by omega), k 15 (by omega), k 16 (by omega), k 17 (by omega), k 18 (by omega), k 19 (by omega)]
  exact h
def okW (w : Nat) : Prop := w = 32 ∨ w = 44
/-- all but the cells w .. w + 11 stand -/
def Fw (w : Nat) (M M' : Mem) : Prop := ∀ c, (c < w ∨ w + 12 ≤ c) → M' c = M c
theorem Fw.rf {w : Nat} {M : Mem} : Fw w M M := fun _ _ => rfl
theorem Fw.tr {w : Nat} {M M1 M2 : Mem} (h : Fw w M M1) (h2 : Fw w M1 M2) : Fw w M M2 := fun c hc => (h2 c hc).trans (h c hc)
theorem Fw.up {w k i : Nat} {M M1 M2 : Mem} {v : Int32} (h : Fw w M M1) (h2 : M2 = upm M1 k i v) (hk : w ≤ k ∧ k < w + 12) : Fw w M M2 := fun c hc => by
  rw [h2, upm_n (by omega)]; exact h c hc
theorem Fw.ur {w k : Nat} {M M1 M2 : Mem} {f : Nat → Int32} (h : Fw w M M1) (h2 : M2 = upr M1 k f) (hk : w ≤ k ∧ k < w + 12) : Fw w M M2 := fun c hc => by
  rw [h2, upr_n (by omega)]; exact h c hc
theorem Fw.tk {w : Nat} {M M' : Mem} (hw : okW w) (h : Fw w M M') : Tk M M' := fun c hc => h c (by unfold okW at hw; omega)
/-- only one cell changed -/
def F1 (k : Nat) (M M' : Mem) : Prop := ∀ c, c ≠ k → M' c = M c
theorem F1.rf {k : Nat} {M : Mem} : F1 k M M := fun _ _ => rfl
theorem F1.tr {k : Nat} {M M1 M2 : Mem} (h : F1 k M M1) (h2 : F1 k M1 M2) : F1 k M M2 := fun c hc => (h2 c hc).trans (h c hc)
theorem F1.up {k i : Nat} {M M1 M2 : Mem} {v : Int32} (h : F1 k M M1) (h2 : M2 = upm M1 k i v) : F1 k M M2 := fun c hc => by
  rw [h2, upm_n hc]; exact h c hc
theorem F1.fw {w k : Nat} {M M' : Mem} (h : F1 k M M') (hk : w ≤ k ∧ k < w + 12) : Fw w M M' := fun c hc => h c (by omega)
theorem F1.tk {w k : Nat} {M M' : Mem} (hw : okW w) (h : F1 k M M') (hk : w ≤ k ∧ k < w + 12) : Tk M M' := (h.fw hk).tk hw
def onX (a : Int32) (e : Nat) : Bool := decide (((a >>> (nI e &&& 31)) &&& 1) = 1)
theorem x_falls {T : Tld} {M : Mem} {w h B : Nat} {d : Nat → Nat} {post : Mem → Prop} (hw : okW w) (ok : okT T) (hT : XT T M) (hd : HR (M (w + 9)) 12 d) (hB : ∀ i, d i ≤ B) (hB2 : B ≤ 10000) (K : ∀ M', F1 (w + 9) M M' → HR (M' (w + 9)) 12 (fal T h d) → post M') : wp_XW_snowFalls w (nI (T 1 h)) M post := by
  have hf := ok.2.1 h
  unfold wp_XW_snowFalls
  rw [show (0 : Int32) = nI 0 from rfl, nI_eq (by omega) (by omega)]
  refine ⟨fun c => K M F1.rf (hd.eq (fun i _ => by unfold fal; rw [c]; simp)), fun c => ?_⟩
  refine it2_f1 12 (by omega) (fun j M' => F1 (w + 9) M M' ∧ HR (M' (w + 9)) 12 (fun i => if i < j then fal T h d i else d i)) (fun rc j M5 hj hI hrec => ?_) 0 M (by omega) ⟨F1.rf, hd.eq (fun i _ => by simp)⟩
  obtain ⟨hF, hr⟩ := hI
  refine ⟨fun hx => ?_, fun hx => ?_⟩
  · have hj2 : j = 12 := by have := gI (a := 12) hx; omega
    subst hj2
    exact K M5 hF (hr.eq (fun i hi => by rw [if_pos hi]))
  · have hlt : j < 12 := ngI (a := 12) hx
    have er : M5 (w + 9) j = nI (d j) := by
      rw [hr j hlt]
      show nI (if j < j then _ else _) = _
      rw [if_neg (Nat.lt_irrefl _)]
    rw [tnI (by omega : j < 2 ^ 31), hF 11 (by unfold okW at hw; omega), hT.1 j hlt, er]
    refine ⟨vI hlt, fun u hu M10 h10 => hrec M10 hlt ⟨hF.up h10, ?_⟩⟩
    have h2 := ok.1 j
    have hu2 : u = nI (T 1 h + (if T 0 j = 2 ∧ 0 < T 1 h then 1 else 0)) := by
      have e2 : (nI (T 0 j) = 2) ↔ T 0 j = 2 := nI_eq (b := 2) (by omega) (by omega)
      rw [hu, ia1]
      by_cases q : T 0 j = 2
      · rw [if_pos (e2.mpr q), if_pos ⟨q, by omega⟩]
      · rw [if_neg (fun z => q (e2.mp z)), if_neg (fun z => q z.1)]; rfl
    rw [hu2, nI_add] at h10
    rw [h10, upm_s]
    refine (hr.up (k := j) rfl).eq (fun i hi => ?_)
    by_cases q : i = j
    · subst q; rw [upN_s, if_pos (Nat.lt_succ_self _)]; rfl
    · rw [upN_n q]
      show (if i < j then _ else _) = _
      by_cases z : i < j
      · rw [if_pos z, if_pos (by omega)]
      · rw [if_neg z, if_neg (by omega)]
def wgo (T : Tld) (v : Nat) (d : Nat → Nat) (j : Nat) : Nat → Nat := fun i => if i < j then d i else d i - car T v d i + (if i ≤ j then 0 else car T v d (i - 1))
theorem x_wind {T : Tld} {M : Mem} {w v B : Nat} {d : Nat → Nat} {post : Mem → Prop} (hw : okW w) (ok : okT T) (hT : XT T M) (hd : HR (M (w + 9)) 12 d) (hB : ∀ i, d i ≤ B) (hB2 : B ≤ 10000) (hv : v ≤ 1000) (K : ∀ M', F1 (w + 9) M M' → HR (M' (w + 9)) 12 (blo T v d) → post M') : wp_XW_windCarries w (nI v) M post := by
  unfold wp_XW_windCarries
  refine it2_R (fun x M' => F1 (w + 9) M M' ∧ ((∃ m, m < 12 ∧ x = nI m ∧ HR (M' (w + 9)) 12 (wgo T v d (m + 1))) ∨ (x = -1 ∧ HR (M' (w + 9)) 12 (wgo T v d 0)))) (fun x _ => if x < 0 then 0 else tn x + 1) ?_ 4096 11 M ⟨F1.rf, Or.inl ⟨11, by omega, rfl, hd.eq (fun i hi => by unfold wgo; rw [if_pos (by omega)])⟩⟩ (by decide)
  rintro rc x M4 ⟨hF, hx⟩ hrec
  rcases hx with ⟨m, hm, rfl, hr⟩ | ⟨rfl, hr⟩
  · have n0 : ¬ nI m < 0 := fun q => by have := lI (j := 0) q; omega
    refine ⟨fun q => absurd q n0, fun _ => ?_⟩
    have nxt : ∀ M', F1 (w + 9) M M' → HR (M' (w + 9)) 12 (wgo T v d m) → rc (nI m + -1) M' := by
      intro M' hF' hr'
      rcases m with _ | m
      · refine hrec _ _ ⟨hF', Or.inr ⟨by decide, hr'⟩⟩ ?_
        rw [show nI 0 + -1 = (-1 : Int32) from by decide]; decide
      · have e : nI (m + 1) + -1 = nI m := by rw [← ia1]; grind
        refine hrec _ _ ⟨hF', Or.inl ⟨m, by omega, e, hr'⟩⟩ ?_
        rw [e, if_neg (fun q => by have := lI (j := 0) q; omega), if_neg n0, tnI (by omega), tnI (by omega)]
        omega
    have wm : wgo T v d (m + 1) m = d m := by unfold wgo; rw [if_pos (by omega)]
    have l0 := ok.1 m
    rw [tnI (by omega : m < 2 ^ 31), hF 11 (by unfold okW at hw; omega), hT.1 m hm, hr m hm, wm, show (0 : Int32) = nI 0 from rfl, nI_eq (by omega) (by omega)]
    have bm := hB m
    refine ⟨vI hm, fun c => ⟨fun c2 => ?_, fun c2 => ?_⟩, fun c => ?_⟩
    · have c2 := gI (j := 0) c2
      have c0 : car T v d m = 0 := by unfold car; rw [if_pos c, show d m = 0 by omega]; simp
      refine nxt M4 hF (hr.eq (fun i hi => ?_))
      unfold wgo
      by_cases q : i = m
      · subst q; rw [if_pos (by omega), if_neg (by omega), if_pos (Nat.le_refl _), c0]; omega
      · by_cases z : i = m + 1
        · subst z; rw [if_neg (Nat.lt_irrefl _), if_pos (Nat.le_refl _), if_neg (by omega), if_neg (by omega), show m + 1 - 1 = m by omega, c0]
        · by_cases y : i < m
          · rw [if_pos (by omega), if_pos y]
          · rw [if_neg (by omega), if_neg y, if_neg (by omega), if_neg (by omega)]
    · have cm : car T v d m = min v (d m) := by unfold car; rw [if_pos c]
      intro u hu M11 h11
      have hu2 : u = nI (car T v d m) := by
        rw [hu, cm]
        by_cases q : v ≤ d m
        · rw [if_pos ((nI_leI (by omega) (by omega)).mpr q), Nat.min_eq_left q]
        · rw [if_neg (fun z => q ((nI_leI (by omega) (by omega)).mp z)), Nat.min_eq_right (by omega)]
      have cle : car T v d m ≤ d m := by rw [cm]; omega
      rw [hu2, isub cle] at h11
      have r11 := hr.up (k := m) (v := d m - car T v d m) (x := nI (d m - car T v d m)) rfl
      refine ⟨fun q => ?_, fun q => ?_⟩
      · have q := gI (a := 11) q
        refine nxt M11 (hF.up h11) ?_
        rw [h11, upm_s]
        refine r11.eq (fun i hi => ?_)
        unfold upN wgo
        by_cases z : i = m
        · subst z; rw [if_pos rfl, if_neg (by omega), if_pos (Nat.le_refl _)]; omega
        · rw [if_neg z, if_pos (by omega), if_pos (by omega)]
      · have q := ngI (a := 11) q
        have e12 : M11 (w + 9) (m + 1) = nI (d (m + 1) - car T v d (m + 1)) := by
          rw [h11, upm_s, upd_n (by omega), hr (m + 1) (by omega)]
          congr 1
          unfold wgo; rw [if_neg (by omega), if_pos (Nat.le_refl _)]; omega
        rw [ia1, tnI (by omega : m + 1 < 2 ^ 31), e12, hu2, nI_add]
        refine ⟨vI (by omega), fun M14 h14 => nxt M14 ((hF.up h11).up h14) ?_⟩
        rw [h14, upm_s, h11, upm_s]
        refine (r11.up (k := m + 1) rfl).eq (fun i hi => ?_)
        unfold upN wgo
        by_cases z : i = m + 1
        · subst z; rw [if_pos rfl, if_neg (by omega), if_neg (by omega), show m + 1 - 1 = m by omega]
        · rw [if_neg z]
          by_cases y : i = m
          · subst y; rw [if_pos rfl, if_neg (by omega), if_pos (Nat.le_refl _)]; omega
          · rw [if_neg y]
            by_cases x : i < m
            · rw [if_pos (by omega), if_pos x]
            · rw [if_neg (by omega), if_neg x, if_neg (by omega), if_neg (by omega)]
    · have c0 : car T v d m = 0 := by unfold car; rw [if_neg c]
      refine nxt M4 hF (hr.eq (fun i hi => ?_))
      unfold wgo
      by_cases q : i = m
      · subst q; rw [if_pos (by omega), if_neg (by omega), if_pos (Nat.le_refl _), c0]; omega
      · by_cases z : i = m + 1
        · subst z; rw [if_neg (Nat.lt_irrefl _), if_pos (Nat.le_refl _), if_neg (by omega), if_neg (by omega), show m + 1 - 1 = m by omega, c0]
        · by_cases y : i < m
          · rw [if_pos (by omega), if_pos y]
          · rw [if_neg (by omega), if_neg y, if_neg (by omega), if_neg (by omega)]
  · refine ⟨fun _ => K M4 hF (hr.eq (fun i hi => ?_)), fun q => absurd (by decide) q⟩
    unfold wgo blo
    rw [if_neg (by omega)]
    by_cases c : i = 0
    · subst c; rw [if_pos (Nat.le_refl _), if_pos rfl]
    · rw [if_neg (by omega), if_neg c]
theorem x_thaws {T : Tld} {M : Mem} {a : Int32} {w h B : Nat} {d : Nat → Nat} {post : Mem → Prop} (hw : okW w) (ok : okT T) (hT : XT T M) (hh : h < 24) (hd : HR (M (w + 9)) 12 d) (hB : ∀ i, d i ≤ B) (hB2 : B ≤ 20000) (K : ∀ M', F1 (w + 9) M M' → HR (M' (w + 9)) 12 (thw T (onX a) h d (T 2 3)) → post M') : wp_XW_snowThaws w (nI h) a M post := by
  have h8 := ok.2.2.1
  unfold wp_XW_snowThaws
  refine it2_f1 (T 2 3) (by omega) (fun j M' => F1 (w + 9) M M' ∧ HR (M' (w + 9)) 12 (thw T (onX a) h d j)) (fun rc j M4 hj hI hrec => ?_) 0 M (by omega) ⟨F1.rf, hd⟩
  obtain ⟨hF, hr⟩ := hI
  have hT4 := hT.k (hF.tk hw (by omega))
  rw [hT4.2.2.2.2.2.1]
  refine ⟨fun hx => ?_, fun hx => ?_⟩
  · have hj2 : j = T 2 3 := by have := gI hx; omega
    subst hj2
    exact K M4 hF hr
  · have hlt : j < T 2 3 := ngI hx
    obtain ⟨e7, e8, e9⟩ := hT4.2.2.2.2.2.2.2.2 j hlt
    have b7 := ok.2.2.2.2.2.2.2.1 j
    have b8 := ok.2.2.2.2.2.2.2.2.1 j
    have b9 := ok.2.2.2.2.2.2.2.2.2 j
    rw [tnI (by omega : j < 2 ^ 31), e7, e8, e9, tnI (by omega : T 9 j < 2 ^ 31), show (2 : Int32) = nI 2 from rfl, nI_eq (by omega) (by omega), nI_eq (by omega) (by omega)]
    have skip : ¬ (T 7 j = 2 ∧ T 8 j = h ∧ onX a j = true) → rc (nI j + 1) M4 := fun q => hrec M4 hlt ⟨hF, hr.eq (fun i _ => by rw [thw, if_neg q])⟩
    refine ⟨vI (by omega), fun c1 => ⟨fun c2 => ⟨fun c3 => ?_, fun c3 => ?_⟩, fun c2 => skip (fun q => c2 q.2.1)⟩, fun c1 => skip (fun q => c1 q.1)⟩
    · have con : onX a j = true := by unfold onX; exact decide_eq_true c3
      refine ⟨vI (by omega), fun M11 h11 => hrec M11 hlt ⟨hF.up h11, ?_⟩⟩
      have tl := thw_le (T := T) (on := onX a) (h := h) (d := d) j (T 9 j)
      have := hB (T 9 j)
      rw [h11, upm_s, hr (T 9 j) (by omega), pk_div (by omega) (by omega) (by omega)]
      refine (hr.up (k := T 9 j) rfl).eq (fun i hi => ?_)
      rw [thw, if_pos ⟨c1, c2, con⟩]
    · exact skip (fun q => c3 (of_decide_eq_true q.2.2))
