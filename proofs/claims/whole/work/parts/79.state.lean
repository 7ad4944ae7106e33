/-! what both sides hold, in one words: texts, wind, events, sights, sheets, the latest finding -/
abbrev Ast : Type := (Nat → Nat) × (Nat → Nat → Int32) × Nat × Nat × (Nat → Nat → Nat) × Nat × (Nat → Nat → Nat) × (Nat → Int32) × (Nat → Nat) × (Nat → Nat → Int32) × Int32
def aln (A : Ast) : Nat → Nat := A.1
def abt (A : Ast) : Nat → Nat → Int32 := A.2.1
def awd (A : Ast) : Nat := A.2.2.1
def aev (A : Ast) : Nat := A.2.2.2.1
def aet (A : Ast) : Nat → Nat → Nat := A.2.2.2.2.1
def asg (A : Ast) : Nat := A.2.2.2.2.2.1
def ase (A : Ast) : Nat → Nat → Nat := A.2.2.2.2.2.2.1
def afo (A : Ast) : Nat → Int32 := A.2.2.2.2.2.2.2.1
def asz (A : Ast) : Nat → Nat := A.2.2.2.2.2.2.2.2.1
def ait (A : Ast) : Nat → Nat → Int32 := A.2.2.2.2.2.2.2.2.2.1
def afd (A : Ast) : Int32 := A.2.2.2.2.2.2.2.2.2.2
def okA (A : Ast) : Prop := (∀ t, t < 4 → aln A t ≤ tlen t) ∧ awd A ≤ 9 ∧ aev A ≤ 8 ∧ (∀ e, e < aev A → aet A 0 e ≤ 2 ∧ aet A 1 e ≤ 23 ∧ aet A 2 e ≤ 11) ∧ asg A ≤ 8 ∧ (∀ j, j < asg A → ase A 0 j ≤ 23 ∧ ase A 1 j ≤ 11 ∧ ase A 2 j ≤ 99) ∧ (∀ s, s < 4 → afo A s = -1 ∨ afo A s = 0 ∨ afo A s = 1 ∨ afo A s = 2) ∧ (∀ s, s < 4 → asz A s ≤ 60)
def am (A : Ast) (t : Nat) : Nat := mnt t (abt A t) (aln A t)
def tld (A : Ast) : Tld := fun r i =>
  if r = 0 then (if i < am A 0 then lc (abt A 0 i) else 0)
  else if r = 1 then (if i < am A 1 then tn (abt A 1 i - 48) else 0)
  else if r = 2 then (if i = 0 then (am A 2 + 1) / 4 else if i = 1 then am A 3 else if i = 2 then awd A else if i = 3 then aev A else 0)
  else if r = 3 then (if 4 * i + 2 < am A 2 then tn (abt A 2 (4 * i) - 97) else 0)
  else if r = 4 then (if 4 * i + 2 < am A 2 then tn (abt A 2 (4 * i + 1) - 48) else 0)
  else if r = 5 then (if 4 * i + 2 < am A 2 then (if abt A 2 (4 * i + 2) = 101 then 0 else 1) else 0)
  else if r = 6 then (if i < am A 3 then tn (abt A 3 i - 97) else 0)
  else if r = 7 then (if i < aev A then aet A 0 i else 0)
  else if r = 8 then (if i < aev A then aet A 1 i else 0)
  else if r = 9 then (if i < aev A then aet A 2 i else 0)
  else 0
theorem am_le {A : Ast} (ok : okA A) {t : Nat} (ht : t < 4) : am A t ≤ tlen t := by
  have := ok.1 t ht
  unfold am mnt
  split
  · omega
  · split <;> omega
theorem rng_tn {b : Int32} {lo hi : Nat} {bl bh : Int32} (hl : bl = nI lo) (hh : bh = nI hi) (h2 : hi < 1000) (h1 : lo < 1000) (hb : bl ≤ b ∧ b ≤ bh) (c : Nat) (hc : c ≤ lo) : tn (b - nI c) ≤ hi - c ∧ b - nI c = nI (tn (b - nI c)) := by
  have h := (rng hl hh h1 h2).mp hb
  obtain ⟨k, hk, e, -⟩ := rngE h h2
  rw [e, isub (by omega), tnI (by omega)]
  exact ⟨by omega, rfl⟩
theorem okT_tld {A : Ast} (ok : okA A) : okT (tld A) := by
  have l0 := am_le ok (t := 0) (by decide)
  have l2 := am_le ok (t := 2) (by decide)
  have l3 := am_le ok (t := 3) (by decide)
  simp only [tlen] at l0 l2 l3
  refine ⟨fun i => ?_, fun i => ?_, ⟨?_, ?_, ?_, ?_⟩, fun i => ?_, fun i => ?_, fun i => ?_, fun i => ?_, fun i => ?_, fun i => ?_, fun i => ?_⟩
  · simp only [tld]; simp; split
    · exact lc_le _
    · omega
  · simp only [tld]; simp; split
    · rename_i c
      have h := (mnt_ok c).2
      simp only [okb, Nat.one_ne_zero, if_false, if_true, decide_eq_true_eq] at h
      have := (rng_tn (lo := 48) (hi := 57) (bl := 48) (bh := 57) rfl rfl (by omega) (by omega) h 48 (by omega)).1
      exact this
    · omega
  · simp [tld]; simp at l2; omega
  · simp [tld]; simp at l3; omega
  · simp [tld]; exact ok.2.1
  · simp [tld]; exact ok.2.2.1
  · simp only [tld]; simp; split
    · rename_i c
      have h := (mnt_ok (t := 2) (b := abt A 2) (n := aln A 2) (i := 4 * i) (by unfold am at c; omega)).2
      simp only [okb, show (2 : Nat) ≠ 0 by decide, show (2 : Nat) ≠ 1 by decide, if_false, if_true, show 4 * i % 4 = 0 by omega, decide_eq_true_eq] at h
      exact (rng_tn (lo := 97) (hi := 108) (bl := 97) (bh := 108) rfl rfl (by omega) (by omega) h 97 (by omega)).1
    · omega
  · simp only [tld]; simp; split
    · rename_i c
      have h := (mnt_ok (t := 2) (b := abt A 2) (n := aln A 2) (i := 4 * i + 1) (by unfold am at c; omega)).2
      simp only [okb, show (2 : Nat) ≠ 0 by decide, show (2 : Nat) ≠ 1 by decide, if_false, if_true, show (4 * i + 1) % 4 = 1 by omega, Nat.one_ne_zero, decide_eq_true_eq] at h
      exact (rng_tn (lo := 49) (hi := 57) (bl := 49) (bh := 57) rfl rfl (by omega) (by omega) h 48 (by omega)).1
    · omega
  · simp only [tld]; simp; split
    · split <;> omega
    · omega
  · simp only [tld]; simp; split
    · rename_i c
      have h := (mnt_ok (t := 3) c).2
      simp only [okb, show (3 : Nat) ≠ 0 by decide, show (3 : Nat) ≠ 1 by decide, show (3 : Nat) ≠ 2 by decide, if_false, decide_eq_true_eq] at h
      exact (rng_tn (lo := 97) (hi := 120) (bl := 97) (bh := 120) rfl rfl (by omega) (by omega) h 97 (by omega)).1
    · omega
  · simp only [tld]; simp; split
    · rename_i c; exact (ok.2.2.2.1 i c).1
    · omega
  · simp only [tld]; simp; split
    · rename_i c; exact (ok.2.2.2.1 i c).2.1
    · omega
  · simp only [tld]; simp; split
    · rename_i c; exact (ok.2.2.2.1 i c).2.2
    · omega
/-- the reference holds A -/
def IR (A : Ast) (M : Mem) : Prop := (∀ t, t < 4 → M 6 t = nI (aln A t)) ∧ (∀ t, t < 4 → ∀ i, i < aln A t → M 5 (24 * t + i) = abt A t i) ∧ M 0 13 = nI (awd A) ∧ M 0 14 = nI (aev A) ∧ (∀ e, e < aev A → M 11 (3 * e) = nI (aet A 0 e) ∧ M 11 (3 * e + 1) = nI (aet A 1 e) ∧ M 11 (3 * e + 2) = nI (aet A 2 e)) ∧ M 0 31 = nI (asg A) ∧ (∀ j, j < asg A → M 26 (3 * j) = nI (ase A 0 j) ∧ M 26 (3 * j + 1) = nI (ase A 1 j) ∧ M 26 (3 * j + 2) = nI (ase A 2 j)) ∧ (∀ s, s < 4 → M 1 s = afo A s) ∧ (∀ s, s < 4 → M 2 s = nI (asz A s)) ∧ (∀ s, s < 4 → ∀ i, i < asz A s → M 3 (60 * s + i) = ait A s i) ∧ M 0 4 = afd A ∧ M 0 16 = 0
/-- what of the memory A stands on -/
def Kp (M M' : Mem) : Prop := M' 1 = M 1 ∧ M' 2 = M 2 ∧ M' 3 = M 3 ∧ M' 5 = M 5 ∧ M' 6 = M 6 ∧ M' 11 = M 11 ∧ M' 26 = M 26 ∧ (∀ i, i ≠ 9 → i ≠ 11 → i ≠ 34 → M' 0 i = M 0 i)
theorem Kp.rf {M : Mem} : Kp M M := ⟨rfl, rfl, rfl, rfl, rfl, rfl, rfl, fun _ _ _ _ => rfl⟩
theorem Kp.tr {M M1 M2 : Mem} (h : Kp M M1) (h2 : Kp M1 M2) : Kp M M2 := by
  obtain ⟨a1, a2, a3, a5, a6, a11, a26, a0⟩ := h
  obtain ⟨b1, b2, b3, b5, b6, b11, b26, b0⟩ := h2
  exact ⟨b1.trans a1, b2.trans a2, b3.trans a3, b5.trans a5, b6.trans a6, b11.trans a11, b26.trans a26, fun i h1 h2 h3 => (b0 i h1 h2 h3).trans (a0 i h1 h2 h3)⟩
theorem Kp.fr {M M' : Mem} {L : List Nat} (h : Fr L M M') (hd : (∀ k ∈ [0, 1, 2, 3, 5, 6, 11, 26], k ∉ L) := by decide) : Kp M M' :=
  ⟨h 1 (hd 1 (by decide)), h 2 (hd 2 (by decide)), h 3 (hd 3 (by decide)), h 5 (hd 5 (by decide)), h 6 (hd 6 (by decide)), h 11 (hd 11 (by decide)), h 26 (hd 26 (by decide)), fun i _ _ _ => by rw [h 0 (hd 0 (by decide))]⟩
theorem IR.kp {A : Ast} {M M' : Mem} (h : IR A M) (k : Kp M M') : IR A M' := by
  obtain ⟨a1, a2, a3, a5, a6, a11, a26, a0⟩ := k
  unfold IR at h ⊢
  rw [a1, a2, a3, a5, a6, a11, a26, a0 13 (by decide) (by decide) (by decide), a0 14 (by decide) (by decide) (by decide), a0 31 (by decide) (by decide) (by decide), a0 4 (by decide) (by decide) (by decide), a0 16 (by decide) (by decide) (by decide)]
  exact h
abbrev allOn : Nat → Bool := fun _ => true
theorem onR_0 {M : Mem} (h : M 0 16 = 0) : onR M = allOn := by
  funext e
  unfold onR pf_R_isIn
  rw [h]
  have : ((0 : Int32) >>> (nI e &&& 31)) &&& 1 = 0 := by
    have : (0 : Int32) >>> (nI e &&& 31) = 0 := by simp
    rw [this]; rfl
  rw [this]
  simp
/-- texts read, so that RT holds -/
theorem r_readsAll {A : Ast} {M : Mem} {post : Mem → Prop} (ok : okA A) (hR : IR A M) (K : ∀ M', Kp M M' → RT (tld A) M' → post M') :
    it2 (fun rec1 (i3 : Int32) (M4 : Mem) => (((4 ≤ i3) → post M4) ∧ (¬ (4 ≤ i3) → wp_R_readsText i3 M4 (fun _ M8 => rec1 (i3 + 1) M8)))) 4096 0 M := by
  have l0 := ok.1 0 (by decide)
  have l1 := ok.1 1 (by decide)
  have l2 := ok.1 2 (by decide)
  have l3 := ok.1 3 (by decide)
  simp only [tlen] at l0 l1 l2 l3
  simp at l0 l1 l2 l3
  refine it2_f1 4 (by omega) (fun j M' => Kp M M' ∧ (0 < j → HR (M' 7) 12 (tld A 0)) ∧ (1 < j → HR (M' 8) 24 (tld A 1)) ∧ (2 < j → M' 0 9 = nI (tld A 2 0) ∧ ∀ k, k < tld A 2 0 → M' 9 (3 * k) = nI (tld A 3 k) ∧ M' 9 (3 * k + 1) = nI (tld A 4 k) ∧ M' 9 (3 * k + 2) = nI (tld A 5 k)) ∧ (3 < j → M' 0 11 = nI (tld A 2 1) ∧ ∀ k, k < tld A 2 1 → M' 10 k = nI (tld A 6 k))) (fun rc j M4 hj hI hrec => ?_) 0 M (Nat.zero_le _) ⟨Kp.rf, fun q => absurd q (Nat.lt_irrefl _), fun q => absurd q (by omega), fun q => absurd q (by omega), fun q => absurd q (by omega)⟩
  obtain ⟨hk, g0, g1, g2, g3⟩ := hI
  have hR4 := hR.kp hk
  refine ⟨fun hx => ?_, fun hx => ?_⟩
  · have hj2 : j = 4 := by have := gI (a := 4) hx; omega
    subst hj2
    refine K M4 hk ⟨g0 (by decide), g1 (by decide), (g2 (by decide)).1, (g3 (by decide)).1, ?_, ?_, (g2 (by decide)).2, (g3 (by decide)).2, fun e he => ?_⟩
    · rw [hR4.2.2.1]; simp [tld]
    · rw [hR4.2.2.2.1]; simp [tld]
    · have he' : e < aev A := by simpa [tld] using he
      have := hR4.2.2.2.2.1 e he'
      simpa [tld, he'] using this
  · have hlt : j < 4 := ngI (a := 4) hx
    unfold wp_R_readsText
    rcases j with _ | _ | _ | _ | j
    · refine ⟨fun _ => ?_, fun q => absurd q (by decide), fun q => absurd q (by decide), fun q => absurd rfl q⟩
      refine r_readsLand (hR4.1 0 (by decide)) l0 (fun i hi => by simpa using hR4.2.1 0 (by decide) i hi) (fun M' hF h7 => hrec M' hlt ⟨hk.tr (Kp.fr hF), fun _ => ?_, fun q => absurd q (by omega), fun q => absurd q (by omega), fun q => absurd q (by omega)⟩)
      exact h7.eq (fun i _ => rfl)
    · refine ⟨fun q => absurd q (by decide), fun _ => ?_, fun q => absurd q (by decide), fun _ q => absurd rfl q⟩
      refine r_readsFall (hR4.1 1 (by decide)) l1 (fun i hi => by simpa using hR4.2.1 1 (by decide) i hi) (fun M' hF h8 => hrec M' hlt ⟨hk.tr (Kp.fr hF), fun _ => ?_, fun _ => ?_, fun q => absurd q (by omega), fun q => absurd q (by omega)⟩)
      · rw [hF 7 (by decide)]; exact g0 (by decide)
      · exact h8.eq (fun i _ => rfl)
    · refine ⟨fun q => absurd q (by decide), fun q => absurd q (by decide), fun _ => ?_, fun _ _ q => absurd rfl q⟩
      refine r_readsPloughs (hR4.1 2 (by decide)) l2 (fun i hi => by simpa using hR4.2.1 2 (by decide) i hi) (fun M' hF hsl h9 hp => hrec M' hlt ⟨hk.tr ⟨hF 1 (by decide), hF 2 (by decide), hF 3 (by decide), hF 5 (by decide), hF 6 (by decide), hF 11 (by decide), hF 26 (by decide), fun i h1 _ _ => hsl i h1⟩, fun _ => ?_, fun _ => ?_, fun _ => ⟨?_, fun k hk => ?_⟩, fun q => absurd q (by omega)⟩)
      · rw [hF 7 (by decide)]; exact g0 (by decide)
      · rw [hF 8 (by decide)]; exact g1 (by decide)
      · rw [h9]; simp [tld, am]
      · have hk2 : k < (am A 2 + 1) / 4 := by simpa [tld] using hk
        have hk3 : 4 * k + 2 < am A 2 := by omega
        have p0 := hp (4 * k) (by unfold am at hk3; omega) (by omega)
        have p1 := hp (4 * k + 1) (by unfold am at hk3; omega) (by omega)
        have p2 := hp (4 * k + 2) (by unfold am at hk3; omega) (by omega)
        rw [show 3 * (4 * k / 4) + 4 * k % 4 = 3 * k by omega] at p0
        rw [show 3 * ((4 * k + 1) / 4) + (4 * k + 1) % 4 = 3 * k + 1 by omega] at p1
        rw [show 3 * ((4 * k + 2) / 4) + (4 * k + 2) % 4 = 3 * k + 2 by omega] at p2
        refine ⟨?_, ?_, ?_⟩
        · rw [p0]; simp [tld, hk3, pv]
        · rw [p1]; simp [tld, hk3, pv, show (4 * k + 1) % 4 = 1 by omega]
        · rw [p2]; simp [tld, hk3, pv, show (4 * k + 2) % 4 = 2 by omega]
    · refine ⟨fun q => absurd q (by decide), fun q => absurd q (by decide), fun q => absurd q (by decide), fun _ _ _ => ?_⟩
      refine r_readsBuses (hR4.1 3 (by decide)) l3 (fun i hi => by simpa using hR4.2.1 3 (by decide) i hi) (fun M' hF hsl h11 hp => hrec M' hlt ⟨hk.tr ⟨hF 1 (by decide), hF 2 (by decide), hF 3 (by decide), hF 5 (by decide), hF 6 (by decide), hF 11 (by decide), hF 26 (by decide), fun i _ h1 _ => hsl i h1⟩, fun _ => ?_, fun _ => ?_, fun _ => ?_, fun _ => ⟨?_, fun k hk => ?_⟩⟩)
      · rw [hF 7 (by decide)]; exact g0 (by decide)
      · rw [hF 8 (by decide)]; exact g1 (by decide)
      · rw [hF 9 (by decide), hsl 9 (by decide)]; exact g2 (by decide)
      · rw [h11]; simp [tld, am]
      · have hk2 : k < am A 3 := by simpa [tld] using hk
        rw [hp k (by unfold am at hk2; exact hk2)]
        simp [tld, hk2]
    · omega
theorem r_find {A : Ast} {M : Mem} {post : Mem → Prop} (ok : okA A) (hR : IR A M) (K : ∀ M', Kp M M' → RT (tld A) M' → HI (tld A) allOn 24 M' → post M') : wp_R_find M post := by
  unfold wp_R_find
  refine r_readsAll (post := fun M4 => wp_R_lives M4 (fun M6 => post M6)) ok hR (fun M' hk hT => ?_)
  refine r_lives (okT_tld ok) hT (fun M2 hF hH => ?_)
  rw [onR_0 (hR.kp hk).2.2.2.2.2.2.2.2.2.2.2] at hH
  exact K M2 (hk.tr (Kp.fr hF)) (hT.fr hF) hH
