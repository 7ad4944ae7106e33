/-! digest: the reference's side -/
theorem j_lives {A : Ast} {M : Mem} {post : Mem → Prop} (ok : okA A) (hJ : RJ A M) (K : ∀ M', RJ A M' → HI (tld A) allOn 24 M' → post M') : wp_R_lives M post := by
  refine r_lives (okT_tld ok) hJ.2 (fun M' hF hH => K M' (hJ.fr hF) ?_)
  rw [onR_0 hJ.1.g] at hH
  exact hH
theorem j_count {A : Ast} {M : Mem} {a1 : Int32} {post : Int32 → Mem → Prop} (ok : okA A) (hR : IR A M) (K : ∀ M', RJ A M' → post (q_count A a1) M') : wp_R_count a1 M post := by
  have okt := okT_tld ok
  unfold wp_R_count
  refine r_find2 ok hR (fun M1 hF => ?_)
  have K := K M1 hF.j
  obtain ⟨hR1, hT, hH⟩ := hF
  refine ⟨fun q => ?_, fun q => ?_, fun q => ⟨vI (j := 0) (by omega), vI (j := 1) (by omega), vI (j := 2) (by omega), vI (j := 3) (by omega), ?_⟩, fun q => ?_, fun q => ?_, fun q => ?_, fun q => ?_, fun q => ?_, fun q => ?_, fun q0 q1 q2 q3 q4 q5 q6 q7 q8 => ?_⟩
  · rw [hT.2.2.1]; subst q; exact K
  · rw [hT.2.2.2.1]; subst q; exact K
  · rw [show tn 0 = 0 from rfl, show tn 1 = 1 from rfl, show tn 2 = 2 from rfl, show tn 3 = 3 from rfl, hR1.1 0 (by decide), hR1.1 1 (by decide), hR1.1 2 (by decide), hR1.1 3 (by decide), nI_add, nI_add, nI_add]; subst q; exact K
  · rw [hR1.2.2.1]; subst q; exact K
  · rw [hR1.2.2.2.1]; subst q; exact K
  · subst q
    refine r_snowBy (h := 23) (by omega) (hH.d (by omega)) (dep_le okt (by omega)) ?_
    exact K
  · subst q
    exact r_manyOver (on := allOn) okt hT.2.2.2.1 hH.ov K
  · rw [hR1.2.2.2.2.2.1]; subst q; exact K
  · rw [hR1.2.2.2.2.2.2.2.2.2.2.1]; subst q; exact K
  · have : q_count A a1 = -2 := by unfold q_count; simp [q0, q1, q2, q3, q4, q5, q6, q7, q8]
    rw [← this]; exact K
theorem j_text {A : Ast} {M : Mem} {t : Nat} {post : Int32 → Mem → Prop} (ok : okA A) (hJ : RJ A M) (ht : t < 4) (K : ∀ M', RJ A M' → post (flt t (abt A t) (aln A t)) M') : wp_R_readsText (nI t) M post := by
  obtain ⟨hR, a0, a1, a2, a3, a4, a5, a6, a7, a8⟩ := hJ
  unfold wp_R_readsText
  rcases t with _ | _ | _ | _ | t
  · refine ⟨fun _ => rx_land ok hR (fun M' hF h7 => K M' ⟨hR.kp (Kp.fr hF), ?_⟩), fun q => absurd q (by decide), fun q => absurd q (by decide), fun q => absurd rfl q⟩
    unfold RT
    rw [hF 8 (by decide), hF 0 (by decide), hF 9 (by decide), hF 10 (by decide), hF 11 (by decide)]
    exact ⟨h7, a1, a2, a3, a4, a5, a6, a7, a8⟩
  · refine ⟨fun q => absurd q (by decide), fun _ => rx_fall ok hR (fun M' hF h8 => K M' ⟨hR.kp (Kp.fr hF), ?_⟩), fun q => absurd q (by decide), fun _ q => absurd rfl q⟩
    unfold RT
    rw [hF 7 (by decide), hF 0 (by decide), hF 9 (by decide), hF 10 (by decide), hF 11 (by decide)]
    exact ⟨a0, h8, a2, a3, a4, a5, a6, a7, a8⟩
  · refine ⟨fun q => absurd q (by decide), fun q => absurd q (by decide), fun _ => ?_, fun _ _ q => absurd rfl q⟩
    have l := ok.1 2 (by decide)
    simp only [tlen] at l; simp at l
    refine r_readsPloughs (n := aln A 2) (b := abt A 2) (hR.1 2 (by decide)) l (fun i hi => by simpa using hR.2.1 2 (by decide) i hi) (fun M' hF hsl h9 hp => K M' ⟨hR.kp ⟨hF 1 (by decide), hF 2 (by decide), hF 3 (by decide), hF 5 (by decide), hF 6 (by decide), hF 11 (by decide), hF 26 (by decide), fun i h1 _ _ => hsl i h1⟩, ?_⟩)
    unfold RT
    rw [hF 7 (by decide), hF 8 (by decide), hF 10 (by decide), hF 11 (by decide), hsl 11 (by decide), hsl 13 (by decide), hsl 14 (by decide)]
    refine ⟨a0, a1, by rw [h9]; simp [tld, am], a3, a4, a5, fun k hk => ?_, a7, a8⟩
    have hk2 : k < (am A 2 + 1) / 4 := by simpa [tld] using hk
    have hk3 : 4 * k + 2 < am A 2 := by omega
    have p0 := hp (4 * k) (by unfold am at hk3; omega) (by omega)
    have p1 := hp (4 * k + 1) (by unfold am at hk3; omega) (by omega)
    have p2 := hp (4 * k + 2) (by unfold am at hk3; omega) (by omega)
    rw [show 3 * (4 * k / 4) + 4 * k % 4 = 3 * k by omega] at p0
    rw [show 3 * ((4 * k + 1) / 4) + (4 * k + 1) % 4 = 3 * k + 1 by omega] at p1
    rw [show 3 * ((4 * k + 2) / 4) + (4 * k + 2) % 4 = 3 * k + 2 by omega] at p2
    refine ⟨?_, ?_, ?_⟩
    · rw [p0]; simp [tld, hk3, pv]
    · rw [p1]; simp [tld, hk3, pv, show (4 * k + 1) % 4 = 1 by omega]
    · rw [p2]; simp [tld, hk3, pv, show (4 * k + 2) % 4 = 2 by omega]
  · refine ⟨fun q => absurd q (by decide), fun q => absurd q (by decide), fun q => absurd q (by decide), fun _ _ _ => ?_⟩
    have l := ok.1 3 (by decide)
    simp only [tlen] at l; simp at l
    refine r_readsBuses (n := aln A 3) (b := abt A 3) (hR.1 3 (by decide)) l (fun i hi => by simpa using hR.2.1 3 (by decide) i hi) (fun M' hF hsl h11 hp => K M' ⟨hR.kp ⟨hF 1 (by decide), hF 2 (by decide), hF 3 (by decide), hF 5 (by decide), hF 6 (by decide), hF 11 (by decide), hF 26 (by decide), fun i _ h1 _ => hsl i h1⟩, ?_⟩)
    unfold RT
    rw [hF 7 (by decide), hF 8 (by decide), hF 9 (by decide), hF 11 (by decide), hsl 9 (by decide), hsl 13 (by decide), hsl 14 (by decide)]
    refine ⟨a0, a1, a2, by rw [h11]; simp [tld, am], a4, a5, a6, fun k hk => ?_, a8⟩
    have hk2 : k < am A 3 := by simpa [tld] using hk
    rw [hp k (by unfold am at hk2; exact hk2)]
    simp [tld, hk2]
  · omega
