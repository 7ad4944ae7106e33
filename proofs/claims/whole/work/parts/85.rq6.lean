/-! winters, and the queries that only read a text -/
def dr1 (s : Int32) : Int32 := (1103515245) * s + 12345
def dr (s : Int32) : Nat → Int32
  | 0 => s
  | n + 1 => dr1 (dr s n)
def lot (x : Int32) : Int32 := (ushr32 x 16) - (ushr32 x 16) / 5 * 5
theorem ush (x : Int32) : ∃ a, a < 65536 ∧ ushr32 x 16 = nI a := by
  refine ⟨x.toUInt32.toNat / 65536, by have := x.toUInt32.toNat_lt; omega, ?_⟩
  apply Int32.toBitVec_inj.mp
  apply BitVec.eq_of_toNat_eq
  unfold ushr32
  rw [show ((16 : Int32).toUInt32 &&& Int32.toUInt32 31) = 16 from by decide]
  show (x.toUInt32 >>> 16).toNat = (BitVec.ofNat 32 _).toNat
  rw [BitVec.toNat_ofNat, UInt32.toNat_shiftRight, show (16 : UInt32).toNat % 32 = 16 from rfl, Nat.shiftRight_eq_div_pow, Nat.mod_eq_of_lt]
  have := x.toUInt32.toNat_lt
  omega
theorem lot_le (x : Int32) : tn (lot x) ≤ 4 ∧ lot x = nI (tn (lot x)) := by
  obtain ⟨a, ha, e⟩ := ush x
  unfold lot
  rw [e, show nI a - nI a / 5 * 5 = nI (a % 5) from pk_rem (d := 5) (by omega) (by omega) (by omega), tnI (by omega)]
  exact ⟨by omega, rfl⟩
def wT (T : Tld) (s : Int32) (n : Nat) : Tld := fun r => if r = 1 then (fun i => if i < n then tn (lot (dr s (i + 1))) else 0) else T r
theorem wT_1 (T : Tld) (s : Int32) (n : Nat) : wT T s n 1 = (fun i => if i < n then tn (lot (dr s (i + 1))) else 0) := by simp [wT]
theorem wT_i (T : Tld) (s : Int32) (n i : Nat) : wT T s n 1 i = (if i < n then tn (lot (dr s (i + 1))) else 0) := by simp [wT]
theorem wT_n {T : Tld} {s : Int32} {n r : Nat} (h : r ≠ 1) : wT T s n r = T r := by simp [wT, h]
theorem okT_w {T : Tld} (ok : okT T) (s : Int32) (n : Nat) : okT (wT T s n) := by
  obtain ⟨h0, h1, h2, h3, h4, h5, h6, h7, h8, h9⟩ := ok
  refine ⟨?_, fun i => ?_, ?_, ?_, ?_, ?_, ?_, ?_, ?_, ?_⟩
  · rw [wT_n (by decide)]; exact h0
  · rw [wT_1]
    show (if i < n then _ else 0) ≤ 9
    split
    · have := (lot_le (dr s (i + 1))).1; omega
    · omega
  all_goals (rw [wT_n (by decide)]; assumption)
theorem RT_fall {T : Tld} {M M' : Mem} {s : Int32} {n : Nat} (h : RT T M) (hF : Fr [0, 8] M M') (h0 : ∀ i, i ≠ 34 → M' 0 i = M 0 i) (h8 : HR (M' 8) 24 (wT T s n 1)) : RT (wT T s n) M' := by
  obtain ⟨a0, a1, a2, a3, a4, a5, a6, a7, a8⟩ := h
  unfold RT
  rw [wT_n (r := 0) (by decide), wT_n (r := 2) (by decide), wT_n (r := 3) (by decide), wT_n (r := 4) (by decide), wT_n (r := 5) (by decide), wT_n (r := 6) (by decide), wT_n (r := 7) (by decide), wT_n (r := 8) (by decide), wT_n (r := 9) (by decide)]
  refine ⟨by rw [hF 7 (by decide)]; exact a0, h8, by rw [h0 9 (by decide)]; exact a2, by rw [h0 11 (by decide)]; exact a3, by rw [h0 13 (by decide)]; exact a4, by rw [h0 14 (by decide)]; exact a5, by rw [hF 9 (by decide)]; exact a6, by rw [hF 10 (by decide)]; exact a7, by rw [hF 11 (by decide)]; exact a8⟩
def v_win (T : Tld) (s : Int32) (n : Nat) (w : Int32) : Int32 := if w = 0 then nI (snw (wT T s n) allOn 23) else nI (many (wT T s n) allOn)
/-- the texts read, from IR -/
theorem rx_land {A : Ast} {M : Mem} {post : Int32 → Mem → Prop} (ok : okA A) (hR : IR A M) (K : ∀ M', Fr [7] M M' → HR (M' 7) 12 (tld A 0) → post (flt 0 (abt A 0) (aln A 0)) M') : wp_R_readsLand M post := by
  have l := ok.1 0 (by decide)
  simp only [tlen] at l; simp at l
  exact r_readsLand (hR.1 0 (by decide)) l (fun i hi => by simpa using hR.2.1 0 (by decide) i hi) (fun M' hF h => K M' hF (h.eq (fun i _ => rfl)))
theorem rx_fall {A : Ast} {M : Mem} {post : Int32 → Mem → Prop} (ok : okA A) (hR : IR A M) (K : ∀ M', Fr [8] M M' → HR (M' 8) 24 (tld A 1) → post (flt 1 (abt A 1) (aln A 1)) M') : wp_R_readsFall M post := by
  have l := ok.1 1 (by decide)
  simp only [tlen] at l; simp at l
  exact r_readsFall (hR.1 1 (by decide)) l (fun i hi => by simpa using hR.2.1 1 (by decide) i hi) (fun M' hF h => K M' hF (h.eq (fun i _ => rfl)))
theorem rx_ploughs {A : Ast} {M : Mem} {post : Int32 → Mem → Prop} (ok : okA A) (hR : IR A M) (K : ∀ M', Kp M M' → M' 0 9 = nI (tld A 2 0) → (∀ k, k < tld A 2 0 → M' 9 (3 * k) = nI (tld A 3 k) ∧ M' 9 (3 * k + 1) = nI (tld A 4 k) ∧ M' 9 (3 * k + 2) = nI (tld A 5 k)) → post (flt 2 (abt A 2) (aln A 2)) M') : wp_R_readsPloughs M post := by
  have l := ok.1 2 (by decide)
  simp only [tlen] at l; simp at l
  refine r_readsPloughs (hR.1 2 (by decide)) l (fun i hi => by simpa using hR.2.1 2 (by decide) i hi) (fun M' hF hsl h9 hp => K M' ⟨hF 1 (by decide), hF 2 (by decide), hF 3 (by decide), hF 5 (by decide), hF 6 (by decide), hF 11 (by decide), hF 26 (by decide), fun i h1 _ _ => hsl i h1⟩ ?_ (fun k hk => ?_))
  · rw [h9]; simp [tld, am]
  · have hk2 : k < (am A 2 + 1) / 4 := by simpa [tld] using hk
    have hk3 : 4 * k + 2 < am A 2 := by omega
    have p0 := hp (4 * k) (by unfold am at hk3; omega) (by omega)
    have p1 := hp (4 * k + 1) (by unfold am at hk3; omega) (by omega)
    have p2 := hp (4 * k + 2) (by unfold am at hk3; omega) (by omega)
    rw [show 3 * (4 * k / 4) + 4 * k % 4 = 3 * k by omega] at p0
    rw [show 3 * ((4 * k + 1) / 4) + (4 * k + 1) % 4 = 3 * k + 1 by omega] at p1
    rw [show 3 * ((4 * k + 2) / 4) + (4 * k + 2) % 4 = 3 * k + 2 by omega] at p2
    refine ⟨?_, ?_, ?_⟩
    · rw [p0]; simp [tld, hk3, pv]
    · rw [p1]; simp [tld, hk3, pv, show (4 * k + 1) % 4 = 1 by omega]
    · rw [p2]; simp [tld, hk3, pv, show (4 * k + 2) % 4 = 2 by omega]
theorem rx_buses {A : Ast} {M : Mem} {post : Int32 → Mem → Prop} (ok : okA A) (hR : IR A M) (K : ∀ M', Kp M M' → M' 0 11 = nI (tld A 2 1) → (∀ k, k < tld A 2 1 → M' 10 k = nI (tld A 6 k)) → post (flt 3 (abt A 3) (aln A 3)) M') : wp_R_readsBuses M post := by
  have l := ok.1 3 (by decide)
  simp only [tlen] at l; simp at l
  refine r_readsBuses (hR.1 3 (by decide)) l (fun i hi => by simpa using hR.2.1 3 (by decide) i hi) (fun M' hF hsl h11 hp => K M' ⟨hF 1 (by decide), hF 2 (by decide), hF 3 (by decide), hF 5 (by decide), hF 6 (by decide), hF 11 (by decide), hF 26 (by decide), fun i _ h1 _ => hsl i h1⟩ ?_ (fun k hk => ?_))
  · rw [h11]; simp [tld, am]
  · have hk2 : k < am A 3 := by simpa [tld] using hk
    rw [hp k (by unfold am at hk2; exact hk2)]
    simp [tld, hk2]
theorem rx_text {A : Ast} {M : Mem} {t : Nat} {post : Int32 → Mem → Prop} (ok : okA A) (hR : IR A M) (ht : t < 4) (K : ∀ M', Kp M M' → post (flt t (abt A t) (aln A t)) M') : wp_R_readsText (nI t) M post := by
  unfold wp_R_readsText
  rcases t with _ | _ | _ | _ | t
  · exact ⟨fun _ => rx_land ok hR (fun M' hF _ => K M' (Kp.fr hF)), fun q => absurd q (by decide), fun q => absurd q (by decide), fun q => absurd rfl q⟩
  · exact ⟨fun q => absurd q (by decide), fun _ => rx_fall ok hR (fun M' hF _ => K M' (Kp.fr hF)), fun q => absurd q (by decide), fun _ q => absurd rfl q⟩
  · exact ⟨fun q => absurd q (by decide), fun q => absurd q (by decide), fun _ => rx_ploughs ok hR (fun M' hk _ _ => K M' hk), fun _ _ q => absurd rfl q⟩
  · exact ⟨fun q => absurd q (by decide), fun q => absurd q (by decide), fun q => absurd q (by decide), fun _ _ _ => rx_buses ok hR (fun M' hk _ _ => K M' hk)⟩
  · omega
def q_fault (A : Ast) (a1 : Int32) : Int32 := if inb a1 4 then flt (tn a1) (abt A (tn a1)) (aln A (tn a1)) else -2
theorem rq_fault {A : Ast} {M : Mem} {a1 : Int32} {post : Int32 → Mem → Prop} (ok : okA A) (hR : IR A M) (K : ∀ M', IR A M' → post (q_fault A a1) M') : wp_R_fault a1 M post := by
  unfold wp_R_fault
  unfold q_fault at K
  rw [r_textQ, c10]
  refine ⟨fun c1 => by rw [if_neg c1] at K; exact K M hR, fun c1 => ?_⟩
  have c1 := Decidable.not_not.mp c1
  rw [if_pos c1] at K
  obtain ⟨t, ht, rfl⟩ := inb_of c1
  rw [tnI (by omega)] at K
  exact rx_text ok hR ht (fun M' hk => K M' (hR.kp hk))
def q_land (A : Ast) (a1 : Int32) : Int32 := if inb a1 12 then nI (tld A 0 (tn a1)) else -2
theorem rq_land {A : Ast} {M : Mem} {a1 : Int32} {post : Int32 → Mem → Prop} (ok : okA A) (hR : IR A M) (K : ∀ M', IR A M' → post (q_land A a1) M') : wp_R_land a1 M post := by
  unfold wp_R_land
  unfold q_land at K
  refine rx_land ok hR (fun M' hF h7 => ?_)
  simp only [r_mile, c10]
  refine ⟨⟨fun _ => trivial, fun c1 => ?_⟩, fun u hu => ?_⟩
  · obtain ⟨t, ht, rfl⟩ := inb_of (Decidable.not_not.mp c1)
    exact vI ht
  · have hR' := hR.kp (Kp.fr hF)
    by_cases c1 : inb a1 12
    · rw [if_pos c1] at K
      rw [if_neg (fun q => q c1)] at hu
      obtain ⟨t, ht, rfl⟩ := inb_of c1
      rw [tnI (by omega)] at K hu
      rw [hu, h7 t ht]
      exact K M' hR'
    · rw [if_neg c1] at K
      rw [if_pos c1] at hu
      rw [hu]
      exact K M' hR'
def q_fall (A : Ast) (a1 : Int32) : Int32 := if inb a1 24 then nI (tld A 1 (tn a1)) else -2
theorem rq_fall {A : Ast} {M : Mem} {a1 : Int32} {post : Int32 → Mem → Prop} (ok : okA A) (hR : IR A M) (K : ∀ M', IR A M' → post (q_fall A a1) M') : wp_R_fall a1 M post := by
  unfold wp_R_fall
  unfold q_fall at K
  refine rx_fall ok hR (fun M' hF h7 => ?_)
  simp only [r_hour, c10]
  refine ⟨⟨fun _ => trivial, fun c1 => ?_⟩, fun u hu => ?_⟩
  · obtain ⟨t, ht, rfl⟩ := inb_of (Decidable.not_not.mp c1)
    exact vI ht
  · have hR' := hR.kp (Kp.fr hF)
    by_cases c1 : inb a1 24
    · rw [if_pos c1] at K
      rw [if_neg (fun q => q c1)] at hu
      obtain ⟨t, ht, rfl⟩ := inb_of c1
      rw [tnI (by omega)] at K hu
      rw [hu, h7 t ht]
      exact K M' hR'
    · rw [if_neg c1] at K
      rw [if_pos c1] at hu
      rw [hu]
      exact K M' hR'
def q_bus (A : Ast) (a1 : Int32) : Int32 := if inb a1 (tld A 2 1) then nI (tld A 6 (tn a1)) else -2
theorem rq_bus {A : Ast} {M : Mem} {a1 : Int32} {post : Int32 → Mem → Prop} (ok : okA A) (hR : IR A M) (K : ∀ M', IR A M' → post (q_bus A a1) M') : wp_R_bus a1 M post := by
  have h8 := (okT_tld ok).2.2.1
  unfold wp_R_bus
  unfold q_bus at K
  refine rx_buses ok hR (fun M' hk h11 h10 => ?_)
  refine r_isBus h11 (by omega) ?_
  simp only [c10]
  refine ⟨⟨fun _ => trivial, fun c1 => ?_⟩, fun u hu => ?_⟩
  · obtain ⟨t, ht, rfl⟩ := inb_of (Decidable.not_not.mp c1)
    exact vI (by omega)
  · have hR' := hR.kp hk
    by_cases c1 : inb a1 (tld A 2 1)
    · rw [if_pos c1] at K
      rw [if_neg (fun q => q c1)] at hu
      obtain ⟨t, ht, rfl⟩ := inb_of c1
      rw [tnI (by omega)] at K hu
      rw [hu, h10 t ht]
      exact K M' hR'
    · rw [if_neg c1] at K
      rw [if_pos c1] at hu
      rw [hu]
      exact K M' hR'
def q_plough (A : Ast) (a1 a2 : Int32) : Int32 := if inb a1 (tld A 2 0) then (if inb a2 3 then nI (tld A (3 + tn a2) (tn a1)) else -2) else -2
theorem rq_plough {A : Ast} {M : Mem} {a1 a2 : Int32} {post : Int32 → Mem → Prop} (ok : okA A) (hR : IR A M) (K : ∀ M', IR A M' → post (q_plough A a1 a2) M') : wp_R_plough a1 a2 M post := by
  have h8 := (okT_tld ok).2.2.1
  unfold wp_R_plough
  unfold q_plough at K
  refine rx_ploughs ok hR (fun M' hk h9 hp => ?_)
  refine r_isPlough h9 (by omega) ?_
  simp only [r_three, c10]
  have hR' := hR.kp hk
  by_cases c1 : inb a1 (tld A 2 0)
  · rw [if_pos c1] at K
    obtain ⟨k, hk', rfl⟩ := inb_of c1
    by_cases c2 : inb a2 3
    · rw [if_pos c2] at K
      obtain ⟨i, hi, rfl⟩ := inb_of c2
      rw [tnI (by omega), tnI (by omega)] at K
      rw [i3_0, nI_add]
      refine ⟨⟨fun _ => trivial, fun _ => ⟨fun _ => trivial, fun _ => vI (by omega)⟩⟩, fun u hu => ?_⟩
      rw [if_neg (fun q => q c1), if_neg (fun q => q c2), tnI (by omega)] at hu
      obtain ⟨p0, p1, p2⟩ := hp k hk'
      rw [hu]
      rcases i with _ | _ | _ | i
      · rw [show 3 * k + 0 = 3 * k from rfl, p0]; exact K M' hR'
      · rw [p1]; exact K M' hR'
      · rw [p2]; exact K M' hR'
      · omega
    · rw [if_neg c2] at K
      refine ⟨⟨fun _ => trivial, fun _ => ⟨fun _ => trivial, fun q => absurd c2 q⟩⟩, fun u hu => ?_⟩
      rw [if_neg (fun q => q c1), if_pos c2] at hu
      rw [hu]; exact K M' hR'
  · rw [if_neg c1] at K
    refine ⟨⟨fun _ => trivial, fun q => absurd c1 q⟩, fun u hu => ?_⟩
    rw [if_pos c1] at hu
    rw [hu]; exact K M' hR'
theorem r_wintersOf {A : Ast} {M : Mem} {s w : Int32} {n : Nat} {post : Int32 → Mem → Prop} (ok : okA A) (hJ : RJ A M) (hn : n ≤ 24) (K : ∀ M', RJ A M' → post (v_win (tld A) s n w) M') : wp_R_wintersOf s (nI n) w M post := by
  obtain ⟨hR, hT⟩ := hJ
  have okt := okT_tld ok
  unfold wp_R_wintersOf
  intro M1 h1
  refine it2_f1 24 (by omega) (fun j M' => Fr [0, 8] M M' ∧ M' 0 = upd (M 0) 34 (dr s (min j n)) ∧ (∀ i, i < j → M' 8 i = nI (wT (tld A) s n 1 i))) (fun rc j M5 hj hI hrec => ?_) 0 M1 (Nat.zero_le _) ⟨Fr.rf.up h1 (by decide), by rw [h1, upm_s, Nat.zero_min]; rfl, fun i hi => absurd hi (Nat.not_lt_zero _)⟩
  obtain ⟨hF, h0, h8⟩ := hI
  refine ⟨fun hx => ?_, fun hx => ?_⟩
  · have hj2 : j = 24 := by have := gI (a := 24) hx; omega
    subst hj2
    have h0' : ∀ i, i ≠ 34 → M5 0 i = M 0 i := fun i hi => by rw [h0, upd_n hi]
    have hT5 : RT (wT (tld A) s n) M5 := RT_fall hT hF h0' h8
    have okw := okT_w okt s n
    have hon : onR M5 = allOn := onR_0 (by rw [h0' 16 (by decide)]; exact hR.g)
    refine r_lives okw hT5 (fun M7 hF7 hH => ?_)
    rw [hon] at hH
    have hk7 : Kp M M7 := by
      have hF' : Fr (0 :: 8 :: LV) M M7 := (hF.mo (by decide)).tr (hF7.mo (by decide))
      refine ⟨hF' 1 (by decide), hF' 2 (by decide), hF' 3 (by decide), hF' 5 (by decide), hF' 6 (by decide), hF' 11 (by decide), hF' 26 (by decide), fun i _ _ h => ?_⟩
      rw [hF7 0 (by decide), h0' i h]
    have fin : ∀ (v : Int32), v = v_win (tld A) s n w → wp_R_readsFall M7 (fun _ M14 => post v M14) := by
      intro v hv
      subst hv
      refine rx_fall ok (hR.kp hk7) (fun M' hF' h8' => K M' ⟨(hR.kp hk7).kp (Kp.fr hF'), ?_⟩)
      have hF2 : Fr (0 :: 8 :: LV) M M' := ((hF.mo (by decide)).tr (hF7.mo (by decide))).tr (hF'.mo (by decide))
      have h02 : ∀ i, i ≠ 34 → M' 0 i = M 0 i := fun i hi => by rw [hF' 0 (by decide), hF7 0 (by decide), h0' i hi]
      obtain ⟨a0, a1, a2, a3, a4, a5, a6, a7, a8⟩ := hT
      exact ⟨by rw [hF2 7 (by decide)]; exact a0, h8', by rw [h02 9 (by decide)]; exact a2, by rw [h02 11 (by decide)]; exact a3, by rw [h02 13 (by decide)]; exact a4, by rw [h02 14 (by decide)]; exact a5, by rw [hF2 9 (by decide)]; exact a6, by rw [hF2 10 (by decide)]; exact a7, by rw [hF2 11 (by decide)]; exact a8⟩
    refine ⟨fun hw => ?_, fun hw => ?_⟩
    · refine r_snowBy (h := 23) (by omega) (hH.d (by omega)) (dep_le okw (by omega)) ?_
      refine fin _ ?_
      rw [if_pos rfl]; unfold v_win snw; rw [if_pos hw]
    · refine r_manyOver (on := allOn) okw ?_ hH.ov ?_
      · rw [hF7 0 (by decide)]; exact hT5.2.2.2.1
      · refine fin _ ?_
        unfold v_win; rw [if_neg hw]
  · have hlt : j < 24 := ngI (a := 24) hx
    rw [tnI (by omega : j < 2 ^ 31)]
    refine ⟨fun hx2 => ?_, fun hx2 => ?_⟩
    · have hnj : n ≤ j := gI hx2
      refine ⟨vI (by omega), fun M17 h17 => hrec M17 hlt ⟨hF.up h17 (by decide), ?_, fun i hi => ?_⟩⟩
      · rw [h17, upm_n (by decide), h0, Nat.min_eq_right hnj, Nat.min_eq_right (by omega)]
      · rw [h17, upm_s]
        by_cases c : i = j
        · subst c; rw [upd_s, wT_i, if_neg (by omega)]; rfl
        · rw [upd_n c]; exact h8 i (by omega)
    · have hnj : j < n := ngI hx2
      unfold wp_R_lot
      intro M19 h19
      refine ⟨by decide, vI (by omega), fun M21 h21 => hrec M21 hlt ⟨(hF.up h19 (by decide)).up h21 (by decide), ?_, fun i hi => ?_⟩⟩
      · rw [h21, upm_n (by decide), h19, upm_s, h0, upd_upd, upd_s, Nat.min_eq_left (by omega), Nat.min_eq_left (by omega)]; rfl
      · rw [h21, upm_s]
        by_cases c : i = j
        · subst c
          rw [upd_s, wT_i, if_pos hnj, h19, upm_s, upd_s, h0, upd_s, Nat.min_eq_left (by omega)]
          exact (lot_le (dr s (i + 1))).2
        · rw [upd_n c, h19, upm_n (by decide)]; exact h8 i (by omega)
def q_win (A : Ast) (a1 a2 a3 : Int32) : Int32 := if inb a2 25 then (if inb a3 2 then v_win (tld A) a1 (tn a2) a3 else -2) else -2
theorem rq_winters {A : Ast} {M : Mem} {a1 a2 a3 : Int32} {post : Int32 → Mem → Prop} (ok : okA A) (hR : IR A M) (K : ∀ M', IR A M' → post (q_win A a1 a2 a3) M') : wp_R_winters a1 a2 a3 M post := by
  unfold wp_R_winters
  refine r_find2 ok hR (fun M1 hF => ?_)
  unfold q_win at K
  rw [ri (a := a2) (hi := 24) 25 rfl, r_two, c10, c10]
  refine ⟨fun c1 => by rw [if_neg c1] at K; exact K M1 hF.1, fun c1 => ?_⟩
  have c1 := Decidable.not_not.mp c1
  rw [if_pos c1] at K
  refine ⟨fun c3 => by rw [if_neg c3] at K; exact K M1 hF.1, fun c3 => ?_⟩
  have c3 := Decidable.not_not.mp c3
  rw [if_pos c3] at K
  obtain ⟨c, hc, rfl⟩ := inb_of c1
  rw [tnI (by omega)] at K
  exact r_wintersOf ok hF.j (by omega) (fun M' hJ => K M' hJ.1)
def q_count (A : Ast) (a1 : Int32) : Int32 :=
  if a1 = 0 then nI (tld A 2 0) else if a1 = 1 then nI (tld A 2 1) else if a1 = 2 then nI (aln A 0 + aln A 1 + aln A 2 + aln A 3) else if a1 = 3 then nI (awd A) else if a1 = 4 then nI (aev A) else if a1 = 5 then nI (snw (tld A) allOn 23) else if a1 = 6 then nI (many (tld A) allOn) else if a1 = 7 then nI (asg A) else if a1 = 8 then afd A else -2
theorem rq_count {A : Ast} {M : Mem} {a1 : Int32} {post : Int32 → Mem → Prop} (ok : okA A) (hR : IR A M) (K : ∀ M', IR A M' → post (q_count A a1) M') : wp_R_count a1 M post := by
  have okt := okT_tld ok
  unfold wp_R_count
  refine r_find2 ok hR (fun M1 hF => ?_)
  obtain ⟨hR1, hT, hH⟩ := hF
  refine ⟨fun q => ?_, fun q => ?_, fun q => ⟨vI (j := 0) (by omega), vI (j := 1) (by omega), vI (j := 2) (by omega), vI (j := 3) (by omega), ?_⟩, fun q => ?_, fun q => ?_, fun q => ?_, fun q => ?_, fun q => ?_, fun q => ?_, fun q0 q1 q2 q3 q4 q5 q6 q7 q8 => ?_⟩
  · rw [hT.2.2.1]; subst q; exact K M1 hR1
  · rw [hT.2.2.2.1]; subst q; exact K M1 hR1
  · rw [show tn 0 = 0 from rfl, show tn 1 = 1 from rfl, show tn 2 = 2 from rfl, show tn 3 = 3 from rfl, hR1.1 0 (by decide), hR1.1 1 (by decide), hR1.1 2 (by decide), hR1.1 3 (by decide), nI_add, nI_add, nI_add]; subst q; exact K M1 hR1
  · rw [hR1.2.2.1]; subst q; exact K M1 hR1
  · rw [hR1.2.2.2.1]; subst q; exact K M1 hR1
  · subst q
    refine r_snowBy (h := 23) (by omega) (hH.d (by omega)) (dep_le okt (by omega)) ?_
    exact K M1 hR1
  · subst q
    exact r_manyOver (on := allOn) okt hT.2.2.2.1 hH.ov (K M1 hR1)
  · rw [hR1.2.2.2.2.2.1]; subst q; exact K M1 hR1
  · rw [hR1.2.2.2.2.2.2.2.2.2.2.1]; subst q; exact K M1 hR1
  · have : q_count A a1 = -2 := by unfold q_count; simp [q0, q1, q2, q3, q4, q5, q6, q7, q8]
    rw [← this]; exact K M1 hR1
