/-! the class: sheets, read, write -/
theorem IX.fd {A : Ast} {M M' : Mem} {f : Int32} (hX : IX A M) (h : M' = upm M 0 4 f) : IX (sFd A f) M' := by
  obtain ⟨h1, h2, h3, h4, h5, h6, h7, h8⟩ := hX
  have et : tld (sFd A f) = tld A := tld_eq rfl rfl rfl rfl rfl
  have g : ∀ c, c ≠ 0 → M' c = M c := fun c hc => by rw [h, upm_n hc]
  refine ⟨IXt.k (A := A) h1 (fun c hc => g c (by omega)), by rw [et]; exact XT_kx h2 h3 (fun c hc => g c (by omega)), by rw [g 59 (by omega)]; exact h3, IXs.k (A := A) h4 (fun c hc => g c (by omega)), IXh.k (A := A) h5 (fun c hc => g c (by omega)), by rw [h, upm_s, upd_s]; rfl, ?_⟩
  rw [et]
  refine ⟨?_, ?_⟩
  · rw [h, upm_s, upd_n (by decide), ← h]
    exact fun q => (h7 q).k (fun c c1 c2 => g c (by omega))
  · rw [h, upm_s, upd_n (by decide), upm_n (by decide)]; exact h8
theorem x_found {A : Ast} {M : Mem} {f : Int32} {post : Int32 → Mem → Prop} (hX : IX A M) (K : ∀ M', IX (sFd A f) M' → post (-10 - f) M') : wp_X_found f M post := by
  unfold wp_X_found
  exact fun M' h => K M' (hX.fd h)
theorem tld_s1 (A : Ast) (s n : Nat) (f : Int32) (g : Nat → Int32) : tld (s1 A s f n g) = tld A := tld_eq rfl rfl rfl rfl rfl
theorem IX.s1 {A : Ast} {M M' : Mem} {s n : Nat} {f : Int32} {g : Nat → Int32} (hX : IX A M) (hF : ∀ c, c ≠ 24 + 2 * s → c ≠ 25 + 2 * s → M' c = M c) (hs : s < 4) (e1 : M' (24 + 2 * s) 1 = f) (e2 : M' (24 + 2 * s) 2 = nI n) (e3 : ∀ i, i < n → M' (25 + 2 * s) i = g i) : IX (s1 A s f n g) M' := by
  obtain ⟨h1, h2, h3, h4, h5, h6, h7, h8⟩ := hX
  have et := tld_s1 A s n f g
  have k : ∀ c, (c < 24 ∨ 32 ≤ c) → M' c = M c := fun c hc => hF c (by omega) (by omega)
  refine ⟨IXt.k (A := A) h1 (fun c hc => k c (by omega)), by rw [et]; exact XT_kx h2 h3 (fun c hc => k c (by omega)), by rw [k 59 (by omega)]; exact h3, IXs.k (A := A) h4 (fun c hc => k c (by omega)), fun u hu => ?_, by rw [k 0 (by omega)]; exact h6, ?_⟩
  · show M' (24 + 2 * u) 1 = upd (afo A) s f u ∧ M' (24 + 2 * u) 2 = nI (upN (asz A) s n u) ∧ ∀ i, i < upN (asz A) s n u → M' (25 + 2 * u) i = upI (ait A) s g u i
    unfold upI
    by_cases c : u = s
    · subst c
      rw [upd_s, upN_s, if_pos rfl]
      exact ⟨e1, e2, e3⟩
    · rw [upd_n c, upN_n c, if_neg c, hF (24 + 2 * u) (by omega) (by omega), hF (25 + 2 * u) (by omega) (by omega)]
      exact h5 u hu
  · rw [et]
    refine ⟨?_, ?_⟩
    · rw [k 0 (by omega)]
      exact fun q => (h7 q).k (fun c c1 c2 => k c (by omega))
    · rw [k 0 (by omega), k 56 (by omega)]; exact h8
theorem xm_sheet {A : Ast} {M : Mem} {a1 a2 a3 : Int32} {post : Int32 → Mem → Prop} (hX : IX A M) (K : ∀ M', IX (m_sheet A a1 a2 a3).2 M' → post (m_sheet A a1 a2 a3).1 M') : wp_X_sheet a1 a2 a3 M post := by
  unfold wp_X_sheet
  unfold m_sheet at K
  rw [xq4, xq3]
  refine ⟨fun c1 => ⟨fun c2 => ⟨fun c3 => ⟨fun c4 => ?_, fun c4 => by rw [if_pos c1, if_pos c2, if_pos c3, if_neg c4] at K; exact x_found hX K⟩, fun c3 => by rw [if_pos c1, if_pos c2, if_neg c3] at K; exact K M hX⟩, fun c2 => by rw [if_pos c1, if_neg c2] at K; exact K M hX⟩, fun c1 => by rw [if_neg c1] at K; exact K M hX⟩
  rw [if_pos c1, if_pos c2, if_pos c3, if_pos c4] at K
  obtain ⟨s, hs, rfl⟩ := inb_of c1
  obtain ⟨n, hn, rfl⟩ := i60 c3 c4
  rw [tnI (by omega), tnI (by omega)] at K
  rw [tnI (by omega)]
  refine ⟨vI hs, ?_⟩
  unfold wp_XH_renew
  intro M1 h1 M2 h2 M3 h3
  refine K M3 (hX.s1 (fun c c1 c2 => by rw [h3, upr_n c2, h2, upm_n c1, h1, upm_n c1]) hs (by rw [h3, upr_n (by omega), h2, upm_s, upd_n (by decide), h1, upm_s, upd_s]) (by rw [h3, upr_n (by omega), h2, upm_s, upd_s]) (fun i hi => ?_))
  rw [h3, upr_s]; unfold zfill; rw [if_pos (by omega)]
theorem xm_lose {A : Ast} {M : Mem} {a1 : Int32} {post : Int32 → Mem → Prop} (hX : IX A M) (K : ∀ M', IX (m_lose A a1).2 M' → post (m_lose A a1).1 M') : wp_X_lose a1 M post := by
  unfold wp_X_lose
  unfold m_lose at K
  rw [xq4]
  refine ⟨fun c1 => ?_, fun c1 => by rw [if_neg c1] at K; exact K M hX⟩
  rw [if_pos c1] at K
  obtain ⟨s, hs, rfl⟩ := inb_of c1
  rw [tnI (by omega : s < 2 ^ 31)] at K ⊢
  obtain ⟨y1, y2, y3⟩ := hX.2.2.2.2.1 s hs
  rw [y1]
  refine ⟨vI hs, fun c2 => by rw [if_pos c2] at K; exact x_found hX K, fun c2 M7 h7 => ?_⟩
  rw [if_neg c2] at K
  have e2 : M7 (24 + 2 * s) 2 = nI (asz A s) := by rw [h7, upm_s, upd_n (by decide)]; exact y2
  rw [e2]
  exact K M7 (hX.s1 (fun c c1 c2 => by rw [h7, upm_n c1]) hs (by rw [h7, upm_s, upd_s]) e2 (fun i hi => by rw [h7, upm_n (by omega)]; exact y3 i hi))
theorem x_wrong {A : Ast} {M : Mem} {s : Nat} {f i : Int32} {post : Int32 → Prop} (ok : okA A) (hX : IX A M) (hs : s < 4) (K : post (lk A s f i)) : wp_X_wrongWith s f i M post := by
  obtain ⟨y1, y2, y3⟩ := hX.2.2.2.2.1 s hs
  have hz := ok.2.2.2.2.2.2.2 s hs
  unfold wp_X_wrongWith
  unfold lk at K
  rw [y1, y2]
  refine ⟨fun c1 => by rw [if_pos c1] at K; exact K, fun c1 => ⟨fun c2 u hu => ?_, fun c2 => by rw [if_neg c1, if_neg c2] at K; exact K⟩⟩
  rw [if_neg c1, if_pos c2] at K
  have hu2 : u = (if inb i (asz A s) then 0 else 2) := by
    rw [hu, xo (asz A s) (by omega)]
    by_cases c : inb i (asz A s)
    · rw [if_pos c, if_pos c, if_pos rfl]
    · rw [if_neg c, if_neg c, if_neg (by decide)]
  rw [hu2]; exact K
theorem xm_lay {A : Ast} {M : Mem} {a1 a2 a3 a4 : Int32} {post : Int32 → Mem → Prop} (ok : okA A) (hX : IX A M) (K : ∀ M', IX (m_lay A a1 a2 a3 a4).2 M' → post (m_lay A a1 a2 a3 a4).1 M') : wp_X_lay a1 a2 a3 a4 M post := by
  unfold wp_X_lay
  unfold m_lay at K
  rw [xq4, xq3]
  refine ⟨fun c1 => ⟨fun c2 => ?_, fun c2 => by rw [if_pos c1, if_neg c2] at K; exact K M hX⟩, fun c1 => by rw [if_neg c1] at K; exact K M hX⟩
  rw [if_pos c1, if_pos c2] at K
  obtain ⟨s, hs, rfl⟩ := inb_of c1
  rw [tnI (by omega : s < 2 ^ 31)] at K ⊢
  obtain ⟨y1, y2, y3⟩ := hX.2.2.2.2.1 s hs
  have hz := ok.2.2.2.2.2.2.2 s hs
  refine ⟨vI hs, x_wrong ok hX hs ⟨fun c3 => ?_, fun c3 => by rw [if_neg c3] at K; exact x_found hX K⟩⟩
  rw [if_pos c3] at K
  obtain ⟨e1, e2⟩ := lk_0 c3
  obtain ⟨i, hi, rfl⟩ := inb_of e2
  rw [tnI (by omega : i < 2 ^ 31)] at K
  unfold wp_XH_put
  rw [y1, tnI (by omega : i < 2 ^ 31)]
  intro u hu
  have hu2 : u = pf_R_cut a2 a4 := by rw [hu, e1]; rfl
  refine ⟨vI (by omega), fun M4 h4 => K M4 (hX.s1 (fun c c1 c2 => by rw [h4, upm_n c2]) hs (by rw [h4, upm_n (by omega)]; exact y1) (by rw [h4, upm_n (by omega)]; exact y2) (fun j hj => ?_))⟩
  rw [h4, upm_s, hu2]
  by_cases c : j = i
  · subst c; rw [upd_s, upd_s]
  · rw [upd_n c, upd_n c]; exact y3 j hj
theorem xm_get {A : Ast} {M : Mem} {a1 a2 a3 : Int32} {post : Int32 → Mem → Prop} (ok : okA A) (hX : IX A M) (K : ∀ M', IX (m_get A a1 a2 a3).2 M' → post (m_get A a1 a2 a3).1 M') : wp_X_get a1 a2 a3 M post := by
  unfold wp_X_get
  unfold m_get at K
  rw [xq4, xq3]
  refine ⟨fun c1 => ⟨fun c2 => ?_, fun c2 => by rw [if_pos c1, if_neg c2] at K; exact K M hX⟩, fun c1 => by rw [if_neg c1] at K; exact K M hX⟩
  rw [if_pos c1, if_pos c2] at K
  obtain ⟨s, hs, rfl⟩ := inb_of c1
  rw [tnI (by omega : s < 2 ^ 31)] at K ⊢
  obtain ⟨y1, y2, y3⟩ := hX.2.2.2.2.1 s hs
  have hz := ok.2.2.2.2.2.2.2 s hs
  refine ⟨vI hs, x_wrong ok hX hs ⟨fun c3 => ?_, fun c3 M11 h11 => by rw [if_neg c3] at K; exact K M11 (hX.fd h11)⟩⟩
  rw [if_pos c3] at K
  obtain ⟨e1, e2⟩ := lk_0 c3
  obtain ⟨i, hi, rfl⟩ := inb_of e2
  rw [tnI (by omega : i < 2 ^ 31)] at K ⊢
  refine ⟨vI (by omega), ?_⟩
  rw [y3 i hi]
  exact K M hX
theorem x_has {A : Ast} {M : Mem} {s : Nat} {x n : Int32} {post : Int32 → Prop} (ok : okA A) (hX : IX A M) (hs : s < 4) (K : post (if (0 ≤ x.toInt ∧ 0 ≤ n.toInt ∧ x.toInt + n.toInt ≤ (asz A s : Int)) then 1 else 0)) : wp_XH_hasItems s x n M post := by
  obtain ⟨y1, y2, y3⟩ := hX.2.2.2.2.1 s hs
  have hz := ok.2.2.2.2.2.2.2 s hs
  unfold wp_XH_hasItems
  rw [y2]
  intro u hu
  simp only [lg_gt, Int64.lt_iff_toInt_lt, l64add, l64 (show asz A s < 2 ^ 31 by omega), lt0] at hu
  have hu2 : u = (if (0 ≤ x.toInt ∧ 0 ≤ n.toInt ∧ x.toInt + n.toInt ≤ (asz A s : Int)) then 1 else 0) := by
    rw [hu]
    by_cases c1 : 0 ≤ x.toInt
    · by_cases c2 : 0 ≤ n.toInt
      · by_cases c3 : x.toInt + n.toInt ≤ (asz A s : Int)
        · rw [if_neg (fun q => q c1), if_neg (fun q => q c2), if_neg (by omega), if_pos ⟨c1, c2, c3⟩]
        · rw [if_neg (fun q => q c1), if_neg (fun q => q c2), if_pos (by omega), if_neg (fun q => c3 q.2.2)]
      · rw [if_neg (fun q => q c1), if_pos c2, if_neg (fun q => c2 q.2.1)]
    · rw [if_pos c1, if_neg (fun q => c1 q.1)]
  rw [hu2]
  refine ⟨?_, K⟩
  split
  · exact Or.inr rfl
  · exact Or.inl rfl
theorem xm_copy {A : Ast} {M : Mem} {a1 a2 a3 a4 a5 : Int32} {post : Int32 → Mem → Prop} (ok : okA A) (hX : IX A M) (K : ∀ M', IX (m_copy A a1 a2 a3 a4 a5).2 M' → post (m_copy A a1 a2 a3 a4 a5).1 M') : wp_X_copy a1 a2 a3 a4 a5 M post := by
  unfold wp_X_copy
  unfold m_copy at K
  rw [xq4, xq4]
  refine ⟨fun c1 => ⟨fun c2 => ?_, fun c2 => by rw [if_pos c1, if_neg c2] at K; exact K M hX⟩, fun c1 => by rw [if_neg c1] at K; exact K M hX⟩
  rw [if_pos c1, if_pos c2] at K
  obtain ⟨s, hs, rfl⟩ := inb_of c1
  obtain ⟨d, hd, rfl⟩ := inb_of c2
  have zs := ok.2.2.2.2.2.2.2 s hs
  have zd := ok.2.2.2.2.2.2.2 d hd
  rw [tnI (by omega : s < 2 ^ 31), tnI (by omega : d < 2 ^ 31)] at K ⊢
  obtain ⟨y1, y2, y3⟩ := hX.2.2.2.2.1 s hs
  obtain ⟨w1, w2, w3⟩ := hX.2.2.2.2.1 d hd
  rw [y1, w1]
  refine ⟨vI hs, vI hd, fun c3 => by rw [if_pos c3] at K; exact x_found hX K, fun c3 => ⟨fun c4 => by rw [if_neg c3, if_pos c4] at K; exact x_found hX K, fun c4 => ⟨fun c5 => ?_, fun c5 => by rw [if_neg c3, if_neg c4, if_neg c5] at K; exact x_found hX K⟩⟩⟩
  rw [if_neg c3, if_neg c4, if_pos c5] at K
  refine x_has ok hX hs ?_
  rw [c10]
  refine ⟨fun c6 => by rw [if_neg (fun q => c6 q.1)] at K; exact x_found hX K, fun c6 => x_has ok hX hd ?_⟩
  have c6 := Decidable.not_not.mp c6
  rw [c10]
  refine ⟨fun c7 => by rw [if_neg (fun q => c7 q.2)] at K; exact x_found hX K, fun c7 => ?_⟩
  have c7 := Decidable.not_not.mp c7
  rw [if_pos ⟨c6, c7⟩] at K
  obtain ⟨p1, p2, p3⟩ := c6
  obtain ⟨q1, q2, q3⟩ := c7
  obtain ⟨e2, t2⟩ := nn_of p1
  obtain ⟨e4, t4⟩ := nn_of q1
  obtain ⟨e5, t5⟩ := nn_of p2
  rw [lt0, lt0, lt0]
  refine ⟨⟨fun q => q p1, fun q => q q1, fun q => q p2, by omega, by omega⟩, fun M20 h20 => K M20 (hX.s1 (fun c c1 c2 => by rw [h20, upr_n c2]) hd (by rw [h20, upr_n (by omega)]; exact w1) (by rw [h20, upr_n (by omega)]; exact w2) (fun i hi => ?_))⟩
  rw [h20, upr_s]
  unfold va_cpy
  by_cases c : tn a4 ≤ i ∧ i < tn a4 + tn a5
  · rw [if_pos c, if_pos c]; exact y3 _ (by omega)
  · rw [if_neg c, if_neg c]; exact w3 i hi
theorem xm_read {A : Ast} {M : Mem} {a1 : Int32} {post : Int32 → Mem → Prop} (ok : okA A) (hX : IX A M) (K : ∀ M', IX (m_read A a1).2 M' → post (m_read A a1).1 M') : wp_X_read a1 M post := by
  unfold wp_X_read
  unfold m_read at K
  rw [xq4]
  refine ⟨fun c1 => ?_, fun c1 => by rw [if_neg c1] at K; exact K M hX⟩
  rw [if_pos c1] at K
  obtain ⟨s, hs, rfl⟩ := inb_of c1
  rw [tnI (by omega : s < 2 ^ 31)] at K ⊢
  have zs := ok.2.2.2.2.2.2.2 s hs
  rw [(hX.2.2.2.2.1 s hs).1]
  refine ⟨vI hs, fun c3 => by rw [if_pos c3] at K; exact x_found hX K, fun c3 => ?_⟩
  rw [if_neg c3] at K
  refine it3_R (fun x y M' => ∃ k, k ≤ 20 ∧ x = nI k ∧ y = nI (3 * k) ∧ ∃ B, okA B ∧ IX B M' ∧ asz B = asz A ∧ ait B = ait A ∧ rd s (21 - k) k B = rd s 21 0 A) (fun x y M' => 20 - tn x) ?_ 4096 0 0 M ⟨0, by omega, rfl, rfl, A, ok, hX, rfl, rfl, rfl⟩ (by decide)
  rintro rc x y M9 ⟨k, hk, rfl, rfl, B, okB, hB, e1, e2, e3⟩ hrec
  have hz : asz B s ≤ 60 := by rw [e1]; exact zs
  obtain ⟨w1, w2, w3⟩ := hB.2.2.2.2.1 s hs
  rw [w2, show nI (3 * k) + 2 = nI (3 * k + 2) from nI_add _ 2, show nI (3 * k) + 1 = nI (3 * k + 1) from nI_add _ 1]
  rw [show 21 - k = (20 - k) + 1 by omega, rd] at e3
  refine ⟨fun q => ?_, fun q => ?_⟩
  · have q := gI q
    rw [if_pos (by omega)] at e3
    rw [← e3] at K
    exact K M9 hB
  · have q := ngI q
    rw [if_neg (by omega)] at e3
    rw [tnI (by omega), tnI (by omega), tnI (by omega), w3 (3 * k) (by omega), w3 (3 * k + 1) (by omega), w3 (3 * k + 2) (by omega)]
    refine ⟨vI (by omega), vI (by omega), vI (by omega), xm_event okB hB (fun M16 h16 => ?_)⟩
    obtain ⟨k1, k2⟩ := ev_keep B (ait B s (3 * k)) (ait B s (3 * k + 1)) (ait B s (3 * k + 2))
    have okE := okA_event okB (ait B s (3 * k)) (ait B s (3 * k + 1)) (ait B s (3 * k + 2))
    refine ⟨fun c => ?_, fun c => ?_⟩
    · rw [if_neg (Int32.not_lt.mpr c)] at e3
      have hk19 : k < 20 := by omega
      refine hrec _ _ _ ⟨k + 1, by omega, ia1 k, nI_add _ 3, _, okE, h16, k1.trans e1, k2.trans e2, by rw [show 21 - (k + 1) = 20 - k by omega]; exact e3⟩ ?_
      rw [ia1, tnI (by omega), tnI (by omega)]; omega
    · rw [if_pos (Int32.not_le.mp c)] at e3
      rw [← e3] at K
      exact K M16 h16
theorem xm_write {A : Ast} {M : Mem} {a1 a2 : Int32} {post : Int32 → Mem → Prop} (ok : okA A) (hX : IX A M) (K : ∀ M', IX (m_write A a1 a2).2 M' → post (m_write A a1 a2).1 M') : wp_X_write a1 a2 M post := by
  unfold wp_X_write
  unfold m_write at K
  rw [xq12, xq4]
  refine ⟨fun c1 => ⟨fun c2 => ?_, fun c2 => by rw [if_pos c1, if_neg c2] at K; exact K M hX⟩, fun c1 => by rw [if_neg c1] at K; exact K M hX⟩
  rw [if_pos c1, if_pos c2] at K
  obtain ⟨m, hm, rfl⟩ := inb_of c1
  obtain ⟨s, hs, rfl⟩ := inb_of c2
  have zs := ok.2.2.2.2.2.2.2 s hs
  rw [tnI (by omega : s < 2 ^ 31), tnI (by omega : m < 2 ^ 31)] at K
  rw [tnI (by omega : s < 2 ^ 31)]
  obtain ⟨y1, y2, y3⟩ := hX.2.2.2.2.1 s hs
  rw [y1, y2]
  refine ⟨vI hs, fun c3 => by rw [if_pos c3] at K; exact x_found hX K, fun c3 => ?_⟩
  rw [if_neg c3] at K
  intro x8 h8
  have hx8 : x8 = nI (min (asz A s) 24) := by
    rw [h8]
    unfold pf_J_min
    rw [show (24 : Int32) = nI 24 from rfl]
    by_cases c : asz A s ≤ 24
    · rw [if_neg (fun q => by have := lI q; omega), Nat.min_eq_left c]
    · rw [if_pos ((nI_ltI (by omega) (by omega)).mpr (by omega)), Nat.min_eq_right (by omega)]
  rw [hx8]
  refine it2_f1 (min (asz A s) 24) (by omega) (fun j M' => IX (s1 A s (afo A s) (asz A s) (fun i => if i < j then pf_R_cut (afo A s) (nI (dep (tld A) allOn i m)) else ait A s i)) M') (fun rc j M12 hj hI hrec => ?_) 0 M (Nat.zero_le _) (hX.s1 (fun _ _ _ => rfl) hs y1 y2 (fun i hi => by simp; exact y3 i hi))
  refine ⟨fun hx => ?_, fun hx => ?_⟩
  · have hj2 : j = min (asz A s) 24 := by have := gI hx; omega
    subst hj2
    exact K M12 hI
  · have hlt : j < min (asz A s) 24 := ngI hx
    have okB := okA_s1 (s := s) (g := fun i => if i < j then pf_R_cut (afo A s) (nI (dep (tld A) allOn i m)) else ait A s i) ok (ok.2.2.2.2.2.2.1 s hs) zs
    have et : tld (s1 A s (afo A s) (asz A s) (fun i => if i < j then pf_R_cut (afo A s) (nI (dep (tld A) allOn i m)) else ait A s i)) = tld A := tld_eq rfl rfl rfl rfl rfl
    refine x_asTold okB hI (fun M14 hX14 hW => ?_)
    rw [et] at hW
    rw [x12, tnI (by omega : 12 * j + m < 2 ^ 31), hW.d (by omega) hm]
    refine ⟨vI (by omega), ?_⟩
    obtain ⟨w1, w2, w3⟩ := hX14.2.2.2.2.1 s hs
    have a1 : afo (s1 A s (afo A s) (asz A s) (fun i => if i < j then pf_R_cut (afo A s) (nI (dep (tld A) allOn i m)) else ait A s i)) s = afo A s := by
      show upd (afo A) s (afo A s) s = _
      rw [upd_s]
    have a2 : asz (s1 A s (afo A s) (asz A s) (fun i => if i < j then pf_R_cut (afo A s) (nI (dep (tld A) allOn i m)) else ait A s i)) s = asz A s := by
      show upN (asz A) s (asz A s) s = _
      rw [upN_s]
    have a3 : ait (s1 A s (afo A s) (asz A s) (fun i => if i < j then pf_R_cut (afo A s) (nI (dep (tld A) allOn i m)) else ait A s i)) s = (fun i => if i < j then pf_R_cut (afo A s) (nI (dep (tld A) allOn i m)) else ait A s i) := by
      show upI (ait A) s _ s = _
      unfold upI
      rw [if_pos rfl]
    rw [a1] at w1
    rw [a2] at w2 w3
    rw [a3] at w3
    unfold wp_XH_put
    rw [w1, tnI (by omega : j < 2 ^ 31)]
    intro u hu
    have hu2 : u = pf_R_cut (afo A s) (nI (dep (tld A) allOn j m)) := by rw [hu]; rfl
    refine ⟨vI (by omega), fun M17 h17 => hrec M17 hlt ?_⟩
    have key := hX14.s1 (M' := M17) (f := afo A s) (n := asz A s) (g := fun i => if i < j + 1 then pf_R_cut (afo A s) (nI (dep (tld A) allOn i m)) else ait A s i) (fun c c1 c2 => by rw [h17, upm_n c2]) hs (by rw [h17, upm_n (by omega)]; exact w1) (by rw [h17, upm_n (by omega)]; exact w2) (fun i hi => by
      rw [h17, upm_s, hu2]
      by_cases c : i = j
      · subst c; rw [upd_s, if_pos (by omega)]
      · rw [upd_n c, w3 i hi]
        by_cases q : i < j
        · simp [q, show i < j + 1 by omega]
        · simp [q, show ¬ i < j + 1 by omega])
    have e : ∀ (f : Int32) (n : Nat) (g h : Nat → Int32), s1 (s1 A s f n g) s f n h = s1 A s f n h := by
      intro f n g h
      show sSh _ (upd (upd (afo A) s f) s f) (upN (upN (asz A) s n) s n) (upI (upI (ait A) s g) s h) = sSh A (upd (afo A) s f) (upN (asz A) s n) (upI (ait A) s h)
      rw [upd_upd]
      have e1 : upN (upN (asz A) s n) s n = upN (asz A) s n := by
        funext u; unfold upN; split <;> rfl
      have e2 : upI (upI (ait A) s g) s h = upI (ait A) s h := by
        funext u; unfold upI; split <;> rfl
      rw [e1, e2]; rfl
    rw [e] at key
    exact key
