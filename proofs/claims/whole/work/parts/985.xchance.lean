/-! the class: chance -/
theorem bc_pop : ∀ E, E < 9 → ∀ x, x < 256 → x < 2 ^ E → pf_J_bitCount (nI x) = nI (pop (onX (nI x)) E) := by decide +kernel
theorem comp : ∀ E, E < 9 → ∀ x, x < 256 → x < 2 ^ E → ∀ e, e < 8 → e < E → onX (nI (2 ^ E - 1 - x)) e = offm (nI x) e := by decide +kernel
theorem x_choices {A : Ast} {M : Mem} {post : Mem → Prop} (ok : okA A) (hX : IX A M) (K : ∀ M', IX A M' → M' 0 9 = 0 → post M') : wp_X_countChoices M post := by
  have okt := okT_tld ok
  have h8 := okt.2.2.1
  have ht := two_le okt
  unfold wp_X_countChoices wp_X_allEvents
  refine ⟨fun c => K M hX c, fun c => ?_⟩
  intro M2 h2
  have kM2 : ∀ c, c ≠ 56 → M2 c = M c := fun c hc => by rw [h2, upr_n hc]
  have r3 : ((1 : Int32) <<< (M2 10 9 &&& 31)) - 1 = nI (2 ^ tld A 2 3 - 1) := by
    rw [kM2 10 (by decide), hX.2.1.2.2.2.2.2.1, sh1 _ (by omega), m1n ht.1]
  rw [r3]
  refine it2_f1 (2 ^ tld A 2 3) (by omega) (fun j M' => (∀ c, (c < 32 ∨ (32 < c ∧ c < 44) ∨ 59 ≤ c) → M' c = M c) ∧ ∀ b, b < tld A 2 1 → ∀ r, r ≤ tld A 2 3 → M' 56 (9 * b + r) = nI (chs (tld A) b r j)) (fun rc j M7 hj hI hrec => ?_) 0 M2 (by omega) ⟨fun c hc => kM2 c (by omega), fun b hb r hr => by rw [h2, upr_s]; unfold zfill; rw [if_pos (by omega)]; rfl⟩
  obtain ⟨hF, hr⟩ := hI
  refine ⟨fun hx => ?_, fun hx => ?_⟩
  · have hj2 : j = 2 ^ tld A 2 3 := by have := lI hx; omega
    subst hj2
    intro M9 h9
    obtain ⟨i1, i2, i3, i4, i5, i6, i7, i8⟩ := hX
    have f : ∀ c, c ≠ 0 → (c < 32 ∨ (32 < c ∧ c < 44) ∨ 59 ≤ c) → M9 c = M c := fun c c0 hc => by rw [h9, upm_n c0, hF c hc]
    refine K M9 ⟨i1.k (fun c hc => f c (by omega) (by omega)), XT_kx i2 i3 (fun c hc => f c (by omega) (by omega)), by rw [f 59 (by omega) (by omega)]; exact i3, i4.k (fun c hc => f c (by omega) (by omega)), i5.k (fun c hc => f c (by omega) (by omega)), by rw [h9, upm_s, upd_n (by decide), hF 0 (by omega)]; exact i6, ?_, ?_⟩ (by rw [h9, upm_s, upd_s])
    · rw [h9, upm_s, upd_n (by decide), hF 0 (by omega), ← h9]
      exact fun q => (i7 q).k (fun c c1 c2 => f c (by omega) (by omega))
    · intro _ b hb r hr'
      rw [h9, upm_n (by decide)]; exact hr b hb r hr'
  · have hlt : j < 2 ^ tld A 2 3 := by have := nlI hx; omega
    have hT7 : XT (tld A) M7 := XT_kx hX.2.1 hX.2.2.1 (fun c hc => hF c (by omega))
    refine x_run (Or.inr rfl) okt hT7 (fun M10 hF10 hW => ?_)
    refine it2_f1 (tld A 2 1) (by omega) (fun i M' => (∀ c, (c < 32 ∨ (32 < c ∧ c < 44) ∨ 59 ≤ c) → M' c = M c) ∧ WX 44 (tld A) (onX (nI j)) 24 M' ∧ ∀ b, b < tld A 2 1 → ∀ r, r ≤ tld A 2 3 → M' 56 (9 * b + r) = nI (chs (tld A) b r (if b < i then j + 1 else j))) (fun rc2 i M15 hi hI2 hrec2 => ?_) 0 M10 (by omega) ⟨fun c hc => by rw [hF10 c (by omega), hF c hc], hW, fun b hb r hr' => by rw [if_neg (Nat.not_lt_zero _), hF10 56 (by omega)]; exact hr b hb r hr'⟩
    obtain ⟨hF15, hW15, hr15⟩ := hI2
    have hT15 : XT (tld A) M15 := XT_kx hX.2.1 hX.2.2.1 (fun c hc => hF15 c (by omega))
    rw [hT15.2.2.2.1]
    refine ⟨fun hx2 => ?_, fun hx2 => ?_⟩
    · have hi2 : i = tld A 2 1 := by have := gI hx2; omega
      subst hi2
      exact hrec M15 hlt ⟨hF15, fun b hb r hr' => by rw [hr15 b hb r hr', if_pos hb]⟩
    · have hlt2 : i < tld A 2 1 := ngI hx2
      have b6 := okt.2.2.2.2.2.2.1 i
      rw [tnI (by omega : i < 2 ^ 31), hT15.2.2.2.2.2.2.2.1 i hlt2]
      refine ⟨vI (by omega), x_ride (u := 23) okt hW15 (by omega) (by omega) (fun M18 hF18 hb18 => ?_)⟩
      have hle := (bus_ok (D := dep (tld A) (onX (nI j))) (s := tld A 6 i) 24).2.1
      have e := m1_iff (n := (bus (dep (tld A) (onX (nI j))) (tld A 6 i) 24).2.1) (by omega)
      have eo : ovr (tld A) (onX (nI j)) i = decide ((bus (dep (tld A) (onX (nI j))) (tld A 6 i) 24).2.1 ≠ 0) := rfl
      have hr18 : ∀ b, b < tld A 2 1 → ∀ r, r ≤ tld A 2 3 → M18 56 (9 * b + r) = nI (chs (tld A) b r (if b < i then j + 1 else j)) := fun b hb r hr' => by rw [hF18 56 (by decide)]; exact hr15 b hb r hr'
      have ms : ∀ b, b ≠ i → (if b < i + 1 then j + 1 else j) = (if b < i then j + 1 else j) := fun b hb => by
        by_cases q : b < i
        · rw [if_pos q, if_pos (by omega)]
        · rw [if_neg q, if_neg (by omega)]
      rw [hb18.2.1, e]
      refine ⟨fun c => ?_, fun c => ?_⟩
      · refine hrec2 M18 hlt2 ⟨fun c hc => by rw [hF18 c (by omega), hF15 c hc], hF18.wx hW15, fun b hb r hr' => ?_⟩
        rw [hr18 b hb r hr']
        by_cases q : b = i
        · subst q
          rw [if_neg (Nat.lt_irrefl _), if_pos (Nat.lt_succ_self _)]
          congr 1
          unfold chs
          rw [cnt, eo]
          simp [c]
        · rw [ms b q]
      · have pl : pop (onX (nI j)) (tld A 2 3) ≤ tld A 2 3 := cnt_le _ _
        have ei : nI i * 9 + pf_J_bitCount (nI j) = nI (9 * i + pop (onX (nI j)) (tld A 2 3)) := by
          rw [bc_pop _ (by omega) j (by omega) hlt, show nI i * 9 = nI (i * 9) from im i 9, nI_add, Nat.mul_comm]
        rw [ei, tnI (by omega)]
        refine ⟨vI (by omega), fun M23 h23 => hrec2 M23 hlt2 ⟨fun c hc => by rw [h23, upm_n (by omega), hF18 c (by omega), hF15 c hc], (hF18.wx hW15).k (fun c c1 c2 => by rw [h23, upm_n (by omega)]), fun b hb r hr' => ?_⟩⟩
        rw [h23, upm_s]
        by_cases q : b = i
        · subst q
          have hov : ovr (tld A) (onX (nI j)) b = true := by rw [eo]; exact decide_eq_true c
          by_cases z : r = pop (onX (nI j)) (tld A 2 3)
          · subst z
            rw [upd_s, hr18 b hb _ hr', if_neg (Nat.lt_irrefl _), if_pos (Nat.lt_succ_self _), ia1]
            congr 1
            unfold chs
            rw [cnt, hov]
            simp
          · rw [upd_n (by omega), hr18 b hb r hr', if_neg (Nat.lt_irrefl _), if_pos (Nat.lt_succ_self _)]
            congr 1
            unfold chs
            rw [cnt, decide_eq_false (fun y => z y.symm), Bool.and_false, if_neg (by decide)]
            rfl
        · have pl2 : 9 * b + r ≠ 9 * i + pop (onX (nI j)) (tld A 2 3) := by omega
          rw [upd_n pl2, hr18 b hb r hr', ms b q]
theorem sumN_cg {f g : Nat → Nat} : ∀ n, (∀ i, i < n → f i = g i) → sumN f n = sumN g n := by
  intro n
  induction n with
  | zero => intro _; rfl
  | succ n ih => intro h; rw [sumN, sumN, ih (fun i hi => h i (by omega)), h n (by omega)]
theorem sumN_add (f g : Nat → Nat) : ∀ n, sumN (fun i => f i + g i) n = sumN f n + sumN g n := by
  intro n
  induction n with
  | zero => rfl
  | succ n ih => rw [sumN, sumN, sumN, ih]; omega
theorem sumN_one (w : Nat → Nat) (k : Nat) : ∀ n, sumN (fun r => if k = r then w r else 0) n = (if k < n then w k else 0) := by
  intro n
  induction n with
  | zero => rfl
  | succ n ih =>
    rw [sumN, ih]
    by_cases c : k = n
    · subst c; rw [if_neg (Nat.lt_irrefl _), if_pos rfl, if_pos (Nat.lt_succ_self _)]; omega
    · rw [if_neg c]
      by_cases d : k < n
      · rw [if_pos d, if_pos (by omega)]; omega
      · rw [if_neg d, if_neg (by omega)]
theorem sumN_cnt (w : Nat → Nat) (o : Nat → Bool) (f : Nat → Nat) (E : Nat) : ∀ n, (∀ x, x < n → f x ≤ E) → sumN (fun r => w r * cnt (fun x => o x && decide (f x = r)) n) (E + 1) = sumN (fun x => if o x = true then w (f x) else 0) n := by
  intro n
  induction n with
  | zero =>
    intro _
    have : ∀ m, sumN (fun r => w r * cnt (fun x => o x && decide (f x = r)) 0) m = 0 := by
      intro m
      induction m with
      | zero => rfl
      | succ m ih => rw [sumN, ih]; simp [cnt]
    exact this _
  | succ n ih =>
    intro h
    rw [show sumN (fun x => if o x = true then w (f x) else 0) (n + 1) = sumN (fun x => if o x = true then w (f x) else 0) n + (if o n = true then w (f n) else 0) from rfl, ← ih (fun x hx => h x (by omega))]
    have hn := h n (by omega)
    have e : sumN (fun r => w r * cnt (fun x => o x && decide (f x = r)) (n + 1)) (E + 1) = sumN (fun r => w r * cnt (fun x => o x && decide (f x = r)) n + (if f n = r then (if o n = true then w r else 0) else 0)) (E + 1) := sumN_cg _ (fun r _ => by
      show w r * (cnt (fun x => o x && decide (f x = r)) n + (if (o n && decide (f n = r)) = true then 1 else 0)) = _
      rw [Nat.mul_add]
      congr 1
      cases o n with
      | true =>
        by_cases c : f n = r
        · simp [c]
        · simp [c]
      | false => simp)
    rw [e, sumN_add]
    congr 1
    rw [sumN_one (fun r => if o n = true then w r else 0) (f n) (E + 1), if_pos (by omega)]
theorem sumN_rev (g : Nat → Nat) : ∀ n, sumN g n = sumN (fun i => g (n - 1 - i)) n := by
  have shift : ∀ (f : Nat → Nat) n, sumN f (n + 1) = f 0 + sumN (fun i => f (i + 1)) n := by
    intro f n
    induction n with
    | zero => simp [sumN]
    | succ n ih => rw [sumN, ih, sumN]; omega
  intro n
  induction n with
  | zero => rfl
  | succ n ih =>
    rw [shift (fun i => g (n + 1 - 1 - i)) n, sumN, ih]
    have : sumN (fun i => g (n + 1 - 1 - (i + 1))) n = sumN (fun i => g (n - 1 - i)) n := sumN_cg n (fun i _ => by
      show g (n + 1 - 1 - (i + 1)) = g (n - 1 - i)
      congr 1; omega)
    rw [this]
    show _ = g (n + 1 - 1 - 0) + _
    rw [show n + 1 - 1 - 0 = n by omega]; omega
theorem wgt_pw (c : Nat) (on : Nat → Bool) (e : Nat) : wgt c on e = c ^ cnt on e * (16 - c) ^ (e - cnt on e) := by
  induction e with
  | zero => rfl
  | succ e ih =>
    have hl := cnt_le on e
    rw [wgt, cnt, ih]
    cases on e with
    | true =>
      rw [if_pos rfl, if_pos rfl, show e + 1 - (cnt on e + 1) = e - cnt on e by omega, Nat.pow_succ]
      rw [Nat.mul_assoc, Nat.mul_comm ((16 - c) ^ _) c, ← Nat.mul_assoc]
    | false =>
      rw [if_neg (by decide), if_neg (by decide), Nat.add_zero, show e + 1 - cnt on e = (e - cnt on e) + 1 by omega, Nat.pow_succ, Nat.mul_assoc]
theorem wgt_c {c : Nat} {on on' : Nat → Bool} : ∀ n, (∀ e, e < n → on e = on' e) → wgt c on n = wgt c on' n := by
  intro n
  induction n with
  | zero => intro _; rfl
  | succ n ih => intro h; rw [wgt, wgt, ih (fun e he => h e (by omega)), h n (by omega)]
theorem abv_x {T : Tld} {c b : Nat} (ok : okT T) : abv T c b = sumN (fun r => c ^ r * (16 - c) ^ (T 2 3 - r) * chs T b r (2 ^ T 2 3)) (T 2 3 + 1) := by
  have h8 := ok.2.2.1
  have ht := two_le ok
  unfold chs
  rw [sumN_cnt (fun r => c ^ r * (16 - c) ^ (T 2 3 - r)) (fun x => ovr T (onX (nI x)) b) (fun x => pop (onX (nI x)) (T 2 3)) (T 2 3) (2 ^ T 2 3) (fun x _ => cnt_le _ _)]
  unfold abv
  rw [sumN_rev (fun x => if ovr T (onX (nI x)) b = true then c ^ pop (onX (nI x)) (T 2 3) * (16 - c) ^ (T 2 3 - pop (onX (nI x)) (T 2 3)) else 0)]
  refine sumN_cg _ (fun x hx => ?_)
  have hc : ∀ e, e < T 2 3 → onX (nI (2 ^ T 2 3 - 1 - x)) e = offm (nI x) e := fun e he => comp (T 2 3) (by omega) x (by omega) hx e (by omega) he
  have e1 : ovr T (onX (nI (2 ^ T 2 3 - 1 - x))) b = ovr T (offm (nI x)) b := by unfold ovr bsT; rw [dep_c hc]
  have e2 : cnt (onX (nI (2 ^ T 2 3 - 1 - x))) (T 2 3) = cnt (offm (nI x)) (T 2 3) := cnt_cg _ hc
  show gch T c b x = (if ovr T (onX (nI (2 ^ T 2 3 - 1 - x))) b = true then c ^ cnt (onX (nI (2 ^ T 2 3 - 1 - x))) (T 2 3) * (16 - c) ^ (T 2 3 - cnt (onX (nI (2 ^ T 2 3 - 1 - x))) (T 2 3)) else 0)
  rw [e1, e2, ← wgt_pw]
  unfold gch
  cases ovr T (offm (nI x)) b with
  | true => simp
  | false => simp
