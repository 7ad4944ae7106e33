/-! THE REFERENCE answers: spare, seen -/
def bt1 (a : Nat) : Int32 := (1 : Int32) <<< (nI a &&& 31)
def offm (x : Int32) (e : Nat) : Bool := decide (pf_R_isIn x (nI e) = 0)
def alo (T : Tld) (x : Int32) : Bool := decide (many T (offm x) = T 2 1)
theorem RT_gone {T : Tld} {M M' : Mem} {x : Int32} (h : RT T M) (hM : M' = upm M 0 16 x) : RT T M' := by
  unfold RT at h ⊢
  rw [hM, upm_s, upm_n (by decide), upm_n (by decide), upm_n (by decide), upm_n (by decide), upm_n (by decide), upd_n (by decide), upd_n (by decide), upd_n (by decide), upd_n (by decide)]
  exact h
theorem r_isSpared {T : Tld} {M : Mem} {x : Int32} {post : Int32 → Mem → Prop} (ok : okT T) (hT : RT T M) (h16 : M 0 16 = 0) (K : ∀ M', Fr LV M M' → post (if alo T x = true then 1 else 0) M') : wp_R_isSpared x M post := by
  have h8 := ok.2.2.1
  unfold wp_R_isSpared
  intro M1 h1
  have hT1 := RT_gone hT h1
  have hon : onR M1 = offm x := by
    funext e
    unfold onR offm
    rw [h1, upm_s, upd_s]
  refine r_lives ok hT1 (fun M2 hF2 hH M4 h4 => ?_)
  rw [hon] at hH
  have r0 : M4 0 = M 0 := by
    rw [h4, upm_s, hF2 0 (by decide), h1, upm_s, upd_upd, ← h16, upd_self]
  have hF4 : Fr LV M M4 := fun c hc => by
    by_cases c0 : c = 0
    · subst c0; exact r0
    · rw [h4, upm_n c0, hF2 c hc, h1, upm_n c0]
  have hml := cnt_le (ovr T (offm x)) (T 2 1)
  refine r_manyOver (on := offm x) ok (by rw [r0]; exact hT.2.2.2.1) (fun k hk => by rw [h4, upm_n (by decide)]; exact hH.ov k hk) (fun u hu => ?_)
  rw [r0, hT.2.2.2.1] at hu
  have e : (nI (many T (offm x)) = nI (T 2 1)) ↔ many T (offm x) = T 2 1 := nI_eq (by unfold many; omega) (by omega)
  have hu2 : u = if alo T x = true then 1 else 0 := by
    rw [hu]
    unfold alo
    by_cases c : many T (offm x) = T 2 1
    · rw [if_pos (e.mpr c), decide_eq_true c, if_pos rfl]
    · rw [if_neg (fun q => c (e.mp q)), decide_eq_false c, if_neg (by decide)]
  refine ⟨?_, by rw [hu2]; exact K M4 hF4⟩
  rw [hu2]
  split
  · exact Or.inr rfl
  · exact Or.inl rfl
def sp1 (T : Tld) : Nat := ff (fun a => !alo T (bt1 a)) (T 2 3)
def spb (T : Tld) (a : Nat) : Nat := ff (fun b => decide (b ≤ a) || !alo T (bt1 a ||| bt1 b)) (T 2 3)
def spa (T : Tld) : Nat := ff (fun a => decide (spb T a = T 2 3)) (T 2 3)
def v_spare (T : Tld) (i : Int32) : Int32 :=
  if alo T 0 = true then (if i = -1 then 0 else -1)
  else if sp1 T < T 2 3 then (if i = -1 then 1 else if i = 0 then nI (sp1 T) else -1)
  else if spa T < T 2 3 then (if i = -1 then 2 else if i = 0 then nI (spa T) else nI (spb T (spa T)))
  else -1
theorem r_spareBy {T : Tld} {M : Mem} {i : Int32} {post : Int32 → Mem → Prop} (ok : okT T) (hT : RT T M) (h16 : M 0 16 = 0) (K : ∀ M', Fr LV M M' → post (v_spare T i) M') : wp_R_spareBy i M post := by
  have h8 := ok.2.2.1
  unfold wp_R_spareBy
  refine r_isSpared ok hT h16 (fun M1 hF1 => ?_)
  have keep : ∀ {M' : Mem}, Fr LV M M' → RT T M' ∧ M' 0 16 = 0 := fun {M'} h => ⟨hT.fr h, by rw [h 0 (by decide)]; exact h16⟩
  unfold v_spare at K
  cases ha : alo T 0 with
  | true =>
    rw [ha, if_pos rfl] at K
    rw [if_pos rfl]
    refine ⟨fun q => absurd q (by decide), fun _ u hu => ?_⟩
    rw [hu]; exact K M1 hF1
  | false =>
    rw [ha, if_neg (by decide)] at K
    rw [if_neg (by decide)]
    refine ⟨fun _ => ?_, fun q => absurd rfl q⟩
    refine it2_f1 (T 2 3) (by omega) (fun j M' => Fr LV M M' ∧ ∀ a, a < j → alo T (bt1 a) = false) (fun rc j M7 hj hI hrec => ?_) 0 M1 (Nat.zero_le _) ⟨hF1, fun k hk => absurd hk (Nat.not_lt_zero _)⟩
    obtain ⟨hF7, hno⟩ := hI
    have k7 := keep hF7
    rw [k7.1.2.2.2.2.2.1]
    refine ⟨fun hx => ?_, fun hx => ?_⟩
    · have hj2 : j = T 2 3 := by have := gI hx; omega
      subst hj2
      clear hrec hj hx
      have e1 : sp1 T = T 2 3 := ff_all _ (fun a h => by simp [hno a h])
      rw [e1, if_neg (Nat.lt_irrefl _)] at K
      refine it2_f1 (T 2 3) (by omega) (fun j M' => Fr LV M M' ∧ ∀ a, a < j → spb T a = T 2 3) (fun rc j M12 hj hI hrec => ?_) 0 M7 (Nat.zero_le _) ⟨hF7, fun k hk => absurd hk (Nat.not_lt_zero _)⟩
      obtain ⟨hF12, hno2⟩ := hI
      have k12 := keep hF12
      rw [k12.1.2.2.2.2.2.1]
      refine ⟨fun hx => ?_, fun hx => ?_⟩
      · have hj2 : j = T 2 3 := by have := gI hx; omega
        subst hj2
        have e2 : spa T = T 2 3 := ff_all _ (fun a h => decide_eq_true (hno2 a h))
        rw [e2, if_neg (Nat.lt_irrefl _)] at K
        exact K M12 hF12
      · have hlt : j < T 2 3 := ngI hx
        have hrec' : ∀ y2 : Mem, j < T 2 3 → (Fr LV M y2 ∧ ∀ a, a < j + 1 → spb T a = T 2 3) → rc (nI (j + 1)) y2 := fun y2 a b => by rw [← ia1]; exact hrec y2 a b
        rw [ia1]
        refine it2_f1 (T 2 3) (by omega) (fun b M' => Fr LV M M' ∧ j < b ∧ ∀ b', j < b' → b' < b → alo T (bt1 j ||| bt1 b') = false) (fun rc2 b M17 hb hI hrec2 => ?_) (j + 1) M12 (by omega) ⟨hF12, by omega, fun b' h1 h2 => absurd h2 (by omega)⟩
        obtain ⟨hF17, hjb, hno3⟩ := hI
        have k17 := keep hF17
        rw [k17.1.2.2.2.2.2.1]
        refine ⟨fun hx => ?_, fun hx => ?_⟩
        · have hb2 : b = T 2 3 := by have := gI hx; omega
          subst hb2
          refine hrec' M17 hlt ⟨hF17, fun a ha => ?_⟩
          by_cases c : a = j
          · subst c
            exact ff_all _ (fun b h => by
              by_cases c2 : b ≤ a
              · simp [c2]
              · simp [hno3 b (by omega) h])
          · exact hno2 a (by omega)
        · have hlt2 : b < T 2 3 := ngI hx
          refine r_isSpared ok k17.1 k17.2 (fun M19 hF19 => ?_)
          have hF19' := hF17.tr hF19
          change ((if alo T (bt1 j ||| bt1 b) = true then (1 : Int32) else 0) = 0 → _) ∧ (¬ (if alo T (bt1 j ||| bt1 b) = true then (1 : Int32) else 0) = 0 → _)
          cases hal : alo T (bt1 j ||| bt1 b) with
          | false =>
            rw [if_neg (by decide)]
            refine ⟨fun _ => hrec2 M19 hlt2 ⟨hF19', by omega, fun b' h1 h2 => ?_⟩, fun q => absurd rfl q⟩
            by_cases c : b' = b
            · subst c; exact hal
            · exact hno3 b' h1 (by omega)
          | true =>
            rw [if_pos rfl]
            refine ⟨fun q => absurd q (by decide), fun _ u hu => ?_⟩
            have e3 : spb T j = b := ff_at (fun i hi => by
              by_cases c2 : i ≤ j
              · simp [c2]
              · simp [hno3 i (by omega) hi]) (by simp [hal]; omega) _ hlt2
            have e4 : spa T = j := ff_at (fun i hi => decide_eq_true (hno2 i hi)) (decide_eq_false (by rw [e3]; omega)) _ hlt
            rw [e4, if_pos hlt, e3] at K
            rw [hu]
            exact K M19 hF19'
    · have hlt : j < T 2 3 := ngI hx
      refine r_isSpared ok k7.1 k7.2 (fun M26 hF26 => ?_)
      have hF26' := hF7.tr hF26
      change ((if alo T (bt1 j) = true then (1 : Int32) else 0) = 0 → _) ∧ (¬ (if alo T (bt1 j) = true then (1 : Int32) else 0) = 0 → _)
      cases hal : alo T (bt1 j) with
      | false =>
        rw [if_neg (by decide)]
        refine ⟨fun _ => hrec M26 hlt ⟨hF26', fun a h => ?_⟩, fun q => absurd rfl q⟩
        by_cases c : a = j
        · subst c; exact hal
        · exact hno a (by omega)
      | true =>
        rw [if_pos rfl]
        refine ⟨fun q => absurd q (by decide), fun _ u hu => ?_⟩
        have e1 : sp1 T = j := ff_at (fun i hi => by simp [hno i hi]) (by simp [hal]) _ hlt
        rw [e1, if_pos hlt] at K
        rw [hu]
        exact K M26 hF26'
def q_spare (A : Ast) (a1 : Int32) : Int32 := if -1 ≤ a1.toInt ∧ a1.toInt ≤ 1 then v_spare (tld A) a1 else -2
theorem rq_spare {A : Ast} {M : Mem} {a1 : Int32} {post : Int32 → Mem → Prop} (ok : okA A) (hR : IR A M) (K : ∀ M', IR A M' → post (q_spare A a1) M') : wp_R_spare a1 M post := by
  unfold wp_R_spare
  refine r_find2 ok hR (fun M1 hF => ?_)
  rw [rin (l := -1) (h := 1) rfl rfl]
  simp only [c10]
  unfold q_spare at K
  refine ⟨fun c1 => by rw [if_neg c1] at K; exact K M1 hF.1, fun c1 => ?_⟩
  rw [if_pos (Decidable.not_not.mp c1)] at K
  exact r_spareBy (okT_tld ok) hF.2.1 hF.1.g (fun M' hF' => K M' (hF.j.fr hF').1)
/-! seen -/
def fitD (A : Ast) (D : Nat → Nat → Nat) : Nat → Bool
  | 0 => true
  | j + 1 => fitD A D j && decide (D (ase A 0 j) (ase A 1 j) = ase A 2 j)
def fit (A : Ast) (T : Tld) (on : Nat → Bool) : Bool := fitD A (dep T on) (asg A)
/-- the sights lie in the reference's memory -/
def SI (A : Ast) (M : Mem) : Prop := M 0 31 = nI (asg A) ∧ ∀ j, j < asg A → M 26 (3 * j) = nI (ase A 0 j) ∧ M 26 (3 * j + 1) = nI (ase A 1 j) ∧ M 26 (3 * j + 2) = nI (ase A 2 j)
theorem IR.si {A : Ast} {M : Mem} (h : IR A M) : SI A M := ⟨h.2.2.2.2.2.1, h.2.2.2.2.2.2.1⟩
theorem SI.k {A : Ast} {M M' : Mem} (h : SI A M) (h0 : M' 0 31 = M 0 31) (h26 : M' 26 = M 26) : SI A M' := by
  unfold SI at h ⊢
  rw [h0, h26]; exact h
theorem r_isSeen {A : Ast} {T : Tld} {M : Mem} {post : Int32 → Mem → Prop} (okA : okA A) (ok : okT T) (hT : RT T M) (hs : SI A M) (K : ∀ M', Fr LV M M' → HI T (onR M) 24 M' → post (if fit A T (onR M) = true then 1 else 0) M') : wp_R_isSeen M post := by
  have hsg := okA.2.2.2.2.1
  have hsr := okA.2.2.2.2.2.1
  unfold wp_R_isSeen
  refine r_lives ok hT (fun M1 hF hH => ?_)
  have hs1 : SI A M1 := hs.k (by rw [hF 0 (by decide)]) (hF 26 (by decide))
  rw [hs1.1]
  refine it2_f2 (asg A) (by omega) (fun j x => x = if fitD A (dep T (onR M)) j = true then 1 else 0) (fun rc j x hj hI hrec => ?_) 0 1 (Nat.zero_le _) rfl
  subst hI
  refine ⟨fun hx => ?_, fun hx => ?_⟩
  · have hj2 : j = asg A := by have := gI hx; omega
    subst hj2
    refine ⟨?_, K M1 hF hH⟩
    split
    · exact Or.inr rfl
    · exact Or.inl rfl
  · have hlt : j < asg A := ngI hx
    obtain ⟨s0, s1, s2⟩ := hs1.2 j hlt
    obtain ⟨b0, b1, b2⟩ := hsr j hlt
    have dd := hH.d (h := ase A 0 j) (by omega) (ase A 1 j) (by omega)
    have dl := dep_le (T := T) (on := onR M) ok (h := ase A 0 j) (by omega) (ase A 1 j)
    rw [i3_1, i3_2, i3_0, tnI (by omega : 3 * j < 2 ^ 31), tnI (by omega : 3 * j + 1 < 2 ^ 31), tnI (by omega : 3 * j + 2 < 2 ^ 31), s0, s1, s2, i12, tnI (by omega : 12 * ase A 0 j + ase A 1 j < 2 ^ 31), dd]
    refine ⟨⟨fun _ => trivial, fun _ => ⟨vI (by omega), vI (by omega), vI (by omega), vI (by omega)⟩⟩, fun u hu => hrec u hlt ?_⟩
    have e : (nI (dep T (onR M) (ase A 0 j) (ase A 1 j)) = nI (ase A 2 j)) ↔ dep T (onR M) (ase A 0 j) (ase A 1 j) = ase A 2 j := nI_eq (by omega) (by omega)
    rw [hu, fitD]
    cases hf : fitD A (dep T (onR M)) j with
    | false => simp
    | true =>
      by_cases c : dep T (onR M) (ase A 0 j) (ase A 1 j) = ase A 2 j
      · simp [c]
      · simp [e, c]
def bts (p : Nat → Bool) : Nat → Int32
  | 0 => 0
  | n + 1 => bts p n ||| (if p n = true then bt1 n else 0)
theorem or0 (x : Int32) : x ||| 0 = x := by simp
def v_never (A : Ast) (T : Tld) : Int32 := bts (fun e => fit A T (offm (bt1 e))) (T 2 3)
theorem r_neverNow {A : Ast} {T : Tld} {M : Mem} {post : Int32 → Mem → Prop} (okA : okA A) (ok : okT T) (hT : RT T M) (hs : SI A M) (h16 : M 0 16 = 0) (K : ∀ M', Fr LV M M' → post (v_never A T) M') : wp_R_neverNow M post := by
  have h8 := ok.2.2.1
  unfold wp_R_neverNow
  refine it3_f2 (T 2 3) (by omega) (fun j x M' => Fr (0 :: LV) M M' ∧ (∃ v, M' 0 = upd (M 0) 16 v) ∧ x = bts (fun e => fit A T (offm (bt1 e))) j) (fun rc j x M5 hj hI hrec => ?_) 0 0 M (Nat.zero_le _) ⟨Fr.rf, ⟨M 0 16, (upd_self _ _).symm⟩, rfl⟩
  obtain ⟨hF, ⟨v, hv⟩, rfl⟩ := hI
  have e14 : M5 0 14 = nI (T 2 3) := by rw [hv, upd_n (by decide)]; exact hT.2.2.2.2.2.1
  rw [e14]
  refine ⟨fun hx => ?_, fun hx => ?_⟩
  · have hj2 : j = T 2 3 := by have := gI hx; omega
    subst hj2
    intro M7 h7
    refine K M7 (fun c hc => ?_)
    by_cases c0 : c = 0
    · subst c0; rw [h7, upm_s, hv, upd_upd, ← h16, upd_self]
    · rw [h7, upm_n c0]; exact hF c (by simp at hc ⊢; omega)
  · have hlt : j < T 2 3 := ngI hx
    intro M8 h8'
    have r0 : M8 0 = upd (M 0) 16 (bt1 j) := by rw [h8', upm_s, hv, upd_upd]; rfl
    have hF8 : Fr (0 :: LV) M M8 := hF.up h8' (by decide)
    have hT8 : RT T M8 := by
      have := RT_gone (x := bt1 j) hT rfl
      refine RT.fr (L := LV) this (fun c hc => ?_)
      by_cases c0 : c = 0
      · subst c0; rw [r0, upm_s]
      · rw [upm_n c0]; exact hF8 c (by simp at hc ⊢; omega)
    have hon : onR M8 = offm (bt1 j) := by
      funext e
      unfold onR offm
      rw [r0, upd_s]
    refine r_isSeen okA ok hT8 (hs.k (by rw [r0, upd_n (by decide)]) (hF8 26 (by decide))) (fun M9 hF9 hH => ?_)
    intro u hu
    refine hrec _ M9 hlt ⟨hF8.tr (hF9.mo (by decide)), ⟨bt1 j, by rw [hF9 0 (by decide), r0]⟩, ?_⟩
    rw [hon] at hu
    rw [hu, bts]
    congr 1
    cases hf : fit A T (offm (bt1 j)) with
    | false => simp
    | true => simp; rfl
theorem rq_never {A : Ast} {M : Mem} {post : Int32 → Mem → Prop} (ok : okA A) (hR : IR A M) (K : ∀ M', IR A M' → post (v_never A (tld A)) M') : wp_R_never M post := by
  unfold wp_R_never
  refine r_find2 ok hR (fun M1 hF => ?_)
  exact r_neverNow ok (okT_tld ok) hF.2.1 hF.1.si hF.1.g (fun M' hF' => K M' (hF.j.fr hF').1)
def v_lie (A : Ast) (T : Tld) (i : Nat) : Int32 := bts (fun v => fit A (upT T 0 i v) allOn) 3
theorem r_lieOf {A : Ast} {T : Tld} {M : Mem} {i : Nat} {post : Int32 → Mem → Prop} (okA : okA A) (ok : okT T) (hT : RT T M) (hs : SI A M) (h16 : M 0 16 = 0) (hi : i < 12) (K : ∀ M', Fr LV M M' → post (v_lie A T i) M') : wp_R_lieOf (nI i) M post := by
  unfold wp_R_lieOf
  rw [tnI (by omega : i < 2 ^ 31)]
  refine ⟨vI (by omega), ?_⟩
  refine it3_f2 3 (by omega) (fun j x M' => Fr (7 :: LV) M M' ∧ (∃ v, M' 7 = upd (M 7) i v) ∧ x = bts (fun v => fit A (upT T 0 i v) allOn) j) (fun rc j x M6 hj hI hrec => ?_) 0 0 M (Nat.zero_le _) ⟨Fr.rf, ⟨M 7 i, (upd_self _ _).symm⟩, rfl⟩
  obtain ⟨hF, ⟨v, hv⟩, rfl⟩ := hI
  refine ⟨fun hx => ?_, fun hx => ?_⟩
  · have hj2 : j = 3 := by have := gI (a := 3) hx; omega
    subst hj2
    intro M8 h8
    refine K M8 (fun c hc => ?_)
    by_cases c0 : c = 7
    · subst c0; rw [h8, upm_s, hv, upd_upd, upd_self]
    · rw [h8, upm_n c0]; exact hF c (by simp at hc ⊢; omega)
  · have hlt : j < 3 := ngI (a := 3) hx
    intro M9 h9
    have r7 : M9 7 = upd (M 7) i (nI j) := by rw [h9, upm_s, hv, upd_upd]
    have hF9 : Fr (7 :: LV) M M9 := hF.up h9 (by decide)
    have hT9 := RT_land (v := j) hT r7 hF9
    have hon : onR M9 = allOn := onR_0 (by rw [hF9 0 (by decide)]; exact h16)
    refine r_isSeen okA (okT_up0 ok (by omega)) hT9 (hs.k (by rw [hF9 0 (by decide)]) (hF9 26 (by decide))) (fun M10 hF10 hH => ?_)
    intro u hu
    refine hrec _ M10 hlt ⟨hF9.tr (hF10.mo (by decide)), ⟨nI j, by rw [hF10 7 (by decide), r7]⟩, ?_⟩
    rw [hon] at hu
    rw [hu, bts]
    congr 1
    cases hf : fit A (upT T 0 i j) allOn with
    | false => simp
    | true => simp; rfl
def q_lie (A : Ast) (a1 : Int32) : Int32 := if inb a1 12 then v_lie A (tld A) (tn a1) else -2
theorem rq_lie {A : Ast} {M : Mem} {a1 : Int32} {post : Int32 → Mem → Prop} (ok : okA A) (hR : IR A M) (K : ∀ M', IR A M' → post (q_lie A a1) M') : wp_R_lie a1 M post := by
  unfold wp_R_lie
  refine r_find2 ok hR (fun M1 hF => ?_)
  simp only [r_mile, c10]
  unfold q_lie at K
  refine ⟨fun c1 => by rw [if_neg c1] at K; exact K M1 hF.1, fun c1 => ?_⟩
  have c1 := Decidable.not_not.mp c1
  rw [if_pos c1] at K
  obtain ⟨i, hi, rfl⟩ := inb_of c1
  rw [tnI (by omega)] at K
  exact r_lieOf ok (okT_tld ok) hF.2.1 hF.1.si hF.1.g hi (fun M' hF' => K M' (hF.j.fr hF').1)
/-! strengths and ask -/
def pStr (A : Ast) (T : Tld) (k v : Nat) : Bool := decide (1 ≤ v) && fit A (upT T 4 k v) allOn
def v_str (A : Ast) (T : Tld) (k : Nat) : Int32 := bts (pStr A T k) 10
theorem r_strengthsOf {A : Ast} {T : Tld} {M : Mem} {k : Nat} {post : Int32 → Mem → Prop} (okA : okA A) (ok : okT T) (hT : RT T M) (hs : SI A M) (h16 : M 0 16 = 0) (hk : k < T 2 0) (K : ∀ M', Fr (27 :: LV) M M' → (∀ v, 1 ≤ v → v < 10 → ∀ x, x < 288 → M' 27 (288 * v + x) = nI (fld (upT T 4 k v) allOn x)) → post (v_str A T k) M') : wp_R_strengthsOf (nI k) M post := by
  have h8 := ok.2.2.1
  unfold wp_R_strengthsOf
  rw [i3_1, tnI (by omega : 3 * k + 1 < 2 ^ 31)]
  refine ⟨vI (by omega), fun x2 hx2 => ?_⟩
  subst hx2
  refine it3_f2 10 (by omega) (fun j x M' => Fr (9 :: 27 :: LV) M M' ∧ (∃ v, M' 9 = upd (M 9) (3 * k + 1) v) ∧ 1 ≤ j ∧ x = bts (pStr A T k) j ∧ (∀ v, 1 ≤ v → v < j → ∀ x, x < 288 → M' 27 (288 * v + x) = nI (fld (upT T 4 k v) allOn x))) (fun rc j x M7 hj hI hrec => ?_) 1 0 M (by omega) ⟨Fr.rf, ⟨M 9 (3 * k + 1), (upd_self _ _).symm⟩, Nat.le_refl _, by simp [bts, pStr], fun v h1 h2 => absurd h2 (by omega)⟩
  obtain ⟨hF, ⟨v, hv⟩, h1, rfl, hw⟩ := hI
  refine ⟨fun hx => ?_, fun hx => ?_⟩
  · have hj2 : j = 10 := by have := gI (a := 10) hx; omega
    subst hj2
    intro M9 h9
    refine K M9 (fun c hc => ?_) (fun v h1 h2 x hx => ?_)
    · by_cases c0 : c = 9
      · subst c0; rw [h9, upm_s, hv, upd_upd, upd_self]
      · rw [h9, upm_n c0]; exact hF c (by simp at hc ⊢; omega)
    · rw [h9, upm_n (by decide)]; exact hw v h1 h2 x hx
  · have hlt : j < 10 := ngI (a := 10) hx
    intro M10 h10
    have r9 : M10 9 = upd (M 9) (3 * k + 1) (nI j) := by rw [h10, upm_s, hv, upd_upd]
    have hF10 : Fr (9 :: 27 :: LV) M M10 := hF.up h10 (by decide)
    have hF10' : Fr (9 :: LV) (upr M 27 (M10 27)) M10 := fun c hc => by
      by_cases c27 : c = 27
      · subst c27; rw [upr_s]
      · rw [upr_n c27]; exact hF10 c (by simp at hc ⊢; omega)
    have hTu : RT T (upr M 27 (M10 27)) := hT.fr (L := [27]) (Fr.rf.ur rfl (by decide))
    have hT10 := RT_strong (v := j) hTu (by rw [upr_n (by decide)]; exact r9) hF10'
    have ok10 := okT_up4 (i := k) (v := j) ok (by omega)
    have hon : onR M10 = allOn := onR_0 (by rw [hF10 0 (by decide)]; exact h16)
    refine r_isSeen okA ok10 hT10 (hs.k (by rw [hF10 0 (by decide)]) (hF10 26 (by decide))) (fun M11 hF11 hH => ?_)
    rw [hon] at hH ⊢
    intro u hu
    refine it2_f1 288 (by omega) (fun x M' => Fr [27] M11 M' ∧ (∀ y, y < 288 * j → M' 27 y = M11 27 y) ∧ (∀ y, y < x → M' 27 (288 * j + y) = nI (fld (upT T 4 k j) allOn y))) (fun rc2 x M18 hx hI2 hrec2 => ?_) 0 M11 (Nat.zero_le _) ⟨Fr.rf, fun _ _ => rfl, fun y hy => absurd hy (Nat.not_lt_zero _)⟩
    obtain ⟨hF18, hold, hnew⟩ := hI2
    refine ⟨fun hx2 => ?_, fun hx2 => ?_⟩
    · have hj2 : x = 288 := by have := gI (a := 288) hx2; omega
      subst hj2
      refine hrec _ M18 hlt ⟨(hF10.tr (hF11.mo (by decide))).tr (hF18.mo (by decide)), ⟨nI j, by rw [hF18 9 (by decide), hF11 9 (by decide), r9]⟩, by omega, ?_, fun v hv1 hv2 y hy => ?_⟩
      · rw [hu, bts]
        congr 1
        unfold pStr
        cases hf : fit A (upT T 4 k j) allOn with
        | false => simp
        | true => simp [h1]; rfl
      · by_cases c : v = j
        · subst c; exact hnew y hy
        · rw [hold _ (by omega), hF11 27 (by decide), h10, upm_n (by decide)]
          exact hw v hv1 (by omega) y hy
    · have hlt2 : x < 288 := ngI (a := 288) hx2
      rw [show (288 : Int32) * nI j = nI (288 * j) from pk_mul 288 j, nI_add, tnI (by omega : x < 2 ^ 31), tnI (by omega : 288 * j + x < 2 ^ 31)]
      refine ⟨vI (by omega), vI (by omega), fun M21 h21 => hrec2 M21 hlt2 ⟨hF18.up h21 (by decide), fun y hy => ?_, fun y hy => ?_⟩⟩
      · rw [h21, upm_s, upd_n (by omega)]; exact hold y hy
      · rw [h21, upm_s]
        by_cases c : y = x
        · subst c; rw [upd_s, hF18 21 (by decide)]; exact hH.f hlt2
        · rw [upd_n (by omega)]; exact hnew y (by omega)
def q_str (A : Ast) (a1 : Int32) : Int32 := if inb a1 (tld A 2 0) then v_str A (tld A) (tn a1) else -2
theorem rq_strengths {A : Ast} {M : Mem} {a1 : Int32} {post : Int32 → Mem → Prop} (ok : okA A) (hR : IR A M) (K : ∀ M', IR A M' → post (q_str A a1) M') : wp_R_strengths a1 M post := by
  have okt := okT_tld ok
  have h8 := okt.2.2.1
  unfold wp_R_strengths
  refine r_find2 ok hR (fun M1 hF => ?_)
  unfold q_str at K
  refine r_isPlough hF.2.1.2.2.1 (by omega) ?_
  rw [c10]
  refine ⟨fun c1 => by rw [if_neg c1] at K; exact K M1 hF.1, fun c1 => ?_⟩
  have c1 := Decidable.not_not.mp c1
  rw [if_pos c1] at K
  obtain ⟨k, hk, rfl⟩ := inb_of c1
  rw [tnI (by omega)] at K
  exact r_strengthsOf ok okt hF.2.1 hF.1.si hF.1.g hk (fun M' hF' _ => K M' (hF.j.fr hF').1)
