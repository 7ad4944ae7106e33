/-! digest: the class's side -/
def fo (f : Nat → Int64 → Int64) (h : Int64) : Nat → Int64
  | 0 => h
  | n + 1 => f n (fo f h n)
def mi (h : Int64) (r : Int32) : Int64 := pf_X_mix h (Int32.toInt64 r)
def gP1 (A : Ast) (k : Nat) (h : Int64) : Int64 := fo (fun i h => mi h (q_plough A (nI k) (nI i))) h 3
def gP2 (A : Ast) (k : Nat) (h : Int64) : Int64 := fo (fun i h => mi (mi (mi h (q_at A (zz_tab i) (nI k) 0)) (q_at A (zz_tab i) (nI k) 1)) (q_at A (zz_tab i) (nI k) 2)) (gP1 A k h) 3
def gP (A : Ast) (k : Nat) (h : Int64) : Int64 := mi (mi (mi (mi (mi (mi (gP2 A k h) (q_cleared A (nI k) 0)) (q_cleared A (nI k) 1)) (q_begin A (nI k) 0)) (q_begin A (nI k) 1)) (q_str A (nI k))) (q_ask A (nI k))
def gB (A : Ast) (k : Nat) (h : Int64) : Int64 := pf_X_mix (pf_X_mix (mi (mi (mi (mi (mi (mi h (q_bus A (nI k))) (q_rides A 9 (nI k))) (q_over A (nI k) 0)) (q_over A (nI k) 1)) (q_start A (nI k) 0)) (q_start A (nI k) 1)) (q_chance A 5 (nI k) 0)) (q_chance A 5 (nI k) 1)
def gD1 (A : Ast) : Int64 := fo (fun i h => mi h (q_count A (nI i))) 17 8
def gD2 (A : Ast) : Int64 := fo (fun t h => mi h (q_fault A (nI t))) (gD1 A) 4
def gD3 (A : Ast) : Int64 := fo (fun i h => mi (mi (mi h (q_fall A (nI i))) (q_snow A (nI i) 0)) (q_snow A (nI i) 1)) (gD2 A) 24
def gD4 (A : Ast) : Int64 := fo (fun i h => mi (mi (mi (mi h (q_land A (nI i))) (q_deep A 6 (nI i))) (q_deep A 20 (nI i))) (q_lie A (nI i))) (gD3 A) 12
def gD5 (A : Ast) : Int64 := fo (gP A) (gD4 A) (tld A 2 0)
def gD6 (A : Ast) : Int64 := fo (gB A) (gD5 A) (tld A 2 1)
def gD7 (A : Ast) : Int64 := fo (fun i h => mi h (q_deepest A (nI i))) (gD6 A) 3
def q_dig (A : Ast) : Int64 := mi (mi (mi (mi (mi (mi (mi (mi (mi (gD7 A) (nI (v_shut (tld A)))) (v_best (tld A))) (q_hedge A 0)) (q_hedge A 1)) (q_spare A (-1))) (q_spare A 0)) (v_never A (tld A))) (q_win A 7 15 0)) (q_win A 7 15 1)
theorem fo0 (f : Nat → Int64 → Int64) (h : Int64) : fo f h 0 = h := rfl
theorem gD1_e (A : Ast) : fo (fun i h => mi h (q_count A (nI i))) 17 8 = gD1 A := by unfold gD1; rfl
theorem gD2_e (A : Ast) : fo (fun t h => mi h (q_fault A (nI t))) (gD1 A) 4 = gD2 A := by unfold gD2; rfl
theorem gD3_e (A : Ast) : fo (fun i h => mi (mi (mi h (q_fall A (nI i))) (q_snow A (nI i) 0)) (q_snow A (nI i) 1)) (gD2 A) 24 = gD3 A := by unfold gD3; rfl
theorem gD4_e (A : Ast) : fo (fun i h => mi (mi (mi (mi h (q_land A (nI i))) (q_deep A 6 (nI i))) (q_deep A 20 (nI i))) (q_lie A (nI i))) (gD3 A) 12 = gD4 A := by unfold gD4; rfl
theorem gD5_e (A : Ast) : fo (gP A) (gD4 A) (tld A 2 0) = gD5 A := by unfold gD5; rfl
theorem gD6_e (A : Ast) : fo (gB A) (gD5 A) (tld A 2 1) = gD6 A := by unfold gD6; rfl
theorem gD7_e (A : Ast) : fo (fun i h => mi h (q_deepest A (nI i))) (gD6 A) 3 = gD7 A := by unfold gD7; rfl
theorem x_mixP {A : Ast} {M : Mem} {k : Nat} {h : Int64} {post : Int64 → Mem → Prop} (ok : okA A) (hX : IX A M) (K : ∀ M', IX A M' → post (gP A k h) M') : wp_X_mixPlough h (nI k) M post := by
  unfold wp_X_mixPlough
  refine it2_f2 3 (by omega) (fun j x => x = fo (fun i h => mi h (q_plough A (nI k) (nI i))) h j) (fun rc j x hj hI hrec => ?_) 0 h (by omega) rfl
  subst hI
  refine ⟨fun hx => ?_, fun hx => ?_⟩
  · have hj2 : j = 3 := by have := gI (a := 3) hx; omega
    subst hj2
    refine it3_f2 3 (by omega) (fun j x M' => IX A M' ∧ x = fo (fun i h => mi (mi (mi h (q_at A (zz_tab i) (nI k) 0)) (q_at A (zz_tab i) (nI k) 1)) (q_at A (zz_tab i) (nI k) 2)) (gP1 A k h) j) (fun rc2 j x M10 hj hI2 hrec2 => ?_) 0 _ M (by omega) ⟨hX, rfl⟩
    obtain ⟨hX10, rfl⟩ := hI2
    refine ⟨fun hx2 => ?_, fun hx2 => ?_⟩
    · have hj2 : j = 3 := by have := gI (a := 3) hx2; omega
      subst hj2
      refine xq_cleared ok hX10 (fun M12 hX12 => xq_cleared ok hX12 (fun M15 hX15 => ?_))
      intro x18 h18
      refine xq_begin ok hX15 (fun M19 hX19 => xq_begin ok hX19 (fun M22 hX22 => ?_))
      intro x25 h25
      refine xq_strengths ok hX22 (fun M26 hX26 => xq_ask ok hX26 (fun M29 hX29 => ?_))
      subst h25
      subst h18
      exact K M29 hX29
    · have hlt : j < 3 := ngI (a := 3) hx2
      rw [tnI (by omega : j < 2 ^ 31)]
      refine ⟨vI hlt, fun x33 h33 => ?_⟩
      subst h33
      refine xq_at ok hX10 (fun M34 hX34 => xq_at ok hX34 (fun M37 hX37 => xq_at ok hX37 (fun M40 hX40 => ?_)))
      intro x43 h43
      exact hrec2 x43 M40 hlt ⟨hX40, h43⟩
  · have hlt : j < 3 := ngI (a := 3) hx
    refine xq_plough ok hX ?_
    intro x46 h46
    exact hrec x46 hlt h46
theorem x_mixB {A : Ast} {M : Mem} {k : Nat} {h : Int64} {post : Int64 → Mem → Prop} (ok : okA A) (hX : IX A M) (K : ∀ M', IX A M' → post (gB A k h) M') : wp_X_mixBus h (nI k) M post := by
  unfold wp_X_mixBus
  refine xq_bus ok hX (xq_rides ok hX (fun M3 hX3 => ?_))
  intro x6 h6
  refine xq_over ok hX3 (fun M7 hX7 => xq_over ok hX7 (fun M10 hX10 => ?_))
  intro x13 h13
  refine xq_start ok hX10 (fun M14 hX14 => xq_start ok hX14 (fun M17 hX17 => ?_))
  intro x20 h20
  refine xq_chance ok hX17 (fun M21 hX21 => xq_chance ok hX21 (fun M24 hX24 => ?_))
  subst h20
  subst h13
  subst h6
  exact K M24 hX24
theorem xq_digest {A : Ast} {M : Mem} {post : Int64 → Mem → Prop} (ok : okA A) (hX : IX A M) (K : ∀ M', IX A M' → post (q_dig A) M') : wp_X_digest M post := by
  have h8 := (okT_tld ok).2.2.1
  unfold wp_X_digest
  refine it3_f2 8 (by omega) (fun j x M' => IX A M' ∧ x = fo (fun i h => mi h (q_count A (nI i))) 17 j) (fun rc j x M5 hj hI hrec => ?_) 0 17 M (by omega) ⟨hX, rfl⟩
  obtain ⟨hX5, rfl⟩ := hI
  refine ⟨fun hx => ?_, fun hx => ?_⟩
  · have hj2 : j = 8 := by have := lI (a := 7) hx; omega
    subst hj2
    clear hrec
    rw [gD1_e]
    refine it2_f2 4 (by omega) (fun j x => x = fo (fun t h => mi h (q_fault A (nI t))) (gD1 A) j) (fun rc j x hj hI hrec => ?_) 0 (gD1 A) (by omega) (fo0 _ _).symm
    subst hI
    refine ⟨fun hx => ?_, fun hx => ?_⟩
    · have hj2 : j = 4 := by have := gI (a := 4) hx; omega
      subst hj2
      clear hrec
      rw [gD2_e]
      refine it3_f2 24 (by omega) (fun j x M' => IX A M' ∧ x = fo (fun i h => mi (mi (mi h (q_fall A (nI i))) (q_snow A (nI i) 0)) (q_snow A (nI i) 1)) (gD2 A) j) (fun rc j x M16 hj hI hrec => ?_) 0 (gD2 A) M5 (by omega) ⟨hX5, (fo0 _ _).symm⟩
      obtain ⟨hX16, rfl⟩ := hI
      refine ⟨fun hx => ?_, fun hx => ?_⟩
      · have hj2 : j = 24 := by have := gI (a := 24) hx; omega
        subst hj2
        clear hrec
        rw [gD3_e]
        refine it3_f2 12 (by omega) (fun j x M' => IX A M' ∧ x = fo (fun i h => mi (mi (mi (mi h (q_land A (nI i))) (q_deep A 6 (nI i))) (q_deep A 20 (nI i))) (q_lie A (nI i))) (gD3 A) j) (fun rc j x M22 hj hI hrec => ?_) 0 (gD3 A) M16 (by omega) ⟨hX16, (fo0 _ _).symm⟩
        obtain ⟨hX22, rfl⟩ := hI
        refine ⟨fun hx => ?_, fun hx => ?_⟩
        · have hj2 : j = 12 := by have := gI (a := 12) hx; omega
          subst hj2
          clear hrec
          rw [gD4_e]
          refine it3_f2 (tld A 2 0) (by omega) (fun j x M' => IX A M' ∧ x = fo (gP A) (gD4 A) j) (fun rc j x M28 hj hI hrec => ?_) 0 (gD4 A) M22 (by omega) ⟨hX22, (fo0 _ _).symm⟩
          obtain ⟨hX28, rfl⟩ := hI
          rw [hX28.2.1.2.2.1]
          refine ⟨fun hx => ?_, fun hx => ?_⟩
          · have hj2 : j = tld A 2 0 := by have := gI hx; omega
            subst hj2
            clear hrec
            rw [gD5_e]
            refine it3_f2 (tld A 2 1) (by omega) (fun j x M' => IX A M' ∧ x = fo (gB A) (gD5 A) j) (fun rc j x M34 hj hI hrec => ?_) 0 (gD5 A) M28 (by omega) ⟨hX28, (fo0 _ _).symm⟩
            obtain ⟨hX34, rfl⟩ := hI
            rw [hX34.2.1.2.2.2.1]
            refine ⟨fun hx => ?_, fun hx => ?_⟩
            · have hj2 : j = tld A 2 1 := by have := gI hx; omega
              subst hj2
              clear hrec
              rw [gD6_e]
              refine it3_f2 3 (by omega) (fun j x M' => IX A M' ∧ x = fo (fun i h => mi h (q_deepest A (nI i))) (gD6 A) j) (fun rc j x M40 hj hI hrec => ?_) 0 (gD6 A) M34 (by omega) ⟨hX34, (fo0 _ _).symm⟩
              obtain ⟨hX40, rfl⟩ := hI
              refine ⟨fun hx => ?_, fun hx => ?_⟩
              · have hj2 : j = 3 := by have := gI (a := 3) hx; omega
                subst hj2
                rw [gD7_e]
                refine xq_shut ok hX40 (fun M42 hX42 => xq_best ok hX42 (fun M45 hX45 => ?_))
                intro x48 h48
                refine xq_hedge ok hX45 (fun M49 hX49 => xq_hedge ok hX49 (fun M52 hX52 => ?_))
                intro x55 h55
                refine xq_spare ok hX52 (fun M56 hX56 => xq_spare ok hX56 (fun M59 hX59 => ?_))
                intro x62 h62
                refine xq_never ok hX59 (fun M63 hX63 => ?_)
                intro x66 h66
                refine xq_winters ok hX63 (fun M67 hX67 => xq_winters ok hX67 (fun M70 hX70 => ?_))
                subst h66
                subst h62
                subst h55
                subst h48
                exact K M70 hX70
              · have hlt : j < 3 := ngI (a := 3) hx
                refine xq_deepest ok hX40 (fun M73 hX73 => ?_)
                intro x76 h76
                exact hrec x76 M73 hlt ⟨hX73, h76⟩
            · have hlt : j < tld A 2 1 := ngI hx
              exact x_mixB ok hX34 (fun M77 hX77 => hrec _ M77 hlt ⟨hX77, rfl⟩)
          · have hlt : j < tld A 2 0 := ngI hx
            exact x_mixP ok hX28 (fun M79 hX79 => hrec _ M79 hlt ⟨hX79, rfl⟩)
        · have hlt : j < 12 := ngI (a := 12) hx
          refine xq_land hX22 (xq_deep ok hX22 (fun M83 hX83 => xq_deep ok hX83 (fun M86 hX86 => xq_lie ok hX86 (fun M89 hX89 => ?_))))
          intro x92 h92
          exact hrec x92 M89 hlt ⟨hX89, h92⟩
      · have hlt : j < 24 := ngI (a := 24) hx
        refine xq_fall hX16 (xq_snow ok hX16 (fun M95 hX95 => xq_snow ok hX95 (fun M98 hX98 => ?_)))
        intro x101 h101
        exact hrec x101 M98 hlt ⟨hX98, h101⟩
    · have hlt : j < 4 := ngI (a := 4) hx
      refine xq_fault ok hX5 ?_
      intro x104 h104
      exact hrec x104 hlt h104
  · have hlt : j < 8 := by have := nlI (a := 7) hx; omega
    refine xq_count ok hX5 (fun M105 hX105 => ?_)
    intro x108 h108
    exact hrec x108 M105 hlt ⟨hX105, h108⟩
