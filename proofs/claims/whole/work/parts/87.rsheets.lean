/-! sheets, read and write: the reference's side -/
def upI (g : Nat → Nat → Int32) (s : Nat) (f : Nat → Int32) : Nat → Nat → Int32 := fun u => if u = s then f else g u
def s1 (A : Ast) (s : Nat) (f : Int32) (n : Nat) (g : Nat → Int32) : Ast := sSh A (upd (afo A) s f) (upN (asz A) s n) (upI (ait A) s g)
theorem okA_s1 {A : Ast} (ok : okA A) {s n : Nat} {f : Int32} {g : Nat → Int32} (h1 : f = -1 ∨ f = 0 ∨ f = 1 ∨ f = 2) (h2 : n ≤ 60) : okA (s1 A s f n g) := by
  refine okA_sh ok (fun u hu => ?_) (fun u hu => ?_)
  · by_cases c : u = s
    · subst c; rw [upd_s]; exact h1
    · rw [upd_n c]; exact ok.2.2.2.2.2.2.1 u hu
  · by_cases c : u = s
    · subst c; rw [upN_s]; exact h2
    · rw [upN_n c]; exact ok.2.2.2.2.2.2.2 u hu
theorem IR_s1 {A : Ast} {M M' : Mem} {s n : Nat} {f : Int32} {g : Nat → Int32} (h : IR A M) (hF : Fr [1, 2, 3, 4] M M') (h1 : M' 1 = upd (M 1) s f) (h2 : M' 2 = upd (M 2) s (nI n)) (h3 : ∀ i, i < n → M' 3 (60 * s + i) = g i) (h3' : ∀ u, u ≠ s → u < 4 → ∀ i, i < asz A u → M' 3 (60 * u + i) = M 3 (60 * u + i)) : IR (s1 A s f n g) M' := by
  refine IR_sh h hF (fun u hu => ?_) (fun u hu => ?_) (fun u hu i hi => ?_)
  · rw [h1]
    by_cases c : u = s
    · subst c; rw [upd_s, upd_s]
    · rw [upd_n c, upd_n c]; exact h.2.2.2.2.2.2.2.1 u hu
  · rw [h2]
    by_cases c : u = s
    · subst c; rw [upd_s, upN_s]
    · rw [upd_n c, upN_n c]; exact h.2.2.2.2.2.2.2.2.1 u hu
  · unfold upI
    by_cases c : u = s
    · subst c; rw [upN_s] at hi; rw [if_pos rfl]; exact h3 i hi
    · rw [upN_n c] at hi; rw [if_neg c, h3' u c hu i hi]; exact h.2.2.2.2.2.2.2.2.2.1 u hu i hi
def fnd (A : Ast) (f : Int32) : Int32 × Ast := (-10 - f, sFd A f)
theorem fo_pos {A : Ast} (ok : okA A) {s : Nat} (hs : s < 4) : ((0 : Int32) ≤ afo A s ↔ ¬ afo A s = -1) ∧ (afo A s < 0 ↔ afo A s = -1) := by
  rcases ok.2.2.2.2.2.2.1 s hs with h | h | h | h <;> rw [h] <;> decide
def m_sheet (A : Ast) (a1 a2 a3 : Int32) : Int32 × Ast := if inb a1 4 then (if inb a2 3 then (if a3 ≤ 60 then (if 0 ≤ a3 then (a3, s1 A (tn a1) a2 (tn a3) (fun _ => 0)) else fnd A 5) else (-2, A)) else (-2, A)) else (-2, A)
theorem i60 {a : Int32} (h : a ≤ 60) (h0 : 0 ≤ a) : ∃ n, n ≤ 60 ∧ a = nI n := by
  obtain ⟨n, hn, e⟩ := inb_of (a := a) (n := 61) (by
    unfold inb
    rw [Int32.le_iff_toInt_le] at h h0
    have e1 : (60 : Int32).toInt = 60 := rfl
    have e2 : (0 : Int32).toInt = 0 := rfl
    omega)
  exact ⟨n, by omega, e⟩
theorem rm_sheet {A : Ast} {M : Mem} {a1 a2 a3 : Int32} {post : Int32 → Mem → Prop} (ok : okA A) (hR : IR A M) (K : ∀ M', IR (m_sheet A a1 a2 a3).2 M' → post (m_sheet A a1 a2 a3).1 M') : wp_R_sheet a1 a2 a3 M post := by
  unfold wp_R_sheet
  unfold m_sheet at K
  rw [r_sheetQ, r_three, c10, c10]
  refine ⟨fun c1 => by rw [if_neg c1] at K; exact K M hR, fun c1 => ?_⟩
  have c1 := Decidable.not_not.mp c1
  rw [if_pos c1] at K
  refine ⟨fun c2 => by rw [if_neg c2] at K; exact K M hR, fun c2 => ?_⟩
  have c2 := Decidable.not_not.mp c2
  rw [if_pos c2] at K
  refine ⟨fun c3 => ?_, fun c3 => by rw [if_neg c3] at K; exact K M hR⟩
  rw [if_pos c3] at K
  refine ⟨fun c4 => ?_, fun c4 => by rw [if_neg c4] at K; exact r_finds hR K⟩
  rw [if_pos c4] at K
  obtain ⟨s, hs, rfl⟩ := inb_of c1
  obtain ⟨n, hn, rfl⟩ := i60 c3 c4
  rw [tnI (by omega), tnI (by omega)] at K
  rw [tnI (by omega)]
  refine ⟨vI hs, fun M7 h7 M9 h9 => ?_⟩
  have hF9 : Fr [1, 2, 3, 4] M M9 := (Fr.rf.up h7 (by decide)).up h9 (by decide)
  have r1 : M9 1 = upd (M 1) s a2 := by rw [h9, upm_n (by decide), h7, upm_s]
  have r2 : M9 2 = upd (M 2) s (nI n) := by rw [h9, upm_s, h7, upm_n (by decide)]
  have r3 : M9 3 = M 3 := by rw [h9, upm_n (by decide), h7, upm_n (by decide)]
  refine it2_f1 n (by omega) (fun j M' => Fr [3] M9 M' ∧ (∀ i, i < j → M' 3 (60 * s + i) = 0) ∧ (∀ x, (x < 60 * s ∨ 60 * s + 60 ≤ x) → M' 3 x = M 3 x)) (fun rc j M13 hj hI hrec => ?_) 0 M9 (Nat.zero_le _) ⟨Fr.rf, fun i hi => absurd hi (Nat.not_lt_zero _), fun x _ => by rw [r3]⟩
  obtain ⟨hF, hz, hk⟩ := hI
  refine ⟨fun hx => ?_, fun hx => ?_⟩
  · have hj2 : j = n := by have := gI hx; omega
    subst hj2
    refine K M13 (IR_s1 hR (hF9.tr (hF.mo (by decide))) (by rw [hF 1 (by decide), r1]) (by rw [hF 2 (by decide), r2]) hz (fun u hu hu4 i hi => ?_))
    have := ok.2.2.2.2.2.2.2 u hu4
    exact hk _ (by omega)
  · have hlt : j < n := ngI hx
    rw [show (60 : Int32) * nI s = nI (60 * s) from pk_mul 60 s, nI_add, tnI (by omega)]
    refine ⟨vI (by omega), fun M15 h15 => hrec M15 hlt ⟨hF.up h15 (by decide), fun i hi => ?_, fun x hx => ?_⟩⟩
    · rw [h15, upm_s]
      by_cases c : i = j
      · subst c; rw [upd_s]
      · rw [upd_n (by omega)]; exact hz i (by omega)
    · rw [h15, upm_s, upd_n (by omega)]; exact hk x hx
theorem okA_sheet {A : Ast} (ok : okA A) (a1 a2 a3 : Int32) : okA (m_sheet A a1 a2 a3).2 := by
  unfold m_sheet
  split
  · split
    · split
      · split
        · rename_i c1 c2 c3 c4
          obtain ⟨n, hn, rfl⟩ := i60 c3 c4
          obtain ⟨f, hf, rfl⟩ := inb_of c2
          rw [tnI (by omega : n < 2 ^ 31)]
          refine okA_s1 ok ?_ hn
          rcases f with _ | _ | _ | f
          · exact Or.inr (Or.inl rfl)
          · exact Or.inr (Or.inr (Or.inl rfl))
          · exact Or.inr (Or.inr (Or.inr rfl))
          · omega
        · exact okA_fd ok
      · exact ok
    · exact ok
  · exact ok
def m_lose (A : Ast) (a1 : Int32) : Int32 × Ast := if inb a1 4 then (if afo A (tn a1) = -1 then fnd A 1 else (nI (asz A (tn a1)), s1 A (tn a1) (-1) (asz A (tn a1)) (ait A (tn a1)))) else (-2, A)
theorem rm_lose {A : Ast} {M : Mem} {a1 : Int32} {post : Int32 → Mem → Prop} (ok : okA A) (hR : IR A M) (K : ∀ M', IR (m_lose A a1).2 M' → post (m_lose A a1).1 M') : wp_R_lose a1 M post := by
  unfold wp_R_lose
  unfold m_lose at K
  rw [r_sheetQ, c10]
  refine ⟨fun c1 => by rw [if_neg c1] at K; exact K M hR, fun c1 => ?_⟩
  have c1 := Decidable.not_not.mp c1
  rw [if_pos c1] at K
  obtain ⟨s, hs, rfl⟩ := inb_of c1
  rw [tnI (by omega : s < 2 ^ 31)] at K ⊢
  refine ⟨vI hs, ?_⟩
  rw [hR.2.2.2.2.2.2.2.1 s hs, (fo_pos ok hs).1]
  refine ⟨fun c2 => ?_, fun c2 => ?_⟩
  · rw [if_neg c2] at K
    intro M5 h5
    rw [show M5 2 s = nI (asz A s) by rw [h5, upm_n (by decide)]; exact hR.2.2.2.2.2.2.2.2.1 s hs]
    refine K M5 (IR_s1 hR (Fr.rf.up h5 (by decide)) (by rw [h5, upm_s]) (by rw [h5, upm_n (by decide), ← hR.2.2.2.2.2.2.2.2.1 s hs, upd_self]) (fun i hi => by rw [h5, upm_n (by decide)]; exact hR.2.2.2.2.2.2.2.2.2.1 s hs i hi) (fun u _ _ i _ => by rw [h5, upm_n (by decide)]))
  · rw [if_pos (Decidable.not_not.mp c2)] at K
    exact r_finds hR K
theorem okA_lose {A : Ast} (ok : okA A) (a1 : Int32) : okA (m_lose A a1).2 := by
  unfold m_lose
  split
  · rename_i c1
    obtain ⟨s, hs, rfl⟩ := inb_of c1
    rw [tnI (by omega)]
    split
    · exact okA_fd ok
    · exact okA_s1 ok (Or.inl rfl) (ok.2.2.2.2.2.2.2 s hs)
  · exact ok
def lk (A : Ast) (s : Nat) (f i : Int32) : Int32 := if afo A s = -1 then 1 else if afo A s = f then (if inb i (asz A s) then 0 else 2) else 3
theorem r_lacks {A : Ast} {M : Mem} {s : Nat} {f i : Int32} {post : Int32 → Mem → Prop} (ok : okA A) (hR : IR A M) (hs : s < 4) (K0 : lk A s f i = 0 → post 0 M) (K1 : ¬ lk A s f i = 0 → ∀ M', IR (sFd A (lk A s f i)) M' → post (-10 - lk A s f i) M') : wp_R_lacks (nI s) f i M post := by
  have hz := ok.2.2.2.2.2.2.2 s hs
  unfold wp_R_lacks
  rw [tnI (by omega), hR.2.2.2.2.2.2.2.1 s hs, hR.2.2.2.2.2.2.2.2.1 s hs, (fo_pos ok hs).1, ri (a := i) (asz A s) (m1_64 (by omega)), c10]
  refine ⟨vI hs, fun c1 => ⟨fun c2 => ⟨fun c3 => ?_, fun c3 => ?_⟩, fun c2 => ?_⟩, fun c1 => ?_⟩
  · have e : lk A s f i = 2 := by unfold lk; rw [if_neg c1, if_pos c2, if_neg c3]
    rw [e] at K1
    exact r_finds hR (K1 (by decide))
  · exact K0 (by unfold lk; rw [if_neg c1, if_pos c2, if_pos (Decidable.not_not.mp c3)])
  · have e : lk A s f i = 3 := by unfold lk; rw [if_neg c1, if_neg c2]
    rw [e] at K1
    exact r_finds hR (K1 (by decide))
  · have e : lk A s f i = 1 := by unfold lk; rw [if_pos (Decidable.not_not.mp c1)]
    rw [e] at K1
    exact r_finds hR (K1 (by decide))
theorem lk_0 {A : Ast} {s : Nat} {f i : Int32} (h : lk A s f i = 0) : afo A s = f ∧ inb i (asz A s) := by
  unfold lk at h
  split at h
  · exact absurd h (by decide)
  · split at h
    · split at h
      · rename_i c2 c3; exact ⟨c2, c3⟩
      · exact absurd h (by decide)
    · exact absurd h (by decide)
theorem lk_n {A : Ast} {s : Nat} {f i : Int32} (h : ¬ lk A s f i = 0) : ¬ (-10 - lk A s f i = 0) := by
  unfold lk at h ⊢
  split
  · decide
  · split
    · split
      · rename_i c1 c2 c3
        rw [if_neg c1, if_pos c2, if_pos c3] at h
        exact absurd rfl h
      · decide
    · decide
def m_lay (A : Ast) (a1 a2 a3 a4 : Int32) : Int32 × Ast := if inb a1 4 then (if inb a2 3 then (if lk A (tn a1) a2 a3 = 0 then (1, s1 A (tn a1) (afo A (tn a1)) (asz A (tn a1)) (upd (ait A (tn a1)) (tn a3) (pf_R_cut a2 a4))) else fnd A (lk A (tn a1) a2 a3)) else (-2, A)) else (-2, A)
theorem rm_lay {A : Ast} {M : Mem} {a1 a2 a3 a4 : Int32} {post : Int32 → Mem → Prop} (ok : okA A) (hR : IR A M) (K : ∀ M', IR (m_lay A a1 a2 a3 a4).2 M' → post (m_lay A a1 a2 a3 a4).1 M') : wp_R_lay a1 a2 a3 a4 M post := by
  unfold wp_R_lay
  unfold m_lay at K
  rw [r_sheetQ, r_three, c10, c10]
  refine ⟨fun c1 => by rw [if_neg c1] at K; exact K M hR, fun c1 => ?_⟩
  have c1 := Decidable.not_not.mp c1
  rw [if_pos c1] at K
  refine ⟨fun c2 => by rw [if_neg c2] at K; exact K M hR, fun c2 => ?_⟩
  have c2 := Decidable.not_not.mp c2
  rw [if_pos c2] at K
  obtain ⟨s, hs, rfl⟩ := inb_of c1
  rw [tnI (by omega : s < 2 ^ 31)] at K
  have hz := ok.2.2.2.2.2.2.2 s hs
  refine r_lacks ok hR hs (fun h0 => ?_) (fun h0 M' hM => ?_)
  · rw [if_pos h0] at K
    obtain ⟨e1, e2⟩ := lk_0 h0
    obtain ⟨i, hi, rfl⟩ := inb_of e2
    rw [tnI (by omega : i < 2 ^ 31)] at K
    refine ⟨fun _ => ?_, fun q => absurd rfl q⟩
    rw [show (60 : Int32) * nI s = nI (60 * s) from pk_mul 60 s, nI_add, tnI (by omega)]
    refine ⟨vI (by omega), fun M9 h9 => K M9 (IR_s1 hR (Fr.rf.up h9 (by decide)) (by rw [h9, upm_n (by decide), ← hR.2.2.2.2.2.2.2.1 s hs, upd_self]) (by rw [h9, upm_n (by decide), ← hR.2.2.2.2.2.2.2.2.1 s hs, upd_self]) (fun j hj => ?_) (fun u hu hu4 j hj => ?_))⟩
    · rw [h9, upm_s]
      by_cases c : j = i
      · subst c; rw [upd_s, upd_s]
      · rw [upd_n (by omega), upd_n c]; exact hR.2.2.2.2.2.2.2.2.2.1 s hs j hj
    · have := ok.2.2.2.2.2.2.2 u hu4
      rw [h9, upm_s, upd_n (by omega)]
  · rw [if_neg h0] at K
    exact ⟨fun q => absurd q (lk_n h0), fun _ => K M' hM⟩
theorem okA_lay {A : Ast} (ok : okA A) (a1 a2 a3 a4 : Int32) : okA (m_lay A a1 a2 a3 a4).2 := by
  unfold m_lay
  split
  · rename_i c1
    obtain ⟨s, hs, rfl⟩ := inb_of c1
    rw [tnI (by omega : s < 2 ^ 31)]
    split
    · split
      · exact okA_s1 ok (ok.2.2.2.2.2.2.1 s hs) (ok.2.2.2.2.2.2.2 s hs)
      · exact okA_fd ok
    · exact ok
  · exact ok
def m_get (A : Ast) (a1 a2 a3 : Int32) : Int32 × Ast := if inb a1 4 then (if inb a2 3 then (if lk A (tn a1) a2 a3 = 0 then (ait A (tn a1) (tn a3), A) else (-2147483648, sFd A (lk A (tn a1) a2 a3))) else (-2147483648, A)) else (-2147483648, A)
theorem rm_get {A : Ast} {M : Mem} {a1 a2 a3 : Int32} {post : Int32 → Mem → Prop} (ok : okA A) (hR : IR A M) (K : ∀ M', IR (m_get A a1 a2 a3).2 M' → post (m_get A a1 a2 a3).1 M') : wp_R_get a1 a2 a3 M post := by
  unfold wp_R_get
  unfold m_get at K
  rw [r_sheetQ, r_three, c10, c10]
  refine ⟨fun c1 => by rw [if_neg c1] at K; exact K M hR, fun c1 => ?_⟩
  have c1 := Decidable.not_not.mp c1
  rw [if_pos c1] at K
  refine ⟨fun c2 => by rw [if_neg c2] at K; exact K M hR, fun c2 => ?_⟩
  have c2 := Decidable.not_not.mp c2
  rw [if_pos c2] at K
  obtain ⟨s, hs, rfl⟩ := inb_of c1
  rw [tnI (by omega : s < 2 ^ 31)] at K
  have hz := ok.2.2.2.2.2.2.2 s hs
  refine r_lacks ok hR hs (fun h0 => ?_) (fun h0 M' hM => ?_)
  · rw [if_pos h0] at K
    obtain ⟨e1, e2⟩ := lk_0 h0
    obtain ⟨i, hi, rfl⟩ := inb_of e2
    rw [tnI (by omega : i < 2 ^ 31)] at K
    refine ⟨fun _ => ?_, fun q => absurd rfl q⟩
    rw [show (60 : Int32) * nI s = nI (60 * s) from pk_mul 60 s, nI_add, tnI (by omega)]
    refine ⟨vI (by omega), ?_⟩
    rw [hR.2.2.2.2.2.2.2.2.2.1 s hs i hi]
    exact K M hR
  · rw [if_neg h0] at K
    exact ⟨fun q => absurd q (lk_n h0), fun _ => K M' hM⟩
theorem okA_get {A : Ast} (ok : okA A) (a1 a2 a3 : Int32) : okA (m_get A a1 a2 a3).2 := by
  unfold m_get
  split
  · split
    · split
      · exact ok
      · exact okA_fd ok
    · exact ok
  · exact ok
