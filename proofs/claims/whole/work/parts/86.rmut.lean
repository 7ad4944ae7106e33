/-! what changes A: the reference's side -/
def sTx (A : Ast) (t n : Nat) (b : Nat → Int32) : Ast := (upN (aln A) t n, (fun u => if u = t then b else abt A u), A.2.2)
def sWd (A : Ast) (v : Nat) : Ast := (aln A, abt A, v, A.2.2.2)
def sEv (A : Ast) (n : Nat) (f : Nat → Nat → Nat) : Ast := (aln A, abt A, awd A, n, f, A.2.2.2.2.2)
def sSg (A : Ast) (n : Nat) (f : Nat → Nat → Nat) : Ast := (aln A, abt A, awd A, aev A, aet A, n, f, A.2.2.2.2.2.2.2)
def sSh (A : Ast) (fo : Nat → Int32) (sz : Nat → Nat) (it : Nat → Nat → Int32) : Ast := (aln A, abt A, awd A, aev A, aet A, asg A, ase A, fo, sz, it, afd A)
def sFd (A : Ast) (f : Int32) : Ast := (aln A, abt A, awd A, aev A, aet A, asg A, ase A, afo A, asz A, ait A, f)
theorem okA_tx {A : Ast} (ok : okA A) {t n : Nat} {b : Nat → Int32} (h : t < 4 → n ≤ tlen t) : okA (sTx A t n b) := by
  refine ⟨fun u hu => ?_, ok.2⟩
  show upN (aln A) t n u ≤ _
  unfold upN
  split
  · rename_i c; subst c; exact h hu
  · exact ok.1 u hu
theorem okA_wd {A : Ast} (ok : okA A) {v : Nat} (h : v ≤ 9) : okA (sWd A v) := ⟨ok.1, h, ok.2.2⟩
theorem okA_ev {A : Ast} (ok : okA A) {n : Nat} {f : Nat → Nat → Nat} (hn : n ≤ 8) (h : ∀ e, e < n → f 0 e ≤ 2 ∧ f 1 e ≤ 23 ∧ f 2 e ≤ 11) : okA (sEv A n f) := ⟨ok.1, ok.2.1, hn, h, ok.2.2.2.2⟩
theorem okA_sg {A : Ast} (ok : okA A) {n : Nat} {f : Nat → Nat → Nat} (hn : n ≤ 8) (h : ∀ e, e < n → f 0 e ≤ 23 ∧ f 1 e ≤ 11 ∧ f 2 e ≤ 99) : okA (sSg A n f) := ⟨ok.1, ok.2.1, ok.2.2.1, ok.2.2.2.1, hn, h, ok.2.2.2.2.2.2⟩
theorem okA_sh {A : Ast} (ok : okA A) {fo : Nat → Int32} {sz : Nat → Nat} {it : Nat → Nat → Int32} (h1 : ∀ s, s < 4 → fo s = -1 ∨ fo s = 0 ∨ fo s = 1 ∨ fo s = 2) (h2 : ∀ s, s < 4 → sz s ≤ 60) : okA (sSh A fo sz it) := ⟨ok.1, ok.2.1, ok.2.2.1, ok.2.2.2.1, ok.2.2.2.2.1, ok.2.2.2.2.2.1, h1, h2⟩
theorem okA_fd {A : Ast} (ok : okA A) {f : Int32} : okA (sFd A f) := ok
theorem IR_tx {A : Ast} {M M' : Mem} {t n : Nat} {b : Nat → Int32} (h : IR A M) (hF : Fr [5, 6] M M') (h6 : M' 6 = upd (M 6) t (nI n)) (h5 : ∀ i, i < n → M' 5 (24 * t + i) = b i) (h5' : ∀ u, u ≠ t → u < 4 → ∀ i, i < aln A u → M' 5 (24 * u + i) = M 5 (24 * u + i)) : IR (sTx A t n b) M' := by
  obtain ⟨a1, a2, a3⟩ := h
  refine ⟨fun u hu => ?_, fun u hu i hi => ?_, ?_⟩
  · show M' 6 u = nI (upN (aln A) t n u)
    rw [h6]
    by_cases c : u = t
    · subst c; rw [upd_s, upN_s]
    · rw [upd_n c, upN_n c]; exact a1 u hu
  · change i < upN (aln A) t n u at hi
    show M' 5 (24 * u + i) = (if u = t then b else abt A u) i
    by_cases c : u = t
    · subst c; rw [upN_s] at hi; rw [if_pos rfl]; exact h5 i hi
    · rw [upN_n c] at hi; rw [if_neg c, h5' u c hu i hi]; exact a2 u hu i hi
  · rw [hF 0 (by decide), hF 11 (by decide), hF 26 (by decide), hF 1 (by decide), hF 2 (by decide), hF 3 (by decide)]
    exact a3
theorem IR_wd {A : Ast} {M M' : Mem} {v : Nat} (h : IR A M) (hM : M' = upm M 0 13 (nI v)) : IR (sWd A v) M' := by
  obtain ⟨a1, a2, a3, a4, a5, a6, a7, a8, a9, a10, a11, a12⟩ := h
  subst hM
  refine ⟨?_, ?_, ?_, ?_, ?_, ?_, ?_, ?_, ?_, ?_, ?_, ?_⟩
  · rw [upm_n (by decide)]; exact a1
  · rw [upm_n (by decide)]; exact a2
  · rw [upm_s, upd_s]; rfl
  · rw [upm_s, upd_n (by decide)]; exact a4
  · rw [upm_n (by decide)]; exact a5
  · rw [upm_s, upd_n (by decide)]; exact a6
  · rw [upm_n (by decide)]; exact a7
  · rw [upm_n (by decide)]; exact a8
  · rw [upm_n (by decide)]; exact a9
  · rw [upm_n (by decide)]; exact a10
  · rw [upm_s, upd_n (by decide)]; exact a11
  · rw [upm_s, upd_n (by decide)]; exact a12
theorem IR_ev {A : Ast} {M M' : Mem} {n : Nat} {f : Nat → Nat → Nat} (h : IR A M) (hF : Fr [0, 11] M M') (h0 : M' 0 = upd (M 0) 14 (nI n)) (h11 : ∀ e, e < n → M' 11 (3 * e) = nI (f 0 e) ∧ M' 11 (3 * e + 1) = nI (f 1 e) ∧ M' 11 (3 * e + 2) = nI (f 2 e)) : IR (sEv A n f) M' := by
  obtain ⟨a1, a2, a3, a4, a5, a6, a7, a8, a9, a10, a11, a12⟩ := h
  refine ⟨?_, ?_, ?_, ?_, h11, ?_, ?_, ?_, ?_, ?_, ?_, ?_⟩
  · rw [hF 6 (by decide)]; exact a1
  · rw [hF 5 (by decide)]; exact a2
  · rw [h0, upd_n (by decide)]; exact a3
  · rw [h0, upd_s]; rfl
  · rw [h0, upd_n (by decide)]; exact a6
  · rw [hF 26 (by decide)]; exact a7
  · rw [hF 1 (by decide)]; exact a8
  · rw [hF 2 (by decide)]; exact a9
  · rw [hF 3 (by decide)]; exact a10
  · rw [h0, upd_n (by decide)]; exact a11
  · rw [h0, upd_n (by decide)]; exact a12
theorem IR_sg {A : Ast} {M M' : Mem} {n : Nat} {f : Nat → Nat → Nat} (h : IR A M) (hF : Fr [0, 26] M M') (h0 : M' 0 = upd (M 0) 31 (nI n)) (h11 : ∀ e, e < n → M' 26 (3 * e) = nI (f 0 e) ∧ M' 26 (3 * e + 1) = nI (f 1 e) ∧ M' 26 (3 * e + 2) = nI (f 2 e)) : IR (sSg A n f) M' := by
  obtain ⟨a1, a2, a3, a4, a5, a6, a7, a8, a9, a10, a11, a12⟩ := h
  refine ⟨?_, ?_, ?_, ?_, ?_, ?_, h11, ?_, ?_, ?_, ?_, ?_⟩
  · rw [hF 6 (by decide)]; exact a1
  · rw [hF 5 (by decide)]; exact a2
  · rw [h0, upd_n (by decide)]; exact a3
  · rw [h0, upd_n (by decide)]; exact a4
  · rw [hF 11 (by decide)]; exact a5
  · rw [h0, upd_s]; rfl
  · rw [hF 1 (by decide)]; exact a8
  · rw [hF 2 (by decide)]; exact a9
  · rw [hF 3 (by decide)]; exact a10
  · rw [h0, upd_n (by decide)]; exact a11
  · rw [h0, upd_n (by decide)]; exact a12
theorem IR_sh {A : Ast} {M M' : Mem} {fo : Nat → Int32} {sz : Nat → Nat} {it : Nat → Nat → Int32} (h : IR A M) (hF : Fr [1, 2, 3, 4] M M') (h1 : ∀ s, s < 4 → M' 1 s = fo s) (h2 : ∀ s, s < 4 → M' 2 s = nI (sz s)) (h3 : ∀ s, s < 4 → ∀ i, i < sz s → M' 3 (60 * s + i) = it s i) : IR (sSh A fo sz it) M' := by
  obtain ⟨a1, a2, a3, a4, a5, a6, a7, a8, a9, a10, a11, a12⟩ := h
  refine ⟨?_, ?_, ?_, ?_, ?_, ?_, ?_, h1, h2, h3, ?_, ?_⟩
  · rw [hF 6 (by decide)]; exact a1
  · rw [hF 5 (by decide)]; exact a2
  · rw [hF 0 (by decide)]; exact a3
  · rw [hF 0 (by decide)]; exact a4
  · rw [hF 11 (by decide)]; exact a5
  · rw [hF 0 (by decide)]; exact a6
  · rw [hF 26 (by decide)]; exact a7
  · rw [hF 0 (by decide)]; exact a11
  · rw [hF 0 (by decide)]; exact a12
theorem r_finds {A : Ast} {M : Mem} {f : Int32} {post : Int32 → Mem → Prop} (h : IR A M) (K : ∀ M', IR (sFd A f) M' → post (-10 - f) M') : wp_R_finds f M post := by
  unfold wp_R_finds
  intro M' hM
  refine K M' ?_
  obtain ⟨a1, a2, a3, a4, a5, a6, a7, a8, a9, a10, a11, a12⟩ := h
  subst hM
  refine ⟨?_, ?_, ?_, ?_, ?_, ?_, ?_, ?_, ?_, ?_, ?_, ?_⟩
  · rw [upm_n (by decide)]; exact a1
  · rw [upm_n (by decide)]; exact a2
  · rw [upm_s, upd_n (by decide)]; exact a3
  · rw [upm_s, upd_n (by decide)]; exact a4
  · rw [upm_n (by decide)]; exact a5
  · rw [upm_s, upd_n (by decide)]; exact a6
  · rw [upm_n (by decide)]; exact a7
  · rw [upm_n (by decide)]; exact a8
  · rw [upm_n (by decide)]; exact a9
  · rw [upm_n (by decide)]; exact a10
  · rw [upm_s, upd_s]; rfl
  · rw [upm_s, upd_n (by decide)]; exact a12
def m_type (A : Ast) (a1 a2 : Int32) : Int32 × Ast := if inb a1 4 then (if inb a2 256 then (if aln A (tn a1) = tlen (tn a1) then (-4, A) else (nI (aln A (tn a1) + 1), sTx A (tn a1) (aln A (tn a1) + 1) (upd (abt A (tn a1)) (aln A (tn a1)) a2))) else (-2, A)) else (-2, A)
theorem tlen_le (t : Nat) (ht : t < 4) : tlen t ≤ 24 := by
  rcases t with _ | _ | _ | _ | t
  · decide
  · decide
  · decide
  · decide
  · omega
theorem rm_type {A : Ast} {M : Mem} {a1 a2 : Int32} {post : Int32 → Mem → Prop} (ok : okA A) (hR : IR A M) (K : ∀ M', IR (m_type A a1 a2).2 M' → post (m_type A a1 a2).1 M') : wp_R_type a1 a2 M post := by
  unfold wp_R_type
  unfold m_type at K
  rw [r_textQ, c10, ri (a := a2) (hi := 255) 256 rfl, c10]
  refine ⟨fun c1 => by rw [if_neg c1] at K; exact K M hR, fun c1 => ?_⟩
  have c1 := Decidable.not_not.mp c1
  rw [if_pos c1] at K
  refine ⟨fun c2 => by rw [if_neg c2] at K; exact K M hR, fun c2 => ?_⟩
  have c2 := Decidable.not_not.mp c2
  rw [if_pos c2] at K
  obtain ⟨t, ht, rfl⟩ := inb_of c1
  rw [tnI (by omega : t < 2 ^ 31)] at K ⊢
  refine ⟨vI ht, fun u hu => ?_⟩
  have hu2 : u = nI (tlen t) := by
    rw [hu]
    rcases t with _ | _ | _ | _ | t
    · decide
    · decide
    · decide
    · decide
    · omega
  have l24 := tlen_le t ht
  have hl := ok.1 t ht
  rw [hu2, hR.1 t ht, nI_eq (by omega) (by omega)]
  refine ⟨fun c3 => by rw [if_pos c3] at K; exact K M hR, fun c3 => ?_⟩
  rw [if_neg c3] at K
  rw [show (24 : Int32) * nI t = nI (24 * t) from pk_mul 24 t, nI_add, tnI (by omega)]
  refine ⟨vI (by omega), fun M11 h11 M13 h13 => ?_⟩
  have e6 : M11 6 t = nI (aln A t) := by rw [h11, upm_n (by decide)]; exact hR.1 t ht
  rw [e6, ia1] at h13
  rw [show M13 6 t = nI (aln A t + 1) by rw [h13, upm_s, upd_s]]
  refine K M13 (IR_tx hR ((Fr.rf.up h11 (by decide)).up h13 (by decide)) (by rw [h13, upm_s, h11, upm_n (by decide)]) (fun i hi => ?_) (fun v hv hv4 i hi => ?_))
  · rw [h13, upm_n (by decide), h11, upm_s]
    by_cases c : i = aln A t
    · subst c; rw [upd_s, upd_s]
    · rw [upd_n (by omega), upd_n c]; exact hR.2.1 t ht i (by omega)
  · have := ok.1 v hv4
    have := tlen_le v hv4
    rw [h13, upm_n (by decide), h11, upm_s, upd_n (by omega)]
def m_wipe (A : Ast) (a1 : Int32) : Int32 × Ast := if inb a1 4 then (nI (aln A (tn a1)), sTx A (tn a1) 0 (abt A (tn a1))) else (-2, A)
theorem rm_wipe {A : Ast} {M : Mem} {a1 : Int32} {post : Int32 → Mem → Prop} (hR : IR A M) (K : ∀ M', IR (m_wipe A a1).2 M' → post (m_wipe A a1).1 M') : wp_R_wipe a1 M post := by
  unfold wp_R_wipe
  unfold m_wipe at K
  rw [r_textQ, c10]
  refine ⟨fun c1 => by rw [if_neg c1] at K; exact K M hR, fun c1 => ?_⟩
  have c1 := Decidable.not_not.mp c1
  rw [if_pos c1] at K
  obtain ⟨t, ht, rfl⟩ := inb_of c1
  rw [tnI (by omega : t < 2 ^ 31)] at K ⊢
  refine ⟨vI ht, fun M4 h4 => ?_⟩
  rw [hR.1 t ht]
  exact K M4 (IR_tx hR (Fr.rf.up h4 (by decide)) (by rw [h4, upm_s]; rfl) (fun i hi => absurd hi (Nat.not_lt_zero _)) (fun v _ _ i _ => by rw [h4, upm_n (by decide)]))
def m_undo (A : Ast) (a1 : Int32) : Int32 × Ast := if inb a1 4 then (if aln A (tn a1) = 0 then (-3, A) else (nI (aln A (tn a1) - 1), sTx A (tn a1) (aln A (tn a1) - 1) (abt A (tn a1)))) else (-2, A)
theorem rm_undo {A : Ast} {M : Mem} {a1 : Int32} {post : Int32 → Mem → Prop} (ok : okA A) (hR : IR A M) (K : ∀ M', IR (m_undo A a1).2 M' → post (m_undo A a1).1 M') : wp_R_undo a1 M post := by
  unfold wp_R_undo
  unfold m_undo at K
  rw [r_textQ, c10]
  refine ⟨fun c1 => by rw [if_neg c1] at K; exact K M hR, fun c1 => ?_⟩
  have c1 := Decidable.not_not.mp c1
  rw [if_pos c1] at K
  obtain ⟨t, ht, rfl⟩ := inb_of c1
  rw [tnI (by omega : t < 2 ^ 31)] at K ⊢
  have hl := ok.1 t ht
  have l24 := tlen_le t ht
  refine ⟨vI ht, ?_⟩
  rw [hR.1 t ht, show (0 : Int32) = nI 0 from rfl, nI_eq (by omega) (by omega)]
  refine ⟨fun c3 => by rw [if_pos c3] at K; exact K M hR, fun c3 => ?_⟩
  rw [if_neg c3] at K
  intro M5 h5
  rw [show (1 : Int32) = nI 1 from rfl, isub (by omega)] at h5
  rw [show M5 6 t = nI (aln A t - 1) by rw [h5, upm_s, upd_s]]
  exact K M5 (IR_tx hR (Fr.rf.up h5 (by decide)) (by rw [h5, upm_s]) (fun i hi => by rw [h5, upm_n (by decide)]; exact hR.2.1 t ht i (by omega)) (fun v _ _ i _ => by rw [h5, upm_n (by decide)]))
def m_wind (A : Ast) (a1 : Int32) : Int32 × Ast := if inb a1 10 then (nI (awd A), sWd A (tn a1)) else (-2, A)
theorem rm_wind {A : Ast} {M : Mem} {a1 : Int32} {post : Int32 → Mem → Prop} (hR : IR A M) (K : ∀ M', IR (m_wind A a1).2 M' → post (m_wind A a1).1 M') : wp_R_wind a1 M post := by
  unfold wp_R_wind
  unfold m_wind at K
  rw [ri (a := a1) (hi := 9) 10 rfl, c10]
  refine ⟨fun c1 => by rw [if_neg c1] at K; exact K M hR, fun c1 => ?_⟩
  have c1 := Decidable.not_not.mp c1
  rw [if_pos c1] at K
  obtain ⟨v, hv, rfl⟩ := inb_of c1
  rw [tnI (by omega : v < 2 ^ 31)] at K
  intro M3 h3
  rw [hR.2.2.1]
  exact K M3 (IR_wd hR h3)
def addE (f : Nat → Nat → Nat) (n x y z : Nat) : Nat → Nat → Nat := fun r => upN (f r) n (if r = 0 then x else if r = 1 then y else z)
def m_event (A : Ast) (a1 a2 a3 : Int32) : Int32 × Ast := if inb a1 3 then (if inb a2 24 then (if inb a3 12 then (if aev A = 8 then (-4, A) else (nI (aev A + 1), sEv A (aev A + 1) (addE (aet A) (aev A) (tn a1) (tn a2) (tn a3)))) else (-2, A)) else (-2, A)) else (-2, A)
theorem rm_event {A : Ast} {M : Mem} {a1 a2 a3 : Int32} {post : Int32 → Mem → Prop} (ok : okA A) (hR : IR A M) (K : ∀ M', IR (m_event A a1 a2 a3).2 M' → Fr [0, 11] M M' → post (m_event A a1 a2 a3).1 M') : wp_R_event a1 a2 a3 M post := by
  unfold wp_R_event
  unfold m_event at K
  rw [r_three, r_hour, r_mile, c10, c10, c10]
  refine ⟨fun c1 => by rw [if_neg c1] at K; exact K M hR Fr.rf, fun c1 => ?_⟩
  have c1 := Decidable.not_not.mp c1
  rw [if_pos c1] at K
  refine ⟨fun c2 => by rw [if_neg c2] at K; exact K M hR Fr.rf, fun c2 => ?_⟩
  have c2 := Decidable.not_not.mp c2
  rw [if_pos c2] at K
  refine ⟨fun c3 => by rw [if_neg c3] at K; exact K M hR Fr.rf, fun c3 => ?_⟩
  have c3 := Decidable.not_not.mp c3
  rw [if_pos c3] at K
  obtain ⟨x, hx, rfl⟩ := inb_of c1
  obtain ⟨y, hy, rfl⟩ := inb_of c2
  obtain ⟨z, hz, rfl⟩ := inb_of c3
  rw [tnI (by omega), tnI (by omega), tnI (by omega)] at K
  have h8 := ok.2.2.1
  have e14 := hR.2.2.2.1
  rw [e14, show (8 : Int32) = nI 8 from rfl, nI_eq (by omega) (by omega)]
  refine ⟨fun c4 => by rw [if_pos c4] at K; exact K M hR Fr.rf, fun c4 => ?_⟩
  rw [if_neg c4] at K
  rw [i3_0, tnI (by omega)]
  refine ⟨vI (by omega), fun M8 h8' => ?_⟩
  rw [show M8 0 14 = nI (aev A) by rw [h8', upm_n (by decide)]; exact e14, i3_1, tnI (by omega)]
  refine ⟨vI (by omega), fun M10 h10 => ?_⟩
  rw [show M10 0 14 = nI (aev A) by rw [h10, upm_n (by decide), h8', upm_n (by decide)]; exact e14, i3_2, tnI (by omega)]
  refine ⟨vI (by omega), fun M12 h12 M14 h14 => ?_⟩
  have hF : Fr [0, 11] M M14 := (((Fr.rf.up h8' (by decide)).up h10 (by decide)).up h12 (by decide)).up h14 (by decide)
  have e0 : M12 0 = M 0 := by rw [h12, upm_n (by decide), h10, upm_n (by decide), h8', upm_n (by decide)]
  have e140 : M14 0 = upd (M 0) 14 (nI (aev A + 1)) := by rw [h14, upm_s, e0, e14, ia1]
  rw [show M14 0 14 = nI (aev A + 1) by rw [e140, upd_s]]
  refine K M14 (IR_ev hR hF e140 (fun e he => ?_)) hF
  have e11 : M14 11 = upd (upd (upd (M 11) (3 * aev A) (nI x)) (3 * aev A + 1) (nI y)) (3 * aev A + 2) (nI z) := by
    rw [h14, upm_n (by decide), h12, upm_s, h10, upm_s, h8', upm_s]
  rw [e11]
  by_cases c : e = aev A
  · subst c
    rw [upd_n (by omega), upd_n (by omega), upd_s, upd_n (by omega), upd_s, upd_s]
    unfold addE
    rw [upN_s, upN_s, upN_s]
    exact ⟨rfl, rfl, rfl⟩
  · unfold addE
    rw [upd_n (by omega), upd_n (by omega), upd_n (by omega), upd_n (by omega), upd_n (by omega), upd_n (by omega), upd_n (by omega), upd_n (by omega), upd_n (by omega), upN_n c, upN_n c, upN_n c]
    exact hR.2.2.2.2.1 e (by omega)
theorem addE_ok {f : Nat → Nat → Nat} {n x y z a b c : Nat} (h : ∀ e, e < n → f 0 e ≤ a ∧ f 1 e ≤ b ∧ f 2 e ≤ c) (hx : x ≤ a) (hy : y ≤ b) (hz : z ≤ c) : ∀ e, e < n + 1 → addE f n x y z 0 e ≤ a ∧ addE f n x y z 1 e ≤ b ∧ addE f n x y z 2 e ≤ c := by
  intro e he
  unfold addE
  by_cases q : e = n
  · subst q; rw [upN_s, upN_s, upN_s]; exact ⟨hx, hy, hz⟩
  · rw [upN_n q, upN_n q, upN_n q]; exact h e (by omega)
theorem okA_event {A : Ast} (ok : okA A) (a1 a2 a3 : Int32) : okA (m_event A a1 a2 a3).2 := by
  unfold m_event
  split
  · split
    · split
      · split
        · exact ok
        · rename_i c1 c2 c3 c4
          obtain ⟨x, hx, rfl⟩ := inb_of c1
          obtain ⟨y, hy, rfl⟩ := inb_of c2
          obtain ⟨z, hz, rfl⟩ := inb_of c3
          have h8 := ok.2.2.1
          rw [tnI (by omega), tnI (by omega), tnI (by omega)]
          exact okA_ev ok (by omega) (addE_ok ok.2.2.2.1 (by omega) (by omega) (by omega))
      · exact ok
    · exact ok
  · exact ok
def m_back (A : Ast) : Int32 × Ast := if aev A = 0 then (-3, A) else (nI (aev A - 1), sEv A (aev A - 1) (aet A))
theorem rm_back {A : Ast} {M : Mem} {post : Int32 → Mem → Prop} (ok : okA A) (hR : IR A M) (K : ∀ M', IR (m_back A).2 M' → post (m_back A).1 M') : wp_R_back M post := by
  unfold wp_R_back
  unfold m_back at K
  have h8 := ok.2.2.1
  have e14 := hR.2.2.2.1
  rw [e14, show (0 : Int32) = nI 0 from rfl, nI_eq (by omega) (by omega)]
  refine ⟨fun c4 => by rw [if_pos c4] at K; exact K M hR, fun c4 => ?_⟩
  rw [if_neg c4] at K
  intro M2 h2
  rw [show (1 : Int32) = nI 1 from rfl, isub (by omega)] at h2
  rw [show M2 0 14 = nI (aev A - 1) by rw [h2, upm_s, upd_s]]
  exact K M2 (IR_ev hR (Fr.rf.up h2 (by decide)) (by rw [h2, upm_s]) (fun e he => by rw [h2, upm_n (by decide)]; exact hR.2.2.2.2.1 e (by omega)))
theorem okA_back {A : Ast} (ok : okA A) : okA (m_back A).2 := by
  unfold m_back
  have h8 := ok.2.2.1
  split
  · exact ok
  · exact okA_ev ok (by omega) (fun e he => ok.2.2.2.1 e (by omega))
def m_seen (A : Ast) (a1 a2 a3 : Int32) : Int32 × Ast := if inb a1 24 then (if inb a2 12 then (if inb a3 100 then (if asg A = 8 then (-4, A) else (nI (asg A + 1), sSg A (asg A + 1) (addE (ase A) (asg A) (tn a1) (tn a2) (tn a3)))) else (-2, A)) else (-2, A)) else (-2, A)
theorem rm_seen {A : Ast} {M : Mem} {a1 a2 a3 : Int32} {post : Int32 → Mem → Prop} (ok : okA A) (hR : IR A M) (K : ∀ M', IR (m_seen A a1 a2 a3).2 M' → post (m_seen A a1 a2 a3).1 M') : wp_R_seen a1 a2 a3 M post := by
  unfold wp_R_seen
  unfold m_seen at K
  rw [r_hour, r_mile, ri (a := a3) (hi := 99) 100 rfl, c10, c10, c10]
  refine ⟨fun c1 => by rw [if_neg c1] at K; exact K M hR, fun c1 => ?_⟩
  have c1 := Decidable.not_not.mp c1
  rw [if_pos c1] at K
  refine ⟨fun c2 => by rw [if_neg c2] at K; exact K M hR, fun c2 => ?_⟩
  have c2 := Decidable.not_not.mp c2
  rw [if_pos c2] at K
  refine ⟨fun c3 => by rw [if_neg c3] at K; exact K M hR, fun c3 => ?_⟩
  have c3 := Decidable.not_not.mp c3
  rw [if_pos c3] at K
  obtain ⟨x, hx, rfl⟩ := inb_of c1
  obtain ⟨y, hy, rfl⟩ := inb_of c2
  obtain ⟨z, hz, rfl⟩ := inb_of c3
  rw [tnI (by omega), tnI (by omega), tnI (by omega)] at K
  have h8 := ok.2.2.2.2.1
  have e14 := hR.2.2.2.2.2.1
  rw [e14, show (8 : Int32) = nI 8 from rfl, nI_eq (by omega) (by omega)]
  refine ⟨fun c4 => by rw [if_pos c4] at K; exact K M hR, fun c4 => ?_⟩
  rw [if_neg c4] at K
  rw [i3_0, tnI (by omega)]
  refine ⟨vI (by omega), fun M8 h8' => ?_⟩
  rw [show M8 0 31 = nI (asg A) by rw [h8', upm_n (by decide)]; exact e14, i3_1, tnI (by omega)]
  refine ⟨vI (by omega), fun M10 h10 => ?_⟩
  rw [show M10 0 31 = nI (asg A) by rw [h10, upm_n (by decide), h8', upm_n (by decide)]; exact e14, i3_2, tnI (by omega)]
  refine ⟨vI (by omega), fun M12 h12 M14 h14 => ?_⟩
  have hF : Fr [0, 26] M M14 := (((Fr.rf.up h8' (by decide)).up h10 (by decide)).up h12 (by decide)).up h14 (by decide)
  have e0 : M12 0 = M 0 := by rw [h12, upm_n (by decide), h10, upm_n (by decide), h8', upm_n (by decide)]
  have e140 : M14 0 = upd (M 0) 31 (nI (asg A + 1)) := by rw [h14, upm_s, e0, e14, ia1]
  rw [show M14 0 31 = nI (asg A + 1) by rw [e140, upd_s]]
  refine K M14 (IR_sg hR hF e140 (fun e he => ?_))
  have e11 : M14 26 = upd (upd (upd (M 26) (3 * asg A) (nI x)) (3 * asg A + 1) (nI y)) (3 * asg A + 2) (nI z) := by
    rw [h14, upm_n (by decide), h12, upm_s, h10, upm_s, h8', upm_s]
  rw [e11]
  by_cases c : e = asg A
  · subst c
    rw [upd_n (by omega), upd_n (by omega), upd_s, upd_n (by omega), upd_s, upd_s]
    unfold addE
    rw [upN_s, upN_s, upN_s]
    exact ⟨rfl, rfl, rfl⟩
  · unfold addE
    rw [upd_n (by omega), upd_n (by omega), upd_n (by omega), upd_n (by omega), upd_n (by omega), upd_n (by omega), upd_n (by omega), upd_n (by omega), upd_n (by omega), upN_n c, upN_n c, upN_n c]
    exact hR.2.2.2.2.2.2.1 e (by omega)
theorem okA_seen {A : Ast} (ok : okA A) (a1 a2 a3 : Int32) : okA (m_seen A a1 a2 a3).2 := by
  unfold m_seen
  split
  · split
    · split
      · split
        · exact ok
        · rename_i c1 c2 c3 c4
          obtain ⟨x, hx, rfl⟩ := inb_of c1
          obtain ⟨y, hy, rfl⟩ := inb_of c2
          obtain ⟨z, hz, rfl⟩ := inb_of c3
          have h8 := ok.2.2.2.2.1
          rw [tnI (by omega), tnI (by omega), tnI (by omega)]
          exact okA_sg ok (by omega) (addE_ok ok.2.2.2.2.2.1 (by omega) (by omega) (by omega))
      · exact ok
    · exact ok
  · exact ok
def m_forget (A : Ast) : Int32 × Ast := (nI (asg A), sSg A 0 (ase A))
theorem rm_forget {A : Ast} {M : Mem} {post : Int32 → Mem → Prop} (hR : IR A M) (K : ∀ M', IR (m_forget A).2 M' → post (m_forget A).1 M') : wp_R_forget M post := by
  unfold wp_R_forget
  intro M1 h1
  rw [hR.2.2.2.2.2.1]
  exact K M1 (IR_sg hR (Fr.rf.up h1 (by decide)) (by rw [h1, upm_s]; rfl) (fun e he => absurd he (Nat.not_lt_zero _)))
theorem okA_type {A : Ast} (ok : okA A) (a1 a2 : Int32) : okA (m_type A a1 a2).2 := by
  unfold m_type
  split
  · split
    · split
      · exact ok
      · rename_i c1 c2 c3
        exact okA_tx ok (fun h => by have := ok.1 _ h; omega)
    · exact ok
  · exact ok
theorem okA_wipe {A : Ast} (ok : okA A) (a1 : Int32) : okA (m_wipe A a1).2 := by
  unfold m_wipe
  split
  · exact okA_tx ok (fun h => Nat.zero_le _)
  · exact ok
theorem okA_undo {A : Ast} (ok : okA A) (a1 : Int32) : okA (m_undo A a1).2 := by
  unfold m_undo
  split
  · split
    · exact ok
    · exact okA_tx ok (fun h => by have := ok.1 _ h; omega)
  · exact ok
theorem okA_wind {A : Ast} (ok : okA A) (a1 : Int32) : okA (m_wind A a1).2 := by
  unfold m_wind
  split
  · rename_i c1
    obtain ⟨x, hx, rfl⟩ := inb_of c1
    rw [tnI (by omega)]
    exact okA_wd ok (by omega)
  · exact ok
theorem okA_forget {A : Ast} (ok : okA A) : okA (m_forget A).2 := okA_sg ok (Nat.zero_le _) (fun e he => absurd he (Nat.not_lt_zero _))
