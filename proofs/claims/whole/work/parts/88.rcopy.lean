/-! copy, write, read: the reference's side -/
theorem lg_le {x y : Int64} : (lg_cmp x y ≤ 0) ↔ ¬ y < x := by
  rw [← lg_gt]; exact Int32.not_lt.symm
theorem l64add (a b : Int32) : (a.toInt64 + b.toInt64).toInt = a.toInt + b.toInt := by
  have h1 := Int32.toInt_lt a
  have h2 := Int32.le_toInt a
  have h3 := Int32.toInt_lt b
  have h4 := Int32.le_toInt b
  rw [Int64.toInt_add, Int32.toInt_toInt64, Int32.toInt_toInt64]
  apply Int.bmod_eq_of_le <;> omega
def hi1 (A : Ast) (s : Nat) (x n : Int32) : Prop := 0 ≤ x.toInt ∧ 0 ≤ n.toInt ∧ x.toInt + n.toInt ≤ (asz A s : Int)
theorem lt0 (x : Int32) : (x < 0) ↔ ¬ 0 ≤ x.toInt := by
  rw [Int32.lt_iff_toInt_lt]
  have : (0 : Int32).toInt = 0 := rfl
  omega
theorem nn_of {x : Int32} (h : 0 ≤ x.toInt) : x = nI (tn x) ∧ (tn x : Int) = x.toInt := by
  have h1 := Int32.toInt_lt x
  have e : x = nI x.toInt.toNat := by
    apply Int32.toInt_inj.mp
    rw [nI_toInt (by omega)]
    omega
  have e2 : tn x = x.toInt.toNat := by
    have := congrArg tn e
    rw [tnI (by omega)] at this
    exact this
  rw [e2]
  exact ⟨e, by omega⟩
def m_copy (A : Ast) (a1 a2 a3 a4 a5 : Int32) : Int32 × Ast :=
  if inb a1 4 then (if inb a3 4 then (if afo A (tn a1) = -1 then fnd A 1 else if afo A (tn a3) = -1 then fnd A 1 else if afo A (tn a1) = afo A (tn a3) then
    (if (0 ≤ a2.toInt ∧ 0 ≤ a5.toInt ∧ a2.toInt + a5.toInt ≤ (asz A (tn a1) : Int)) ∧ (0 ≤ a4.toInt ∧ 0 ≤ a5.toInt ∧ a4.toInt + a5.toInt ≤ (asz A (tn a3) : Int)) then (1, s1 A (tn a3) (afo A (tn a3)) (asz A (tn a3)) (va_cpy (ait A (tn a1)) (ait A (tn a3)) (tn a2) (tn a4) (tn a5))) else fnd A 2) else fnd A 4) else (-2, A)) else (-2, A)
theorem rm_copy {A : Ast} {M : Mem} {a1 a2 a3 a4 a5 : Int32} {post : Int32 → Mem → Prop} (ok : okA A) (hR : IR A M) (K : ∀ M', IR (m_copy A a1 a2 a3 a4 a5).2 M' → post (m_copy A a1 a2 a3 a4 a5).1 M') : wp_R_copy a1 a2 a3 a4 a5 M post := by
  unfold wp_R_copy
  unfold m_copy at K
  rw [r_sheetQ, r_sheetQ, c10, c10]
  refine ⟨fun c1 => by rw [if_neg c1] at K; exact K M hR, fun c1 => ?_⟩
  have c1 := Decidable.not_not.mp c1
  rw [if_pos c1] at K
  refine ⟨fun c2 => by rw [if_neg c2] at K; exact K M hR, fun c2 => ?_⟩
  have c2 := Decidable.not_not.mp c2
  rw [if_pos c2] at K
  obtain ⟨s, hs, rfl⟩ := inb_of c1
  obtain ⟨d, hd, rfl⟩ := inb_of c2
  have zs := ok.2.2.2.2.2.2.2 s hs
  have zd := ok.2.2.2.2.2.2.2 d hd
  rw [tnI (by omega : s < 2 ^ 31), tnI (by omega : d < 2 ^ 31)] at K
  rw [tnI (by omega : s < 2 ^ 31), tnI (by omega : d < 2 ^ 31), hR.2.2.2.2.2.2.2.1 s hs, hR.2.2.2.2.2.2.2.1 d hd, (fo_pos ok hs).2, (fo_pos ok hd).1, hR.2.2.2.2.2.2.2.2.1 s hs, hR.2.2.2.2.2.2.2.2.1 d hd]
  simp only [lg_gt, lg_le, Int64.lt_iff_toInt_lt, l64add, l64 (show asz A s < 2 ^ 31 by omega), l64 (show asz A d < 2 ^ 31 by omega)]
  refine ⟨vI hs, fun c3 => by rw [if_pos c3] at K; exact r_finds hR K, fun c3 => ⟨vI hd, fun c4 => ?_, fun c4 => by rw [if_neg c3, if_pos (Decidable.not_not.mp c4)] at K; exact r_finds hR K⟩⟩
  rw [if_neg c3, if_neg c4] at K
  refine ⟨fun c5 => ?_, fun c5 => by rw [if_neg c5] at K; exact r_finds hR K⟩
  rw [if_pos c5] at K
  refine ⟨fun c6 => ?_, fun c6 => ⟨fun c7 => ?_, fun c7 => ⟨fun c8 => ?_, fun c8 => ⟨fun c9 => ?_, fun c9 => ⟨fun c10 => ?_, fun c10 => ?_⟩⟩⟩⟩⟩
  · rw [if_neg (by rw [lt0] at c6; omega)] at K; exact r_finds hR K
  · rw [if_neg (by rw [lt0] at c7; omega)] at K; exact r_finds hR K
  · rw [if_neg (by rw [lt0] at c8; omega)] at K; exact r_finds hR K
  · rw [if_neg (by omega)] at K; exact r_finds hR K
  · rw [lt0] at c6 c7 c8
    rw [if_pos (by omega)] at K
    obtain ⟨e2, t2⟩ := nn_of (Decidable.not_not.mp c6)
    obtain ⟨e4, t4⟩ := nn_of (Decidable.not_not.mp c7)
    obtain ⟨e5, t5⟩ := nn_of (Decidable.not_not.mp c8)
    generalize hx : tn a2 = x at *
    generalize hy : tn a4 = y at *
    generalize hn : tn a5 = n at *
    subst e2 e4 e5
    rw [show (60 : Int32) * nI s = nI (60 * s) from pk_mul 60 s, show (60 : Int32) * nI d = nI (60 * d) from pk_mul 60 d, nI_add, nI_add]
    refine it2_f1 n (by omega) (fun j M' => Fr [4] M M' ∧ (∀ i, i < j → M' 4 i = ait A s (x + i))) (fun rc j M28 hj hI hrec => ?_) 0 M (Nat.zero_le _) ⟨Fr.rf, fun i hi => absurd hi (Nat.not_lt_zero _)⟩
    obtain ⟨hF, h4⟩ := hI
    refine ⟨fun hx => ?_, fun hx => ?_⟩
    · have hj2 : j = n := by have := gI hx; omega
      subst hj2
      refine it2_f1 j (by omega) (fun k M' => Fr [3] M28 M' ∧ (∀ z, M' 3 z = if 60 * d + y ≤ z ∧ z < 60 * d + y + k then ait A s (x + (z - (60 * d + y))) else M 3 z)) (fun rc2 k M33 hk hI2 hrec2 => ?_) 0 M28 (Nat.zero_le _) ⟨Fr.rf, fun z => by rw [if_neg (by omega), hF 3 (by decide)]⟩
      obtain ⟨hF2, h3⟩ := hI2
      refine ⟨fun hx2 => ?_, fun hx2 => ?_⟩
      · have hk2 : k = j := by have := gI hx2; omega
        subst hk2
        refine K M33 (IR_s1 hR ((hF.mo (by decide)).tr (hF2.mo (by decide))) (by rw [hF2 1 (by decide), hF 1 (by decide), ← hR.2.2.2.2.2.2.2.1 d hd, upd_self]) (by rw [hF2 2 (by decide), hF 2 (by decide), ← hR.2.2.2.2.2.2.2.2.1 d hd, upd_self]) (fun i hi => ?_) (fun u hu hu4 i hi => ?_))
        · rw [h3]
          unfold va_cpy
          by_cases c : y ≤ i ∧ i < y + k
          · rw [if_pos c, if_pos (by omega), show 60 * d + i - (60 * d + y) = i - y by omega]
          · rw [if_neg c, if_neg (by omega)]; exact hR.2.2.2.2.2.2.2.2.2.1 d hd i hi
        · have := ok.2.2.2.2.2.2.2 u hu4
          rw [h3, if_neg (by omega)]
      · have hlt2 : k < j := ngI hx2
        rw [nI_add, tnI (by omega : k < 2 ^ 31), tnI (by omega : 60 * d + y + k < 2 ^ 31)]
        refine ⟨vI (by omega), vI (by omega), fun M36 h36 => hrec2 M36 hlt2 ⟨hF2.up h36 (by decide), fun z => ?_⟩⟩
        rw [h36, upm_s]
        by_cases c : z = 60 * d + y + k
        · subst c
          rw [upd_s, hF2 4 (by decide), h4 k hlt2, if_pos (by omega)]
          congr 2; omega
        · rw [upd_n c, h3]
          by_cases c2 : 60 * d + y ≤ z ∧ z < 60 * d + y + k
          · rw [if_pos c2, if_pos (by omega)]
          · rw [if_neg c2, if_neg (by omega)]
    · have hlt : j < n := ngI hx
      rw [nI_add, tnI (by omega : j < 2 ^ 31), tnI (by omega : 60 * s + x + j < 2 ^ 31)]
      refine ⟨vI (by omega), vI (by omega), fun M39 h39 => hrec M39 hlt ⟨hF.up h39 (by decide), fun i hi => ?_⟩⟩
      rw [h39, upm_s]
      by_cases c : i = j
      · subst c
        rw [upd_s, hF 3 (by decide), show 60 * s + x + i = 60 * s + (x + i) by omega]
        exact hR.2.2.2.2.2.2.2.2.2.1 s hs (x + i) (by omega)
      · rw [upd_n c]; exact h4 i (by omega)
  · rw [if_neg (by omega)] at K; exact r_finds hR K
theorem okA_copy {A : Ast} (ok : okA A) (a1 a2 a3 a4 a5 : Int32) : okA (m_copy A a1 a2 a3 a4 a5).2 := by
  unfold m_copy
  split
  · split
    · rename_i c1 c2
      obtain ⟨d, hd, rfl⟩ := inb_of c2
      rw [tnI (by omega : d < 2 ^ 31)]
      split
      · exact okA_fd ok
      · split
        · exact okA_fd ok
        · split
          · split
            · exact okA_s1 ok (ok.2.2.2.2.2.2.1 d hd) (ok.2.2.2.2.2.2.2 d hd)
            · exact okA_fd ok
          · exact okA_fd ok
    · exact ok
  · exact ok
def wrs (A : Ast) (m s : Nat) : Nat → Int32 := fun i => if i < min (asz A s) 24 then pf_R_cut (afo A s) (nI (dep (tld A) allOn i m)) else ait A s i
def m_write (A : Ast) (a1 a2 : Int32) : Int32 × Ast := if inb a1 12 then (if inb a2 4 then (if afo A (tn a2) = -1 then fnd A 1 else (nI (min (asz A (tn a2)) 24), s1 A (tn a2) (afo A (tn a2)) (asz A (tn a2)) (wrs A (tn a1) (tn a2)))) else (-2, A)) else (-2, A)
theorem rm_write {A : Ast} {M : Mem} {a1 a2 : Int32} {post : Int32 → Mem → Prop} (ok : okA A) (hR : IR A M) (K : ∀ M', IR (m_write A a1 a2).2 M' → post (m_write A a1 a2).1 M') : wp_R_write a1 a2 M post := by
  unfold wp_R_write
  unfold m_write at K
  rw [r_mile, r_sheetQ, c10, c10]
  refine ⟨fun c1 => by rw [if_neg c1] at K; exact K M hR, fun c1 => ?_⟩
  have c1 := Decidable.not_not.mp c1
  rw [if_pos c1] at K
  refine ⟨fun c2 => by rw [if_neg c2] at K; exact K M hR, fun c2 => ?_⟩
  have c2 := Decidable.not_not.mp c2
  rw [if_pos c2] at K
  obtain ⟨m, hm, rfl⟩ := inb_of c1
  obtain ⟨s, hs, rfl⟩ := inb_of c2
  have zs := ok.2.2.2.2.2.2.2 s hs
  rw [tnI (by omega : s < 2 ^ 31), tnI (by omega : m < 2 ^ 31)] at K
  rw [tnI (by omega : s < 2 ^ 31), hR.2.2.2.2.2.2.2.1 s hs, (fo_pos ok hs).1]
  refine ⟨vI hs, fun c3 => ?_, fun c3 => by rw [if_pos (Decidable.not_not.mp c3)] at K; exact r_finds hR K⟩
  rw [if_neg c3] at K
  refine r_find2 ok hR (fun M7 hF => ?_)
  obtain ⟨hR7, hT, hH⟩ := hF
  intro x10 h10
  have hx10 : x10 = nI (min (asz A s) 24) := by
    rw [h10, hR7.2.2.2.2.2.2.2.2.1 s hs]
    unfold pf_R_lesser
    rw [show (24 : Int32) = nI 24 from rfl]
    by_cases c : 24 ≤ asz A s
    · rw [if_pos ((nI_leI (by omega) (by omega)).mpr c), Nat.min_eq_right c]
    · rw [if_neg (fun q => c ((nI_leI (by omega) (by omega)).mp q)), Nat.min_eq_left (by omega)]
  rw [hx10]
  refine it2_f1 (min (asz A s) 24) (by omega) (fun j M' => Fr [3] M7 M' ∧ (∀ z, M' 3 z = if 60 * s ≤ z ∧ z < 60 * s + j then pf_R_cut (afo A s) (nI (dep (tld A) allOn (z - 60 * s) m)) else M7 3 z)) (fun rc j M14 hj hI hrec => ?_) 0 M7 (Nat.zero_le _) ⟨Fr.rf, fun z => by rw [if_neg (by omega)]⟩
  obtain ⟨hF, h3⟩ := hI
  refine ⟨fun hx => ?_, fun hx => ?_⟩
  · have hj2 : j = min (asz A s) 24 := by have := gI hx; omega
    subst hj2
    refine K M14 (IR_s1 hR7 (hF.mo (by decide)) (by rw [hF 1 (by decide), ← hR7.2.2.2.2.2.2.2.1 s hs, upd_self]) (by rw [hF 2 (by decide), ← hR7.2.2.2.2.2.2.2.2.1 s hs, upd_self]) (fun i hi => ?_) (fun u hu hu4 i hi => ?_))
    · rw [h3]
      unfold wrs
      by_cases c : i < min (asz A s) 24
      · rw [if_pos c, if_pos (by omega), show 60 * s + i - 60 * s = i by omega]
      · rw [if_neg c, if_neg (by omega)]; exact hR7.2.2.2.2.2.2.2.2.2.1 s hs i hi
    · have := ok.2.2.2.2.2.2.2 u hu4
      rw [h3, if_neg (by omega)]
  · have hlt : j < min (asz A s) 24 := ngI hx
    rw [i12, show (60 : Int32) * nI s = nI (60 * s) from pk_mul 60 s, nI_add, tnI (by omega : 12 * j + m < 2 ^ 31), tnI (by omega : 60 * s + j < 2 ^ 31)]
    refine ⟨vI (by omega), vI (by omega), fun M18 h18 => hrec M18 hlt ⟨hF.up h18 (by decide), fun z => ?_⟩⟩
    rw [h18, upm_s]
    by_cases c : z = 60 * s + j
    · subst c
      rw [upd_s, if_pos (by omega), hF 1 (by decide), hF 21 (by decide), hH.d (by omega) m hm, hR7.2.2.2.2.2.2.2.1 s hs, show 60 * s + j - 60 * s = j by omega]
    · rw [upd_n c, h3]
      by_cases c2 : 60 * s ≤ z ∧ z < 60 * s + j
      · rw [if_pos c2, if_pos (by omega)]
      · rw [if_neg c2, if_neg (by omega)]
theorem okA_write {A : Ast} (ok : okA A) (a1 a2 : Int32) : okA (m_write A a1 a2).2 := by
  unfold m_write
  split
  · split
    · rename_i c1 c2
      obtain ⟨d, hd, rfl⟩ := inb_of c2
      rw [tnI (by omega : d < 2 ^ 31)]
      split
      · exact okA_fd ok
      · exact okA_s1 ok (ok.2.2.2.2.2.2.1 d hd) (ok.2.2.2.2.2.2.2 d hd)
    · exact ok
  · exact ok
def rd (s : Nat) : Nat → Nat → Ast → Int32 × Ast
  | 0, k, A => (nI k, A)
  | f + 1, k, A => if asz A s < 3 * k + 3 then (nI k, A) else if (m_event A (ait A s (3 * k)) (ait A s (3 * k + 1)) (ait A s (3 * k + 2))).1 < 0 then (nI k, (m_event A (ait A s (3 * k)) (ait A s (3 * k + 1)) (ait A s (3 * k + 2))).2) else rd s f (k + 1) (m_event A (ait A s (3 * k)) (ait A s (3 * k + 1)) (ait A s (3 * k + 2))).2
def m_read (A : Ast) (a1 : Int32) : Int32 × Ast := if inb a1 4 then (if afo A (tn a1) = -1 then fnd A 1 else rd (tn a1) 21 0 A) else (-2, A)
theorem ev_keep (A : Ast) (a b c : Int32) : asz (m_event A a b c).2 = asz A ∧ ait (m_event A a b c).2 = ait A := by
  unfold m_event
  split
  · split
    · split
      · split
        · exact ⟨rfl, rfl⟩
        · exact ⟨rfl, rfl⟩
      · exact ⟨rfl, rfl⟩
    · exact ⟨rfl, rfl⟩
  · exact ⟨rfl, rfl⟩
theorem okA_rd (s : Nat) : ∀ (f k : Nat) (A : Ast), okA A → okA (rd s f k A).2 := by
  intro f
  induction f with
  | zero => intro k A ok; exact ok
  | succ f ih =>
    intro k A ok
    rw [rd]
    split
    · exact ok
    · split
      · exact okA_event ok _ _ _
      · exact ih _ _ (okA_event ok _ _ _)
theorem okA_read {A : Ast} (ok : okA A) (a1 : Int32) : okA (m_read A a1).2 := by
  unfold m_read
  split
  · split
    · exact okA_fd ok
    · exact okA_rd _ _ _ _ ok
  · exact ok
theorem rm_read {A : Ast} {M : Mem} {a1 : Int32} {post : Int32 → Mem → Prop} (ok : okA A) (hR : IR A M) (K : ∀ M', IR (m_read A a1).2 M' → post (m_read A a1).1 M') : wp_R_read a1 M post := by
  unfold wp_R_read
  unfold m_read at K
  rw [r_sheetQ, c10]
  refine ⟨fun c1 => by rw [if_neg c1] at K; exact K M hR, fun c1 => ?_⟩
  have c1 := Decidable.not_not.mp c1
  rw [if_pos c1] at K
  obtain ⟨s, hs, rfl⟩ := inb_of c1
  rw [tnI (by omega : s < 2 ^ 31)] at K ⊢
  have zs := ok.2.2.2.2.2.2.2 s hs
  rw [hR.2.2.2.2.2.2.2.1 s hs, (fo_pos ok hs).1]
  refine ⟨vI hs, fun c3 => ?_, fun c3 => by rw [if_pos (Decidable.not_not.mp c3)] at K; exact r_finds hR K⟩
  rw [if_neg c3] at K
  refine it3_R (fun x y M' => ∃ k, k ≤ 20 ∧ x = nI k ∧ ((y = 1 ∧ ∃ B, okA B ∧ IR B M' ∧ asz B = asz A ∧ ait B = ait A ∧ rd s (21 - k) k B = rd s 21 0 A) ∨ (y = 0 ∧ IR (rd s 21 0 A).2 M' ∧ (rd s 21 0 A).1 = nI k))) (fun x y M' => 2 * (20 - tn x) + tn y) ?_ 4096 0 1 M ⟨0, by omega, rfl, Or.inl ⟨rfl, A, ok, hR, rfl, rfl, rfl⟩⟩ (by rw [show tn 0 = 0 from rfl, show tn 1 = 1 from rfl]; omega)
  rintro rc x y M9 ⟨k, hk, rfl, hy⟩ hrec
  rcases hy with ⟨rfl, B, okB, hB, e1, e2, e3⟩ | ⟨rfl, hB, e1⟩
  · refine ⟨fun q => absurd q (by decide), fun _ => ?_⟩
    have hz : asz B s ≤ 60 := by rw [e1]; exact zs
    rw [hB.2.2.2.2.2.2.2.2.1 s hs, i3_0, show nI (3 * k) + 3 = nI (3 * k + 3) from nI_add _ 3]
    rw [show 21 - k = (20 - k) + 1 by omega, rd] at e3
    refine ⟨fun q => ?_, fun q => ?_⟩
    · have q := lI q
      rw [if_pos q] at e3
      rw [← e3] at K
      exact K M9 hB
    · have q := nlI q
      rw [if_neg (by omega)] at e3
      intro x12 h12
      rw [show (60 : Int32) * nI s = nI (60 * s) from pk_mul 60 s, nI_add] at h12
      subst h12
      rw [show nI (60 * s + 3 * k) + 1 = nI (60 * s + (3 * k + 1)) from nI_add _ 1, show nI (60 * s + 3 * k) + 2 = nI (60 * s + (3 * k + 2)) from nI_add _ 2, tnI (by omega), tnI (by omega), tnI (by omega), hB.2.2.2.2.2.2.2.2.2.1 s hs (3 * k) (by omega), hB.2.2.2.2.2.2.2.2.2.1 s hs (3 * k + 1) (by omega), hB.2.2.2.2.2.2.2.2.2.1 s hs (3 * k + 2) (by omega)]
      refine ⟨vI (by omega), vI (by omega), vI (by omega), rm_event okB hB (fun M16 h16 _ => ?_)⟩
      obtain ⟨k1, k2⟩ := ev_keep B (ait B s (3 * k)) (ait B s (3 * k + 1)) (ait B s (3 * k + 2))
      have okE := okA_event okB (ait B s (3 * k)) (ait B s (3 * k + 1)) (ait B s (3 * k + 2))
      intro u19 h19 u21 h21
      by_cases c : (m_event B (ait B s (3 * k)) (ait B s (3 * k + 1)) (ait B s (3 * k + 2))).1 < 0
      · rw [if_pos c] at h19 e3
        subst h19
        rw [if_pos rfl] at h21
        subst h21
        refine hrec _ _ _ ⟨k, hk, by rw [show nI k + 0 = nI k from nI_add k 0], Or.inr ⟨rfl, by rw [← e3]; exact h16, by rw [← e3]⟩⟩ ?_
        rw [show nI k + 0 = nI k from nI_add k 0, show tn 0 = 0 from rfl, show tn 1 = 1 from rfl]; omega
      · rw [if_neg c] at h19 e3
        subst h19
        rw [if_neg (by decide)] at h21
        subst h21
        have hk19 : k < 20 := by omega
        refine hrec _ _ _ ⟨k + 1, by omega, ia1 k, Or.inl ⟨rfl, _, okE, h16, k1.trans e1, k2.trans e2, by rw [show 21 - (k + 1) = 20 - k by omega]; exact e3⟩⟩ ?_
        rw [ia1, tnI (by omega), tnI (by omega)]; omega
  · refine ⟨fun _ => ?_, fun q => absurd rfl q⟩
    rw [e1] at K
    exact K M9 hB
