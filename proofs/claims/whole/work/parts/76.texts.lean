/-! the texts: faults, what they mean -/
def ff (p : Nat → Bool) : Nat → Nat
  | 0 => 0
  | n + 1 => if ff p n < n then ff p n else if p n = true then n + 1 else n
theorem ff_all {p : Nat → Bool} (n : Nat) (h : ∀ i, i < n → p i = true) : ff p n = n := by
  induction n with
  | zero => rfl
  | succ n ih =>
    rw [ff, ih (fun i hi => h i (by omega)), if_neg (Nat.lt_irrefl _), if_pos (h n (by omega))]
theorem ff_at {p : Nat → Bool} {j : Nat} (h : ∀ i, i < j → p i = true) (hj : p j = false) (n : Nat) (hn : j < n) : ff p n = j := by
  induction n with
  | zero => exact absurd hn (Nat.not_lt_zero _)
  | succ n ih =>
    by_cases c : j = n
    · subst c
      rw [ff, ff_all j h, if_neg (Nat.lt_irrefl _), if_neg (by rw [hj]; decide)]
    · have := ih (by omega)
      rw [ff, this, if_pos (by omega)]
theorem ff_good {p : Nat → Bool} : ∀ (n : Nat), ff p n = n → ∀ i, i < n → p i = true := by
  intro n
  induction n with
  | zero => intro _ i hi; exact absurd hi (Nat.not_lt_zero _)
  | succ n ih =>
    intro h i hi
    rw [ff] at h
    split at h
    · omega
    · rename_i c
      split at h
      · rename_i c2
        have hle : ff p n ≤ n := by
          clear ih h c c2 hi
          induction n with
          | zero => exact Nat.le_refl _
          | succ n ih => rw [ff]; split <;> (try split) <;> omega
        by_cases e : i = n
        · subst e; exact c2
        · exact ih (by omega) i (by omega)
      · omega
def okb (t i : Nat) (b : Int32) : Bool :=
  if t = 0 then decide (b = 111 ∨ b = 104 ∨ b = 99)
  else if t = 1 then decide (48 ≤ b ∧ b ≤ 57)
  else if t = 2 then (if i % 4 = 0 then decide (97 ≤ b ∧ b ≤ 108) else if i % 4 = 1 then decide (49 ≤ b ∧ b ≤ 57) else if i % 4 = 2 then decide (b = 101 ∨ b = 119) else decide (b = 59))
  else decide (97 ≤ b ∧ b ≤ 120)
def fpl (t : Nat) (b : Nat → Int32) (n : Nat) : Nat := ff (fun i => okb t i (b i)) n
def flt (t : Nat) (b : Nat → Int32) (n : Nat) : Int32 := if fpl t b n < n then nI (fpl t b n) else if t = 2 ∧ n ≠ 0 ∧ n % 4 ≠ 3 then nI n else -1
def mnt (t : Nat) (b : Nat → Int32) (n : Nat) : Nat := if fpl t b n < n then 0 else if t = 2 ∧ n ≠ 0 ∧ n % 4 ≠ 3 then 0 else n
theorem flt_bad {t : Nat} {b : Nat → Int32} {n j : Nat} (h : ∀ i, i < j → okb t i (b i) = true) (hj : okb t j (b j) = false) (hn : j < n) : flt t b n = nI j ∧ mnt t b n = 0 := by
  have : fpl t b n = j := ff_at h hj n hn
  unfold flt mnt
  rw [this, if_pos hn, if_pos hn]
  exact ⟨rfl, rfl⟩
theorem flt_good {t : Nat} {b : Nat → Int32} {n : Nat} (h : ∀ i, i < n → okb t i (b i) = true) (he : ¬ (t = 2 ∧ n ≠ 0 ∧ n % 4 ≠ 3)) : flt t b n = -1 ∧ mnt t b n = n := by
  have : fpl t b n = n := ff_all n h
  unfold flt mnt
  rw [this, if_neg (Nat.lt_irrefl _), if_neg (Nat.lt_irrefl _), if_neg he, if_neg he]
  exact ⟨rfl, rfl⟩
theorem flt_open {t : Nat} {b : Nat → Int32} {n : Nat} (h : ∀ i, i < n → okb t i (b i) = true) (he : t = 2 ∧ n ≠ 0 ∧ n % 4 ≠ 3) : flt t b n = nI n ∧ mnt t b n = 0 := by
  have : fpl t b n = n := ff_all n h
  unfold flt mnt
  rw [this, if_neg (Nat.lt_irrefl _), if_neg (Nat.lt_irrefl _), if_pos he, if_pos he]
  exact ⟨rfl, rfl⟩
theorem mnt_ok {t : Nat} {b : Nat → Int32} {n i : Nat} (h : i < mnt t b n) : i < n ∧ okb t i (b i) = true := by
  unfold mnt at h
  split at h
  · exact absurd h (Nat.not_lt_zero _)
  · split at h
    · exact absurd h (Nat.not_lt_zero _)
    · rename_i c _
      have hle : ∀ n, ff (fun i => okb t i (b i)) n ≤ n := by
        intro n
        induction n with
        | zero => exact Nat.le_refl _
        | succ n ih => rw [ff]; split <;> (try split) <;> omega
      have h1 := hle n
      have h2 : ff (fun i => okb t i (b i)) n = n := by
        unfold fpl at c; omega
      exact ⟨h, ff_good n h2 i h⟩
def lc (b : Int32) : Nat := if b = 111 then 0 else if b = 104 then 1 else 2
/-! ranges, as both sides ask for them -/
theorem lg_lt {x y : Int64} : (lg_cmp x y < 0) ↔ x < y := by
  unfold lg_cmp
  rw [Int64.lt_iff_toInt_lt]
  by_cases h1 : y < x
  · simp only [h1, if_true]
    rw [Int64.lt_iff_toInt_lt] at h1
    exact ⟨fun q => absurd q (by decide), fun q => by omega⟩
  · simp only [h1, if_false]
    rw [Int64.lt_iff_toInt_lt] at h1
    by_cases h2 : x = y
    · subst h2; simp
    · have h3 : x.toInt ≠ y.toInt := fun q => h2 (Int64.toInt_inj.mp q)
      simp only [h2, if_false]
      exact ⟨fun _ => by omega, fun _ => by decide⟩
theorem lg_gt {x y : Int64} : (0 < lg_cmp x y) ↔ y < x := by
  unfold lg_cmp
  by_cases h1 : y < x
  · simp only [h1, if_true]; decide
  · simp only [h1, if_false]
    by_cases h2 : x = y
    · simp only [h2, if_true]; decide
    · simp only [h2, if_false]; decide
theorem rin {a : Int32} {lo hi : Int64} {l h : Int} (hl : lo.toInt = l) (hh : hi.toInt = h) : pf_R_in a.toInt64 lo hi = if l ≤ a.toInt ∧ a.toInt ≤ h then 1 else 0 := by
  unfold pf_R_in
  simp only [lg_lt, lg_gt, Int64.lt_iff_toInt_lt, Int32.toInt_toInt64, hl, hh]
  by_cases c1 : a.toInt < l
  · rw [if_pos c1, if_neg (by omega)]
  · rw [if_neg c1]
    by_cases c2 : h < a.toInt
    · rw [if_pos c2, if_neg (by omega)]
    · rw [if_neg c2, if_pos (by omega)]
theorem rin_in {j N : Nat} {hi : Int64} (h : j < N) (hN : N < 2 ^ 31) (hh : hi.toInt = (N : Int) - 1) : pf_R_in (nI j).toInt64 0 hi = 1 := by
  rw [rin (l := 0) rfl hh, if_pos]
  rw [nI_toInt (by omega)]; omega
theorem rin_out {a : Int32} {N : Nat} {hi : Int64} (h : ¬ ∃ j, j < N ∧ a = nI j) (hN : N < 2 ^ 31) (hh : hi.toInt = (N : Int) - 1) : pf_R_in a.toInt64 0 hi = 0 := by
  rw [rin (l := 0) rfl hh, if_neg]
  intro q
  refine h ⟨a.toInt.toNat, by omega, ?_⟩
  apply Int32.toInt_inj.mp
  rw [nI_toInt (by omega)]; omega
theorem xo_in {j N : Nat} (h : j < N) (hN : N < 2 ^ 31) : pf_X_outside (nI j) (nI N) = 0 := by
  unfold pf_X_outside
  rw [if_neg (nI_pos (by omega)), if_pos (nI_lt h hN)]
theorem xo_out {a : Int32} {N : Nat} (h : ¬ ∃ j, j < N ∧ a = nI j) (hN : N < 2 ^ 31) : pf_X_outside a (nI N) = 1 := by
  unfold pf_X_outside
  by_cases c : a < 0
  · rw [if_pos c]
  · rw [if_neg c]
    by_cases c2 : a < nI N
    · exfalso
      obtain ⟨j, hj, e⟩ := nI_of c
      subst e
      exact h ⟨j, lI c2, rfl⟩
    · rw [if_neg c2]
theorem rg (a : Int32) (N : Nat) : (∃ j, j < N ∧ a = nI j) ∨ ¬ ∃ j, j < N ∧ a = nI j := Classical.em _
theorem l64 {n : Nat} (h : n < 2 ^ 31) : ((nI n).toInt64).toInt = (n : Int) := by rw [Int32.toInt_toInt64, nI_toInt h]
