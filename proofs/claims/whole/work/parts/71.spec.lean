/-! THE SPEC: the road hour by hour, in plain numbers. Rows of T: 0 land, 1 fall, 2 counts (ploughs, buses, wind, events), 3 begin, 4 strong, 5 way, 6 start, 7 kind, 8 hour, 9 number -/
abbrev Tld : Type := Nat → Nat → Nat
def okT (T : Tld) : Prop := (∀ i, T 0 i ≤ 2) ∧ (∀ i, T 1 i ≤ 9) ∧ (T 2 0 ≤ 4 ∧ T 2 1 ≤ 8 ∧ T 2 2 ≤ 9 ∧ T 2 3 ≤ 8) ∧ (∀ i, T 3 i ≤ 11) ∧ (∀ i, T 4 i ≤ 9) ∧ (∀ i, T 5 i ≤ 1) ∧ (∀ i, T 6 i ≤ 23) ∧ (∀ i, T 7 i ≤ 2) ∧ (∀ i, T 8 i ≤ 23) ∧ (∀ i, T 9 i ≤ 11)
def wnd (T : Tld) (on : Nat → Bool) (h : Nat) : Nat → Nat
  | 0 => T 2 2
  | e + 1 => wnd T on h e + (if T 7 e = 0 ∧ T 8 e = h ∧ on e = true then 3 else 0)
def windAt (T : Tld) (on : Nat → Bool) (h : Nat) : Nat := wnd T on h (T 2 3)
def fal (T : Tld) (h : Nat) (d : Nat → Nat) : Nat → Nat := fun i => d i + (T 1 h + (if T 0 i = 2 ∧ 0 < T 1 h then 1 else 0))
def car (T : Tld) (w : Nat) (d : Nat → Nat) : Nat → Nat := fun i => if T 0 i = 0 then min w (d i) else 0
def blo (T : Tld) (w : Nat) (d : Nat → Nat) : Nat → Nat := fun i => d i - car T w d i + (if i = 0 then 0 else car T w d (i - 1))
def thw (T : Tld) (on : Nat → Bool) (h : Nat) (d : Nat → Nat) : Nat → Nat → Nat
  | 0 => d
  | e + 1 => if T 7 e = 2 ∧ T 8 e = h ∧ on e = true then upN (thw T on h d e) (T 9 e) (thw T on h d e (T 9 e) / 2) else thw T on h d e
def brk (T : Tld) (on : Nat → Bool) (h k : Nat) : Nat → Bool
  | 0 => false
  | e + 1 => brk T on h k e || decide (T 7 e = 1 ∧ (T 8 e = h ∨ T 8 e + 1 = h) ∧ T 9 e = k ∧ on e = true)
abbrev Sim : Type := Nat → Nat → Nat
def upS (s : Sim) (r k v : Nat) : Sim := fun a => if a = r then upN (s r) k v else s a
def upW (s : Sim) (r : Nat) (f : Nat → Nat) : Sim := fun a => if a = r then f else s a
/-- rows of a Sim: 0 depth, 1 mile, 2 way, 3 scooped in this hour, 4 in all, 5 stuck -/
def tw (s : Sim) (k : Nat) : Nat := if s 1 k = 0 then 0 else if s 1 k = 11 then 1 else s 2 k
def nx (s : Sim) (k : Nat) : Nat := if tw s k = 0 then s 1 k + 1 else s 1 k - 1
def one (T : Tld) (on : Nat → Bool) (h k : Nat) (s : Sim) : Sim :=
  if brk T on h k (T 2 3) = true then upS s 3 k 0
  else if s 0 (nx s k) ≤ 3 * T 4 k then upS (upS (upS (upS (upS s 2 k (tw s k)) 0 (nx s k) 0) 1 k (nx s k)) 3 k (s 0 (nx s k))) 4 k (s 4 k + s 0 (nx s k))
  else upS (upS (upS (upS (upS s 2 k (tw s k)) 0 (nx s k) (s 0 (nx s k) - T 4 k)) 5 k (s 5 k + 1)) 3 k (T 4 k)) 4 k (s 4 k + T 4 k)
def plo (T : Tld) (on : Nat → Bool) (h : Nat) (s : Sim) : Nat → Sim
  | 0 => s
  | k + 1 => one T on h k (plo T on h s k)
def wea (T : Tld) (on : Nat → Bool) (h : Nat) (d : Nat → Nat) : Nat → Nat := thw T on h (blo T (windAt T on h) (fal T h d)) (T 2 3)
def sim (T : Tld) (on : Nat → Bool) : Nat → Sim
  | 0 => fun r k => if r = 1 then T 3 k else if r = 2 then T 5 k else 0
  | h + 1 => plo T on h (upW (sim T on h) 0 (wea T on h (sim T on h 0))) (T 2 0)
def adv (d : Nat → Nat) : Nat → Nat → Nat
  | 0, m => m
  | n + 1, m => if m < 11 ∧ d (m + 1) ≤ 4 then adv d n (m + 1) else m
/-- a bus: (its mile and one, the hour of being over and one, how often it waited) behind the first h hours -/
def bus (D : Nat → Nat → Nat) (s : Nat) : Nat → Nat × Nat × Nat
  | 0 => (0, 0, 0)
  | h + 1 => if h < s ∨ (bus D s h).2.1 ≠ 0 then bus D s h else
      (adv (D h) 3 (if h = s then 0 else (bus D s h).1 - 1) + 1, (if adv (D h) 3 (if h = s then 0 else (bus D s h).1 - 1) = 11 then h + 1 else 0), (bus D s h).2.2 + (if adv (D h) 3 (if h = s then 0 else (bus D s h).1 - 1) = (if h = s then 0 else (bus D s h).1 - 1) then 1 else 0))
def dep (T : Tld) (on : Nat → Bool) (h i : Nat) : Nat := sim T on (h + 1) 0 i
def bsT (T : Tld) (on : Nat → Bool) (k h : Nat) : Nat × Nat × Nat := bus (dep T on) (T 6 k) h
def cnt (p : Nat → Bool) : Nat → Nat
  | 0 => 0
  | n + 1 => cnt p n + (if p n = true then 1 else 0)
def ovr (T : Tld) (on : Nat → Bool) (k : Nat) : Bool := decide ((bsT T on k 24).2.1 ≠ 0)
def many (T : Tld) (on : Nat → Bool) : Nat := cnt (ovr T on) (T 2 1)
/-! bounds -/
theorem upS_eq (s : Sim) (r k v a b : Nat) : upS s r k v a b = if a = r ∧ b = k then v else s a b := by
  unfold upS upN
  by_cases h1 : a = r
  · subst h1
    by_cases h2 : b = k
    · simp [h2]
    · simp [h2]
  · simp [h1]
theorem wnd_le {T : Tld} {on : Nat → Bool} {h : Nat} (e : Nat) : wnd T on h e ≤ T 2 2 + 3 * e := by
  induction e with
  | zero => exact Nat.le_refl _
  | succ e ih =>
    unfold wnd
    split <;> omega
theorem windAt_le {T : Tld} {on : Nat → Bool} {h : Nat} (ok : okT T) : windAt T on h ≤ 33 := by
  have h1 := wnd_le (T := T) (on := on) (h := h) (T 2 3)
  have := ok.2.2.1
  unfold windAt
  omega
theorem car_le {T : Tld} {w : Nat} {d : Nat → Nat} {i : Nat} : car T w d i ≤ d i ∧ car T w d i ≤ w := by
  unfold car
  split <;> omega
theorem fal_le {T : Tld} {h : Nat} {d : Nat → Nat} {i : Nat} (ok : okT T) : fal T h d i ≤ d i + 10 := by
  have := ok.2.1 h
  unfold fal
  split <;> omega
theorem blo_le {T : Tld} {w : Nat} {d : Nat → Nat} {i : Nat} : blo T w d i ≤ d i + w := by
  unfold blo
  have h1 := (car_le (T := T) (w := w) (d := d) (i := i - 1)).2
  split <;> omega
theorem thw_le {T : Tld} {on : Nat → Bool} {h : Nat} {d : Nat → Nat} (e i : Nat) : thw T on h d e i ≤ d i := by
  induction e with
  | zero => exact Nat.le_refl _
  | succ e ih =>
    unfold thw
    split
    · unfold upN
      split
      · rename_i q; rw [q] at ih ⊢; omega
      · exact ih
    · exact ih
theorem wea_le {T : Tld} {on : Nat → Bool} {h : Nat} {d : Nat → Nat} {i : Nat} (ok : okT T) : wea T on h d i ≤ d i + 43 := by
  unfold wea
  have h1 := thw_le (T := T) (on := on) (h := h) (d := blo T (windAt T on h) (fal T h d)) (T 2 3) i
  have h2 := blo_le (T := T) (w := windAt T on h) (d := fal T h d) (i := i)
  have h3 := fal_le (T := T) (h := h) (d := d) (i := i) ok
  have h4 := windAt_le (T := T) (on := on) (h := h) ok
  omega
/-- what holds of a Sim behind h hours -/
def okS (B : Nat) (s : Sim) : Prop := (∀ i, s 0 i ≤ B) ∧ (∀ k, s 1 k ≤ 11) ∧ (∀ k, s 2 k ≤ 1)
theorem one_ok {T : Tld} {on : Nat → Bool} {h k B : Nat} {s : Sim} (hs : okS B s) : okS B (one T on h k s) := by
  obtain ⟨h1, h2, h3⟩ := hs
  have hn : nx s k ≤ 11 := by
    unfold nx tw
    have := h2 k
    split <;> (try split at *) <;> (try split at *) <;> omega
  have hw : tw s k ≤ 1 := by
    unfold tw
    have := h3 k
    split <;> (try split) <;> omega
  unfold one
  split
  · refine ⟨fun i => ?_, fun i => ?_, fun i => ?_⟩ <;> rw [upS_eq] <;> simp <;> first | exact h1 i | exact h2 i | exact h3 i
  · split
    · refine ⟨fun i => ?_, fun i => ?_, fun i => ?_⟩ <;> simp only [upS_eq] <;> simp
      · split
        · omega
        · exact h1 i
      · split
        · exact hn
        · exact h2 i
      · split
        · exact hw
        · exact h3 i
    · refine ⟨fun i => ?_, fun i => ?_, fun i => ?_⟩ <;> simp only [upS_eq] <;> simp
      · split
        · have := h1 (nx s k); omega
        · exact h1 i
      · exact h2 i
      · split
        · exact hw
        · exact h3 i
theorem plo_ok {T : Tld} {on : Nat → Bool} {h B : Nat} {s : Sim} (hs : okS B s) (k : Nat) : okS B (plo T on h s k) := by
  induction k with
  | zero => exact hs
  | succ k ih => exact one_ok ih
theorem sim_ok {T : Tld} {on : Nat → Bool} (ok : okT T) (h : Nat) : okS (43 * h) (sim T on h) := by
  induction h with
  | zero =>
    refine ⟨fun i => ?_, fun k => ?_, fun k => ?_⟩
    · simp [sim]
    · simp [sim]; exact ok.2.2.2.1 k
    · simp [sim]; exact ok.2.2.2.2.2.1 k
  | succ h ih =>
    refine plo_ok ⟨fun i => ?_, fun k => ?_, fun k => ?_⟩ _
    · simp only [upW, if_true]
      have := wea_le (T := T) (on := on) (h := h) (d := sim T on h 0) (i := i) ok
      have := ih.1 i
      omega
    · simp [upW]; exact ih.2.1 k
    · simp [upW]; exact ih.2.2 k
