/-! loops as predicates; the table's rows; rows by cells; filling and copying arrays -/
def tn (i : Int32) : Nat := i.toNatClampNeg
theorem vp_lt {i : Int32} {n : Nat} (h : vp_in i n) : tn i < n := Nat.not_le.mp fun q => h (Or.inr q)
def rl (k : Nat) : Room := { frames := k, cells := 0, slots := 0, locals := 40 * k }
def it1 {A1 : Type} (b : (A1 → Prop) → A1 → Prop) : Nat → A1 → Prop
  | 0 => fun _ => False
  | k + 1 => b (it1 b k)
theorem it1_Z {A1 : Type} {b : (A1 → Prop) → A1 → Prop} {Z : A1 → Prop} (h : ∀ (rc : A1 → Prop), (∀ (x1 : A1), rc x1 → Z x1) → ∀ (x1 : A1), b rc x1 → Z x1) : ∀ (k : Nat) (x1 : A1), it1 b k x1 → Z x1 := by
  intro k
  induction k with
  | zero => intro x1 q; exact q.elim
  | succ k ih => intro x1 q; exact h _ ih x1 q
theorem it1_R {A1 : Type} {b : (A1 → Prop) → A1 → Prop} (I : A1 → Prop) (μ : A1 → Nat) (h : ∀ (rc : A1 → Prop) (x1 : A1), I x1 → (∀ (y1 : A1), I y1 → μ y1 < μ x1 → rc y1) → b rc x1) : ∀ (k : Nat) (x1 : A1), I x1 → μ x1 < k → it1 b k x1 := by
  intro k
  induction k with
  | zero => intro x1 _ q; exact absurd q (Nat.not_lt_zero _)
  | succ k ih => intro x1 hI q; exact h _ x1 hI (fun y1 hI' hm => ih y1 hI' (by omega))
def it2 {A1 A2 : Type} (b : (A1 → A2 → Prop) → A1 → A2 → Prop) : Nat → A1 → A2 → Prop
  | 0 => fun _ _ => False
  | k + 1 => b (it2 b k)
theorem it2_Z {A1 A2 : Type} {b : (A1 → A2 → Prop) → A1 → A2 → Prop} {Z : A1 → A2 → Prop} (h : ∀ (rc : A1 → A2 → Prop), (∀ (x1 : A1) (x2 : A2), rc x1 x2 → Z x1 x2) → ∀ (x1 : A1) (x2 : A2), b rc x1 x2 → Z x1 x2) : ∀ (k : Nat) (x1 : A1) (x2 : A2), it2 b k x1 x2 → Z x1 x2 := by
  intro k
  induction k with
  | zero => intro x1 x2 q; exact q.elim
  | succ k ih => intro x1 x2 q; exact h _ ih x1 x2 q
theorem it2_R {A1 A2 : Type} {b : (A1 → A2 → Prop) → A1 → A2 → Prop} (I : A1 → A2 → Prop) (μ : A1 → A2 → Nat) (h : ∀ (rc : A1 → A2 → Prop) (x1 : A1) (x2 : A2), I x1 x2 → (∀ (y1 : A1) (y2 : A2), I y1 y2 → μ y1 y2 < μ x1 x2 → rc y1 y2) → b rc x1 x2) : ∀ (k : Nat) (x1 : A1) (x2 : A2), I x1 x2 → μ x1 x2 < k → it2 b k x1 x2 := by
  intro k
  induction k with
  | zero => intro x1 x2 _ q; exact absurd q (Nat.not_lt_zero _)
  | succ k ih => intro x1 x2 hI q; exact h _ x1 x2 hI (fun y1 y2 hI' hm => ih y1 y2 hI' (by omega))
def it3 {A1 A2 A3 : Type} (b : (A1 → A2 → A3 → Prop) → A1 → A2 → A3 → Prop) : Nat → A1 → A2 → A3 → Prop
  | 0 => fun _ _ _ => False
  | k + 1 => b (it3 b k)
theorem it3_Z {A1 A2 A3 : Type} {b : (A1 → A2 → A3 → Prop) → A1 → A2 → A3 → Prop} {Z : A1 → A2 → A3 → Prop} (h : ∀ (rc : A1 → A2 → A3 → Prop), (∀ (x1 : A1) (x2 : A2) (x3 : A3), rc x1 x2 x3 → Z x1 x2 x3) → ∀ (x1 : A1) (x2 : A2) (x3 : A3), b rc x1 x2 x3 → Z x1 x2 x3) : ∀ (k : Nat) (x1 : A1) (x2 : A2) (x3 : A3), it3 b k x1 x2 x3 → Z x1 x2 x3 := by
  intro k
  induction k with
  | zero => intro x1 x2 x3 q; exact q.elim
  | succ k ih => intro x1 x2 x3 q; exact h _ ih x1 x2 x3 q
theorem it3_R {A1 A2 A3 : Type} {b : (A1 → A2 → A3 → Prop) → A1 → A2 → A3 → Prop} (I : A1 → A2 → A3 → Prop) (μ : A1 → A2 → A3 → Nat) (h : ∀ (rc : A1 → A2 → A3 → Prop) (x1 : A1) (x2 : A2) (x3 : A3), I x1 x2 x3 → (∀ (y1 : A1) (y2 : A2) (y3 : A3), I y1 y2 y3 → μ y1 y2 y3 < μ x1 x2 x3 → rc y1 y2 y3) → b rc x1 x2 x3) : ∀ (k : Nat) (x1 : A1) (x2 : A2) (x3 : A3), I x1 x2 x3 → μ x1 x2 x3 < k → it3 b k x1 x2 x3 := by
  intro k
  induction k with
  | zero => intro x1 x2 x3 _ q; exact absurd q (Nat.not_lt_zero _)
  | succ k ih => intro x1 x2 x3 hI q; exact h _ x1 x2 x3 hI (fun y1 y2 y3 hI' hm => ih y1 y2 y3 hI' (by omega))
def it4 {A1 A2 A3 A4 : Type} (b : (A1 → A2 → A3 → A4 → Prop) → A1 → A2 → A3 → A4 → Prop) : Nat → A1 → A2 → A3 → A4 → Prop
  | 0 => fun _ _ _ _ => False
  | k + 1 => b (it4 b k)
theorem it4_Z {A1 A2 A3 A4 : Type} {b : (A1 → A2 → A3 → A4 → Prop) → A1 → A2 → A3 → A4 → Prop} {Z : A1 → A2 → A3 → A4 → Prop} (h : ∀ (rc : A1 → A2 → A3 → A4 → Prop), (∀ (x1 : A1) (x2 : A2) (x3 : A3) (x4 : A4), rc x1 x2 x3 x4 → Z x1 x2 x3 x4) → ∀ (x1 : A1) (x2 : A2) (x3 : A3) (x4 : A4), b rc x1 x2 x3 x4 → Z x1 x2 x3 x4) : ∀ (k : Nat) (x1 : A1) (x2 : A2) (x3 : A3) (x4 : A4), it4 b k x1 x2 x3 x4 → Z x1 x2 x3 x4 := by
  intro k
  induction k with
  | zero => intro x1 x2 x3 x4 q; exact q.elim
  | succ k ih => intro x1 x2 x3 x4 q; exact h _ ih x1 x2 x3 x4 q
theorem it4_R {A1 A2 A3 A4 : Type} {b : (A1 → A2 → A3 → A4 → Prop) → A1 → A2 → A3 → A4 → Prop} (I : A1 → A2 → A3 → A4 → Prop) (μ : A1 → A2 → A3 → A4 → Nat) (h : ∀ (rc : A1 → A2 → A3 → A4 → Prop) (x1 : A1) (x2 : A2) (x3 : A3) (x4 : A4), I x1 x2 x3 x4 → (∀ (y1 : A1) (y2 : A2) (y3 : A3) (y4 : A4), I y1 y2 y3 y4 → μ y1 y2 y3 y4 < μ x1 x2 x3 x4 → rc y1 y2 y3 y4) → b rc x1 x2 x3 x4) : ∀ (k : Nat) (x1 : A1) (x2 : A2) (x3 : A3) (x4 : A4), I x1 x2 x3 x4 → μ x1 x2 x3 x4 < k → it4 b k x1 x2 x3 x4 := by
  intro k
  induction k with
  | zero => intro x1 x2 x3 x4 _ q; exact absurd q (Nat.not_lt_zero _)
  | succ k ih => intro x1 x2 x3 x4 hI q; exact h _ x1 x2 x3 x4 hI (fun y1 y2 y3 y4 hI' hm => ih y1 y2 y3 y4 hI' (by omega))
def it5 {A1 A2 A3 A4 A5 : Type} (b : (A1 → A2 → A3 → A4 → A5 → Prop) → A1 → A2 → A3 → A4 → A5 → Prop) : Nat → A1 → A2 → A3 → A4 → A5 → Prop
  | 0 => fun _ _ _ _ _ => False
  | k + 1 => b (it5 b k)
theorem it5_Z {A1 A2 A3 A4 A5 : Type} {b : (A1 → A2 → A3 → A4 → A5 → Prop) → A1 → A2 → A3 → A4 → A5 → Prop} {Z : A1 → A2 → A3 → A4 → A5 → Prop} (h : ∀ (rc : A1 → A2 → A3 → A4 → A5 → Prop), (∀ (x1 : A1) (x2 : A2) (x3 : A3) (x4 : A4) (x5 : A5), rc x1 x2 x3 x4 x5 → Z x1 x2 x3 x4 x5) → ∀ (x1 : A1) (x2 : A2) (x3 : A3) (x4 : A4) (x5 : A5), b rc x1 x2 x3 x4 x5 → Z x1 x2 x3 x4 x5) : ∀ (k : Nat) (x1 : A1) (x2 : A2) (x3 : A3) (x4 : A4) (x5 : A5), it5 b k x1 x2 x3 x4 x5 → Z x1 x2 x3 x4 x5 := by
  intro k
  induction k with
  | zero => intro x1 x2 x3 x4 x5 q; exact q.elim
  | succ k ih => intro x1 x2 x3 x4 x5 q; exact h _ ih x1 x2 x3 x4 x5 q
theorem it5_R {A1 A2 A3 A4 A5 : Type} {b : (A1 → A2 → A3 → A4 → A5 → Prop) → A1 → A2 → A3 → A4 → A5 → Prop} (I : A1 → A2 → A3 → A4 → A5 → Prop) (μ : A1 → A2 → A3 → A4 → A5 → Nat) (h : ∀ (rc : A1 → A2 → A3 → A4 → A5 → Prop) (x1 : A1) (x2 : A2) (x3 : A3) (x4 : A4) (x5 : A5), I x1 x2 x3 x4 x5 → (∀ (y1 : A1) (y2 : A2) (y3 : A3) (y4 : A4) (y5 : A5), I y1 y2 y3 y4 y5 → μ y1 y2 y3 y4 y5 < μ x1 x2 x3 x4 x5 → rc y1 y2 y3 y4 y5) → b rc x1 x2 x3 x4 x5) : ∀ (k : Nat) (x1 : A1) (x2 : A2) (x3 : A3) (x4 : A4) (x5 : A5), I x1 x2 x3 x4 x5 → μ x1 x2 x3 x4 x5 < k → it5 b k x1 x2 x3 x4 x5 := by
  intro k
  induction k with
  | zero => intro x1 x2 x3 x4 x5 _ q; exact absurd q (Nat.not_lt_zero _)
  | succ k ih => intro x1 x2 x3 x4 x5 hI q; exact h _ x1 x2 x3 x4 x5 hI (fun y1 y2 y3 y4 y5 hI' hm => ih y1 y2 y3 y4 y5 hI' (by omega))
def it6 {A1 A2 A3 A4 A5 A6 : Type} (b : (A1 → A2 → A3 → A4 → A5 → A6 → Prop) → A1 → A2 → A3 → A4 → A5 → A6 → Prop) : Nat → A1 → A2 → A3 → A4 → A5 → A6 → Prop
  | 0 => fun _ _ _ _ _ _ => False
  | k + 1 => b (it6 b k)
theorem it6_Z {A1 A2 A3 A4 A5 A6 : Type} {b : (A1 → A2 → A3 → A4 → A5 → A6 → Prop) → A1 → A2 → A3 → A4 → A5 → A6 → Prop} {Z : A1 → A2 → A3 → A4 → A5 → A6 → Prop} (h : ∀ (rc : A1 → A2 → A3 → A4 → A5 → A6 → Prop), (∀ (x1 : A1) (x2 : A2) (x3 : A3) (x4 : A4) (x5 : A5) (x6 : A6), rc x1 x2 x3 x4 x5 x6 → Z x1 x2 x3 x4 x5 x6) → ∀ (x1 : A1) (x2 : A2) (x3 : A3) (x4 : A4) (x5 : A5) (x6 : A6), b rc x1 x2 x3 x4 x5 x6 → Z x1 x2 x3 x4 x5 x6) : ∀ (k : Nat) (x1 : A1) (x2 : A2) (x3 : A3) (x4 : A4) (x5 : A5) (x6 : A6), it6 b k x1 x2 x3 x4 x5 x6 → Z x1 x2 x3 x4 x5 x6 := by
  intro k
  induction k with
  | zero => intro x1 x2 x3 x4 x5 x6 q; exact q.elim
  | succ k ih => intro x1 x2 x3 x4 x5 x6 q; exact h _ ih x1 x2 x3 x4 x5 x6 q
theorem it6_R {A1 A2 A3 A4 A5 A6 : Type} {b : (A1 → A2 → A3 → A4 → A5 → A6 → Prop) → A1 → A2 → A3 → A4 → A5 → A6 → Prop} (I : A1 → A2 → A3 → A4 → A5 → A6 → Prop) (μ : A1 → A2 → A3 → A4 → A5 → A6 → Nat) (h : ∀ (rc : A1 → A2 → A3 → A4 → A5 → A6 → Prop) (x1 : A1) (x2 : A2) (x3 : A3) (x4 : A4) (x5 : A5) (x6 : A6), I x1 x2 x3 x4 x5 x6 → (∀ (y1 : A1) (y2 : A2) (y3 : A3) (y4 : A4) (y5 : A5) (y6 : A6), I y1 y2 y3 y4 y5 y6 → μ y1 y2 y3 y4 y5 y6 < μ x1 x2 x3 x4 x5 x6 → rc y1 y2 y3 y4 y5 y6) → b rc x1 x2 x3 x4 x5 x6) : ∀ (k : Nat) (x1 : A1) (x2 : A2) (x3 : A3) (x4 : A4) (x5 : A5) (x6 : A6), I x1 x2 x3 x4 x5 x6 → μ x1 x2 x3 x4 x5 x6 < k → it6 b k x1 x2 x3 x4 x5 x6 := by
  intro k
  induction k with
  | zero => intro x1 x2 x3 x4 x5 x6 _ q; exact absurd q (Nat.not_lt_zero _)
  | succ k ih => intro x1 x2 x3 x4 x5 x6 hI q; exact h _ x1 x2 x3 x4 x5 x6 hI (fun y1 y2 y3 y4 y5 y6 hI' hm => ih y1 y2 y3 y4 y5 y6 hI' (by omega))
def it7 {A1 A2 A3 A4 A5 A6 A7 : Type} (b : (A1 → A2 → A3 → A4 → A5 → A6 → A7 → Prop) → A1 → A2 → A3 → A4 → A5 → A6 → A7 → Prop) : Nat → A1 → A2 → A3 → A4 → A5 → A6 → A7 → Prop
  | 0 => fun _ _ _ _ _ _ _ => False
  | k + 1 => b (it7 b k)
theorem it7_Z {A1 A2 A3 A4 A5 A6 A7 : Type} {b : (A1 → A2 → A3 → A4 → A5 → A6 → A7 → Prop) → A1 → A2 → A3 → A4 → A5 → A6 → A7 → Prop} {Z : A1 → A2 → A3 → A4 → A5 → A6 → A7 → Prop} (h : ∀ (rc : A1 → A2 → A3 → A4 → A5 → A6 → A7 → Prop), (∀ (x1 : A1) (x2 : A2) (x3 : A3) (x4 : A4) (x5 : A5) (x6 : A6) (x7 : A7), rc x1 x2 x3 x4 x5 x6 x7 → Z x1 x2 x3 x4 x5 x6 x7) → ∀ (x1 : A1) (x2 : A2) (x3 : A3) (x4 : A4) (x5 : A5) (x6 : A6) (x7 : A7), b rc x1 x2 x3 x4 x5 x6 x7 → Z x1 x2 x3 x4 x5 x6 x7) : ∀ (k : Nat) (x1 : A1) (x2 : A2) (x3 : A3) (x4 : A4) (x5 : A5) (x6 : A6) (x7 : A7), it7 b k x1 x2 x3 x4 x5 x6 x7 → Z x1 x2 x3 x4 x5 x6 x7 := by
  intro k
  induction k with
  | zero => intro x1 x2 x3 x4 x5 x6 x7 q; exact q.elim
  | succ k ih => intro x1 x2 x3 x4 x5 x6 x7 q; exact h _ ih x1 x2 x3 x4 x5 x6 x7 q
theorem it7_R {A1 A2 A3 A4 A5 A6 A7 : Type} {b : (A1 → A2 → A3 → A4 → A5 → A6 → A7 → Prop) → A1 → A2 → A3 → A4 → A5 → A6 → A7 → Prop} (I : A1 → A2 → A3 → A4 → A5 → A6 → A7 → Prop) (μ : A1 → A2 → A3 → A4 → A5 → A6 → A7 → Nat) (h : ∀ (rc : A1 → A2 → A3 → A4 → A5 → A6 → A7 → Prop) (x1 : A1) (x2 : A2) (x3 : A3) (x4 : A4) (x5 : A5) (x6 : A6) (x7 : A7), I x1 x2 x3 x4 x5 x6 x7 → (∀ (y1 : A1) (y2 : A2) (y3 : A3) (y4 : A4) (y5 : A5) (y6 : A6) (y7 : A7), I y1 y2 y3 y4 y5 y6 y7 → μ y1 y2 y3 y4 y5 y6 y7 < μ x1 x2 x3 x4 x5 x6 x7 → rc y1 y2 y3 y4 y5 y6 y7) → b rc x1 x2 x3 x4 x5 x6 x7) : ∀ (k : Nat) (x1 : A1) (x2 : A2) (x3 : A3) (x4 : A4) (x5 : A5) (x6 : A6) (x7 : A7), I x1 x2 x3 x4 x5 x6 x7 → μ x1 x2 x3 x4 x5 x6 x7 < k → it7 b k x1 x2 x3 x4 x5 x6 x7 := by
  intro k
  induction k with
  | zero => intro x1 x2 x3 x4 x5 x6 x7 _ q; exact absurd q (Nat.not_lt_zero _)
  | succ k ih => intro x1 x2 x3 x4 x5 x6 x7 hI q; exact h _ x1 x2 x3 x4 x5 x6 x7 hI (fun y1 y2 y3 y4 y5 y6 y7 hI' hm => ih y1 y2 y3 y4 y5 y6 y7 hI' (by omega))
def it8 {A1 A2 A3 A4 A5 A6 A7 A8 : Type} (b : (A1 → A2 → A3 → A4 → A5 → A6 → A7 → A8 → Prop) → A1 → A2 → A3 → A4 → A5 → A6 → A7 → A8 → Prop) : Nat → A1 → A2 → A3 → A4 → A5 → A6 → A7 → A8 → Prop
  | 0 => fun _ _ _ _ _ _ _ _ => False
  | k + 1 => b (it8 b k)
theorem it8_Z {A1 A2 A3 A4 A5 A6 A7 A8 : Type} {b : (A1 → A2 → A3 → A4 → A5 → A6 → A7 → A8 → Prop) → A1 → A2 → A3 → A4 → A5 → A6 → A7 → A8 → Prop} {Z : A1 → A2 → A3 → A4 → A5 → A6 → A7 → A8 → Prop} (h : ∀ (rc : A1 → A2 → A3 → A4 → A5 → A6 → A7 → A8 → Prop), (∀ (x1 : A1) (x2 : A2) (x3 : A3) (x4 : A4) (x5 : A5) (x6 : A6) (x7 : A7) (x8 : A8), rc x1 x2 x3 x4 x5 x6 x7 x8 → Z x1 x2 x3 x4 x5 x6 x7 x8) → ∀ (x1 : A1) (x2 : A2) (x3 : A3) (x4 : A4) (x5 : A5) (x6 : A6) (x7 : A7) (x8 : A8), b rc x1 x2 x3 x4 x5 x6 x7 x8 → Z x1 x2 x3 x4 x5 x6 x7 x8) : ∀ (k : Nat) (x1 : A1) (x2 : A2) (x3 : A3) (x4 : A4) (x5 : A5) (x6 : A6) (x7 : A7) (x8 : A8), it8 b k x1 x2 x3 x4 x5 x6 x7 x8 → Z x1 x2 x3 x4 x5 x6 x7 x8 := by
  intro k
  induction k with
  | zero => intro x1 x2 x3 x4 x5 x6 x7 x8 q; exact q.elim
  | succ k ih => intro x1 x2 x3 x4 x5 x6 x7 x8 q; exact h _ ih x1 x2 x3 x4 x5 x6 x7 x8 q
theorem it8_R {A1 A2 A3 A4 A5 A6 A7 A8 : Type} {b : (A1 → A2 → A3 → A4 → A5 → A6 → A7 → A8 → Prop) → A1 → A2 → A3 → A4 → A5 → A6 → A7 → A8 → Prop} (I : A1 → A2 → A3 → A4 → A5 → A6 → A7 → A8 → Prop) (μ : A1 → A2 → A3 → A4 → A5 → A6 → A7 → A8 → Nat) (h : ∀ (rc : A1 → A2 → A3 → A4 → A5 → A6 → A7 → A8 → Prop) (x1 : A1) (x2 : A2) (x3 : A3) (x4 : A4) (x5 : A5) (x6 : A6) (x7 : A7) (x8 : A8), I x1 x2 x3 x4 x5 x6 x7 x8 → (∀ (y1 : A1) (y2 : A2) (y3 : A3) (y4 : A4) (y5 : A5) (y6 : A6) (y7 : A7) (y8 : A8), I y1 y2 y3 y4 y5 y6 y7 y8 → μ y1 y2 y3 y4 y5 y6 y7 y8 < μ x1 x2 x3 x4 x5 x6 x7 x8 → rc y1 y2 y3 y4 y5 y6 y7 y8) → b rc x1 x2 x3 x4 x5 x6 x7 x8) : ∀ (k : Nat) (x1 : A1) (x2 : A2) (x3 : A3) (x4 : A4) (x5 : A5) (x6 : A6) (x7 : A7) (x8 : A8), I x1 x2 x3 x4 x5 x6 x7 x8 → μ x1 x2 x3 x4 x5 x6 x7 x8 < k → it8 b k x1 x2 x3 x4 x5 x6 x7 x8 := by
  intro k
  induction k with
  | zero => intro x1 x2 x3 x4 x5 x6 x7 x8 _ q; exact absurd q (Nat.not_lt_zero _)
  | succ k ih => intro x1 x2 x3 x4 x5 x6 x7 x8 hI q; exact h _ x1 x2 x3 x4 x5 x6 x7 x8 hI (fun y1 y2 y3 y4 y5 y6 y7 y8 hI' hm => ih y1 y2 y3 y4 y5 y6 y7 y8 hI' (by omega))
theorem tw_native : Cond.native arraycopyName ∈ zt := zt_mem 403 (by decide +kernel) (by decide +kernel)
theorem tw_static : Cond.static arraycopyName ∈ zt := zt_mem 402 (by decide +kernel) (by decide +kernel)
theorem tw_inisys : Cond.initialized "java/lang/System" ∈ zt := zt_mem 9 (by decide +kernel) (by decide +kernel)
def pf_J_max (x y : Int32) : Int32 := if x < y then y else x
def pf_J_min (x y : Int32) : Int32 := if x > y then y else x
theorem tw_smax : Cond.static Lib.Math.max.name ∈ zt := zt_mem 545 (by decide +kernel) (by decide +kernel)
theorem tw_smin : Cond.static Lib.Math.min.name ∈ zt := zt_mem 612 (by decide +kernel) (by decide +kernel)
theorem tw_inimath : Cond.initialized "java/lang/Math" ∈ zt := zt_mem 11 (by decide +kernel) (by decide +kernel)
theorem tw_cmax : Cond.code Lib.Math.max.name Lib.Math.max.code 2 (some .int) ∈ zt := zt_mem 546 (by decide +kernel) (by decide +kernel)
theorem tw_cmin : Cond.code Lib.Math.min.name Lib.Math.min.code 2 (some .int) ∈ zt := zt_mem 613 (by decide +kernel) (by decide +kernel)
/-- an array of ints is a cell of the world: its place, its length -/
def Zar (w : ZW) (cA : ClassId) (k a n : Nat) : Prop := w.2.2.1[0]? = some (cA, .int) ∧ (∀ M : Mem, (w.2.2.2.1 M)[k]? = some (a, .inl (cA, n, .inl (M k)))) ∧ (∀ (M : Mem) (f : Nat → Int32), (w.2.2.2.1 M).set k (a, .inl (cA, n, .inl f)) = w.2.2.2.1 (upr M k f))
section ZT
variable {X : ZX} {cc : ByteArray} {own : String} {nL : Nat} {rm : Room} {w : ZW} {M : Mem} {pc : Nat} {lv : List (Nat × Value)} {st : List Value} {cA : ClassId} {k a n : Nat}
theorem z_al (h : Zar w cA k a n) (C : Zc X cc own nL rm w) {i : Int32} (hi : vp_in i n) (hd : decode cc pc = .ok (.iaload, 1)) (kk : Zj X nL w M (pc + 1) lv (.int (M k (tn i)) :: st)) : Zj X nL w M pc lv (.int i :: .ref a :: st) := z_iald C k 0 (h.2.1 M) h.1 hi hd kk
theorem z_as (h : Zar w cA k a n) (C : Zc X cc own nL rm w) {i x : Int32} (hi : vp_in i n) (hd : decode cc pc = .ok (.iastore, 1)) (kk : ∀ M2, M2 = upm M k (tn i) x → Zj X nL w M2 (pc + 1) lv st) : Zj X nL w M pc lv (.int x :: .int i :: .ref a :: st) := z_iast C k 0 (h.2.1 M) h.1 hi hd (h.2.2 M _) (kk _ rfl)
theorem z_an (h : Zar w cA k a n) (C : Zc X cc own nL rm w) {v : Int32} (hv : Int32.ofNat n = v) (hd : decode cc pc = .ok (.arraylength, 1)) (kk : Zj X nL w M (pc + 1) lv (.int v :: st)) : Zj X nL w M pc lv (.ref a :: st) := z_alen C k 0 (h.2.1 M) h.1 hv hd kk
theorem z_acopy {k0 a0 n0 : Nat} (C : Zc X cc own nL rm w) {index : Nat} (hlink : Cond.methodLink own index arraycopyName ∈ zt) (h0 : Zar w cA k0 a0 n0) (h : Zar w cA k a n) {sp dp m : Int32} (hb : ¬ sp < 0 ∧ ¬ dp < 0 ∧ ¬ m < 0 ∧ tn sp + tn m ≤ n0 ∧ tn dp + tn m ≤ n) (hfr : 1 ≤ rm.frames) (hlo : (st.map fun v => v.category).sum + (nativeFrameWords "java/lang/System" "arraycopy" 5 + 11) ≤ rm.locals) (hd : decode cc pc = .ok (.invokestatic index, 3))
    (kk : ∀ M2, M2 = upr M k (va_cpy (M k0) (M k) (tn sp) (tn dp) (tn m)) → Zj X nL w M2 (pc + 3) lv st) : Zj X nL w M pc lv (.int m :: .int dp :: .ref a :: .int sp :: .ref a0 :: st) := z_copy C hlink tw_native tw_static tw_inisys k0 k 0 (h0.2.1 M) (h.2.1 M) h.1 hb.1 hb.2.1 hb.2.2.1 hb.2.2.2.1 hb.2.2.2.2 hfr hlo hd (h.2.2 M _) (kk _ rfl)
theorem z_gets (C : Zc X cc own nL rm w) {index : Nat} (hlink : Cond.fieldLink own index "SnowRoad" "DIGEST_PLOUGH_HOURS" "[I" ∈ zt) (hd : decode cc pc = .ok (.getstatic index, 3)) (kk : Zj X nL w M (pc + 3) lv (.ref w.2.2.2.2 :: st)) : Zj X nL w M pc lv st := by
  obtain ⟨p, l, e, R, s, m, args, below, meth, c, A, Q⟩ := X
  obtain ⟨hx, hb, hml, ho, htb, hK, hDa, hA, hlk, hR, hZ⟩ := C
  exact fun H locs ls hl hP hS => va_gets hx hb hZ.1 hS ho (htb _ hlink) (fun _ h => h) hd (kk H locs ls hl hP hS)
theorem z_tlen (C : Zc X cc own nL rm w) (hd : decode cc pc = .ok (.arraylength, 1)) (kk : Zj X nL w M (pc + 1) lv (.int 3 :: st)) : Zj X nL w M pc lv (.ref w.2.2.2.2 :: st) := by
  obtain ⟨p, l, e, R, s, m, args, below, meth, c, A, Q⟩ := X
  obtain ⟨hx, hb, hml, ho, htb, hK, hDa, hA, hlk, hR, hZ⟩ := C
  exact fun H locs ls hl hP hS => va_tlen hx hb hZ.2 hS rfl hd (kk H locs ls hl hP hS)
theorem z_ti (C : Zc X cc own nL rm w) {i : Int32} (hi : vp_in i 3) (hd : decode cc pc = .ok (.iaload, 1)) (kk : Zj X nL w M (pc + 1) lv (.int (zz_tab (tn i)) :: st)) : Zj X nL w M pc lv (.int i :: .ref w.2.2.2.2 :: st) := by
  obtain ⟨p, l, e, R, s, m, args, below, meth, c, A, Q⟩ := X
  obtain ⟨hx, hb, hml, ho, htb, hK, hDa, hA, hlk, hR, hZ⟩ := C
  exact fun H locs ls hl hP hS => va_ti hx hb hZ.2 hS hi rfl hd (kk H locs ls hl hP hS)
theorem z_mmax (C : Zc X cc own nL rm w) {index : Nat} (hlink : Cond.methodLink own index Lib.Math.max.name ∈ zt) (hfr : Nat.ble 1 rm.frames = true) (hlo : Nat.ble ((st.map fun v => v.category).sum + 13) rm.locals = true) {x y : Int32} (hd : decode cc pc = .ok (.invokestatic index, 3)) (kk : Zj X nL w M (pc + 3) lv (.int (pf_J_max x y) :: st)) : Zj X nL w M pc lv (.int y :: .int x :: st) := by
  obtain ⟨p, l, e, R, s, m, args, below, meth, c, A, Q⟩ := X
  obtain ⟨hx, hb, hml, ho, htb, hK, hDa, hA, hlk, rfl, hZ⟩ := C
  exact fun H locs ls hl hP hS => va_mmax hx hb (hml.trans hl.1.symm) ho (htb _ hlink) (htb _ tw_smax) (htb _ tw_inimath) (htb _ tw_cmax) (Nat.le_of_ble_eq_true hfr) (Nat.le_of_ble_eq_true hlo) (Nat.zero_le _) (Nat.zero_le _) hd (kk H locs ls hl hP hS)
theorem z_mmin (C : Zc X cc own nL rm w) {index : Nat} (hlink : Cond.methodLink own index Lib.Math.min.name ∈ zt) (hfr : Nat.ble 1 rm.frames = true) (hlo : Nat.ble ((st.map fun v => v.category).sum + 13) rm.locals = true) {x y : Int32} (hd : decode cc pc = .ok (.invokestatic index, 3)) (kk : Zj X nL w M (pc + 3) lv (.int (pf_J_min x y) :: st)) : Zj X nL w M pc lv (.int y :: .int x :: st) := by
  obtain ⟨p, l, e, R, s, m, args, below, meth, c, A, Q⟩ := X
  obtain ⟨hx, hb, hml, ho, htb, hK, hDa, hA, hlk, rfl, hZ⟩ := C
  exact fun H locs ls hl hP hS => va_mmin hx hb (hml.trans hl.1.symm) ho (htb _ hlink) (htb _ tw_smin) (htb _ tw_inimath) (htb _ tw_cmin) (Nat.le_of_ble_eq_true hfr) (Nat.le_of_ble_eq_true hlo) (Nat.zero_le _) (Nat.zero_le _) hd (kk H locs ls hl hP hS)
end ZT
