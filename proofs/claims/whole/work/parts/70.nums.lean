/-! THE PURE PART: numbers, rows, frames; loops that count -/
theorem gI {a j : Nat} (h : nI a ≤ nI j) (ha : a < 2 ^ 31 := by omega) (hj : j < 2 ^ 31 := by omega) : a ≤ j := (nI_leI ha hj).mp h
theorem ngI {a j : Nat} (h : ¬ nI a ≤ nI j) (ha : a < 2 ^ 31 := by omega) (hj : j < 2 ^ 31 := by omega) : j < a := Nat.not_le.mp fun q => h ((nI_leI ha hj).mpr q)
theorem lI {a j : Nat} (h : nI a < nI j) (ha : a < 2 ^ 31 := by omega) (hj : j < 2 ^ 31 := by omega) : a < j := (nI_ltI ha hj).mp h
theorem nlI {a j : Nat} (h : ¬ nI a < nI j) (ha : a < 2 ^ 31 := by omega) (hj : j < 2 ^ 31 := by omega) : j ≤ a := Nat.not_lt.mp fun q => h ((nI_ltI ha hj).mpr q)
theorem eI {a j : Nat} (h : nI a = nI j) (ha : a < 2 ^ 31 := by omega) (hj : j < 2 ^ 31 := by omega) : a = j := (nI_eq ha hj).mp h
theorem neI {a j : Nat} (h : ¬ nI a = nI j) : a ≠ j := fun q => h (by rw [q])
theorem vI {j N : Nat} (h : j < N) (hN : N < 2 ^ 31 := by omega) : vp_in (nI j) N := vp_in_nI h hN
theorem tnI {j : Nat} (h : j < 2 ^ 31) : tn (nI j) = j := nI_clamp h
theorem vX {x : Int32} {N : Nat} (h : vp_in x N) (hN : N < 2 ^ 31 := by omega) : ∃ j, j < N ∧ x = nI j := vp_in_of h hN
theorem i3_0 (i : Nat) : (3 : Int32) * nI i = nI (3 * i) := pk_mul 3 i
theorem i3_1 (i : Nat) : (3 : Int32) * nI i + 1 = nI (3 * i + 1) := by rw [i3_0]; exact nI_add _ 1
theorem i3_2 (i : Nat) : (3 : Int32) * nI i + 2 = nI (3 * i + 2) := by rw [i3_0]; exact nI_add _ 2
theorem i12 (h i : Nat) : (12 : Int32) * nI h + nI i = nI (12 * h + i) := by rw [show (12 : Int32) * nI h = nI (12 * h) from pk_mul 12 h]; exact nI_add _ _
theorem i4 (h i : Nat) : (4 : Int32) * nI h + nI i = nI (4 * h + i) := by rw [show (4 : Int32) * nI h = nI (4 * h) from pk_mul 4 h]; exact nI_add _ _
theorem i8 (h i : Nat) : (8 : Int32) * nI h + nI i = nI (8 * h + i) := by rw [show (8 : Int32) * nI h = nI (8 * h) from pk_mul 8 h]; exact nI_add _ _
theorem im (h m : Nat) : nI h * nI m = nI (h * m) := pk_mul h m
theorem ia1 (i : Nat) : nI i + 1 = nI (i + 1) := nI_1 i
theorem isub {a b : Nat} (h : b ≤ a) : nI a - nI b = nI (a - b) := pk_sub h
theorem i3_1' (i : Nat) : nI (3 * i) + 1 = nI (3 * i + 1) := nI_add _ 1
theorem i3_2' (i : Nat) : nI (3 * i) + 2 = nI (3 * i + 2) := nI_add _ 2
theorem ablo {f c p : Nat} (h : c ≤ f) : nI f + (nI p - nI c) = nI (f - c + p) := by
  have e : nI f = nI (f - c) + nI c := by rw [nI_add]; congr 1; omega
  rw [e, ← nI_add]
  grind
/-- rows and frames -/
def HR (r : Nat → Int32) (n : Nat) (f : Nat → Nat) : Prop := ∀ i, i < n → r i = nI (f i)
def Fr (L : List Nat) (M M' : Mem) : Prop := ∀ k, k ∉ L → M' k = M k
theorem Fr.rf {L : List Nat} {M : Mem} : Fr L M M := fun _ _ => rfl
theorem Fr.tr {L : List Nat} {M M1 M2 : Mem} (h : Fr L M M1) (h2 : Fr L M1 M2) : Fr L M M2 := fun k hk => (h2 k hk).trans (h k hk)
theorem Fr.mo {L L' : List Nat} {M M' : Mem} (h : Fr L M M') (hs : ∀ k ∈ L, k ∈ L') : Fr L' M M' := fun k hk => h k (fun q => hk (hs k q))
theorem Fr.up {L : List Nat} {M M1 M2 : Mem} {k i : Nat} {v : Int32} (h : Fr L M M1) (h2 : M2 = upm M1 k i v) (hk : k ∈ L) : Fr L M M2 := fun a ha => by
  rw [h2]
  have : a ≠ k := fun q => ha (q ▸ hk)
  simp only [upm, if_neg this]
  exact h a ha
theorem Fr.ur {L : List Nat} {M M1 M2 : Mem} {k : Nat} {f : Nat → Int32} (h : Fr L M M1) (h2 : M2 = upr M1 k f) (hk : k ∈ L) : Fr L M M2 := fun a ha => by
  rw [h2]
  have : a ≠ k := fun q => ha (q ▸ hk)
  simp only [upr, if_neg this]
  exact h a ha
theorem upm_s (M : Mem) (k i : Nat) (v : Int32) : upm M k i v k = upd (M k) i v := by simp [upm]
theorem upm_n {M : Mem} {k i a : Nat} {v : Int32} (h : a ≠ k) : upm M k i v a = M a := by simp [upm, h]
theorem upr_s (M : Mem) (k : Nat) (f : Nat → Int32) : upr M k f k = f := by simp [upr]
theorem upr_n {M : Mem} {k a : Nat} {f : Nat → Int32} (h : a ≠ k) : upr M k f a = M a := by simp [upr, h]
theorem upd_s (f : Nat → Int32) (k : Nat) (x : Int32) : upd f k x k = x := pk_us
theorem upd_n {f : Nat → Int32} {k j : Nat} {x : Int32} (h : j ≠ k) : upd f k x j = f j := pk_un h
def upN (f : Nat → Nat) (k v : Nat) : Nat → Nat := fun j => if j = k then v else f j
theorem upN_s (f : Nat → Nat) (k v : Nat) : upN f k v k = v := by simp [upN]
theorem upN_n {f : Nat → Nat} {k j v : Nat} (h : j ≠ k) : upN f k v j = f j := by simp [upN, h]
theorem HR.up {r : Nat → Int32} {n : Nat} {f : Nat → Nat} {k v : Nat} {x : Int32} (h : HR r n f) (hx : x = nI v) : HR (upd r k x) n (upN f k v) := fun i hi => by
  by_cases e : i = k
  · subst e; rw [upd_s, upN_s, hx]
  · rw [upd_n e, upN_n e, h i hi]
theorem HR.eq {r : Nat → Int32} {n : Nat} {f g : Nat → Nat} (h : HR r n f) (e : ∀ i, i < n → f i = g i) : HR r n g := fun i hi => by rw [h i hi, e i hi]
theorem it1_f1 {b : (Int32 → Prop) → Int32 → Prop} (N : Nat) (hN : N < 4000) (I : Nat → Prop) (h : ∀ (rc : Int32 → Prop) (j : Nat), j ≤ N → I j → (∀ (_ : Unit), j < N → I (j + 1) → rc (nI j + 1)) → b rc (nI j)) (a : Nat) (ha : a ≤ N) (h0 : I a) : it1 b 4096 (nI a) := by
  refine it1_R (fun x1 => ∃ j, j ≤ N ∧ x1 = nI j ∧ I j) (fun x1 => N - tn x1) ?_ 4096 (nI a) ⟨a, ha, rfl, h0⟩ (by omega)
  rintro rc x1 ⟨j, hj, rfl, hI⟩ hrec
  refine h rc j hj hI (fun _ hlt hI' => hrec _ ⟨j + 1, hlt, (nI_1 j), hI'⟩ ?_)
  rw [nI_1 j, tnI (by omega), tnI (by omega)]
  omega
theorem it2_f1 {A2 : Type} {b : (Int32 → A2 → Prop) → Int32 → A2 → Prop} (N : Nat) (hN : N < 4000) (I : Nat → A2 → Prop) (h : ∀ (rc : Int32 → A2 → Prop) (j : Nat) (x2 : A2), j ≤ N → I j x2 → (∀ (y2 : A2), j < N → I (j + 1) y2 → rc (nI j + 1) y2) → b rc (nI j) x2) (a : Nat) (x2 : A2) (ha : a ≤ N) (h0 : I a x2) : it2 b 4096 (nI a) x2 := by
  refine it2_R (fun x1 x2 => ∃ j, j ≤ N ∧ x1 = nI j ∧ I j x2) (fun x1 x2 => N - tn x1) ?_ 4096 (nI a) x2 ⟨a, ha, rfl, h0⟩ (by omega)
  rintro rc x1 x2 ⟨j, hj, rfl, hI⟩ hrec
  refine h rc j x2 hj hI (fun y2 hlt hI' => hrec _ y2 ⟨j + 1, hlt, (nI_1 j), hI'⟩ ?_)
  rw [nI_1 j, tnI (by omega), tnI (by omega)]
  omega
theorem it2_f2 {A1 : Type} {b : (A1 → Int32 → Prop) → A1 → Int32 → Prop} (N : Nat) (hN : N < 4000) (I : Nat → A1 → Prop) (h : ∀ (rc : A1 → Int32 → Prop) (j : Nat) (x1 : A1), j ≤ N → I j x1 → (∀ (y1 : A1), j < N → I (j + 1) y1 → rc y1 (nI j + 1)) → b rc x1 (nI j)) (a : Nat) (x1 : A1) (ha : a ≤ N) (h0 : I a x1) : it2 b 4096 x1 (nI a) := by
  refine it2_R (fun x1 x2 => ∃ j, j ≤ N ∧ x2 = nI j ∧ I j x1) (fun x1 x2 => N - tn x2) ?_ 4096 x1 (nI a) ⟨a, ha, rfl, h0⟩ (by omega)
  rintro rc x1 x2 ⟨j, hj, rfl, hI⟩ hrec
  refine h rc j x1 hj hI (fun y1 hlt hI' => hrec y1 _ ⟨j + 1, hlt, (nI_1 j), hI'⟩ ?_)
  rw [nI_1 j, tnI (by omega), tnI (by omega)]
  omega
theorem it3_f1 {A2 A3 : Type} {b : (Int32 → A2 → A3 → Prop) → Int32 → A2 → A3 → Prop} (N : Nat) (hN : N < 4000) (I : Nat → A2 → A3 → Prop) (h : ∀ (rc : Int32 → A2 → A3 → Prop) (j : Nat) (x2 : A2) (x3 : A3), j ≤ N → I j x2 x3 → (∀ (y2 : A2) (y3 : A3), j < N → I (j + 1) y2 y3 → rc (nI j + 1) y2 y3) → b rc (nI j) x2 x3) (a : Nat) (x2 : A2) (x3 : A3) (ha : a ≤ N) (h0 : I a x2 x3) : it3 b 4096 (nI a) x2 x3 := by
  refine it3_R (fun x1 x2 x3 => ∃ j, j ≤ N ∧ x1 = nI j ∧ I j x2 x3) (fun x1 x2 x3 => N - tn x1) ?_ 4096 (nI a) x2 x3 ⟨a, ha, rfl, h0⟩ (by omega)
  rintro rc x1 x2 x3 ⟨j, hj, rfl, hI⟩ hrec
  refine h rc j x2 x3 hj hI (fun y2 y3 hlt hI' => hrec _ y2 y3 ⟨j + 1, hlt, (nI_1 j), hI'⟩ ?_)
  rw [nI_1 j, tnI (by omega), tnI (by omega)]
  omega
theorem it3_f2 {A1 A3 : Type} {b : (A1 → Int32 → A3 → Prop) → A1 → Int32 → A3 → Prop} (N : Nat) (hN : N < 4000) (I : Nat → A1 → A3 → Prop) (h : ∀ (rc : A1 → Int32 → A3 → Prop) (j : Nat) (x1 : A1) (x3 : A3), j ≤ N → I j x1 x3 → (∀ (y1 : A1) (y3 : A3), j < N → I (j + 1) y1 y3 → rc y1 (nI j + 1) y3) → b rc x1 (nI j) x3) (a : Nat) (x1 : A1) (x3 : A3) (ha : a ≤ N) (h0 : I a x1 x3) : it3 b 4096 x1 (nI a) x3 := by
  refine it3_R (fun x1 x2 x3 => ∃ j, j ≤ N ∧ x2 = nI j ∧ I j x1 x3) (fun x1 x2 x3 => N - tn x2) ?_ 4096 x1 (nI a) x3 ⟨a, ha, rfl, h0⟩ (by omega)
  rintro rc x1 x2 x3 ⟨j, hj, rfl, hI⟩ hrec
  refine h rc j x1 x3 hj hI (fun y1 y3 hlt hI' => hrec y1 _ y3 ⟨j + 1, hlt, (nI_1 j), hI'⟩ ?_)
  rw [nI_1 j, tnI (by omega), tnI (by omega)]
  omega
theorem it3_f3 {A1 A2 : Type} {b : (A1 → A2 → Int32 → Prop) → A1 → A2 → Int32 → Prop} (N : Nat) (hN : N < 4000) (I : Nat → A1 → A2 → Prop) (h : ∀ (rc : A1 → A2 → Int32 → Prop) (j : Nat) (x1 : A1) (x2 : A2), j ≤ N → I j x1 x2 → (∀ (y1 : A1) (y2 : A2), j < N → I (j + 1) y1 y2 → rc y1 y2 (nI j + 1)) → b rc x1 x2 (nI j)) (a : Nat) (x1 : A1) (x2 : A2) (ha : a ≤ N) (h0 : I a x1 x2) : it3 b 4096 x1 x2 (nI a) := by
  refine it3_R (fun x1 x2 x3 => ∃ j, j ≤ N ∧ x3 = nI j ∧ I j x1 x2) (fun x1 x2 x3 => N - tn x3) ?_ 4096 x1 x2 (nI a) ⟨a, ha, rfl, h0⟩ (by omega)
  rintro rc x1 x2 x3 ⟨j, hj, rfl, hI⟩ hrec
  refine h rc j x1 x2 hj hI (fun y1 y2 hlt hI' => hrec y1 y2 _ ⟨j + 1, hlt, (nI_1 j), hI'⟩ ?_)
  rw [nI_1 j, tnI (by omega), tnI (by omega)]
  omega
theorem it4_f1 {A2 A3 A4 : Type} {b : (Int32 → A2 → A3 → A4 → Prop) → Int32 → A2 → A3 → A4 → Prop} (N : Nat) (hN : N < 4000) (I : Nat → A2 → A3 → A4 → Prop) (h : ∀ (rc : Int32 → A2 → A3 → A4 → Prop) (j : Nat) (x2 : A2) (x3 : A3) (x4 : A4), j ≤ N → I j x2 x3 x4 → (∀ (y2 : A2) (y3 : A3) (y4 : A4), j < N → I (j + 1) y2 y3 y4 → rc (nI j + 1) y2 y3 y4) → b rc (nI j) x2 x3 x4) (a : Nat) (x2 : A2) (x3 : A3) (x4 : A4) (ha : a ≤ N) (h0 : I a x2 x3 x4) : it4 b 4096 (nI a) x2 x3 x4 := by
  refine it4_R (fun x1 x2 x3 x4 => ∃ j, j ≤ N ∧ x1 = nI j ∧ I j x2 x3 x4) (fun x1 x2 x3 x4 => N - tn x1) ?_ 4096 (nI a) x2 x3 x4 ⟨a, ha, rfl, h0⟩ (by omega)
  rintro rc x1 x2 x3 x4 ⟨j, hj, rfl, hI⟩ hrec
  refine h rc j x2 x3 x4 hj hI (fun y2 y3 y4 hlt hI' => hrec _ y2 y3 y4 ⟨j + 1, hlt, (nI_1 j), hI'⟩ ?_)
  rw [nI_1 j, tnI (by omega), tnI (by omega)]
  omega
theorem it4_f2 {A1 A3 A4 : Type} {b : (A1 → Int32 → A3 → A4 → Prop) → A1 → Int32 → A3 → A4 → Prop} (N : Nat) (hN : N < 4000) (I : Nat → A1 → A3 → A4 → Prop) (h : ∀ (rc : A1 → Int32 → A3 → A4 → Prop) (j : Nat) (x1 : A1) (x3 : A3) (x4 : A4), j ≤ N → I j x1 x3 x4 → (∀ (y1 : A1) (y3 : A3) (y4 : A4), j < N → I (j + 1) y1 y3 y4 → rc y1 (nI j + 1) y3 y4) → b rc x1 (nI j) x3 x4) (a : Nat) (x1 : A1) (x3 : A3) (x4 : A4) (ha : a ≤ N) (h0 : I a x1 x3 x4) : it4 b 4096 x1 (nI a) x3 x4 := by
  refine it4_R (fun x1 x2 x3 x4 => ∃ j, j ≤ N ∧ x2 = nI j ∧ I j x1 x3 x4) (fun x1 x2 x3 x4 => N - tn x2) ?_ 4096 x1 (nI a) x3 x4 ⟨a, ha, rfl, h0⟩ (by omega)
  rintro rc x1 x2 x3 x4 ⟨j, hj, rfl, hI⟩ hrec
  refine h rc j x1 x3 x4 hj hI (fun y1 y3 y4 hlt hI' => hrec y1 _ y3 y4 ⟨j + 1, hlt, (nI_1 j), hI'⟩ ?_)
  rw [nI_1 j, tnI (by omega), tnI (by omega)]
  omega
theorem it4_f3 {A1 A2 A4 : Type} {b : (A1 → A2 → Int32 → A4 → Prop) → A1 → A2 → Int32 → A4 → Prop} (N : Nat) (hN : N < 4000) (I : Nat → A1 → A2 → A4 → Prop) (h : ∀ (rc : A1 → A2 → Int32 → A4 → Prop) (j : Nat) (x1 : A1) (x2 : A2) (x4 : A4), j ≤ N → I j x1 x2 x4 → (∀ (y1 : A1) (y2 : A2) (y4 : A4), j < N → I (j + 1) y1 y2 y4 → rc y1 y2 (nI j + 1) y4) → b rc x1 x2 (nI j) x4) (a : Nat) (x1 : A1) (x2 : A2) (x4 : A4) (ha : a ≤ N) (h0 : I a x1 x2 x4) : it4 b 4096 x1 x2 (nI a) x4 := by
  refine it4_R (fun x1 x2 x3 x4 => ∃ j, j ≤ N ∧ x3 = nI j ∧ I j x1 x2 x4) (fun x1 x2 x3 x4 => N - tn x3) ?_ 4096 x1 x2 (nI a) x4 ⟨a, ha, rfl, h0⟩ (by omega)
  rintro rc x1 x2 x3 x4 ⟨j, hj, rfl, hI⟩ hrec
  refine h rc j x1 x2 x4 hj hI (fun y1 y2 y4 hlt hI' => hrec y1 y2 _ y4 ⟨j + 1, hlt, (nI_1 j), hI'⟩ ?_)
  rw [nI_1 j, tnI (by omega), tnI (by omega)]
  omega
theorem it4_f4 {A1 A2 A3 : Type} {b : (A1 → A2 → A3 → Int32 → Prop) → A1 → A2 → A3 → Int32 → Prop} (N : Nat) (hN : N < 4000) (I : Nat → A1 → A2 → A3 → Prop) (h : ∀ (rc : A1 → A2 → A3 → Int32 → Prop) (j : Nat) (x1 : A1) (x2 : A2) (x3 : A3), j ≤ N → I j x1 x2 x3 → (∀ (y1 : A1) (y2 : A2) (y3 : A3), j < N → I (j + 1) y1 y2 y3 → rc y1 y2 y3 (nI j + 1)) → b rc x1 x2 x3 (nI j)) (a : Nat) (x1 : A1) (x2 : A2) (x3 : A3) (ha : a ≤ N) (h0 : I a x1 x2 x3) : it4 b 4096 x1 x2 x3 (nI a) := by
  refine it4_R (fun x1 x2 x3 x4 => ∃ j, j ≤ N ∧ x4 = nI j ∧ I j x1 x2 x3) (fun x1 x2 x3 x4 => N - tn x4) ?_ 4096 x1 x2 x3 (nI a) ⟨a, ha, rfl, h0⟩ (by omega)
  rintro rc x1 x2 x3 x4 ⟨j, hj, rfl, hI⟩ hrec
  refine h rc j x1 x2 x3 hj hI (fun y1 y2 y3 hlt hI' => hrec y1 y2 y3 _ ⟨j + 1, hlt, (nI_1 j), hI'⟩ ?_)
  rw [nI_1 j, tnI (by omega), tnI (by omega)]
  omega
theorem it5_f1 {A2 A3 A4 A5 : Type} {b : (Int32 → A2 → A3 → A4 → A5 → Prop) → Int32 → A2 → A3 → A4 → A5 → Prop} (N : Nat) (hN : N < 4000) (I : Nat → A2 → A3 → A4 → A5 → Prop) (h : ∀ (rc : Int32 → A2 → A3 → A4 → A5 → Prop) (j : Nat) (x2 : A2) (x3 : A3) (x4 : A4) (x5 : A5), j ≤ N → I j x2 x3 x4 x5 → (∀ (y2 : A2) (y3 : A3) (y4 : A4) (y5 : A5), j < N → I (j + 1) y2 y3 y4 y5 → rc (nI j + 1) y2 y3 y4 y5) → b rc (nI j) x2 x3 x4 x5) (a : Nat) (x2 : A2) (x3 : A3) (x4 : A4) (x5 : A5) (ha : a ≤ N) (h0 : I a x2 x3 x4 x5) : it5 b 4096 (nI a) x2 x3 x4 x5 := by
  refine it5_R (fun x1 x2 x3 x4 x5 => ∃ j, j ≤ N ∧ x1 = nI j ∧ I j x2 x3 x4 x5) (fun x1 x2 x3 x4 x5 => N - tn x1) ?_ 4096 (nI a) x2 x3 x4 x5 ⟨a, ha, rfl, h0⟩ (by omega)
  rintro rc x1 x2 x3 x4 x5 ⟨j, hj, rfl, hI⟩ hrec
  refine h rc j x2 x3 x4 x5 hj hI (fun y2 y3 y4 y5 hlt hI' => hrec _ y2 y3 y4 y5 ⟨j + 1, hlt, (nI_1 j), hI'⟩ ?_)
  rw [nI_1 j, tnI (by omega), tnI (by omega)]
  omega
theorem it5_f2 {A1 A3 A4 A5 : Type} {b : (A1 → Int32 → A3 → A4 → A5 → Prop) → A1 → Int32 → A3 → A4 → A5 → Prop} (N : Nat) (hN : N < 4000) (I : Nat → A1 → A3 → A4 → A5 → Prop) (h : ∀ (rc : A1 → Int32 → A3 → A4 → A5 → Prop) (j : Nat) (x1 : A1) (x3 : A3) (x4 : A4) (x5 : A5), j ≤ N → I j x1 x3 x4 x5 → (∀ (y1 : A1) (y3 : A3) (y4 : A4) (y5 : A5), j < N → I (j + 1) y1 y3 y4 y5 → rc y1 (nI j + 1) y3 y4 y5) → b rc x1 (nI j) x3 x4 x5) (a : Nat) (x1 : A1) (x3 : A3) (x4 : A4) (x5 : A5) (ha : a ≤ N) (h0 : I a x1 x3 x4 x5) : it5 b 4096 x1 (nI a) x3 x4 x5 := by
  refine it5_R (fun x1 x2 x3 x4 x5 => ∃ j, j ≤ N ∧ x2 = nI j ∧ I j x1 x3 x4 x5) (fun x1 x2 x3 x4 x5 => N - tn x2) ?_ 4096 x1 (nI a) x3 x4 x5 ⟨a, ha, rfl, h0⟩ (by omega)
  rintro rc x1 x2 x3 x4 x5 ⟨j, hj, rfl, hI⟩ hrec
  refine h rc j x1 x3 x4 x5 hj hI (fun y1 y3 y4 y5 hlt hI' => hrec y1 _ y3 y4 y5 ⟨j + 1, hlt, (nI_1 j), hI'⟩ ?_)
  rw [nI_1 j, tnI (by omega), tnI (by omega)]
  omega
theorem it5_f3 {A1 A2 A4 A5 : Type} {b : (A1 → A2 → Int32 → A4 → A5 → Prop) → A1 → A2 → Int32 → A4 → A5 → Prop} (N : Nat) (hN : N < 4000) (I : Nat → A1 → A2 → A4 → A5 → Prop) (h : ∀ (rc : A1 → A2 → Int32 → A4 → A5 → Prop) (j : Nat) (x1 : A1) (x2 : A2) (x4 : A4) (x5 : A5), j ≤ N → I j x1 x2 x4 x5 → (∀ (y1 : A1) (y2 : A2) (y4 : A4) (y5 : A5), j < N → I (j + 1) y1 y2 y4 y5 → rc y1 y2 (nI j + 1) y4 y5) → b rc x1 x2 (nI j) x4 x5) (a : Nat) (x1 : A1) (x2 : A2) (x4 : A4) (x5 : A5) (ha : a ≤ N) (h0 : I a x1 x2 x4 x5) : it5 b 4096 x1 x2 (nI a) x4 x5 := by
  refine it5_R (fun x1 x2 x3 x4 x5 => ∃ j, j ≤ N ∧ x3 = nI j ∧ I j x1 x2 x4 x5) (fun x1 x2 x3 x4 x5 => N - tn x3) ?_ 4096 x1 x2 (nI a) x4 x5 ⟨a, ha, rfl, h0⟩ (by omega)
  rintro rc x1 x2 x3 x4 x5 ⟨j, hj, rfl, hI⟩ hrec
  refine h rc j x1 x2 x4 x5 hj hI (fun y1 y2 y4 y5 hlt hI' => hrec y1 y2 _ y4 y5 ⟨j + 1, hlt, (nI_1 j), hI'⟩ ?_)
  rw [nI_1 j, tnI (by omega), tnI (by omega)]
  omega
theorem it5_f4 {A1 A2 A3 A5 : Type} {b : (A1 → A2 → A3 → Int32 → A5 → Prop) → A1 → A2 → A3 → Int32 → A5 → Prop} (N : Nat) (hN : N < 4000) (I : Nat → A1 → A2 → A3 → A5 → Prop) (h : ∀ (rc : A1 → A2 → A3 → Int32 → A5 → Prop) (j : Nat) (x1 : A1) (x2 : A2) (x3 : A3) (x5 : A5), j ≤ N → I j x1 x2 x3 x5 → (∀ (y1 : A1) (y2 : A2) (y3 : A3) (y5 : A5), j < N → I (j + 1) y1 y2 y3 y5 → rc y1 y2 y3 (nI j + 1) y5) → b rc x1 x2 x3 (nI j) x5) (a : Nat) (x1 : A1) (x2 : A2) (x3 : A3) (x5 : A5) (ha : a ≤ N) (h0 : I a x1 x2 x3 x5) : it5 b 4096 x1 x2 x3 (nI a) x5 := by
  refine it5_R (fun x1 x2 x3 x4 x5 => ∃ j, j ≤ N ∧ x4 = nI j ∧ I j x1 x2 x3 x5) (fun x1 x2 x3 x4 x5 => N - tn x4) ?_ 4096 x1 x2 x3 (nI a) x5 ⟨a, ha, rfl, h0⟩ (by omega)
  rintro rc x1 x2 x3 x4 x5 ⟨j, hj, rfl, hI⟩ hrec
  refine h rc j x1 x2 x3 x5 hj hI (fun y1 y2 y3 y5 hlt hI' => hrec y1 y2 y3 _ y5 ⟨j + 1, hlt, (nI_1 j), hI'⟩ ?_)
  rw [nI_1 j, tnI (by omega), tnI (by omega)]
  omega
theorem it5_f5 {A1 A2 A3 A4 : Type} {b : (A1 → A2 → A3 → A4 → Int32 → Prop) → A1 → A2 → A3 → A4 → Int32 → Prop} (N : Nat) (hN : N < 4000) (I : Nat → A1 → A2 → A3 → A4 → Prop) (h : ∀ (rc : A1 → A2 → A3 → A4 → Int32 → Prop) (j : Nat) (x1 : A1) (x2 : A2) (x3 : A3) (x4 : A4), j ≤ N → I j x1 x2 x3 x4 → (∀ (y1 : A1) (y2 : A2) (y3 : A3) (y4 : A4), j < N → I (j + 1) y1 y2 y3 y4 → rc y1 y2 y3 y4 (nI j + 1)) → b rc x1 x2 x3 x4 (nI j)) (a : Nat) (x1 : A1) (x2 : A2) (x3 : A3) (x4 : A4) (ha : a ≤ N) (h0 : I a x1 x2 x3 x4) : it5 b 4096 x1 x2 x3 x4 (nI a) := by
  refine it5_R (fun x1 x2 x3 x4 x5 => ∃ j, j ≤ N ∧ x5 = nI j ∧ I j x1 x2 x3 x4) (fun x1 x2 x3 x4 x5 => N - tn x5) ?_ 4096 x1 x2 x3 x4 (nI a) ⟨a, ha, rfl, h0⟩ (by omega)
  rintro rc x1 x2 x3 x4 x5 ⟨j, hj, rfl, hI⟩ hrec
  refine h rc j x1 x2 x3 x4 hj hI (fun y1 y2 y3 y4 hlt hI' => hrec y1 y2 y3 y4 _ ⟨j + 1, hlt, (nI_1 j), hI'⟩ ?_)
  rw [nI_1 j, tnI (by omega), tnI (by omega)]
  omega
