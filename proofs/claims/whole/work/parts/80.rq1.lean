/-! THE REFERENCE answers: hours -/
abbrev inb (a : Int32) (n : Nat) : Prop := 0 ≤ a.toInt ∧ a.toInt < (n : Int)
theorem inb_of {a : Int32} {n : Nat} (h : inb a n) (hn : n < 2 ^ 31 := by omega) : ∃ j, j < n ∧ a = nI j := by
  refine ⟨a.toInt.toNat, by unfold inb at h; omega, ?_⟩
  apply Int32.toInt_inj.mp
  rw [nI_toInt (by unfold inb at h; omega)]
  unfold inb at h
  omega
theorem inb_nI {j n : Nat} (h : j < n) (hn : n < 2 ^ 31 := by omega) : inb (nI j) n := by
  unfold inb
  rw [nI_toInt (by omega)]
  omega
theorem ri {a : Int32} {hi : Int64} (n : Nat) (hh : hi.toInt = (n : Int) - 1) : pf_R_in a.toInt64 0 hi = if inb a n then 1 else 0 := by
  rw [rin (l := 0) (h := (n : Int) - 1) rfl hh]
  unfold inb
  by_cases c : 0 ≤ a.toInt ∧ a.toInt < (n : Int)
  · rw [if_pos (by omega), if_pos c]
  · rw [if_neg (by omega), if_neg c]
theorem xo {a : Int32} (n : Nat) (hn : n < 2 ^ 31) : pf_X_outside a (nI n) = if inb a n then 0 else 1 := by
  by_cases c : inb a n
  · obtain ⟨j, hj, rfl⟩ := inb_of c
    rw [if_pos c, xo_in hj hn]
  · rw [if_neg c, xo_out (fun q => by obtain ⟨j, hj, rfl⟩ := q; exact c (inb_nI hj)) hn]
theorem r_hour (a : Int32) : pf_R_isHour a = if inb a 24 then 1 else 0 := ri 24 rfl
theorem r_mile (a : Int32) : pf_R_isMile a = if inb a 12 then 1 else 0 := ri 12 rfl
theorem r_two (a : Int32) : pf_R_isTwo a = if inb a 2 then 1 else 0 := ri 2 rfl
theorem r_three (a : Int32) : pf_R_in a.toInt64 0 2 = if inb a 3 then 1 else 0 := ri 3 rfl
theorem r_textQ (a : Int32) : pf_R_isText a = if inb a 4 then 1 else 0 := ri 4 rfl
theorem r_sheetQ (a : Int32) : pf_R_isSheet a = if inb a 4 then 1 else 0 := ri 4 rfl
theorem c10 {c : Prop} [Decidable c] : ((if c then (1 : Int32) else 0) = 0) ↔ ¬ c := by
  by_cases h : c
  · rw [if_pos h]; exact ⟨fun q => absurd q (by decide), fun q => absurd h q⟩
  · rw [if_neg h]; exact ⟨fun _ => h, fun _ => rfl⟩
theorem m1_64 {p : Nat} (hp : p < 2 ^ 30) : ((nI p - 1).toInt64).toInt = (p : Int) - 1 := by
  rw [Int32.toInt_toInt64, show (1 : Int32) = nI 1 from rfl, pk_sub_toInt hp (by decide)]
  rfl
theorem r_isPlough {M : Mem} {a : Int32} {p : Nat} {post : Int32 → Prop} (h : M 0 9 = nI p) (hp : p < 1000) (K : post (if inb a p then 1 else 0)) : wp_R_isPlough a M post := by
  unfold wp_R_isPlough
  rw [h, ri p (m1_64 (by omega))]
  refine ⟨?_, K⟩
  split
  · exact Or.inr rfl
  · exact Or.inl rfl
theorem r_isBus {M : Mem} {a : Int32} {p : Nat} {post : Int32 → Prop} (h : M 0 11 = nI p) (hp : p < 1000) (K : post (if inb a p then 1 else 0)) : wp_R_isBus a M post := by
  unfold wp_R_isBus
  rw [h, ri p (m1_64 (by omega))]
  refine ⟨?_, K⟩
  split
  · exact Or.inr rfl
  · exact Or.inl rfl
def sumN (f : Nat → Nat) : Nat → Nat
  | 0 => 0
  | n + 1 => sumN f n + f n
def dpc (d : Nat → Nat) (i : Nat) : Bool := decide (4 < d i)
theorem r_snowBy {M : Mem} {h : Nat} {d : Nat → Nat} {a2 : Int32} {post : Int32 → Prop} (hh : h < 24) (hd : ∀ i, i < 12 → M 21 (12 * h + i) = nI (d i)) (hB : ∀ i, d i ≤ 10000) (K : post (if a2 = 0 then nI (sumN d 12) else nI (cnt (dpc d) 12))) : wp_R_snowBy (nI h) a2 M post := by
  unfold wp_R_snowBy
  refine it2_f2 12 (by omega) (fun j x => x = (if a2 = 0 then nI (sumN d j) else nI (cnt (dpc d) j))) (fun rc j x hj hI hrec => ?_) 0 0 (Nat.zero_le _) (by split <;> rfl)
  subst hI
  refine ⟨fun hx => ?_, fun hx => ?_⟩
  · have hj2 : j = 12 := by have := gI (a := 12) hx; omega
    subst hj2
    exact K
  · have hlt : j < 12 := ngI (a := 12) hx
    rw [i12, tnI (by omega : 12 * h + j < 2 ^ 31), hd j hlt]
    refine ⟨vI (by omega), fun x7 hx7 u hu => hrec _ hlt ?_⟩
    subst hx7
    rw [hu]
    have hb := hB j
    by_cases c : a2 = 0
    · simp only [c, if_true]
      rw [nI_add]; rfl
    · simp only [c, if_false]
      have e4 : (nI (d j) ≤ 4) ↔ ¬ 4 < d j := by
        rw [show (4 : Int32) = nI 4 from rfl, nI_leI (by omega) (by omega)]; omega
      rw [cnt]
      by_cases c2 : 4 < d j
      · rw [if_neg (fun q => (e4.mp q) c2), show dpc d j = true from decide_eq_true c2, if_pos rfl, ← nI_add]; rfl
      · rw [if_pos (e4.mpr c2), show dpc d j = false from decide_eq_false c2, if_neg (by decide), ← nI_add]; rfl
/-- behind find: what holds -/
def RF (A : Ast) (M : Mem) : Prop := IR A M ∧ RT (tld A) M ∧ HI (tld A) allOn 24 M
theorem r_find2 {A : Ast} {M : Mem} {post : Mem → Prop} (ok : okA A) (hR : IR A M) (K : ∀ M', RF A M' → post M') : wp_R_find M post :=
  r_find ok hR (fun M' hk hT hH => K M' ⟨hR.kp hk, hT, hH⟩)
theorem dep_le {T : Tld} {on : Nat → Bool} (ok : okT T) {h : Nat} (hh : h < 24) (i : Nat) : dep T on h i ≤ 10000 := by
  have := (sim_ok (T := T) (on := on) ok (h + 1)).1 i
  show sim T on (h + 1) 0 i ≤ _
  omega
theorem HI.d {T : Tld} {on : Nat → Bool} {M : Mem} (hH : HI T on 24 M) {h : Nat} (hh : h < 24) : ∀ i, i < 12 → M 21 (12 * h + i) = nI (dep T on h i) := fun i hi => (hH.2.2.2 h hh).1 i hi
def q_deep (A : Ast) (a1 a2 : Int32) : Int32 := if inb a1 24 then (if inb a2 12 then nI (dep (tld A) allOn (tn a1) (tn a2)) else -2) else -2
theorem rq_deep {A : Ast} {M : Mem} {a1 a2 : Int32} {post : Int32 → Mem → Prop} (ok : okA A) (hR : IR A M) (K : ∀ M', IR A M' → post (q_deep A a1 a2) M') : wp_R_deep a1 a2 M post := by
  unfold wp_R_deep
  refine r_find2 ok hR (fun M1 hF => ?_)
  obtain ⟨hI, hT, hH⟩ := hF
  simp only [r_hour, r_mile, c10]
  have K' := K M1 hI
  unfold q_deep at K'
  by_cases c1 : inb a1 24
  · obtain ⟨h, hh, rfl⟩ := inb_of c1
    by_cases c2 : inb a2 12
    · obtain ⟨i, hi, rfl⟩ := inb_of c2
      rw [i12, tnI (by omega : 12 * h + i < 2 ^ 31)]
      rw [if_pos c1, if_pos c2, tnI (by omega), tnI (by omega)] at K'
      refine ⟨⟨fun q => absurd c1 q, fun _ => ⟨fun q => absurd c2 q, fun _ => vI (by omega)⟩⟩, fun u hu => ?_⟩
      rw [hu, if_neg (not_not_intro c1), if_neg (not_not_intro c2), hH.d hh i hi]
      exact K'
    · rw [if_pos c1, if_neg c2] at K'
      refine ⟨⟨fun q => absurd c1 q, fun _ => ⟨fun _ => trivial, fun q => absurd c2 q⟩⟩, fun u hu => ?_⟩
      rw [hu, if_neg (not_not_intro c1), if_pos c2]
      exact K'
  · rw [if_neg c1] at K'
    refine ⟨⟨fun _ => trivial, fun q => absurd c1 q⟩, fun u hu => ?_⟩
    rw [hu, if_pos c1]
    exact K'
theorem r_atBy {T : Tld} {on : Nat → Bool} {M : Mem} {h k : Nat} {a3 : Int32} {post : Int32 → Prop} (ok : okT T) (hH : HI T on 24 M) (hh : h < 24) (hk : k < T 2 0) (K : post (nI (sim T on (h + 1) (if a3 = 0 then 1 else if a3 = 1 then 2 else 3) k))) : wp_R_atBy (nI h) (nI k) a3 M post := by
  have h8 := ok.2.2.1
  unfold wp_R_atBy
  intro x hx
  rw [i4] at hx
  subst hx
  rw [tnI (by omega : 4 * h + k < 2 ^ 31)]
  obtain ⟨b1, b2, b3⟩ := (hH.2.2.2 h hh).2.1 k hk
  refine ⟨⟨fun _ => vI (by omega), fun _ => ⟨fun _ => vI (by omega), fun _ => vI (by omega)⟩⟩, fun u hu => ?_⟩
  rw [hu, b1, b2, b3]
  by_cases c1 : a3 = 0
  · simpa [c1] using K
  · by_cases c2 : a3 = 1
    · simpa [c2] using K
    · simpa [c1, c2] using K
def q_at (A : Ast) (a1 a2 a3 : Int32) : Int32 := if inb a1 24 then (if inb a2 (tld A 2 0) then (if inb a3 3 then nI (sim (tld A) allOn (tn a1 + 1) (if a3 = 0 then 1 else if a3 = 1 then 2 else 3) (tn a2)) else -2) else -2) else -2
theorem rq_at {A : Ast} {M : Mem} {a1 a2 a3 : Int32} {post : Int32 → Mem → Prop} (ok : okA A) (hR : IR A M) (K : ∀ M', IR A M' → post (q_at A a1 a2 a3) M') : wp_R_at a1 a2 a3 M post := by
  have okt := okT_tld ok
  have h8 := okt.2.2.1
  unfold wp_R_at
  refine r_find2 ok hR (fun M1 hF => ?_)
  obtain ⟨hI, hT, hH⟩ := hF
  simp only [r_hour, r_three, c10]
  have K' := K M1 hI
  unfold q_at at K'
  refine ⟨fun c1 => by rw [if_neg c1] at K'; exact K', fun c1 => ?_⟩
  have c1 := Decidable.not_not.mp c1
  rw [if_pos c1] at K'
  refine r_isPlough hT.2.2.1 (by omega) ?_
  rw [c10]
  refine ⟨fun c2 => by rw [if_neg c2] at K'; exact K', fun c2 => ?_⟩
  have c2 := Decidable.not_not.mp c2
  rw [if_pos c2] at K'
  refine ⟨fun c3 => by rw [if_neg c3] at K'; exact K', fun c3 => ?_⟩
  have c3 := Decidable.not_not.mp c3
  rw [if_pos c3] at K'
  obtain ⟨h, hh, rfl⟩ := inb_of c1
  obtain ⟨k, hk, rfl⟩ := inb_of c2
  rw [tnI (by omega), tnI (by omega)] at K'
  exact r_atBy okt hH hh hk K'
def q_rides (A : Ast) (a1 a2 : Int32) : Int32 := if inb a1 24 then (if inb a2 (tld A 2 1) then nI (bsT (tld A) allOn (tn a2) (tn a1 + 1)).1 - 1 else -2) else -2
theorem rq_rides {A : Ast} {M : Mem} {a1 a2 : Int32} {post : Int32 → Mem → Prop} (ok : okA A) (hR : IR A M) (K : ∀ M', IR A M' → post (q_rides A a1 a2) M') : wp_R_rides a1 a2 M post := by
  have okt := okT_tld ok
  have h8 := okt.2.2.1
  unfold wp_R_rides
  refine r_find2 ok hR (fun M1 hF => ?_)
  obtain ⟨hI, hT, hH⟩ := hF
  simp only [r_hour, c10]
  have K' := K M1 hI
  unfold q_rides at K'
  refine ⟨fun c1 => by rw [if_neg c1] at K'; exact K', fun c1 => ?_⟩
  have c1 := Decidable.not_not.mp c1
  rw [if_pos c1] at K'
  refine r_isBus hT.2.2.2.1 (by omega) ?_
  simp only [c10]
  obtain ⟨h, hh, rfl⟩ := inb_of c1
  by_cases c2 : inb a2 (tld A 2 1)
  · rw [if_pos c2] at K'
    obtain ⟨k, hk, rfl⟩ := inb_of c2
    rw [tnI (by omega), tnI (by omega)] at K'
    rw [i8, tnI (by omega : 8 * h + k < 2 ^ 31), (hH.2.2.2 h hh).2.2 k hk]
    refine ⟨⟨fun q => absurd c2 q, fun _ => vI (by omega)⟩, fun u hu => ?_⟩
    rw [hu, if_neg (not_not_intro c2)]
    exact K'
  · rw [if_neg c2] at K'
    refine ⟨⟨fun _ => trivial, fun q => absurd c2 q⟩, fun u hu => ?_⟩
    rw [hu, if_pos c2]
    exact K'
def snw (T : Tld) (on : Nat → Bool) (h : Nat) : Nat := sumN (dep T on h) 12
def dpm (T : Tld) (on : Nat → Bool) (h : Nat) : Nat := cnt (dpc (dep T on h)) 12
def q_snow (A : Ast) (a1 a2 : Int32) : Int32 := if inb a1 24 then (if inb a2 2 then (if a2 = 0 then nI (snw (tld A) allOn (tn a1)) else nI (dpm (tld A) allOn (tn a1))) else -2) else -2
theorem rq_snow {A : Ast} {M : Mem} {a1 a2 : Int32} {post : Int32 → Mem → Prop} (ok : okA A) (hR : IR A M) (K : ∀ M', IR A M' → post (q_snow A a1 a2) M') : wp_R_snow a1 a2 M post := by
  have okt := okT_tld ok
  unfold wp_R_snow
  refine r_find2 ok hR (fun M1 hF => ?_)
  obtain ⟨hI, hT, hH⟩ := hF
  simp only [r_hour, r_two, c10]
  have K' := K M1 hI
  unfold q_snow at K'
  refine ⟨fun c1 => by rw [if_neg c1] at K'; exact K', fun c1 => ?_⟩
  have c1 := Decidable.not_not.mp c1
  rw [if_pos c1] at K'
  refine ⟨fun c2 => by rw [if_neg c2] at K'; exact K', fun c2 => ?_⟩
  have c2 := Decidable.not_not.mp c2
  rw [if_pos c2] at K'
  obtain ⟨h, hh, rfl⟩ := inb_of c1
  rw [tnI (by omega)] at K'
  exact r_snowBy hh (hH.d hh) (dep_le okt hh) K'
def q_over (A : Ast) (a1 a2 : Int32) : Int32 := if inb a1 (tld A 2 1) then (if inb a2 2 then (if a2 = 0 then nI (bsT (tld A) allOn (tn a1) 24).2.1 - 1 else nI (bsT (tld A) allOn (tn a1) 24).2.2) else -2) else -2
theorem rq_over {A : Ast} {M : Mem} {a1 a2 : Int32} {post : Int32 → Mem → Prop} (ok : okA A) (hR : IR A M) (K : ∀ M', IR A M' → post (q_over A a1 a2) M') : wp_R_over a1 a2 M post := by
  have okt := okT_tld ok
  have h8 := okt.2.2.1
  unfold wp_R_over
  refine r_find2 ok hR (fun M1 hF => ?_)
  obtain ⟨hI, hT, hH⟩ := hF
  simp only [r_two, c10]
  have K' := K M1 hI
  unfold q_over at K'
  refine r_isBus hT.2.2.2.1 (by omega) ?_
  rw [c10]
  refine ⟨fun c1 => by rw [if_neg c1] at K'; exact K', fun c1 => ?_⟩
  have c1 := Decidable.not_not.mp c1
  rw [if_pos c1] at K'
  refine ⟨fun c2 => by rw [if_neg c2] at K'; exact K', fun c2 => ?_⟩
  have c2 := Decidable.not_not.mp c2
  rw [if_pos c2] at K'
  obtain ⟨k, hk, rfl⟩ := inb_of c1
  rw [tnI (by omega)] at K'
  unfold wp_R_overBy
  rw [tnI (by omega)]
  obtain ⟨b1, b2, b3⟩ := hH.2.2.1 k hk
  refine ⟨⟨fun _ => vI (by omega), fun _ => vI (by omega)⟩, fun u hu => ?_⟩
  rw [hu, b2, b3]
  exact K'
def q_cleared (A : Ast) (a1 a2 : Int32) : Int32 := if inb a1 (tld A 2 0) then (if inb a2 2 then (if a2 = 0 then nI (sim (tld A) allOn 24 4 (tn a1)) else nI (sim (tld A) allOn 24 5 (tn a1))) else -2) else -2
theorem rq_cleared {A : Ast} {M : Mem} {a1 a2 : Int32} {post : Int32 → Mem → Prop} (ok : okA A) (hR : IR A M) (K : ∀ M', IR A M' → post (q_cleared A a1 a2) M') : wp_R_cleared a1 a2 M post := by
  have okt := okT_tld ok
  have h8 := okt.2.2.1
  unfold wp_R_cleared
  refine r_find2 ok hR (fun M1 hF => ?_)
  obtain ⟨hI, hT, hH⟩ := hF
  simp only [r_two, c10]
  have K' := K M1 hI
  unfold q_cleared at K'
  refine r_isPlough hT.2.2.1 (by omega) ?_
  rw [c10]
  refine ⟨fun c1 => by rw [if_neg c1] at K'; exact K', fun c1 => ?_⟩
  have c1 := Decidable.not_not.mp c1
  rw [if_pos c1] at K'
  refine ⟨fun c2 => by rw [if_neg c2] at K'; exact K', fun c2 => ?_⟩
  have c2 := Decidable.not_not.mp c2
  rw [if_pos c2] at K'
  obtain ⟨k, hk, rfl⟩ := inb_of c1
  rw [tnI (by omega)] at K'
  unfold wp_R_clearedBy
  rw [tnI (by omega)]
  refine ⟨⟨fun _ => vI (by omega), fun _ => vI (by omega)⟩, fun u hu => ?_⟩
  rw [hu, hH.2.1 k hk, hH.1.2.2.2 k hk]
  exact K'
/-- the first of the greatest -/
def amx (f : Nat → Nat) : Nat → Nat
  | 0 => 0
  | n + 1 => if f (n + 1) ≤ f (amx f n) then amx f n else n + 1
theorem amx_le (f : Nat → Nat) (n : Nat) : amx f n ≤ n := by
  induction n with
  | zero => exact Nat.le_refl _
  | succ n ih => rw [amx]; split <;> omega
def fld (T : Tld) (on : Nat → Bool) (x : Nat) : Nat := dep T on (x / 12) (x % 12)
theorem HI.f {T : Tld} {on : Nat → Bool} {M : Mem} (hH : HI T on 24 M) {x : Nat} (hx : x < 288) : M 21 x = nI (fld T on x) := by
  have := hH.d (h := x / 12) (by omega) (x % 12) (by omega)
  rw [show 12 * (x / 12) + x % 12 = x by omega] at this
  exact this
def v_deepest (T : Tld) (a1 : Int32) : Int32 := if a1 = 0 then nI (fld T allOn (amx (fld T allOn) 287)) else if a1 = 1 then nI (amx (fld T allOn) 287 / 12) else nI (amx (fld T allOn) 287 % 12)
theorem r_deepestBy {T : Tld} {M : Mem} {a1 : Int32} {post : Int32 → Prop} (ok : okT T) (hH : HI T allOn 24 M) (K : post (v_deepest T a1)) : wp_R_deepestBy a1 M post := by
  unfold wp_R_deepestBy
  refine it2_f2 288 (by omega) (fun j x => 1 ≤ j ∧ x = nI (amx (fld T allOn) (j - 1))) (fun rc j x hj hI hrec => ?_) 1 0 (by omega) ⟨Nat.le_refl _, rfl⟩
  obtain ⟨h1, rfl⟩ := hI
  have hle := amx_le (fld T allOn) (j - 1)
  refine ⟨fun hx => ?_, fun hx => ?_⟩
  · have hj2 : j = 288 := by have := gI (a := 288) hx; omega
    subst hj2
    simp only [show 288 - 1 = 287 from rfl] at hle ⊢
    rw [tnI (by omega)]
    refine ⟨⟨fun _ => vI (by omega), fun _ => trivial⟩, fun u hu => ?_⟩
    rw [hu, hH.f (by omega), show nI (amx (fld T allOn) 287) / 12 = nI (amx (fld T allOn) 287 / 12) from pk_div (d := 12) (by omega) (by decide) (by decide), show nI (amx (fld T allOn) 287) - nI (amx (fld T allOn) 287 / 12) * 12 = nI (amx (fld T allOn) 287 % 12) by
      rw [← pk_rem (d := 12) (by omega) (by decide) (by decide), show nI (amx (fld T allOn) 287) / nI 12 = nI (amx (fld T allOn) 287 / 12) from pk_div (d := 12) (by omega) (by decide) (by decide)]; rfl]
    exact K
  · have hlt : j < 288 := ngI (a := 288) hx
    rw [tnI (by omega : j < 2 ^ 31), tnI (by omega : amx (fld T allOn) (j - 1) < 2 ^ 31), hH.f hlt, hH.f (by omega)]
    refine ⟨vI (by omega), vI (by omega), fun u hu => hrec _ hlt ⟨by omega, ?_⟩⟩
    obtain ⟨z, rfl⟩ : ∃ z, j = z + 1 := ⟨j - 1, by omega⟩
    simp only [Nat.add_sub_cancel] at hu hle ⊢
    rw [hu, amx]
    have e : (nI (fld T allOn (z + 1)) ≤ nI (fld T allOn (amx (fld T allOn) z))) ↔ fld T allOn (z + 1) ≤ fld T allOn (amx (fld T allOn) z) := nI_leI (by have := dep_le (T := T) (on := allOn) ok (h := (z + 1) / 12) (by omega) ((z + 1) % 12); unfold fld; omega) (by have := dep_le (T := T) (on := allOn) ok (h := amx (fld T allOn) z / 12) (by omega) (amx (fld T allOn) z % 12); unfold fld at this ⊢; omega)
    by_cases c : fld T allOn (z + 1) ≤ fld T allOn (amx (fld T allOn) z)
    · rw [if_pos (e.mpr c), if_pos c]
    · rw [if_neg (fun q => c (e.mp q)), if_neg c]
def q_deepest (A : Ast) (a1 : Int32) : Int32 := if inb a1 3 then v_deepest (tld A) a1 else -2
theorem rq_deepest {A : Ast} {M : Mem} {a1 : Int32} {post : Int32 → Mem → Prop} (ok : okA A) (hR : IR A M) (K : ∀ M', IR A M' → post (q_deepest A a1) M') : wp_R_deepest a1 M post := by
  unfold wp_R_deepest
  refine r_find2 ok hR (fun M1 hF => ?_)
  obtain ⟨hI, hT, hH⟩ := hF
  simp only [r_three, c10]
  have K' := K M1 hI
  unfold q_deepest at K'
  refine ⟨fun c1 => by rw [if_neg c1] at K'; exact K', fun c1 => ?_⟩
  rw [if_pos (Decidable.not_not.mp c1)] at K'
  exact r_deepestBy (okT_tld ok) hH K'
def v_shut (T : Tld) : Nat := cnt (fun h => decide (0 < dpm T allOn h)) 24
theorem cnt_le (p : Nat → Bool) (n : Nat) : cnt p n ≤ n := by
  induction n with
  | zero => exact Nat.le_refl _
  | succ n ih => rw [cnt]; split <;> omega
theorem r_shutNow {T : Tld} {M : Mem} {post : Int32 → Prop} (ok : okT T) (hH : HI T allOn 24 M) (K : post (nI (v_shut T))) : wp_R_shutNow M post := by
  unfold wp_R_shutNow
  refine it2_f2 24 (by omega) (fun j x => x = nI (cnt (fun h => decide (0 < dpm T allOn h)) j)) (fun rc j x hj hI hrec => ?_) 0 0 (by omega) rfl
  subst hI
  refine ⟨fun hx => ?_, fun hx => ?_⟩
  · have hj2 : j = 24 := by have := gI (a := 24) hx; omega
    subst hj2
    exact K
  · have hlt : j < 24 := ngI (a := 24) hx
    refine r_snowBy hlt (hH.d hlt) (dep_le ok hlt) ?_
    rw [if_neg (show ¬ (1 : Int32) = 0 by decide)]
    intro u hu
    refine hrec _ hlt ?_
    have hb := cnt_le (dpc (dep T allOn j)) 12
    have e : (nI (cnt (dpc (dep T allOn j)) 12) ≤ 0) ↔ ¬ 0 < dpm T allOn j := by
      unfold dpm
      rw [show (0 : Int32) = nI 0 from rfl, nI_leI (by omega) (by omega)]; omega
    rw [hu, show cnt (fun h => decide (0 < dpm T allOn h)) (j + 1) = cnt (fun h => decide (0 < dpm T allOn h)) j + (if (decide (0 < dpm T allOn j)) = true then 1 else 0) from rfl]
    by_cases c : 0 < dpm T allOn j
    · rw [if_neg (fun q => (e.mp q) c), if_pos (decide_eq_true c), ← nI_add]; rfl
    · rw [if_pos (e.mpr c), if_neg (by rw [decide_eq_false c]; decide), ← nI_add]; rfl
theorem rq_shut {A : Ast} {M : Mem} {post : Int32 → Mem → Prop} (ok : okA A) (hR : IR A M) (K : ∀ M', IR A M' → post (nI (v_shut (tld A))) M') : wp_R_shut M post := by
  unfold wp_R_shut
  refine r_find2 ok hR (fun M1 hF => ?_)
  exact r_shutNow (okT_tld ok) hF.2.2 (K M1 hF.1)
/-- the one that cleared most: (its number and one, how much) -/
def bst (f : Nat → Nat) : Nat → Nat × Nat
  | 0 => (0, 0)
  | k + 1 => if f k ≤ (bst f k).2 then bst f k else (k + 1, f k)
theorem sim4_le {T : Tld} {on : Nat → Bool} (ok : okT T) (h k : Nat) : sim T on h 4 k ≤ 50 * 24 * h * (h + 1) := by
  have key : ∀ (B : Nat) (g : Nat) (s : Sim) (j : Nat), okS B s → B ≥ 9 → plo T on g s j 4 k ≤ s 4 k + B := by
    intro B g s j hs hB
    induction j with
    | zero => exact Nat.le_add_right _ _
    | succ j ih =>
      have hj := plo_ok (T := T) (on := on) (h := g) hs j
      rw [plo]
      by_cases c : k = j
      · subst c
        have hk : plo T on g s k 4 k = s 4 k := by
          have : ∀ i, i ≤ k → plo T on g s i 4 k = s 4 k := by
            intro i
            induction i with
            | zero => intro _; rfl
            | succ i ih2 =>
              intro hi
              rw [plo, ← ih2 (by omega)]
              unfold one
              split
              · simp [upS_eq]
              · split <;> simp [upS_eq] <;> omega
          exact this k (Nat.le_refl _)
        unfold one
        split
        · simp [upS_eq]; omega
        · split
          · simp [upS_eq]
            have := hj.1 (nx (plo T on g s k) k)
            omega
          · simp [upS_eq]
            have := ok.2.2.2.2.1 k
            omega
      · have : one T on g j (plo T on g s j) 4 k = plo T on g s j 4 k := by
          unfold one
          split
          · simp [upS_eq]
          · split <;> simp [upS_eq, c]
        rw [this]; exact ih
  induction h with
  | zero => simp [sim]
  | succ h ih =>
    have hs := sim_ok (T := T) (on := on) ok h
    have hk := key (43 * h + 43) h (upW (sim T on h) 0 (wea T on h (sim T on h 0))) (T 2 0) ⟨fun i => by
      simp only [upW, if_true]
      have := wea_le (T := T) (on := on) (h := h) (d := sim T on h 0) (i := i) ok
      have := hs.1 i
      omega, fun k => by simp [upW]; exact hs.2.1 k, fun k => by simp [upW]; exact hs.2.2 k⟩ (by omega)
    have e : upW (sim T on h) 0 (wea T on h (sim T on h 0)) 4 k = sim T on h 4 k := by simp [upW]
    rw [e] at hk
    show plo T on h (upW (sim T on h) 0 (wea T on h (sim T on h 0))) (T 2 0) 4 k ≤ _
    have e2 : 50 * 24 * (h + 1) * (h + 1 + 1) = 50 * 24 * h * (h + 1) + 2400 * (h + 1) := by
      rw [Nat.mul_add, Nat.mul_add, Nat.mul_add, Nat.mul_add, Nat.add_mul]; omega
    rw [e2]
    omega
def v_best (T : Tld) : Int32 := nI (bst (sim T allOn 24 4) (T 2 0)).1 - 1
theorem bst_le (f : Nat → Nat) (B : Nat) (h : ∀ k, f k ≤ B) (n : Nat) : (bst f n).1 ≤ n ∧ (bst f n).2 ≤ B := by
  induction n with
  | zero => exact ⟨Nat.le_refl _, Nat.zero_le _⟩
  | succ n ih =>
    rw [bst]
    split
    · exact ⟨by omega, ih.2⟩
    · exact ⟨Nat.le_refl _, h n⟩
theorem r_bestNow {T : Tld} {M : Mem} {post : Int32 → Prop} (ok : okT T) (hT : RT T M) (hH : HI T allOn 24 M) (K : post (v_best T)) : wp_R_bestNow M post := by
  have h8 := ok.2.2.1
  have hB : ∀ k, sim T allOn 24 4 k ≤ 1000000 := fun k => by have := sim4_le (T := T) (on := allOn) ok 24 k; omega
  unfold wp_R_bestNow
  rw [hT.2.2.1]
  refine it3_f3 (T 2 0) (by omega) (fun j x y => x = nI (bst (sim T allOn 24 4) j).1 - 1 ∧ y = nI (bst (sim T allOn 24 4) j).2) (fun rc j x y hj hI hrec => ?_) 0 (-1) 0 (Nat.zero_le _) ⟨rfl, rfl⟩
  obtain ⟨rfl, rfl⟩ := hI
  refine ⟨fun hx => ?_, fun hx => ?_⟩
  · have hj2 : j = T 2 0 := by have := gI hx; omega
    subst hj2
    exact K
  · have hlt : j < T 2 0 := ngI hx
    rw [tnI (by omega : j < 2 ^ 31), hH.2.1 j hlt]
    have hb := bst_le (sim T allOn 24 4) 1000000 hB j
    have hj4 := hB j
    have e : (nI (sim T allOn 24 4 j) ≤ nI (bst (sim T allOn 24 4) j).2) ↔ sim T allOn 24 4 j ≤ (bst (sim T allOn 24 4) j).2 := nI_leI (by omega) (by omega)
    refine ⟨vI (by omega), fun u hu x11 hx11 => hrec u x11 hlt ?_⟩
    unfold pf_R_greater at hx11
    rw [hu, hx11, bst]
    by_cases c : sim T allOn 24 4 j ≤ (bst (sim T allOn 24 4) j).2
    · rw [if_pos (e.mpr c), if_pos (e.mpr c), if_pos c]; exact ⟨rfl, rfl⟩
    · rw [if_neg (fun q => c (e.mp q)), if_neg (fun q => c (e.mp q)), if_neg c]; exact ⟨(nI_pred j).symm, rfl⟩
theorem rq_best {A : Ast} {M : Mem} {post : Int32 → Mem → Prop} (ok : okA A) (hR : IR A M) (K : ∀ M', IR A M' → post (v_best (tld A)) M') : wp_R_best M post := by
  unfold wp_R_best
  refine r_find2 ok hR (fun M1 hF => ?_)
  exact r_bestNow (okT_tld ok) hF.2.1 hF.2.2 (K M1 hF.1)
