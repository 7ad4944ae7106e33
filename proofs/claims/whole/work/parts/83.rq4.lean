/-! bits, and ask -/
theorem a01 (x : Int32) : x &&& 1 = 0 ∨ x &&& 1 = 1 := by
  have h : ∀ y : BitVec 32, y &&& 1#32 = 0#32 ∨ y &&& 1#32 = 1#32 := by
    intro y
    have e : (y &&& 1#32).toNat = y.toNat % 2 := by
      rw [BitVec.toNat_and]; simp
    rcases Nat.mod_two_eq_zero_or_one y.toNat with c | c
    · left; apply BitVec.eq_of_toNat_eq; rw [e, c]; rfl
    · right; apply BitVec.eq_of_toNat_eq; rw [e, c]; rfl
  rcases h x.toBitVec with c | c
  · left; apply Int32.toBitVec_inj.mp; rw [Int32.toBitVec_and]; exact c
  · right; apply Int32.toBitVec_inj.mp; rw [Int32.toBitVec_and]; exact c
theorem or1 (x y : Int32) : ((x ||| y) &&& 1 = 1) ↔ (x &&& 1 = 1 ∨ y &&& 1 = 1) := by
  have e : (x ||| y) &&& 1 = (x &&& 1) ||| (y &&& 1) := by
    apply Int32.toBitVec_inj.mp
    simp only [Int32.toBitVec_and, Int32.toBitVec_or]
    ext i hi
    simp [Bool.and_or_distrib_right]
  rw [e]
  rcases a01 x with c | c <;> rcases a01 y with d | d <;> rw [c, d] <;> decide
theorem sh_or (x y s : Int32) : (x ||| y) >>> s = (x >>> s) ||| (y >>> s) := by
  apply Int32.toBitVec_inj.mp
  simp only [Int32.toBitVec_or, Int32.toBitVec_shiftRight]
  exact BitVec.sshiftRight_or_distrib _ _ _
theorem in_or (x y i : Int32) : (pf_R_isIn (x ||| y) i = 0) ↔ (pf_R_isIn x i = 0 ∧ pf_R_isIn y i = 0) := by
  unfold pf_R_isIn
  simp only [c10, sh_or, or1]
  exact not_or
theorem in_bt1 : ∀ n, n < 10 → ∀ i, i < 10 → (pf_R_isIn (bt1 n) (nI i) = 0 ↔ n ≠ i) := by decide +kernel
theorem in_0 (i : Int32) : pf_R_isIn 0 i = 0 := by
  unfold pf_R_isIn
  rw [show (0 : Int32) >>> (i &&& 31) = 0 by simp]
  decide
theorem in_bts (p : Nat → Bool) {i : Nat} (hi : i < 10) : ∀ n, n ≤ 10 → (pf_R_isIn (bts p n) (nI i) = 0 ↔ ¬ (i < n ∧ p i = true)) := by
  intro n hn
  induction n with
  | zero => simp [bts, in_0]
  | succ n ih =>
    rw [bts, in_or, ih (by omega)]
    cases hp : p n with
    | false =>
      rw [if_neg (by decide)]
      simp only [in_0, and_true]
      constructor
      · rintro h ⟨h1, h2⟩
        by_cases c : i = n
        · subst c; rw [hp] at h2; exact absurd h2 (by decide)
        · exact h ⟨by omega, h2⟩
      · rintro h ⟨h1, h2⟩; exact h ⟨by omega, h2⟩
    | true =>
      rw [if_pos rfl, in_bt1 n (by omega) i hi]
      constructor
      · rintro ⟨h, hne⟩ ⟨h1, h2⟩
        exact h ⟨by omega, h2⟩
      · intro h
        refine ⟨fun ⟨h1, h2⟩ => h ⟨by omega, h2⟩, fun q => h ⟨by omega, by rw [← q]; exact hp⟩⟩
def sm (F : Nat → Nat → Nat) (a b h : Nat) : Nat → Bool
  | 0 => true
  | n + 1 => sm F a b h n && decide (F a (12 * h + n) = F b (12 * h + n))
def grp (F : Nat → Nat → Nat) (p : Nat → Bool) (h a : Nat) : Nat := cnt (fun b => p a && (p b && sm F a b h 12)) 10
def alk (F : Nat → Nat → Nat) (p : Nat → Bool) (h : Nat) : Nat → Nat
  | 0 => 0
  | n + 1 => max (alk F p h n) (grp F p h n)
def FS (T : Tld) (k : Nat) (v x : Nat) : Nat := fld (upT T 4 k v) allOn x
def v_ask (A : Ast) (T : Tld) (k : Nat) : Int32 := nI (amn (fun h => alk (FS T k) (pStr A T k) h 10) 24).1
theorem fld_le {T : Tld} {on : Nat → Bool} (ok : okT T) {x : Nat} (hx : x < 288) : fld T on x ≤ 10000 := by
  unfold fld
  exact dep_le ok (by omega) _
theorem r_same {F : Nat → Nat → Nat} {M : Mem} {a b h : Nat} {post : Int32 → Prop} (ha : a < 10) (hb : b < 10) (hh : h < 24) (hFa : ∀ x, x < 288 → M 27 (288 * a + x) = nI (F a x)) (hFb : ∀ x, x < 288 → M 27 (288 * b + x) = nI (F b x)) (hB : ∀ v x, v < 10 → x < 288 → F v x ≤ 10000) (K : post (if sm F a b h 12 = true then 1 else 0)) : wp_R_same (nI a) (nI b) (nI h) M post := by
  unfold wp_R_same
  have e12 : (12 : Int32) * nI h = nI (12 * h) := pk_mul 12 h
  have e12' : nI (12 * h) + 12 = nI (12 * h + 12) := nI_add _ 12
  have ea : (288 : Int32) * nI a = nI (288 * a) := pk_mul 288 a
  have eb : (288 : Int32) * nI b = nI (288 * b) := pk_mul 288 b
  rw [e12, e12', ea, eb]
  refine it2_f2 (12 * h + 12) (by omega) (fun j x => 12 * h ≤ j ∧ x = (if sm F a b h (j - 12 * h) = true then 1 else 0)) (fun rc j x hj hI hrec => ?_) (12 * h) 1 (by omega) ⟨Nat.le_refl _, by simp [sm]⟩
  obtain ⟨hlo, rfl⟩ := hI
  refine ⟨fun hx => ?_, fun hx => ?_⟩
  · have hj2 : j = 12 * h + 12 := by have := gI hx; omega
    subst hj2
    rw [show 12 * h + 12 - 12 * h = 12 by omega]
    refine ⟨?_, K⟩
    split
    · exact Or.inr rfl
    · exact Or.inl rfl
  · have hlt : j < 12 * h + 12 := ngI hx
    rw [nI_add, nI_add, tnI (by omega : 288 * a + j < 2 ^ 31), tnI (by omega : 288 * b + j < 2 ^ 31), hFa j (by omega), hFb j (by omega)]
    refine ⟨⟨fun _ => trivial, fun _ => ⟨vI (by omega), vI (by omega)⟩⟩, fun u hu => hrec u hlt ⟨by omega, ?_⟩⟩
    have b1 := hB a j ha (by omega)
    have b2 := hB b j hb (by omega)
    have e : (nI (F a j) = nI (F b j)) ↔ F a j = F b j := nI_eq (by omega) (by omega)
    rw [hu, show j + 1 - 12 * h = (j - 12 * h) + 1 by omega, sm, show 12 * h + (j - 12 * h) = j by omega]
    cases hs : sm F a b h (j - 12 * h) with
    | false => simp
    | true =>
      by_cases c : F a j = F b j
      · simp [c]
      · simp [e, c]
theorem r_alike {F : Nat → Nat → Nat} {p : Nat → Bool} {M : Mem} {h : Nat} {post : Int32 → Prop} (hh : h < 24) (hp0 : p 0 = false) (hF : ∀ v, 1 ≤ v → v < 10 → ∀ x, x < 288 → M 27 (288 * v + x) = nI (F v x)) (hB : ∀ v x, v < 10 → x < 288 → F v x ≤ 10000) (K : post (nI (alk F p h 10))) : wp_R_alike (bts p 10) (nI h) M post := by
  unfold wp_R_alike
  have g0 : ∀ a, (p a && (p 0 && sm F a 0 h 12)) = false := fun a => by rw [hp0]; simp
  have k1 : alk F p h 1 = 0 := by
    rw [alk, alk, grp]
    have : ∀ n, cnt (fun b => p 0 && (p b && sm F 0 b h 12)) n = 0 := by
      intro n
      induction n with
      | zero => rfl
      | succ n ih => rw [cnt, ih, hp0]; simp
    rw [this]; rfl
  have kle : ∀ n, alk F p h n ≤ 10 := by
    intro n
    induction n with
    | zero => exact Nat.zero_le _
    | succ n ih =>
      rw [alk]
      have : grp F p h n ≤ 10 := cnt_le _ _
      omega
  refine it2_f2 10 (by omega) (fun j x => 1 ≤ j ∧ x = nI (alk F p h j)) (fun rc j x hj hI hrec => ?_) 1 0 (by omega) ⟨Nat.le_refl _, by rw [k1]; rfl⟩
  obtain ⟨h1, rfl⟩ := hI
  refine ⟨fun hx => ?_, fun hx => ?_⟩
  · have hj2 : j = 10 := by have := gI (a := 10) hx; omega
    subst hj2
    exact K
  · have hlt : j < 10 := ngI (a := 10) hx
    refine it2_f2 10 (by omega) (fun b y => 1 ≤ b ∧ y = nI (cnt (fun b => p j && (p b && sm F j b h 12)) b)) (fun rc2 b y hb hI2 hrec2 => ?_) 1 0 (by omega) ⟨Nat.le_refl _, by rw [cnt, cnt, g0]; rfl⟩
    obtain ⟨b1, rfl⟩ := hI2
    refine ⟨fun hx2 => ?_, fun hx2 => ?_⟩
    · have hj2 : b = 10 := by have := gI (a := 10) hx2; omega
      subst hj2
      intro x12 h12
      refine hrec _ hlt ⟨by omega, ?_⟩
      have l1 := kle j
      have l2 : grp F p h j ≤ 10 := cnt_le _ _
      change x12 = pf_R_greater (nI (grp F p h j)) (nI (alk F p h j)) at h12
      rw [h12, alk]
      unfold pf_R_greater
      by_cases c : grp F p h j ≤ alk F p h j
      · rw [if_pos ((nI_leI (by omega) (by omega)).mpr c), Nat.max_eq_left c]
      · rw [if_neg (fun q => c ((nI_leI (by omega) (by omega)).mp q)), Nat.max_eq_right (by omega)]
    · have hlt2 : b < 10 := ngI (a := 10) hx2
      have ia := in_bts p hlt 10 (Nat.le_refl _)
      have ib := in_bts p hlt2 10 (Nat.le_refl _)
      have c0 : ∀ (q : Bool), (p j && (p b && sm F j b h 12)) = q → nI (cnt (fun b => p j && (p b && sm F j b h 12)) (b + 1)) = nI (cnt (fun b => p j && (p b && sm F j b h 12)) b) + (if q = true then 1 else 0) := by
        intro q hq
        rw [cnt, hq]
        cases q
        · simp
        · rw [if_pos rfl, if_pos rfl, ← nI_add]; rfl
      refine ⟨fun q => ?_, fun q => ⟨fun q2 => ?_, fun q2 => ?_⟩⟩
      · refine hrec2 _ hlt2 ⟨by omega, ?_⟩
        have pj : p j = false := by
          cases e : p j with
          | false => rfl
          | true => exact absurd ⟨hlt, e⟩ (ia.mp q)
        rw [c0 false (by rw [pj]; rfl)]; simp
      · refine hrec2 _ hlt2 ⟨by omega, ?_⟩
        have pb : p b = false := by
          cases e : p b with
          | false => rfl
          | true => exact absurd ⟨hlt2, e⟩ (ib.mp q2)
        rw [c0 false (by rw [pb]; simp)]; simp
      · have pj : p j = true := by
          cases e : p j with
          | true => rfl
          | false => exact absurd (ia.mpr (fun w => by rw [e] at w; exact absurd w.2 (by decide))) q
        have pb : p b = true := by
          cases e : p b with
          | true => rfl
          | false => exact absurd (ib.mpr (fun w => by rw [e] at w; exact absurd w.2 (by decide))) q2
        refine r_same hlt hlt2 hh (hF j h1 hlt) (hF b b1 hlt2) hB ?_
        intro u hu
        refine hrec2 _ hlt2 ⟨by omega, ?_⟩
        rw [c0 (sm F j b h 12) (by rw [pj, pb]; rfl), hu]
        cases sm F j b h 12 <;> simp
theorem r_askOf {A : Ast} {T : Tld} {M : Mem} {k : Nat} {post : Int32 → Mem → Prop} (okA : okA A) (ok : okT T) (hT : RT T M) (hs : SI A M) (h16 : M 0 16 = 0) (hk : k < T 2 0) (K : ∀ M', Fr (27 :: LV) M M' → post (v_ask A T k) M') : wp_R_askOf (nI k) M post := by
  unfold wp_R_askOf
  refine r_strengthsOf okA ok hT hs h16 hk (fun M' hF hw => ?_)
  have hB : ∀ v x, v < 10 → x < 288 → FS T k v x ≤ 10000 := fun v x hv hx => fld_le (okT_up4 ok (by omega)) hx
  have hp0 : pStr A T k 0 = false := rfl
  refine r_alike (h := 0) (by omega) hp0 hw hB ?_
  let g := fun h => alk (FS T k) (pStr A T k) h 10
  have gle : ∀ h, g h ≤ 10 := by
    intro h
    have : ∀ n, alk (FS T k) (pStr A T k) h n ≤ 10 := by
      intro n
      induction n with
      | zero => exact Nat.zero_le _
      | succ n ih =>
        rw [alk]
        have : grp (FS T k) (pStr A T k) h n ≤ 10 := cnt_le _ _
        omega
    exact this 10
  refine it3_f3 24 (by omega) (fun j x y => 1 ≤ j ∧ x = nI (amn g j).1 ∧ y = nI (amn g j).2) (fun rc j x y hj hI hrec => ?_) 1 0 (nI (g 0)) (by omega) ⟨Nat.le_refl _, by rw [amn, if_neg (by omega)]; rfl, by rw [amn, if_neg (by omega)]⟩
  obtain ⟨h1, rfl, rfl⟩ := hI
  refine ⟨fun hx => ?_, fun hx => ?_⟩
  · have hj2 : j = 24 := by have := gI (a := 24) hx; omega
    subst hj2
    exact K M' hF
  · have hlt : j < 24 := ngI (a := 24) hx
    refine r_alike (h := j) hlt hp0 hw hB ?_
    intro u hu x14 h14
    change u = (if nI (amn g j).2 ≤ nI (g j) then nI (amn g j).1 else nI j) at hu
    change x14 = pf_R_lesser (nI (g j)) (nI (amn g j).2) at h14
    have l1 := gle j
    have l2 := (amn_le (g := g) (B := 10) j (fun i _ => gle i)).2
    refine hrec _ _ hlt ⟨by omega, ?_, ?_⟩
    · rw [hu, amn]
      by_cases c : (amn g j).2 ≤ g j
      · rw [if_pos ((nI_leI (by omega) (by omega)).mpr c), if_pos ⟨by omega, c⟩]
      · rw [if_neg (fun q => c ((nI_leI (by omega) (by omega)).mp q)), if_neg (fun q => c q.2)]
    · rw [h14, amn]
      unfold pf_R_lesser
      by_cases c : (amn g j).2 ≤ g j
      · rw [if_pos ((nI_leI (by omega) (by omega)).mpr c), if_pos ⟨by omega, c⟩]
      · rw [if_neg (fun q => c ((nI_leI (by omega) (by omega)).mp q)), if_neg (fun q => c q.2)]
def q_ask (A : Ast) (a1 : Int32) : Int32 := if inb a1 (tld A 2 0) then v_ask A (tld A) (tn a1) else -2
theorem rq_ask {A : Ast} {M : Mem} {a1 : Int32} {post : Int32 → Mem → Prop} (ok : okA A) (hR : IR A M) (K : ∀ M', IR A M' → post (q_ask A a1) M') : wp_R_ask a1 M post := by
  have okt := okT_tld ok
  have h8 := okt.2.2.1
  unfold wp_R_ask
  refine r_find2 ok hR (fun M1 hF => ?_)
  unfold q_ask at K
  refine r_isPlough hF.2.1.2.2.1 (by omega) ?_
  rw [c10]
  refine ⟨fun c1 => by rw [if_neg c1] at K; exact K M1 hF.1, fun c1 => ?_⟩
  have c1 := Decidable.not_not.mp c1
  rw [if_pos c1] at K
  obtain ⟨k, hk, rfl⟩ := inb_of c1
  rw [tnI (by omega)] at K
  exact r_askOf ok okt hF.2.1 hF.1.si hF.1.g hk (fun M' hF' => K M' (hF.j.fr hF').1)
