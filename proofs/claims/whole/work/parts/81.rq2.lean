/-! THE REFERENCE answers: plans -/
def upT (T : Tld) (r i v : Nat) : Tld := fun a => if a = r then upN (T r) i v else T a
theorem upT_s (T : Tld) (r i v : Nat) : upT T r i v r = upN (T r) i v := by simp [upT]
theorem upT_n {T : Tld} {r i v a : Nat} (h : a ≠ r) : upT T r i v a = T a := by simp [upT, h]
theorem upN_le {f : Nat → Nat} {B k v : Nat} (h : ∀ i, f i ≤ B) (hv : v ≤ B) : ∀ i, upN f k v i ≤ B := fun i => by
  unfold upN
  split
  · exact hv
  · exact h i
theorem upd_self (f : Nat → Int32) (k : Nat) : upd f k (f k) = f := by
  funext j
  unfold upd
  split
  · rename_i e; rw [e]
  · rfl
theorem okT_up0 {T : Tld} (ok : okT T) {i v : Nat} (hv : v ≤ 2) : okT (upT T 0 i v) := by
  obtain ⟨o0, o1, o2, o3, o4, o5, o6, o7, o8, o9⟩ := ok
  exact ⟨by rw [upT_s]; exact upN_le o0 hv, o1, o2, o3, o4, o5, o6, o7, o8, o9⟩
theorem okT_up3 {T : Tld} (ok : okT T) {i v : Nat} (hv : v ≤ 11) : okT (upT T 3 i v) := by
  obtain ⟨o0, o1, o2, o3, o4, o5, o6, o7, o8, o9⟩ := ok
  exact ⟨o0, o1, o2, by rw [upT_s]; exact upN_le o3 hv, o4, o5, o6, o7, o8, o9⟩
theorem okT_up4 {T : Tld} (ok : okT T) {i v : Nat} (hv : v ≤ 9) : okT (upT T 4 i v) := by
  obtain ⟨o0, o1, o2, o3, o4, o5, o6, o7, o8, o9⟩ := ok
  exact ⟨o0, o1, o2, o3, by rw [upT_s]; exact upN_le o4 hv, o5, o6, o7, o8, o9⟩
theorem okT_up6 {T : Tld} (ok : okT T) {i v : Nat} (hv : v ≤ 23) : okT (upT T 6 i v) := by
  obtain ⟨o0, o1, o2, o3, o4, o5, o6, o7, o8, o9⟩ := ok
  exact ⟨o0, o1, o2, o3, o4, o5, by rw [upT_s]; exact upN_le o6 hv, o7, o8, o9⟩
theorem RT_land {T : Tld} {M M' : Mem} {i v : Nat} (h : RT T M) (h7 : M' 7 = upd (M 7) i (nI v)) (hF : Fr (7 :: LV) M M') : RT (upT T 0 i v) M' := by
  obtain ⟨a0, a1, a2, a3, a4, a5, a6, a7, a8⟩ := h
  unfold RT
  rw [h7, hF 8 (by decide), hF 0 (by decide), hF 9 (by decide), hF 10 (by decide), hF 11 (by decide)]
  exact ⟨by rw [upT_s]; exact a0.up rfl, a1, a2, a3, a4, a5, a6, a7, a8⟩
theorem RT_begin {T : Tld} {M M' : Mem} {k v : Nat} (h : RT T M) (h9 : M' 9 = upd (M 9) (3 * k) (nI v)) (hF : Fr (9 :: LV) M M') : RT (upT T 3 k v) M' := by
  obtain ⟨a0, a1, a2, a3, a4, a5, a6, a7, a8⟩ := h
  unfold RT
  rw [h9, hF 8 (by decide), hF 0 (by decide), hF 7 (by decide), hF 10 (by decide), hF 11 (by decide)]
  refine ⟨a0, a1, a2, a3, a4, a5, fun j hj => ?_, a7, a8⟩
  obtain ⟨b1, b2, b3⟩ := a6 j hj
  rw [upT_s, upT_n (show (4 : Nat) ≠ 3 by decide), upT_n (show (5 : Nat) ≠ 3 by decide), upd_n (show 3 * j + 1 ≠ 3 * k by omega), upd_n (show 3 * j + 2 ≠ 3 * k by omega)]
  refine ⟨?_, b2, b3⟩
  by_cases c : j = k
  · subst c; rw [upd_s, upN_s]
  · rw [upd_n (by omega), upN_n c]; exact b1
theorem RT_strong {T : Tld} {M M' : Mem} {k v : Nat} (h : RT T M) (h9 : M' 9 = upd (M 9) (3 * k + 1) (nI v)) (hF : Fr (9 :: LV) M M') : RT (upT T 4 k v) M' := by
  obtain ⟨a0, a1, a2, a3, a4, a5, a6, a7, a8⟩ := h
  unfold RT
  rw [h9, hF 8 (by decide), hF 0 (by decide), hF 7 (by decide), hF 10 (by decide), hF 11 (by decide)]
  refine ⟨a0, a1, a2, a3, a4, a5, fun j hj => ?_, a7, a8⟩
  obtain ⟨b1, b2, b3⟩ := a6 j hj
  rw [upT_s, upT_n (show (3 : Nat) ≠ 4 by decide), upT_n (show (5 : Nat) ≠ 4 by decide), upd_n (show 3 * j ≠ 3 * k + 1 by omega), upd_n (show 3 * j + 2 ≠ 3 * k + 1 by omega)]
  refine ⟨b1, ?_, b3⟩
  by_cases c : j = k
  · subst c; rw [upd_s, upN_s]
  · rw [upd_n (by omega), upN_n c]; exact b2
theorem RT_bus {T : Tld} {M M' : Mem} {k v : Nat} (h : RT T M) (h10 : M' 10 = upd (M 10) k (nI v)) (hF : Fr (10 :: LV) M M') : RT (upT T 6 k v) M' := by
  obtain ⟨a0, a1, a2, a3, a4, a5, a6, a7, a8⟩ := h
  unfold RT
  rw [h10, hF 8 (by decide), hF 0 (by decide), hF 7 (by decide), hF 9 (by decide), hF 11 (by decide)]
  refine ⟨a0, a1, a2, a3, a4, a5, a6, fun j hj => ?_, a8⟩
  rw [upT_s]
  by_cases c : j = k
  · subst c; rw [upd_s, upN_s]
  · rw [upd_n c, upN_n c]; exact a7 j hj
theorem r_manyOver {T : Tld} {on : Nat → Bool} {M : Mem} {post : Int32 → Prop} (ok : okT T) (h11 : M 0 11 = nI (T 2 1)) (hb : ∀ k, k < T 2 1 → M 19 k = nI (bsT T on k 24).2.1 - 1) (K : post (nI (many T on))) : wp_R_manyOver M post := by
  have h8 := ok.2.2.1
  unfold wp_R_manyOver
  rw [h11]
  refine it2_f2 (T 2 1) (by omega) (fun j x => x = nI (cnt (ovr T on) j)) (fun rc j x hj hI hrec => ?_) 0 0 (Nat.zero_le _) rfl
  subst hI
  refine ⟨fun hx => ?_, fun hx => ?_⟩
  · have hj2 : j = T 2 1 := by have := gI hx; omega
    subst hj2
    exact K
  · have hlt : j < T 2 1 := ngI hx
    have bo := (bus_ok (D := dep T on) (s := T 6 j) 24).2.1
    have e := m1_iff (n := (bsT T on j 24).2.1) (by unfold bsT; omega)
    rw [tnI (by omega : j < 2 ^ 31), hb j hlt]
    refine ⟨vI (by omega), fun u hu => hrec _ hlt ?_⟩
    rw [hu, cnt]
    by_cases c : (bsT T on j 24).2.1 = 0
    · rw [if_pos (e.mpr c), show ovr T on j = false by simp [ovr, c], if_neg (by decide), ← nI_add]; rfl
    · rw [if_neg (fun q => c (e.mp q)), show ovr T on j = true by simp [ovr, c], if_pos rfl, ← nI_add]; rfl
theorem HI.ov {T : Tld} {on : Nat → Bool} {M : Mem} (hH : HI T on 24 M) : ∀ k, k < T 2 1 → M 19 k = nI (bsT T on k 24).2.1 - 1 := fun k hk => (hH.2.2.1 k hk).2.1
theorem many_le {T : Tld} {on : Nat → Bool} (ok : okT T) : many T on ≤ 8 := by
  have := cnt_le (ovr T on) (T 2 1)
  have := ok.2.2.1
  unfold many
  omega
/-- the first of the greatest, and of the least, with its value -/
def amf (g : Nat → Nat) : Nat → Nat × Nat
  | 0 => (0, 0)
  | i + 1 => if i ≠ 0 ∧ g i ≤ (amf g i).2 then amf g i else (i, g i)
def amn (g : Nat → Nat) : Nat → Nat × Nat
  | 0 => (0, 0)
  | i + 1 => if i ≠ 0 ∧ (amn g i).2 ≤ g i then amn g i else (i, g i)
theorem amf_le {g : Nat → Nat} {B : Nat} (n : Nat) (h : ∀ i, i < n → g i ≤ B) : (amf g n).1 ≤ n ∧ (amf g n).2 ≤ B := by
  induction n with
  | zero => exact ⟨Nat.le_refl _, Nat.zero_le _⟩
  | succ n ih =>
    have := ih (fun i hi => h i (by omega))
    rw [amf]
    split
    · exact ⟨by omega, this.2⟩
    · exact ⟨by dsimp only; omega, h n (by omega)⟩
theorem amn_le {g : Nat → Nat} {B : Nat} (n : Nat) (h : ∀ i, i < n → g i ≤ B) : (amn g n).1 ≤ n ∧ (amn g n).2 ≤ B := by
  induction n with
  | zero => exact ⟨Nat.le_refl _, Nat.zero_le _⟩
  | succ n ih =>
    have := ih (fun i hi => h i (by omega))
    rw [amn]
    split
    · exact ⟨by omega, this.2⟩
    · exact ⟨by dsimp only; omega, h n (by omega)⟩
def RJ (A : Ast) (M : Mem) : Prop := IR A M ∧ RT (tld A) M
theorem RJ.fr {A : Ast} {M M' : Mem} {L : List Nat} (h : RJ A M) (hF : Fr L M M') (hd : (∀ k ∈ [0, 1, 2, 3, 5, 6, 7, 8, 9, 10, 11, 26], k ∉ L) := by decide) : RJ A M' :=
  ⟨h.1.kp (Kp.fr hF (fun k hk => hd k (by simp at hk ⊢; omega))), h.2.fr hF (hd 0 (by decide)) (hd 7 (by decide)) (hd 8 (by decide)) (hd 9 (by decide)) (hd 10 (by decide)) (hd 11 (by decide))⟩
def gBeg (T : Tld) (k : Nat) (i : Nat) : Nat := many (upT T 3 k i) allOn
def v_begin (T : Tld) (k : Nat) (a2 : Int32) : Int32 := if a2 = 0 then nI (amf (gBeg T k) 12).1 else nI (amf (gBeg T k) 12).2
theorem r_beginOf {T : Tld} {M : Mem} {k : Nat} {a2 : Int32} {post : Int32 → Mem → Prop} (ok : okT T) (hT : RT T M) (h16 : M 0 16 = 0) (hk : k < T 2 0) (K : ∀ M', Fr LV M M' → post (v_begin T k a2) M') : wp_R_beginOf (nI k) a2 M post := by
  have h8 := ok.2.2.1
  unfold wp_R_beginOf
  rw [i3_0, tnI (by omega : 3 * k < 2 ^ 31)]
  refine ⟨vI (by omega), fun x2 hx2 => ?_⟩
  subst hx2
  refine it4_f3 12 (by omega) (fun j x y M' => Fr (9 :: LV) M M' ∧ (∃ v, M' 9 = upd (M 9) (3 * k) v) ∧ ((j = 0 ∧ x = -1 ∧ y = -1) ∨ (j ≠ 0 ∧ x = nI (amf (gBeg T k) j).1 ∧ y = nI (amf (gBeg T k) j).2))) (fun rc j x y M8 hj hI hrec => ?_) 0 (-1) (-1) M (Nat.zero_le _) ⟨Fr.rf, ⟨M 9 (3 * k), (upd_self _ _).symm⟩, Or.inl ⟨rfl, rfl, rfl⟩⟩
  obtain ⟨hF, ⟨v, hv⟩, hxy⟩ := hI
  refine ⟨fun hx => ?_, fun hx => ?_⟩
  · have hj2 : j = 12 := by have := gI (a := 12) hx; omega
    subst hj2
    intro M10 h10 u hu
    rcases hxy with ⟨q, -⟩ | ⟨-, rfl, rfl⟩
    · exact absurd q (by decide)
    · rw [hu]
      refine K M10 (fun c hc => ?_)
      by_cases c9 : c = 9
      · subst c9; rw [h10, upm_s, hv, upd_upd, upd_self]
      · rw [h10, upm_n c9]; exact hF c (by simp at hc ⊢; omega)
  · have hlt : j < 12 := ngI (a := 12) hx
    intro M14 h14
    have hF14 : Fr (9 :: LV) M M14 := hF.up h14 (by decide)
    have r9 : M14 9 = upd (M 9) (3 * k) (nI j) := by rw [h14, upm_s, hv, upd_upd]
    have hT14 := RT_begin (v := j) hT r9 hF14
    have ok14 := okT_up3 (i := k) (v := j) ok (by omega)
    refine r_lives ok14 hT14 (fun M15 hF15 hH => ?_)
    have h16' : M14 0 16 = 0 := by rw [hF14 0 (by decide)]; exact h16
    rw [onR_0 h16'] at hH
    have hml := many_le (T := upT T 3 k j) (on := allOn) ok14
    refine r_manyOver (on := allOn) ok14 (hT14.fr hF15).2.2.2.1 hH.ov (fun u hu x21 hx21 => hrec u x21 M15 hlt ⟨hF14.tr (hF15.mo (by decide)), ⟨nI j, by rw [hF15 9 (by decide), r9]⟩, Or.inr ⟨by omega, ?_⟩⟩)
    unfold pf_R_greater at hx21
    rw [hu, hx21, amf]
    rcases hxy with ⟨rfl, rfl, rfl⟩ | ⟨hne, rfl, rfl⟩
    · have e : ¬ (nI (many (upT T 3 k 0) allOn) ≤ -1) := by
        rw [Int32.le_iff_toInt_le, nI_toInt (by omega)]
        show ¬ ((many (upT T 3 k 0) allOn : Nat) : Int) ≤ -1
        omega
      rw [if_neg e, if_neg e, if_neg (by omega)]
      exact ⟨rfl, rfl⟩
    · have hb := amf_le (g := gBeg T k) (B := 8) j (fun i hi => many_le (okT_up3 ok (by omega)))
      have e : (nI (many (upT T 3 k j) allOn) ≤ nI (amf (gBeg T k) j).2) ↔ gBeg T k j ≤ (amf (gBeg T k) j).2 := nI_leI (by omega) (by omega)
      by_cases c : gBeg T k j ≤ (amf (gBeg T k) j).2
      · rw [if_pos (e.mpr c), if_pos (e.mpr c), if_pos ⟨hne, c⟩]; exact ⟨rfl, rfl⟩
      · rw [if_neg (fun q => c (e.mp q)), if_neg (fun q => c (e.mp q)), if_neg (fun q => c q.2)]; exact ⟨rfl, rfl⟩
theorem RF.j {A : Ast} {M : Mem} (h : RF A M) : RJ A M := ⟨h.1, h.2.1⟩
theorem IR.g {A : Ast} {M : Mem} (h : IR A M) : M 0 16 = 0 := h.2.2.2.2.2.2.2.2.2.2.2
def q_begin (A : Ast) (a1 a2 : Int32) : Int32 := if inb a1 (tld A 2 0) then (if inb a2 2 then v_begin (tld A) (tn a1) a2 else -2) else -2
theorem rq_begin {A : Ast} {M : Mem} {a1 a2 : Int32} {post : Int32 → Mem → Prop} (ok : okA A) (hR : IR A M) (K : ∀ M', IR A M' → post (q_begin A a1 a2) M') : wp_R_begin a1 a2 M post := by
  have okt := okT_tld ok
  have h8 := okt.2.2.1
  unfold wp_R_begin
  refine r_find2 ok hR (fun M1 hF => ?_)
  simp only [r_two, c10]
  unfold q_begin at K
  refine r_isPlough hF.2.1.2.2.1 (by omega) ?_
  rw [c10]
  refine ⟨fun c1 => by rw [if_neg c1] at K; exact K M1 hF.1, fun c1 => ?_⟩
  have c1 := Decidable.not_not.mp c1
  rw [if_pos c1] at K
  refine ⟨fun c2 => by rw [if_neg c2] at K; exact K M1 hF.1, fun c2 => ?_⟩
  have c2 := Decidable.not_not.mp c2
  rw [if_pos c2] at K
  obtain ⟨k, hk, rfl⟩ := inb_of c1
  rw [tnI (by omega)] at K
  exact r_beginOf okt hF.2.1 hF.1.g hk (fun M' hF' => K M' (hF.j.fr hF').1)
def gHed (T : Tld) (i : Nat) : Nat := snw (upT T 0 i 1) allOn 23
def v_hedge (T : Tld) (a : Int32) : Int32 := if a = 0 then nI (amn (gHed T) 12).1 else nI (amn (gHed T) 12).2
theorem sumN_le {f : Nat → Nat} {B : Nat} (h : ∀ i, f i ≤ B) (n : Nat) : sumN f n ≤ n * B := by
  induction n with
  | zero => exact Nat.zero_le _
  | succ n ih => rw [sumN, Nat.add_mul]; have := h n; omega
theorem snw_le {T : Tld} {on : Nat → Bool} (ok : okT T) {h : Nat} (hh : h < 24) : snw T on h ≤ 120000 := sumN_le (dep_le ok hh) 12
theorem r_hedgeBy {T : Tld} {M : Mem} {a1 : Int32} {post : Int32 → Mem → Prop} (ok : okT T) (hT : RT T M) (h16 : M 0 16 = 0) (K : ∀ M', Fr LV M M' → post (v_hedge T a1) M') : wp_R_hedgeBy a1 M post := by
  unfold wp_R_hedgeBy
  refine it4_f3 12 (by omega) (fun j x y M' => Fr LV M M' ∧ ((j = 0 ∧ x = -1 ∧ y = 999999) ∨ (j ≠ 0 ∧ x = nI (amn (gHed T) j).1 ∧ y = nI (amn (gHed T) j).2))) (fun rc j x y M6 hj hI hrec => ?_) 0 (-1) 999999 M (Nat.zero_le _) ⟨Fr.rf, Or.inl ⟨rfl, rfl, rfl⟩⟩
  obtain ⟨hF, hxy⟩ := hI
  refine ⟨fun hx => ?_, fun hx => ?_⟩
  · have hj2 : j = 12 := by have := gI (a := 12) hx; omega
    subst hj2
    intro u hu
    rcases hxy with ⟨q, -⟩ | ⟨-, rfl, rfl⟩
    · exact absurd q (by decide)
    · rw [hu]; exact K M6 hF
  · have hlt : j < 12 := ngI (a := 12) hx
    rw [tnI (by omega : j < 2 ^ 31)]
    refine ⟨vI (by omega), fun M12 h12 => ?_⟩
    have hF12 : Fr (7 :: LV) M M12 := (hF.mo (by decide)).up h12 (by decide)
    have r7 : M12 7 = upd (M 7) j (nI 1) := by rw [h12, upm_s, hF 7 (by decide)]; rfl
    have hT12 := RT_land (v := 1) hT r7 hF12
    have ok12 := okT_up0 (i := j) (v := 1) ok (by decide)
    refine r_lives ok12 hT12 (fun M13 hF13 hH => ?_)
    have h16' : M12 0 16 = 0 := by rw [hF12 0 (by decide)]; exact h16
    rw [onR_0 h16'] at hH
    refine r_snowBy (h := 23) (by decide) (hH.d (by decide)) (dep_le ok12 (by decide)) ?_
    rw [if_pos rfl]
    intro u hu x19 hx19 M20 h20
    have hsl := snw_le (T := upT T 0 j 1) (on := allOn) ok12 (h := 23) (by decide)
    refine hrec u x19 M20 hlt ⟨fun c hc => ?_, Or.inr ⟨by omega, ?_⟩⟩
    · by_cases c7 : c = 7
      · subst c7; rw [h20, upm_s, hF13 7 (by decide), r7, upd_upd, hF 7 (by decide), upd_self]
      · rw [h20, upm_n c7, hF13 c hc]; exact hF12 c (by simp at hc ⊢; omega)
    · unfold pf_R_lesser at hx19
      change u = (if y ≤ nI (snw (upT T 0 j 1) allOn 23) then x else nI j) at hu
      change x19 = (if y ≤ nI (snw (upT T 0 j 1) allOn 23) then y else nI (snw (upT T 0 j 1) allOn 23)) at hx19
      rw [hu, hx19, amn]
      rcases hxy with ⟨rfl, rfl, rfl⟩ | ⟨hne, rfl, rfl⟩
      · have e : ¬ ((999999 : Int32) ≤ nI (snw (upT T 0 0 1) allOn 23)) := nI_ge (b := 999999) (by omega) (by decide)
        rw [if_neg e, if_neg e, if_neg (by omega)]
        exact ⟨rfl, rfl⟩
      · have hb := amn_le (g := gHed T) (B := 120000) j (fun i hi => snw_le (okT_up0 ok (by decide)) (by decide))
        have e : (nI (amn (gHed T) j).2 ≤ nI (snw (upT T 0 j 1) allOn 23)) ↔ (amn (gHed T) j).2 ≤ gHed T j := nI_leI (by omega) (by omega)
        by_cases c : (amn (gHed T) j).2 ≤ gHed T j
        · rw [if_pos (e.mpr c), if_pos (e.mpr c), if_pos ⟨hne, c⟩]; exact ⟨rfl, rfl⟩
        · rw [if_neg (fun q => c (e.mp q)), if_neg (fun q => c (e.mp q)), if_neg (fun q => c q.2)]; exact ⟨rfl, rfl⟩
def q_hedge (A : Ast) (a1 : Int32) : Int32 := if inb a1 2 then v_hedge (tld A) a1 else -2
theorem rq_hedge {A : Ast} {M : Mem} {a1 : Int32} {post : Int32 → Mem → Prop} (ok : okA A) (hR : IR A M) (K : ∀ M', IR A M' → post (q_hedge A a1) M') : wp_R_hedge a1 M post := by
  have okt := okT_tld ok
  unfold wp_R_hedge
  refine r_find2 ok hR (fun M1 hF => ?_)
  simp only [r_two, c10]
  unfold q_hedge at K
  refine ⟨fun c1 => by rw [if_neg c1] at K; exact K M1 hF.1, fun c1 => ?_⟩
  rw [if_pos (Decidable.not_not.mp c1)] at K
  exact r_hedgeBy okt hF.2.1 hF.1.g (fun M' hF' => K M' (hF.j.fr hF').1)
/-! the hours don't hang on when buses start -/
theorem sim_bus {T : Tld} {on : Nat → Bool} {k v : Nat} (h : Nat) : sim (upT T 6 k v) on h = sim T on h := by
  have e : ∀ r, r ≠ 6 → upT T 6 k v r = T r := fun r hr => upT_n hr
  have w : ∀ h e, wnd (upT T 6 k v) on h e = wnd T on h e := by
    intro h e
    induction e with
    | zero => rfl
    | succ e ih => rw [wnd, wnd, ih]; rfl
  have th : ∀ h d e, thw (upT T 6 k v) on h d e = thw T on h d e := by
    intro h d e
    induction e with
    | zero => rfl
    | succ e ih => rw [thw, thw, ih]; rfl
  have br : ∀ h q e, brk (upT T 6 k v) on h q e = brk T on h q e := by
    intro h q e
    induction e with
    | zero => rfl
    | succ e ih => rw [brk, brk, ih]; rfl
  have on1 : ∀ h q s, one (upT T 6 k v) on h q s = one T on h q s := by
    intro h q s
    unfold one
    rw [br]; rfl
  have pl : ∀ h s j, plo (upT T 6 k v) on h s j = plo T on h s j := by
    intro h s j
    induction j with
    | zero => rfl
    | succ j ih => rw [plo, plo, ih, on1]
  have we : ∀ h d, wea (upT T 6 k v) on h d = wea T on h d := by
    intro h d
    unfold wea windAt
    rw [th, w]; rfl
  induction h with
  | zero => rfl
  | succ h ih => rw [sim, sim, ih, we, pl]; rfl
theorem dep_bus {T : Tld} {on : Nat → Bool} {k v : Nat} : dep (upT T 6 k v) on = dep T on := by
  funext h i
  unfold dep
  rw [sim_bus]
def stt (o : Nat → Nat) : Nat → Nat × Nat
  | 0 => (0, 0)
  | h + 1 => if o h = 0 ∨ ((stt o h).1 ≠ 0 ∧ (stt o h).2 ≤ o h) then stt o h else (h + 1, o h)
def oSt (T : Tld) (h : Nat) : Nat := (bus (dep T allOn) h 24).2.1
def v_start (T : Tld) (a2 : Int32) : Int32 := if (stt (oSt T) 24).1 = 0 then -1 else if a2 = 0 then nI (stt (oSt T) 24).1 - 1 else nI (stt (oSt T) 24).2 - 1
theorem stt_le {o : Nat → Nat} {B : Nat} (hB : ∀ h, o h ≤ B) (n : Nat) : (stt o n).1 ≤ n ∧ (stt o n).2 ≤ B ∧ ((stt o n).1 ≠ 0 → (stt o n).2 ≠ 0) := by
  induction n with
  | zero => exact ⟨Nat.le_refl _, Nat.zero_le _, fun q => absurd rfl q⟩
  | succ n ih =>
    rw [stt]
    split
    · exact ⟨by omega, ih.2⟩
    · rename_i c
      exact ⟨Nat.le_refl _, hB n, fun _ => by dsimp only; omega⟩
theorem r_startOf {T : Tld} {M : Mem} {k : Nat} {a2 : Int32} {post : Int32 → Mem → Prop} (ok : okT T) (hT : RT T M) (h16 : M 0 16 = 0) (hk : k < T 2 1) (K : ∀ M', Fr LV M M' → post (v_start T a2) M') : wp_R_startOf (nI k) a2 M post := by
  have h8 := ok.2.2.1
  have hoB : ∀ h, oSt T h ≤ 24 := fun h => (bus_ok (D := dep T allOn) (s := h) 24).2.1
  unfold wp_R_startOf
  rw [tnI (by omega : k < 2 ^ 31)]
  refine ⟨vI (by omega), ?_⟩
  refine it4_f3 24 (by omega) (fun j x y M' => Fr (10 :: LV) M M' ∧ (∃ v, M' 10 = upd (M 10) k v) ∧ x = nI (stt (oSt T) j).1 - 1 ∧ y = (if (stt (oSt T) j).1 = 0 then 99 else nI (stt (oSt T) j).2 - 1)) (fun rc j x y M7 hj hI hrec => ?_) 0 (-1) 99 M (Nat.zero_le _) ⟨Fr.rf, ⟨M 10 k, (upd_self _ _).symm⟩, rfl, rfl⟩
  obtain ⟨hF, ⟨v, hv⟩, rfl, rfl⟩ := hI
  have hst := stt_le hoB j
  refine ⟨fun hx => ?_, fun hx => ?_⟩
  · have hj2 : j = 24 := by have := gI (a := 24) hx; omega
    subst hj2
    intro M9 h9 u hu
    have e := m1_iff (n := (stt (oSt T) 24).1) (by omega)
    have hu2 : u = v_start T a2 := by
      rw [hu]
      unfold v_start
      by_cases c : (stt (oSt T) 24).1 = 0
      · rw [if_pos (e.mpr c), if_pos c]; exact e.mpr c
      · rw [if_neg (fun q => c (e.mp q)), if_neg c, if_neg c]
    rw [hu2]
    refine K M9 (fun c hc => ?_)
    by_cases c9 : c = 10
    · subst c9; rw [h9, upm_s, hv, upd_upd, upd_self]
    · rw [h9, upm_n c9]; exact hF c (by simp at hc ⊢; omega)
  · have hlt : j < 24 := ngI (a := 24) hx
    intro M14 h14
    have hF14 : Fr (10 :: LV) M M14 := hF.up h14 (by decide)
    have r10 : M14 10 = upd (M 10) k (nI j) := by rw [h14, upm_s, hv, upd_upd]
    have hT14 := RT_bus (v := j) hT r10 hF14
    have ok14 := okT_up6 (i := k) (v := j) ok (by omega)
    refine r_lives ok14 hT14 (fun M15 hF15 hH => ?_)
    have h16' : M14 0 16 = 0 := by rw [hF14 0 (by decide)]; exact h16
    rw [onR_0 h16'] at hH
    have hov := hH.ov k (by exact hk)
    have eo : (bsT (upT T 6 k j) allOn k 24).2.1 = oSt T j := by
      unfold bsT oSt
      rw [dep_bus, upT_s, upN_s]
    rw [eo] at hov
    rw [hov]
    intro u19 hu19 u21 hu21 u23 hu23
    refine hrec u21 u23 M15 hlt ⟨hF14.tr (hF15.mo (by decide)), ⟨nI j, by rw [hF15 10 (by decide), r10]⟩, ?_⟩
    have hoj := hoB j
    have e0 := m1_iff (n := oSt T j) (by omega)
    rw [stt]
    by_cases c0 : oSt T j = 0
    · rw [if_pos (e0.mpr c0)] at hu19
      rw [if_pos hu19] at hu21 hu23
      rw [hu21, hu23, if_pos (Or.inl c0)]
      exact ⟨rfl, rfl⟩
    · rw [if_neg (fun q => c0 (e0.mp q))] at hu19
      have upd1 : ∀ z : Nat, z = oSt T j → u19 = 1 → u21 = nI (j + 1) - 1 ∧ u23 = nI z - 1 := by
        intro z hz h1
        rw [if_neg (by rw [h1]; decide)] at hu21 hu23
        rw [hu21, hu23, hz]
        exact ⟨(nI_pred j).symm, rfl⟩
      by_cases c1 : (stt (oSt T) j).1 = 0
      · rw [if_pos c1] at hu19
        have e : ¬ ((99 : Int32) ≤ nI (oSt T j) - 1) := by
          rw [Int32.le_iff_toInt_le, show (1 : Int32) = nI 1 from rfl, isub (by omega), nI_toInt (by omega)]
          show ¬ (99 : Int) ≤ ((oSt T j - 1 : Nat) : Int)
          omega
        rw [if_neg e] at hu19
        rw [if_neg (by omega)]
        obtain ⟨q1, q2⟩ := upd1 _ rfl hu19
        exact ⟨q1, by rw [q2]; rfl⟩
      · rw [if_neg c1] at hu19 hu23
        have hs2 := hst.2.2 c1
        have e : (nI (stt (oSt T) j).2 - 1 ≤ nI (oSt T j) - 1) ↔ (stt (oSt T) j).2 ≤ oSt T j := by
          rw [show (1 : Int32) = nI 1 from rfl, isub (by omega), isub (by omega), nI_leI (by omega) (by omega)]
          omega
        by_cases c2 : (stt (oSt T) j).2 ≤ oSt T j
        · rw [if_pos (e.mpr c2)] at hu19
          rw [if_pos hu19] at hu21 hu23
          rw [hu21, hu23, if_pos (Or.inr ⟨c1, c2⟩), if_neg c1]
          exact ⟨rfl, rfl⟩
        · rw [if_neg (fun q => c2 (e.mp q))] at hu19
          rw [if_neg (by omega)]
          rw [if_neg (by rw [hu19]; decide)] at hu21 hu23
          rw [hu21, hu23]
          exact ⟨(nI_pred j).symm, rfl⟩
def q_start (A : Ast) (a1 a2 : Int32) : Int32 := if inb a1 (tld A 2 1) then (if inb a2 2 then v_start (tld A) a2 else -2) else -2
theorem rq_start {A : Ast} {M : Mem} {a1 a2 : Int32} {post : Int32 → Mem → Prop} (ok : okA A) (hR : IR A M) (K : ∀ M', IR A M' → post (q_start A a1 a2) M') : wp_R_start a1 a2 M post := by
  have okt := okT_tld ok
  have h8 := okt.2.2.1
  unfold wp_R_start
  refine r_find2 ok hR (fun M1 hF => ?_)
  simp only [r_two, c10]
  unfold q_start at K
  refine r_isBus hF.2.1.2.2.2.1 (by omega) ?_
  rw [c10]
  refine ⟨fun c1 => by rw [if_neg c1] at K; exact K M1 hF.1, fun c1 => ?_⟩
  have c1 := Decidable.not_not.mp c1
  rw [if_pos c1] at K
  refine ⟨fun c2 => by rw [if_neg c2] at K; exact K M1 hF.1, fun c2 => ?_⟩
  have c2 := Decidable.not_not.mp c2
  rw [if_pos c2] at K
  obtain ⟨k, hk, rfl⟩ := inb_of c1
  exact r_startOf okt hF.2.1 hF.1.g hk (fun M' hF' => K M' (hF.j.fr hF').1)
