/-! the class: rides and sums over a winter -/
theorem WX.d {w : Nat} {T : Tld} {on : Nat → Bool} {M : Mem} (hX : WX w T on 24 M) {h i : Nat} (hh : h < 24) (hi : i < 12) : M (w + 1) (12 * h + i) = nI (dep T on h i) := (hX.2.2 h hh).1 i hi
theorem WX.f {w : Nat} {T : Tld} {on : Nat → Bool} {M : Mem} (hX : WX w T on 24 M) {x : Nat} (hx : x < 288) : M (w + 1) x = nI (fld T on x) := by
  have := hX.d (h := x / 12) (i := x % 12) (by omega) (by omega)
  rw [show 12 * (x / 12) + x % 12 = x by omega] at this
  exact this
theorem x12 (h i : Nat) : nI h * 12 + nI i = nI (12 * h + i) := by rw [show nI h * 12 = nI (h * 12) from im h 12, nI_add, Nat.mul_comm]
theorem x_rideOn {T : Tld} {on : Nat → Bool} {M : Mem} {w h fr : Nat} {post : Int32 → Prop} (ok : okT T) (hX : WX w T on 24 M) (hh : h < 24) (hfr : fr ≤ 11) (K : post (nI (adv (dep T on h) 3 fr))) : wp_XW_rideOn w (nI fr) (nI h) M post := by
  unfold wp_XW_rideOn
  refine it2_f2 3 (by omega) (fun j x => ∃ m, m ≤ 11 ∧ x = nI m ∧ adv (dep T on h) (3 - j) m = adv (dep T on h) 3 fr) (fun rc j x hj hI hrec => ?_) 0 (nI fr) (by omega) ⟨fr, hfr, rfl, rfl⟩
  obtain ⟨m, hm, rfl, hI⟩ := hI
  refine ⟨fun hx => ?_, fun hx => ⟨fun hx2 => ?_, fun hx2 => ?_⟩⟩
  · have hj2 : j = 3 := by have := gI (a := 3) hx; omega
    subst hj2
    have hI : m = adv (dep T on h) 3 fr := hI
    rw [hI]; exact K
  · have hlt : j < 3 := ngI (a := 3) hx
    have q := gI (a := 11) hx2
    rw [show 3 - j = (2 - j) + 1 by omega, adv, if_neg (by omega)] at hI
    rw [hI]; exact K
  · have hlt : j < 3 := ngI (a := 3) hx
    have q := ngI (a := 11) hx2
    rw [x12, ia1, tnI (by omega : 12 * h + m + 1 < 2 ^ 31), show 12 * h + m + 1 = 12 * h + (m + 1) by omega, hX.d hh (by omega : m + 1 < 12)]
    have dl := dep_le (T := T) (on := on) ok hh (m + 1)
    rw [show 3 - j = (2 - j) + 1 by omega, adv] at hI
    refine ⟨vI (by omega), fun c => ?_, fun c => ?_⟩
    · have c := gI (j := 4) c
      rw [if_pos ⟨q, c⟩] at hI
      rw [ia1 m]
      exact hrec _ hlt ⟨m + 1, by omega, rfl, by rw [show 3 - (j + 1) = 2 - j by omega]; exact hI⟩
    · have c := ngI (j := 4) c
      rw [if_neg (by omega)] at hI
      rw [hI]; exact K
theorem bus_stay {D : Nat → Nat → Nat} {s g : Nat} (h : (bus D s g).2.1 ≠ 0) : ∀ n, g ≤ n → bus D s n = bus D s g := by
  intro n hn
  induction n with
  | zero => rw [show g = 0 by omega]
  | succ n ih =>
    by_cases c : g = n + 1
    · rw [c]
    · have e := ih (by omega)
      rw [bus, if_pos (Or.inr (by rw [e]; exact h)), e]
def BX (w : Nat) (D : Nat → Nat → Nat) (s h : Nat) (M : Mem) : Prop := M w 12 = nI (bus D s h).1 - 1 ∧ M w 13 = nI (bus D s h).2.1 - 1 ∧ M w 14 = nI (bus D s h).2.2
theorem F1.wx {w : Nat} {T : Tld} {on : Nat → Bool} {h : Nat} {M M' : Mem} (hF : F1 w M M') (hX : WX w T on h M) : WX w T on h M' := hX.k (fun c c1 _ => hF c (by omega))
theorem m1n {n : Nat} (h : 1 ≤ n) : nI n - 1 = nI (n - 1) := isub (b := 1) h
theorem x_ride {T : Tld} {on : Nat → Bool} {M : Mem} {w s u : Nat} {post : Mem → Prop} (ok : okT T) (hX : WX w T on 24 M) (hs : s < 24) (hu : u < 24) (K : ∀ M', F1 w M M' → BX w (dep T on) s (u + 1) M' → post M') : wp_XW_ride w (nI s) (nI u) M post := by
  unfold wp_XW_ride
  intro M1 h1 M2 h2 M3 h3
  have hF3 : F1 w M M3 := ((F1.rf.up h1).up h2).up h3
  have r0 : BX w (dep T on) s s M3 := by
    unfold BX
    rw [bus_pre s (Nat.le_refl _)]
    refine ⟨?_, ?_, ?_⟩
    · rw [h3, upm_s, upd_n (by decide), h2, upm_s, upd_n (by decide), h1, upm_s, upd_s]; rfl
    · rw [h3, upm_s, upd_n (by decide), h2, upm_s, upd_s]; rfl
    · rw [h3, upm_s, upd_s]; rfl
  refine it2_f1 (max s (u + 1)) (by omega) (fun j M' => s ≤ j ∧ F1 w M M' ∧ BX w (dep T on) s j M') (fun rc j M7 hj hI hrec => ?_) s M3 (by omega) ⟨Nat.le_refl _, hF3, r0⟩
  obtain ⟨hsj, hF7, b12, b13, b14⟩ := hI
  refine ⟨fun hx => ?_, fun hx => ?_⟩
  · have q := lI hx
    refine K M7 hF7 ?_
    by_cases c : j = u + 1
    · subst c; exact ⟨b12, b13, b14⟩
    · have hjs : j = s := by omega
      subst hjs
      unfold BX
      rw [bus_pre (s := j) (u + 1) (by omega), ← bus_pre (D := dep T on) j (Nat.le_refl _)]
      exact ⟨b12, b13, b14⟩
  · have q := nlI hx
    obtain ⟨o1, o2, o3, o4⟩ := bus_ok (D := dep T on) (s := s) j
    rw [b13, m1_iff (by omega)]
    refine ⟨fun c => ?_, fun c => ?_⟩
    · intro u11 h11
      generalize hfr : (if j = s then 0 else (bus (dep T on) s j).1 - 1) = fr
      have hu11 : u11 = nI fr := by
        rw [h11, ← hfr]
        by_cases e : j = s
        · rw [if_pos (by rw [e]), if_pos e]; rfl
        · rw [if_neg (fun z => e (eI z)), if_neg e, b12, m1n (o4 (by omega))]
      have hfr11 : fr ≤ 11 := by rw [← hfr]; split <;> omega
      subst hu11
      refine x_rideOn (h := j) (fr := fr) ok (hF7.wx hX) (by omega) hfr11 ?_
      have al := adv_le (d := dep T on j) 3 fr hfr11
      have eb : bus (dep T on) s (j + 1) = (adv (dep T on j) 3 fr + 1, (if adv (dep T on j) 3 fr = 11 then j + 1 else 0), (bus (dep T on) s j).2.2 + (if adv (dep T on j) 3 fr = fr then 1 else 0)) := by
        rw [bus, if_neg (by omega), hfr]
      intro M13 h13
      have r12 : M13 w 12 = nI (adv (dep T on j) 3 fr) := by rw [h13, upm_s, upd_s]
      have r13 : M13 w 13 = -1 := by rw [h13, upm_s, upd_n (by decide), b13, c]; rfl
      have r14 : M13 w 14 = nI (bus (dep T on) s j).2.2 := by rw [h13, upm_s, upd_n (by decide), b14]
      have fin : ∀ M17, F1 w M M17 → M17 w 12 = nI (adv (dep T on j) 3 fr) → M17 w 13 = -1 → M17 w 14 = nI ((bus (dep T on) s j).2.2 + (if adv (dep T on j) 3 fr = fr then 1 else 0)) → ((((M17 w 12) = 11) → ∀ M19 : Mem, M19 = upm M17 w 13 (nI j) → rc (nI j + 1) M19) ∧ (¬ ((M17 w 12) = 11) → rc (nI j + 1) M17)) := by
        intro M17 hF17 e12 e13 e14
        rw [e12, show (nI (adv (dep T on j) 3 fr) = 11) = (adv (dep T on j) 3 fr = 11) from propext (nI_eq (b := 11) (by omega) (by omega))]
        refine ⟨fun z M19 h19 => hrec M19 (by omega) ⟨by omega, hF17.up h19, ?_⟩, fun z => hrec M17 (by omega) ⟨by omega, hF17, ?_⟩⟩
        · unfold BX
          rw [eb]
          refine ⟨?_, ?_, ?_⟩
          · rw [h19, upm_s, upd_n (by decide), e12]; exact (m1n (n := adv (dep T on j) 3 fr + 1) (by omega)).symm
          · rw [h19, upm_s, upd_s]
            show nI j = nI (if adv (dep T on j) 3 fr = 11 then j + 1 else 0) - 1
            rw [if_pos z, m1n (by omega)]; rfl
          · rw [h19, upm_s, upd_n (by decide), e14]
        · unfold BX
          rw [eb]
          refine ⟨?_, ?_, e14⟩
          · rw [e12]; exact (m1n (n := adv (dep T on j) 3 fr + 1) (by omega)).symm
          · rw [e13]
            show (-1 : Int32) = nI (if adv (dep T on j) 3 fr = 11 then j + 1 else 0) - 1
            rw [if_neg z]; rfl
      rw [show (M13 w 12 = nI fr) = (adv (dep T on j) 3 fr = fr) from propext (by rw [r12]; exact nI_eq (by omega) (by omega))]
      refine ⟨fun z M17 h17 => ?_, fun z => ?_⟩
      · refine fin M17 ((hF7.up h13).up h17) (by rw [h17, upm_s, upd_n (by decide), r12]) (by rw [h17, upm_s, upd_n (by decide), r13]) ?_
        rw [h17, upm_s, upd_s, r14, if_pos z, ia1]
      · exact fin M13 (hF7.up h13) r12 r13 (by rw [r14, if_neg z]; rfl)
    · refine K M7 hF7 ?_
      unfold BX
      rw [bus_stay c (u + 1) (by omega)]
      exact ⟨b12, b13, b14⟩
theorem x_over {T : Tld} {on : Nat → Bool} {M : Mem} {w : Nat} {post : Int32 → Mem → Prop} (hw : okW w) (ok : okT T) (hT : XT T M) (hX : WX w T on 24 M) (K : ∀ M', F1 w M M' → post (nI (many T on)) M') : wp_XW_busesOver w M post := by
  have h8 := ok.2.2.1
  unfold wp_XW_busesOver
  refine it3_f2 (T 2 1) (by omega) (fun j x M' => F1 w M M' ∧ x = nI (cnt (ovr T on) j)) (fun rc j x M5 hj hI hrec => ?_) 0 0 M (by omega) ⟨F1.rf, rfl⟩
  obtain ⟨hF, rfl⟩ := hI
  have hT5 := hT.k (hF.tk hw (by omega))
  rw [hT5.2.2.2.1]
  refine ⟨fun hx => ?_, fun hx => ?_⟩
  · have hj2 : j = T 2 1 := by have := gI hx; omega
    subst hj2
    exact K M5 hF
  · have hlt : j < T 2 1 := ngI hx
    have b6 := ok.2.2.2.2.2.2.1 j
    rw [tnI (by omega : j < 2 ^ 31), hT5.2.2.2.2.2.2.2.1 j hlt]
    refine ⟨vI (by omega), x_ride (u := 23) ok (hF.wx hX) (by omega) (by omega) (fun M8 hF8 hb => ?_)⟩
    intro u hu
    refine hrec u M8 hlt ⟨hF.tr hF8, ?_⟩
    have hle := (bus_ok (D := dep T on) (s := T 6 j) 24).2.1
    have e := m1_iff (n := (bus (dep T on) (T 6 j) 24).2.1) (by omega)
    rw [hu, hb.2.1, cnt]
    unfold ovr bsT
    by_cases c : (bus (dep T on) (T 6 j) 24).2.1 = 0
    · rw [if_pos (e.mpr c)]; simp [c]
    · rw [if_neg (fun q => c (e.mp q)), ia1]; simp [c]
theorem x_snow {T : Tld} {on : Nat → Bool} {M : Mem} {w h : Nat} {post : Int32 → Prop} (ok : okT T) (hX : WX w T on 24 M) (hh : h < 24) (K : post (nI (snw T on h))) : wp_XW_snowBehind w (nI h) M post := by
  unfold wp_XW_snowBehind
  refine it2_f2 12 (by omega) (fun j x => x = nI (sumN (dep T on h) j)) (fun rc j x hj hI hrec => ?_) 0 0 (Nat.zero_le _) rfl
  subst hI
  refine ⟨fun hx => ?_, fun hx => ?_⟩
  · have hj2 : j = 12 := by have := gI (a := 12) hx; omega
    subst hj2
    exact K
  · have hlt : j < 12 := ngI (a := 12) hx
    rw [x12, tnI (by omega : 12 * h + j < 2 ^ 31), hX.d hh hlt]
    refine ⟨vI (by omega), fun x7 h7 => hrec x7 hlt ?_⟩
    rw [h7, nI_add]; rfl
theorem x_deepM {T : Tld} {on : Nat → Bool} {M : Mem} {w h : Nat} {post : Int32 → Prop} (ok : okT T) (hX : WX w T on 24 M) (hh : h < 24) (K : post (nI (dpm T on h))) : wp_XW_deepMilesBehind w (nI h) M post := by
  unfold wp_XW_deepMilesBehind
  refine it2_f2 12 (by omega) (fun j x => x = nI (cnt (dpc (dep T on h)) j)) (fun rc j x hj hI hrec => ?_) 0 0 (Nat.zero_le _) rfl
  subst hI
  refine ⟨fun hx => ?_, fun hx => ?_⟩
  · have hj2 : j = 12 := by have := gI (a := 12) hx; omega
    subst hj2
    exact K
  · have hlt : j < 12 := ngI (a := 12) hx
    have dl := dep_le (T := T) (on := on) ok hh j
    rw [x12, tnI (by omega : 12 * h + j < 2 ^ 31), hX.d hh hlt]
    refine ⟨vI (by omega), fun u hu => hrec u hlt ?_⟩
    rw [hu, cnt]
    have e : (nI (dep T on h j) ≤ 4) ↔ dep T on h j ≤ 4 := nI_leI (b := 4) (by omega) (by omega)
    unfold dpc
    by_cases c : dep T on h j ≤ 4
    · rw [if_pos (e.mpr c), if_neg (by simp; exact c)]; rfl
    · rw [if_neg (fun q => c (e.mp q)), if_pos (by simp; omega), ia1]
theorem x_deepP {T : Tld} {on : Nat → Bool} {M : Mem} {w : Nat} {post : Int32 → Prop} (ok : okT T) (hX : WX w T on 24 M) (K : post (nI (amx (fld T on) 287))) : wp_XW_deepestPlace w M post := by
  unfold wp_XW_deepestPlace
  refine it2_f2 288 (by omega) (fun j x => 1 ≤ j ∧ x = nI (amx (fld T on) (j - 1))) (fun rc j x hj hI hrec => ?_) 1 0 (by omega) ⟨Nat.le_refl _, rfl⟩
  obtain ⟨h1, rfl⟩ := hI
  refine ⟨fun hx => ?_, fun hx => ?_⟩
  · have hj2 : j = 288 := by have := gI (a := 288) hx; omega
    subst hj2
    exact K
  · have hlt : j < 288 := ngI (a := 288) hx
    have al := amx_le (fld T on) (j - 1)
    have f1 := fld_le (T := T) (on := on) ok (x := j) hlt
    have f2 := fld_le (T := T) (on := on) ok (x := amx (fld T on) (j - 1)) (by omega)
    rw [tnI (by omega : j < 2 ^ 31), tnI (by omega : amx (fld T on) (j - 1) < 2 ^ 31), hX.f hlt, hX.f (by omega)]
    refine ⟨vI (by omega), vI (by omega), fun u hu => hrec u hlt ⟨by omega, ?_⟩⟩
    rw [hu, show j + 1 - 1 = (j - 1) + 1 by omega, amx, show j - 1 + 1 = j by omega]
    have e : (nI (fld T on j) ≤ nI (fld T on (amx (fld T on) (j - 1)))) ↔ fld T on j ≤ fld T on (amx (fld T on) (j - 1)) := nI_leI (by omega) (by omega)
    by_cases c : fld T on j ≤ fld T on (amx (fld T on) (j - 1))
    · rw [if_pos (e.mpr c), if_pos c]
    · rw [if_neg (fun q => c (e.mp q)), if_neg c]
/-! a run hangs on the events that there are alone -/
theorem wnd_c {T : Tld} {on on' : Nat → Bool} {h : Nat} : ∀ n, (∀ e, e < n → on e = on' e) → wnd T on h n = wnd T on' h n := by
  intro n
  induction n with
  | zero => intro _; rfl
  | succ n ih => intro hc; rw [wnd, wnd, ih (fun e he => hc e (by omega)), hc n (by omega)]
theorem thw_c {T : Tld} {on on' : Nat → Bool} {h : Nat} {d : Nat → Nat} : ∀ n, (∀ e, e < n → on e = on' e) → thw T on h d n = thw T on' h d n := by
  intro n
  induction n with
  | zero => intro _; rfl
  | succ n ih => intro hc; rw [thw, thw, ih (fun e he => hc e (by omega)), hc n (by omega)]
theorem brk_c {T : Tld} {on on' : Nat → Bool} {h k : Nat} : ∀ n, (∀ e, e < n → on e = on' e) → brk T on h k n = brk T on' h k n := by
  intro n
  induction n with
  | zero => intro _; rfl
  | succ n ih => intro hc; rw [brk, brk, ih (fun e he => hc e (by omega)), hc n (by omega)]
theorem plo_c {T : Tld} {on on' : Nat → Bool} {h : Nat} {s : Sim} (hc : ∀ e, e < T 2 3 → on e = on' e) (n : Nat) : plo T on h s n = plo T on' h s n := by
  induction n with
  | zero => rfl
  | succ n ih => rw [plo, plo, ih]; unfold one; rw [brk_c _ hc]
theorem sim_c {T : Tld} {on on' : Nat → Bool} (hc : ∀ e, e < T 2 3 → on e = on' e) (h : Nat) : sim T on h = sim T on' h := by
  induction h with
  | zero => rfl
  | succ h ih =>
    rw [sim, sim, ih, plo_c hc]
    unfold wea windAt
    rw [wnd_c _ hc, thw_c _ hc]
theorem dep_c {T : Tld} {on on' : Nat → Bool} (hc : ∀ e, e < T 2 3 → on e = on' e) : dep T on = dep T on' := by
  funext h i
  unfold dep
  rw [sim_c hc]
theorem WX.c {w : Nat} {T : Tld} {on on' : Nat → Bool} {h : Nat} {M : Mem} (hX : WX w T on h M) (hc : ∀ e, e < T 2 3 → on e = on' e) : WX w T on' h M := by
  unfold WX at hX ⊢
  simp only [sim_c hc] at hX
  exact hX
theorem all_on : ∀ E, E < 9 → ∀ e, e < E → onX (((1 : Int32) <<< (nI E &&& 31)) - 1) e = true := by decide +kernel
