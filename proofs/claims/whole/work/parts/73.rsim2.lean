/-! THE REFERENCE: ploughs and buses of an hour -/
theorem r_isBroken {T : Tld} {M : Mem} {h k : Nat} {post : Int32 → Prop} (ok : okT T) (hT : RT T M) (hh : h < 24) (hk : k < 12) (hp : post (if brk T (onR M) h k (T 2 3) = true then 1 else 0)) : wp_R_isBroken (nI h) (nI k) M post := by
  have h8 := ok.2.2.1
  unfold wp_R_isBroken
  rw [hT.2.2.2.2.2.1]
  refine it2_f2 (T 2 3) (by omega) (fun j x => x = (if brk T (onR M) h k j = true then 1 else 0)) (fun rc j x hj hI hrec => ?_) 0 0 (Nat.zero_le _) (by simp [brk])
  subst hI
  refine ⟨fun hx => ?_, fun hx => ?_⟩
  · have hj2 : j = T 2 3 := by have := gI hx; omega
    subst hj2
    refine ⟨?_, hp⟩
    split
    · exact Or.inr rfl
    · exact Or.inl rfl
  · have hlt : j < T 2 3 := ngI hx
    have b8 := ok.2.2.2.2.2.2.2.2.1 j
    have b9 := ok.2.2.2.2.2.2.2.2.2 j
    have hev := (hT.2.2.2.2.2.2.2.2 j hlt).2.2
    have e8 : (nI (T 8 j) = nI h) ↔ T 8 j = h := nI_eq (by omega) (by omega)
    have e9 : (nI (T 9 j) = nI k) ↔ T 9 j = k := nI_eq (by omega) (by omega)
    have e8' : (nI (T 8 j) = nI h - 1) ↔ T 8 j + 1 = h := by
      constructor
      · intro q
        have q2 : nI (T 8 j) + 1 = nI h := by rw [q]; grind
        rw [nI_1] at q2
        exact eI q2
      · intro q
        subst q
        exact (nI_pred _).symm
    rw [i3_2, tnI (by omega), hev]
    have fin : ∀ u : Int32, u = (if (brk T (onR M) h k j || decide (T 7 j = 1 ∧ (T 8 j = h ∨ T 8 j + 1 = h) ∧ T 9 j = k ∧ onR M j = true)) = true then 1 else 0) → rc u (nI j + 1) := fun u hu => hrec u hlt (by rw [hu, brk])
    refine ⟨fun hb => ?_, fun hb => ?_⟩
    · have hb2 : brk T (onR M) h k j = false := by
        cases hq : brk T (onR M) h k j with
        | false => rfl
        | true => rw [hq] at hb; cases hb
      rw [hb2] at fin
      refine r_isTold (kd := 1) ok hT hlt (by decide) ?_
      by_cases c1 : T 7 j = 1 ∧ nI (T 8 j) = nI h ∧ onR M j = true
      · rw [if_pos c1]
        refine ⟨fun hx => absurd hx (by decide), fun _ => ⟨vI (by omega), fun u hu => fin u ?_⟩⟩
        rw [hu]
        by_cases c2 : T 9 j = k
        · simp [c2, c1.1, e8.mp c1.2.1, c1.2.2]
        · simp [e9, c2]
      · rw [if_neg c1]
        refine ⟨fun _ => ?_, fun hx => absurd rfl hx⟩
        refine r_isTold (kd := 1) ok hT hlt (by decide) ?_
        by_cases c2 : T 7 j = 1 ∧ nI (T 8 j) = nI h - 1 ∧ onR M j = true
        · rw [if_pos c2]
          refine ⟨⟨fun _ => trivial, fun _ => vI (by omega)⟩, fun u hu => fin u ?_⟩
          rw [hu]
          by_cases c3 : T 9 j = k
          · simp [c3, c2.1, e8'.mp c2.2.1, c2.2.2]
          · simp [e9, c3]
        · rw [if_neg c2]
          refine ⟨⟨fun _ => trivial, fun _ => vI (by omega)⟩, fun u hu => fin u ?_⟩
          have : ¬ (T 7 j = 1 ∧ (T 8 j = h ∨ T 8 j + 1 = h) ∧ T 9 j = k ∧ onR M j = true) := by
            rintro ⟨q1, q2, q3, q4⟩
            rcases q2 with q2 | q2
            · exact c1 ⟨q1, e8.mpr q2, q4⟩
            · exact c2 ⟨q1, e8'.mpr q2, q4⟩
          rw [hu]
          simp [this]
    · have hb2 : brk T (onR M) h k j = true := by
        cases hq : brk T (onR M) h k j with
        | true => rfl
        | false => rw [hq] at hb; exact absurd rfl hb
      exact fin 1 (by simp [hb2])
/-- the ploughs' rows of a Sim lie in the reference's arrays -/
def PS (P : Nat) (s : Sim) (M : Mem) : Prop := HR (M 12) 12 (s 0) ∧ HR (M 14) P (s 1) ∧ HR (M 15) P (s 2) ∧ HR (M 17) P (s 5)
theorem upS_r (s : Sim) (r k v : Nat) : upS s r k v r = upN (s r) k v := by simp [upS]
theorem upS_o {s : Sim} {r k v a : Nat} (h : a ≠ r) : upS s r k v a = s a := by simp [upS, h]
theorem r_scoops {T : Tld} {on : Nat → Bool} {M : Mem} {h k B : Nat} {s : Sim} {post : Int32 → Mem → Prop} (ok : okT T) (hT : RT T M) (hk : k < T 2 0) (hs : okS B s) (hB : B ≤ 10000) (hP : PS (T 2 0) s M) (hb : brk T on h k (T 2 3) = false)
    (K : ∀ M', Fr [12, 14, 15, 17] M M' → PS (T 2 0) (one T on h k s) M' → post (nI (one T on h k s 3 k)) M') : wp_R_scoops (nI k) M post := by
  have h8 := ok.2.2.1
  obtain ⟨p0, p1, p2, p5⟩ := hP
  have m1 := hs.2.1 k
  have m2 := hs.2.2 k
  have s4 := ok.2.2.2.2.1 k
  have hpl := (hT.2.2.2.2.2.2.1 k hk).2.1
  unfold wp_R_scoops
  rw [tnI (by omega : k < 2 ^ 31), p1 k hk, p2 k hk]
  have hw : tw s k ≤ 1 := by unfold tw; split <;> (try split) <;> omega
  have hn : nx s k ≤ 11 := by unfold nx tw; split <;> (try split at *) <;> (try split at *) <;> omega
  refine ⟨vI (by omega), fun u hu M5 hM5 u7 hu7 x8 hx8 => ?_⟩
  have hu2 : u = nI (tw s k) := by
    rw [hu]
    unfold tw
    have e1 : (nI (s 1 k) = 0) ↔ s 1 k = 0 := nI_eq (b := 0) (by omega) (by decide)
    have e2 : (nI (s 1 k) = 11) ↔ s 1 k = 11 := nI_eq (b := 11) (by omega) (by decide)
    by_cases c1 : s 1 k = 0
    · simp only [e1, c1, if_true]; rfl
    · by_cases c2 : s 1 k = 11
      · simp only [e1, e2, c1, c2, if_true, if_false]; rfl
      · simp only [e1, e2, c1, c2, if_false]
  have hF5 : Fr [12, 14, 15, 17] M M5 := Fr.rf.up hM5 (by decide)
  have r15 : M5 15 = upd (M 15) k u := by rw [hM5, upm_s]
  have r14 : M5 14 = M 14 := by rw [hM5, upm_n (by decide)]
  have r12 : M5 12 = M 12 := by rw [hM5, upm_n (by decide)]
  have r17 : M5 17 = M 17 := by rw [hM5, upm_n (by decide)]
  have r9 : M5 9 = M 9 := by rw [hM5, upm_n (by decide)]
  rw [r14, p1 k hk] at hx8
  rw [r15, upd_s, hu2] at hu7
  have hx : x8 = nI (nx s k) := by
    rw [hx8, hu7]
    have e1 : (nI (tw s k) = 0) ↔ tw s k = 0 := nI_eq (b := 0) (by omega) (by decide)
    unfold nx
    by_cases c1 : tw s k = 0
    · simp only [e1, c1, if_true]
      exact nI_1 _
    · simp only [e1, c1, if_false]
      have : s 1 k ≠ 0 := fun q => c1 (by unfold tw; simp [q])
      obtain ⟨z, hz⟩ : ∃ z, s 1 k = z + 1 := ⟨s 1 k - 1, by omega⟩
      rw [hz]
      exact pk_m1 z
  subst hx
  rw [i3_1, tnI (by omega), r9, hpl]
  refine ⟨vI (by omega), fun x10 hx10 => ⟨vI (by omega), ?_⟩⟩
  subst hx10
  rw [tnI (by omega), r12, p0 _ (by omega)]
  have hd := hs.1 (nx s k)
  have e3 : (nI (s 0 (nx s k)) ≤ 3 * nI (T 4 k)) ↔ s 0 (nx s k) ≤ 3 * T 4 k := by
    rw [i3_0]; exact nI_leI (by omega) (by omega)
  have h15 : HR (M5 15) (T 2 0) (upN (s 2) k (tw s k)) := by rw [r15]; exact p2.up hu2
  unfold one at K
  rw [if_neg (by rw [hb]; decide)] at K
  refine ⟨fun hc => ?_, fun hc => ?_⟩
  · have hc' := e3.mp hc
    rw [if_pos hc'] at K
    intro x13 hx13 M14 hM14 M15 hM15
    have kk := K M15 ((hF5.up hM14 (by decide)).up hM15 (by decide)) ⟨?_, ?_, ?_, ?_⟩
    · rw [hx13]
      simpa [upS_eq] using kk
    · rw [hM15, upm_n (by decide), hM14, upm_s, r12]
      have := p0.up (k := nx s k) (v := 0) (x := 0) rfl
      simpa [upS] using this
    · rw [hM15, upm_s, hM14, upm_n (by decide), r14]
      have := p1.up (k := k) (v := nx s k) (x := nI (nx s k)) rfl
      simpa [upS] using this
    · rw [hM15, upm_n (by decide), hM14, upm_n (by decide)]
      simpa [upS] using h15
    · rw [hM15, upm_n (by decide), hM14, upm_n (by decide), r17]
      simpa [upS] using p5
  · have hc' : ¬ s 0 (nx s k) ≤ 3 * T 4 k := fun q => hc (e3.mpr q)
    rw [if_neg hc'] at K
    intro M16 hM16 M17 hM17
    have kk := K M17 ((hF5.up hM16 (by decide)).up hM17 (by decide)) ⟨?_, ?_, ?_, ?_⟩
    · simpa [upS_eq] using kk
    · rw [hM17, upm_s, hM16, upm_n (by decide), r12]
      have := p0.up (k := nx s k) (v := s 0 (nx s k) - T 4 k) (x := M 12 (nx s k) - nI (T 4 k)) (by rw [p0 _ (by omega)]; exact isub (by omega))
      simpa [upS] using this
    · rw [hM17, upm_n (by decide), hM16, upm_n (by decide), r14]
      simpa [upS] using p1
    · rw [hM17, upm_n (by decide), hM16, upm_n (by decide)]
      simpa [upS] using h15
    · rw [hM17, upm_n (by decide), hM16, upm_s, r17]
      have := p5.up (k := k) (v := s 5 k + 1) (x := M 17 k + 1) (by rw [p5 k hk]; exact nI_1 _)
      simpa [upS] using this
