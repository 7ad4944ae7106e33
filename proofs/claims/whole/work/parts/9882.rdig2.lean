/-! digest: ploughs and buses told by the reference -/
theorem j_hour {A : Ast} {M : Mem} {l : Int64} {h k : Nat} {post : Int64 → Prop} (ok : okA A) (hH : HI (tld A) allOn 24 M) (hh : h < 24) (hk : k < tld A 2 0) (K : post (mi (mi (mi l (q_at A (nI h) (nI k) 0)) (q_at A (nI h) (nI k) 1)) (q_at A (nI h) (nI k) 2))) : wp_R_tellsHour l (nI h) (nI k) M post := by
  have okt := okT_tld ok
  have h8 := okt.2.2.1
  unfold wp_R_tellsHour
  refine it2_f2 3 (by omega) (fun j x => x = fo (fun i h' => mi h' (q_at A (nI h) (nI k) (nI i))) l j) (fun rc j x hj hI hrec => ?_) 0 l (by omega) (fo0 _ _).symm
  subst hI
  refine ⟨fun hx => ?_, fun hx => ?_⟩
  · have hj2 : j = 3 := by have := gI (a := 3) hx; omega
    subst hj2
    exact K
  · have hlt : j < 3 := ngI (a := 3) hx
    have e : q_at A (nI h) (nI k) (nI j) = nI (sim (tld A) allOn (h + 1) (if nI j = 0 then 1 else if nI j = 1 then 2 else 3) k) := by
      unfold q_at
      rw [if_pos (inb_nI hh), if_pos (inb_nI hk), if_pos (inb_nI hlt), tnI (by omega), tnI (by omega)]
    refine r_atBy okt hH hh hk ?_
    rw [← e]
    intro x7 h7
    exact hrec x7 hlt h7
theorem j_bus {A : Ast} {M : Mem} {l : Int64} {k : Nat} {post : Int64 → Mem → Prop} (ok : okA A) (hJ : RJ A M) (hk : k < tld A 2 1) (K : ∀ M', RJ A M' → post (gB A k l) M') : wp_R_tellsBus l (nI k) M post := by
  have okt := okT_tld ok
  have h8 := okt.2.2.1
  unfold wp_R_tellsBus
  refine j_lives ok hJ (fun M1 hJ1 hH => ?_)
  have e1 : M1 10 k = q_bus A (nI k) := by
    unfold q_bus
    rw [if_pos (inb_nI hk), tnI (by omega)]
    exact hJ1.2.2.2.2.2.2.2.2.1 k hk
  have e2 : M1 25 (72 + k) = q_rides A 9 (nI k) := by
    unfold q_rides
    rw [if_pos (show inb 9 24 from inb_nI (j := 9) (n := 24) (by omega)), if_pos (inb_nI hk), tnI (by omega)]
    exact (hH.2.2.2 9 (by omega)).2.2 k hk
  have hb := hH.2.2.1 k hk
  have e3 : M1 19 k = q_over A (nI k) 0 := by
    unfold q_over
    rw [if_pos (inb_nI hk), if_pos (show inb 0 2 from inb_nI (j := 0) (n := 2) (by omega)), if_pos rfl, tnI (by omega)]
    exact hb.2.1
  have e4 : M1 20 k = q_over A (nI k) 1 := by
    unfold q_over
    rw [if_pos (inb_nI hk), if_pos (show inb 1 2 from inb_nI (j := 1) (n := 2) (by omega)), if_neg (by decide), tnI (by omega)]
    exact hb.2.2
  rw [show (72 : Int32) + nI k = nI (72 + k) from nI_add 72 k, tnI (by omega : k < 2 ^ 31), tnI (by omega : 72 + k < 2 ^ 31), e1, e2, e3, e4]
  refine ⟨vI (by omega), fun x4 h4 => ⟨vI (by omega), fun x6 h6 x7 h7 x8 h8' => ?_⟩⟩
  have s0 : ∀ (i : Nat), i < 2 → q_start A (nI k) (nI i) = v_start (tld A) (nI i) := fun i hi => by
    unfold q_start
    rw [if_pos (inb_nI hk), if_pos (inb_nI hi)]
  have c0 : ∀ (i : Nat), i < 2 → q_chance A 5 (nI k) (nI i) = v_ch (tld A) 5 k (nI i) := fun i hi => by
    unfold q_chance
    rw [if_pos (show inb 5 17 from inb_nI (j := 5) (n := 17) (by omega)), if_pos (inb_nI hk), if_pos (inb_nI hi), tnI (by omega)]
    rfl
  refine r_startOf okt hJ1.2 hJ1.1.g hk (fun M9 hF9 => ?_)
  have hJ9 := hJ1.fr hF9
  intro x11 h11
  refine r_startOf okt hJ9.2 hJ9.1.g hk (fun M12 hF12 => ?_)
  have hJ12 := hJ9.fr hF12
  intro x14 h14
  refine r_chanceOf (c := 5) okt hJ12.2 hJ12.1.g (by omega) hk (fun M15 hF15 => ?_)
  have hJ15 := hJ12.fr hF15
  intro x17 h17
  refine r_chanceOf (c := 5) okt hJ15.2 hJ15.1.g (by omega) hk (fun M18 hF18 => ?_)
  have := K M18 (hJ15.fr hF18)
  unfold gB at this
  rw [show q_start A (nI k) 0 = v_start (tld A) 0 from s0 0 (by omega), show q_start A (nI k) 1 = v_start (tld A) 1 from s0 1 (by omega), show q_chance A 5 (nI k) 0 = v_ch (tld A) 5 k 0 from c0 0 (by omega), show q_chance A 5 (nI k) 1 = v_ch (tld A) 5 k 1 from c0 1 (by omega)] at this
  subst h17 h14 h11 h8' h7 h6 h4
  exact this
