/-! digest: ploughs told by the reference -/
theorem j_plough {A : Ast} {M : Mem} {l : Int64} {k : Nat} {post : Int64 → Mem → Prop} (ok : okA A) (hJ : RJ A M) (hk : k < tld A 2 0) (K : ∀ M', RJ A M' → post (gP A k l) M') : wp_R_tellsPlough l (nI k) M post := by
  have okt := okT_tld ok
  have h8 := okt.2.2.1
  unfold wp_R_tellsPlough
  refine j_lives ok hJ (fun M1 hJ1 hH => ?_)
  refine it2_f2 3 (by omega) (fun j x => x = fo (fun i h => mi h (q_plough A (nI k) (nI i))) l j) (fun rc j x hj hI hrec => ?_) 0 l (by omega) (fo0 _ _).symm
  subst hI
  refine ⟨fun hx => ?_, fun hx => ?_⟩
  · have hj2 : j = 3 := by have := gI (a := 3) hx; omega
    subst hj2
    refine j_hour (h := 0) ok hH (by omega) hk (j_hour (h := 5) ok hH (by omega) hk (j_hour (h := 14) ok hH (by omega) hk ?_))
    have e1 : M1 16 k = q_cleared A (nI k) 0 := by
      unfold q_cleared
      rw [if_pos (inb_nI hk), if_pos (show inb 0 2 from inb_nI (j := 0) (n := 2) (by omega)), if_pos rfl, tnI (by omega)]
      exact hH.2.1 k hk
    have e2 : M1 17 k = q_cleared A (nI k) 1 := by
      unfold q_cleared
      rw [if_pos (inb_nI hk), if_pos (show inb 1 2 from inb_nI (j := 1) (n := 2) (by omega)), if_neg (by decide), tnI (by omega)]
      exact hH.1.2.2.2 k hk
    rw [tnI (by omega : k < 2 ^ 31), e1, e2]
    refine ⟨vI (by omega), fun x12 h12 x13 h13 => ?_⟩
    have b0 : ∀ (i : Nat), i < 2 → q_begin A (nI k) (nI i) = v_begin (tld A) k (nI i) := fun i hi => by
      unfold q_begin
      rw [if_pos (inb_nI hk), if_pos (inb_nI hi), tnI (by omega)]
    have es : q_str A (nI k) = v_str A (tld A) k := by
      unfold q_str
      rw [if_pos (inb_nI hk), tnI (by omega)]
    have ea : q_ask A (nI k) = v_ask A (tld A) k := by
      unfold q_ask
      rw [if_pos (inb_nI hk), tnI (by omega)]
    refine r_beginOf okt hJ1.2 hJ1.1.g hk (fun M14 hF14 => ?_)
    have hJ14 := hJ1.fr hF14
    intro x16 h16
    refine r_beginOf okt hJ14.2 hJ14.1.g hk (fun M17 hF17 => ?_)
    have hJ17 := hJ14.fr hF17
    intro x19 h19
    refine r_strengthsOf ok okt hJ17.2 hJ17.1.si hJ17.1.g hk (fun M20 hF20 _ => ?_)
    have hJ20 := hJ17.fr hF20
    intro x22 h22
    refine r_askOf ok okt hJ20.2 hJ20.1.si hJ20.1.g hk (fun M23 hF23 => ?_)
    have := K M23 (hJ20.fr hF23)
    unfold gP at this
    rw [show q_begin A (nI k) 0 = v_begin (tld A) k 0 from b0 0 (by omega), show q_begin A (nI k) 1 = v_begin (tld A) k 1 from b0 1 (by omega), es, ea] at this
    subst h22 h19 h16 h13 h12
    exact this
  · have hlt : j < 3 := ngI (a := 3) hx
    rw [i3_0, nI_add, tnI (by omega)]
    have e : M1 9 (3 * k + j) = q_plough A (nI k) (nI j) := by
      unfold q_plough
      rw [if_pos (inb_nI hk), if_pos (inb_nI hlt), tnI (by omega), tnI (by omega)]
      obtain ⟨p0, p1, p2⟩ := hJ1.2.2.2.2.2.2.2.1 k hk
      rcases j with _ | _ | _ | j
      · exact p0
      · exact p1
      · exact p2
      · omega
    rw [e]
    exact ⟨vI (by omega), fun x26 h26 => hrec x26 hlt h26⟩
