/-! digest: the reference's side, whole -/
theorem rq_digest {A : Ast} {M : Mem} {post : Int64 → Mem → Prop} (ok : okA A) (hR : IR A M) (K : ∀ M', IR A M' → post (q_dig A) M') : wp_R_digest M post := by
  have okt := okT_tld ok
  have h8 := okt.2.2.1
  unfold wp_R_digest
  refine it3_f2 8 (by omega) (fun j x M' => IR A M' ∧ (0 < j → RJ A M') ∧ x = fo (fun i h => mi h (q_count A (nI i))) 17 j) (fun rc j x M5 hj hI hrec => ?_) 0 17 M (by omega) ⟨hR, fun q => absurd q (Nat.lt_irrefl _), (fo0 _ _).symm⟩
  obtain ⟨hR5, hJ5, rfl⟩ := hI
  refine ⟨fun hx => ?_, fun hx => ?_⟩
  · have hj2 : j = 8 := by have := gI (a := 8) hx; omega
    subst hj2
    clear hrec
    rw [gD1_e]
    refine it3_f2 4 (by omega) (fun j x M' => RJ A M' ∧ x = fo (fun t h => mi h (q_fault A (nI t))) (gD1 A) j) (fun rc j x M11 hj hI hrec => ?_) 0 (gD1 A) M5 (by omega) ⟨hJ5 (by omega), (fo0 _ _).symm⟩
    obtain ⟨hJ11, rfl⟩ := hI
    refine ⟨fun hx => ?_, fun hx => ?_⟩
    · have hj2 : j = 4 := by have := gI (a := 4) hx; omega
      subst hj2
      clear hrec
      rw [gD2_e]
      refine j_lives ok hJ11 (fun M13 hJ13 hH13 => ?_)
      refine it2_f2 24 (by omega) (fun j x => x = fo (fun i h => mi (mi (mi h (q_fall A (nI i))) (q_snow A (nI i) 0)) (q_snow A (nI i) 1)) (gD2 A) j) (fun rc j x hj hI hrec => ?_) 0 (gD2 A) (by omega) (fo0 _ _).symm
      subst hI
      refine ⟨fun hx => ?_, fun hx => ?_⟩
      · have hj2 : j = 24 := by have := gI (a := 24) hx; omega
        subst hj2
        clear hrec
        rw [gD3_e]
        refine it3_f2 12 (by omega) (fun j x M' => RJ A M' ∧ x = fo (fun i h => mi (mi (mi (mi h (q_land A (nI i))) (q_deep A 6 (nI i))) (q_deep A 20 (nI i))) (q_lie A (nI i))) (gD3 A) j) (fun rc j x M24 hj hI hrec => ?_) 0 (gD3 A) M13 (by omega) ⟨hJ13, (fo0 _ _).symm⟩
        obtain ⟨hJ24, rfl⟩ := hI
        refine ⟨fun hx => ?_, fun hx => ?_⟩
        · have hj2 : j = 12 := by have := gI (a := 12) hx; omega
          subst hj2
          clear hrec
          rw [gD4_e]
          refine it3_f2 (tld A 2 0) (by omega) (fun j x M' => RJ A M' ∧ x = fo (gP A) (gD4 A) j) (fun rc j x M30 hj hI hrec => ?_) 0 (gD4 A) M24 (by omega) ⟨hJ24, (fo0 _ _).symm⟩
          obtain ⟨hJ30, rfl⟩ := hI
          rw [hJ30.2.2.2.1]
          refine ⟨fun hx => ?_, fun hx => ?_⟩
          · have hj2 : j = tld A 2 0 := by have := gI hx; omega
            subst hj2
            clear hrec
            rw [gD5_e]
            refine it3_f2 (tld A 2 1) (by omega) (fun j x M' => RJ A M' ∧ x = fo (gB A) (gD5 A) j) (fun rc j x M36 hj hI hrec => ?_) 0 (gD5 A) M30 (by omega) ⟨hJ30, (fo0 _ _).symm⟩
            obtain ⟨hJ36, rfl⟩ := hI
            rw [hJ36.2.2.2.2.1]
            refine ⟨fun hx => ?_, fun hx => ?_⟩
            · have hj2 : j = tld A 2 1 := by have := gI hx; omega
              subst hj2
              clear hrec
              rw [gD6_e]
              refine j_lives ok hJ36 (fun M38 hJ38 hH38 => ?_)
              refine it2_f2 3 (by omega) (fun j x => x = fo (fun i h => mi h (q_deepest A (nI i))) (gD6 A) j) (fun rc j x hj hI hrec => ?_) 0 (gD6 A) (by omega) (fo0 _ _).symm
              subst hI
              refine ⟨fun hx => ?_, fun hx => ?_⟩
              · have hj2 : j = 3 := by have := gI (a := 3) hx; omega
                subst hj2
                rw [gD7_e]
                refine r_shutNow okt hH38 (fun x46 h46 => r_bestNow okt hJ38.2 hH38 (fun x48 h48 => ?_))
                refine r_hedgeBy okt hJ38.2 hJ38.1.g (fun M49 hF49 x51 h51 => ?_)
                have hJ49 := hJ38.fr hF49
                refine r_hedgeBy okt hJ49.2 hJ49.1.g (fun M52 hF52 x54 h54 => ?_)
                have hJ52 := hJ49.fr hF52
                refine r_spareBy okt hJ52.2 hJ52.1.g (fun M55 hF55 x57 h57 => ?_)
                have hJ55 := hJ52.fr hF55
                refine r_spareBy okt hJ55.2 hJ55.1.g (fun M58 hF58 x60 h60 => ?_)
                have hJ58 := hJ55.fr hF58
                refine r_neverNow ok okt hJ58.2 hJ58.1.si hJ58.1.g (fun M61 hF61 x63 h63 => ?_)
                have hJ61 := hJ58.fr hF61
                refine r_wintersOf (n := 15) ok hJ61 (by omega) (fun M64 hJ64 x66 h66 => ?_)
                refine r_wintersOf (n := 15) ok hJ64 (by omega) (fun M67 hJ67 => ?_)
                have := K M67 hJ67.1
                unfold q_dig at this
                rw [show q_hedge A 0 = v_hedge (tld A) 0 from if_pos (inb_nI (j := 0) (n := 2) (by omega)), show q_hedge A 1 = v_hedge (tld A) 1 from if_pos (inb_nI (j := 1) (n := 2) (by omega)), show q_spare A (-1) = v_spare (tld A) (-1) from if_pos (by decide), show q_spare A 0 = v_spare (tld A) 0 from if_pos (by decide), show q_win A 7 15 0 = v_win (tld A) 7 15 0 from by unfold q_win; rw [if_pos (show inb 15 25 from inb_nI (j := 15) (n := 25) (by omega)), if_pos (show inb 0 2 from inb_nI (j := 0) (n := 2) (by omega))]; rfl, show q_win A 7 15 1 = v_win (tld A) 7 15 1 from by unfold q_win; rw [if_pos (show inb 15 25 from inb_nI (j := 15) (n := 25) (by omega)), if_pos (show inb 1 2 from inb_nI (j := 1) (n := 2) (by omega))]; rfl] at this
                subst h66 h63 h60 h57 h54 h51 h48 h46
                exact this
              · have hlt : j < 3 := ngI (a := 3) hx
                refine r_deepestBy okt hH38 (fun x70 h70 => hrec x70 hlt ?_)
                rw [show v_deepest (tld A) (nI j) = q_deepest A (nI j) from (if_pos (inb_nI hlt)).symm] at h70
                exact h70
            · have hlt : j < tld A 2 1 := ngI hx
              exact j_bus ok hJ36 hlt (fun M71 hJ71 => hrec _ M71 hlt ⟨hJ71, rfl⟩)
          · have hlt : j < tld A 2 0 := ngI hx
            exact j_plough ok hJ30 hlt (fun M73 hJ73 => hrec _ M73 hlt ⟨hJ73, rfl⟩)
        · have hlt : j < 12 := ngI (a := 12) hx
          refine j_lives ok hJ24 (fun M75 hJ75 hH75 => ?_)
          have d : ∀ h, h < 24 → ∀ i, i < 12 → q_deep A (nI h) (nI i) = nI (dep (tld A) allOn h i) := fun h hh i hi => by
            unfold q_deep; rw [if_pos (inb_nI hh), if_pos (inb_nI hi), tnI (by omega), tnI (by omega)]
          rw [show (72 : Int32) + nI j = nI (72 + j) from nI_add 72 j, show (240 : Int32) + nI j = nI (240 + j) from nI_add 240 j, tnI (by omega : j < 2 ^ 31), tnI (by omega : 72 + j < 2 ^ 31), tnI (by omega : 240 + j < 2 ^ 31), hJ75.2.1 j hlt, hH75.d (h := 6) (by omega) j hlt, hH75.d (h := 20) (by omega) j hlt]
          refine ⟨vI hlt, fun x78 h78 => ⟨vI (by omega), fun x80 h80 => ⟨vI (by omega), fun x82 h82 => ?_⟩⟩⟩
          refine r_lieOf ok okt hJ75.2 hJ75.1.si hJ75.1.g hlt (fun M83 hF83 x85 h85 => hrec x85 M83 hlt ⟨hJ75.fr hF83, ?_⟩)
          rw [show v_lie A (tld A) j = q_lie A (nI j) by unfold q_lie; rw [if_pos (inb_nI hlt), tnI (by omega)]] at h85
          rw [← d 20 (by omega) j hlt] at h82
          rw [← d 6 (by omega) j hlt] at h80
          rw [show nI (tld A 0 j) = q_land A (nI j) by unfold q_land; rw [if_pos (inb_nI hlt), tnI (by omega)]] at h78
          subst h82 h80 h78
          exact h85
      · have hlt : j < 24 := ngI (a := 24) hx
        rw [tnI (by omega : j < 2 ^ 31), hJ13.2.2.1 j hlt]
        refine ⟨vI hlt, fun x87 h87 => r_snowBy hlt (hH13.d hlt) (dep_le okt hlt) (fun x89 h89 => r_snowBy hlt (hH13.d hlt) (dep_le okt hlt) (fun x91 h91 => hrec x91 hlt ?_))⟩
        rw [show nI (tld A 1 j) = q_fall A (nI j) by unfold q_fall; rw [if_pos (inb_nI hlt), tnI (by omega)]] at h87
        have e0 : q_snow A (nI j) 0 = nI (snw (tld A) allOn j) := by unfold q_snow; rw [if_pos (inb_nI hlt), if_pos (show inb 0 2 from inb_nI (j := 0) (n := 2) (by omega)), if_pos rfl, tnI (by omega)]
        have e1 : q_snow A (nI j) 1 = nI (dpm (tld A) allOn j) := by unfold q_snow; rw [if_pos (inb_nI hlt), if_pos (show inb 1 2 from inb_nI (j := 1) (n := 2) (by omega)), if_neg (by decide), tnI (by omega)]
        show x91 = mi (mi (mi _ _) (q_snow A (nI j) 0)) (q_snow A (nI j) 1)
        rw [e0, e1]
        subst h89 h87
        exact h91
    · have hlt : j < 4 := ngI (a := 4) hx
      refine j_text ok hJ11 hlt (fun M92 hJ92 x94 h94 => hrec x94 M92 hlt ⟨hJ92, ?_⟩)
      rw [show flt j (abt A j) (aln A j) = q_fault A (nI j) by unfold q_fault; rw [if_pos (inb_nI hlt), tnI (by omega)]] at h94
      exact h94
  · have hlt : j < 8 := ngI (a := 8) hx
    exact j_count ok hR5 (fun M95 hJ95 x97 h97 => hrec x97 M95 hlt ⟨hJ95.1, fun _ => hJ95, h97⟩)
