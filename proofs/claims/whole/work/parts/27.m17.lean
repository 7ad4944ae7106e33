theorem d_X_over_0 : decode prog_1_method_18_code 0 = .ok (.iload_n 1, 1) := by decide +kernel
theorem d_X_over_1 : decode prog_1_method_18_code 1 = .ok (.aload_n 0, 1) := by decide +kernel
theorem d_X_over_2 : decode prog_1_method_18_code 2 = .ok (.getfield 18, 3) := by decide +kernel
theorem d_X_over_5 : decode prog_1_method_18_code 5 = .ok (.getfield 106, 3) := by decide +kernel
theorem d_X_over_8 : decode prog_1_method_18_code 8 = .ok (.invokestatic 70, 3) := by decide +kernel
theorem d_X_over_11 : decode prog_1_method_18_code 11 = .ok (.ifCond .ne (11), 3) := by decide +kernel
theorem d_X_over_14 : decode prog_1_method_18_code 14 = .ok (.iload_n 2, 1) := by decide +kernel
theorem d_X_over_15 : decode prog_1_method_18_code 15 = .ok (.iconst 2, 1) := by decide +kernel
theorem d_X_over_16 : decode prog_1_method_18_code 16 = .ok (.invokestatic 70, 3) := by decide +kernel
theorem d_X_over_19 : decode prog_1_method_18_code 19 = .ok (.ifCond .eq (6), 3) := by decide +kernel
theorem d_X_over_22 : decode prog_1_method_18_code 22 = .ok (.bipush (-2), 2) := by decide +kernel
theorem d_X_over_24 : decode prog_1_method_18_code 24 = .ok (.ireturn, 1) := by decide +kernel
theorem d_X_over_25 : decode prog_1_method_18_code 25 = .ok (.aload_n 0, 1) := by decide +kernel
theorem d_X_over_26 : decode prog_1_method_18_code 26 = .ok (.invokevirtual 145, 3) := by decide +kernel
theorem d_X_over_29 : decode prog_1_method_18_code 29 = .ok (.astore_n 3, 1) := by decide +kernel
theorem d_X_over_30 : decode prog_1_method_18_code 30 = .ok (.aload_n 3, 1) := by decide +kernel
theorem d_X_over_31 : decode prog_1_method_18_code 31 = .ok (.aload_n 0, 1) := by decide +kernel
theorem d_X_over_32 : decode prog_1_method_18_code 32 = .ok (.getfield 18, 3) := by decide +kernel
theorem d_X_over_35 : decode prog_1_method_18_code 35 = .ok (.getfield 109, 3) := by decide +kernel
theorem d_X_over_38 : decode prog_1_method_18_code 38 = .ok (.iload_n 1, 1) := by decide +kernel
theorem d_X_over_39 : decode prog_1_method_18_code 39 = .ok (.iaload, 1) := by decide +kernel
theorem d_X_over_40 : decode prog_1_method_18_code 40 = .ok (.bipush 23, 2) := by decide +kernel
theorem d_X_over_42 : decode prog_1_method_18_code 42 = .ok (.invokevirtual 161, 3) := by decide +kernel
theorem d_X_over_45 : decode prog_1_method_18_code 45 = .ok (.iload_n 2, 1) := by decide +kernel
theorem d_X_over_46 : decode prog_1_method_18_code 46 = .ok (.ifCond .ne (10), 3) := by decide +kernel
theorem d_X_over_49 : decode prog_1_method_18_code 49 = .ok (.aload_n 3, 1) := by decide +kernel
theorem d_X_over_50 : decode prog_1_method_18_code 50 = .ok (.getfield 174, 3) := by decide +kernel
theorem d_X_over_53 : decode prog_1_method_18_code 53 = .ok (.goto (7), 3) := by decide +kernel
theorem d_X_over_56 : decode prog_1_method_18_code 56 = .ok (.aload_n 3, 1) := by decide +kernel
theorem d_X_over_57 : decode prog_1_method_18_code 57 = .ok (.getfield 177, 3) := by decide +kernel
theorem d_X_over_60 : decode prog_1_method_18_code 60 = .ok (.ireturn, 1) := by decide +kernel
def wp_X_over (a1 : Int32) (a2 : Int32) (M : Mem) (post : Int32 → Mem → Prop) : Prop :=
  ((((pf_X_outside a1 (M 10 6)) = 0) → ((((pf_X_outside a2 2) = 0) → wp_X_asTold M (fun M5 => vp_in a1 8 ∧ wp_XW_ride 32 (M5 16 (tn a1)) 23 M5 (fun M8 => ∀ u11 : Int32, u11 = (if a2 = 0 then (M8 32 13) else (M8 32 14)) → post u11 M8))) ∧ (¬ ((pf_X_outside a2 2) = 0) → post (-2) M))) ∧ (¬ ((pf_X_outside a1 (M 10 6)) = 0) → post (-2) M))
set_option maxHeartbeats 4000000 in
set_option maxRecDepth 100000 in
theorem c_X_over (g : GX) {a1 : Int32} {a2 : Int32} {M : Mem} {post : Int32 → Mem → Prop} (hw : wp_X_over a1 a2 M post) : CtI (oX g) y_X_over prog_1_method_18_code 4 (some .int) (rl 4) [.ref (ax g 0), .int a1, .int a2] M post := by
  refine z_metI (oX_ok g) (by decide) rfl (fun X C hr => ?_)
  show Zj X 4 (oX g) M 0 [(0, .ref (ax g 0)), (1, .int a1), (2, .int a2)] []
  unfold wp_X_over at hw
  refine z_iload_n C d_X_over_0 rfl 1 rfl ?_
  refine z_aload_n C d_X_over_1 rfl 0 rfl ?_
  refine gf_X_18 C d_X_over_2 ?_
  refine gf_X_106 C d_X_over_5 ?_
  refine z_callSi C (As := [.int a1, .int (M 10 6)]) (rest := []) m_X_outside tw_251 ⟨rfl, rfl⟩ (c_X_outside (oX_ok g) _ _ _) rfl rfl rfl d_X_over_8 (fun r M2 hq => ?_)
  obtain ⟨rfl, rfl⟩ := hq
  refine z_if_ne C 22 d_X_over_11 (by decide) (fun h2 => ?_) (fun h2 => ?_)
  · replace hw := hw.2 h2
    refine z_bipush (v := (-2)) C d_X_over_22 (by decide) ?_
    exact z_iret C hr hw d_X_over_24
  · replace hw := hw.1 h2
    refine z_iload_n C d_X_over_14 rfl 2 rfl ?_
    refine z_iconst (v := 2) C d_X_over_15 (by decide) ?_
    refine z_callSi C (As := [.int a2, .int 2]) (rest := []) m_X_outside tw_251 ⟨rfl, rfl⟩ (c_X_outside (oX_ok g) _ _ _) rfl rfl rfl d_X_over_16 (fun r M2 hq => ?_)
    obtain ⟨rfl, rfl⟩ := hq
    refine z_if_eq C 25 d_X_over_19 (by decide) (fun h4 => ?_) (fun h4 => ?_)
    · replace hw := hw.1 h4
      refine z_aload_n C d_X_over_25 rfl 0 rfl ?_
      refine z_callVr C (As := []) (rest := []) m_X_asTold tw_358 0 (le_X) rfl ⟨rfl, rfl⟩ (c_X_asTold g hw) rfl rfl rfl d_X_over_26 (fun M5 hw => ?_)
      refine z_astore_n (lv' := [(3, .ref (ax g 32)), (0, .ref (ax g 0)), (1, .int a1), (2, .int a2)]) C d_X_over_29 rfl rfl rfl ?_
      refine z_aload_n C d_X_over_30 rfl 0 rfl ?_
      refine z_aload_n C d_X_over_31 rfl 1 rfl ?_
      refine gf_X_18 C d_X_over_32 ?_
      refine gf_X_109 C d_X_over_35 ?_
      refine z_iload_n C d_X_over_38 rfl 2 rfl ?_
      have hv7 := hw.1
      replace hw := hw.2
      refine z_al (zar_x16) C hv7 d_X_over_39 ?_
      refine z_bipush (v := 23) C d_X_over_40 (by decide) ?_
      refine z_callVv C (As := [.int (M5 16 (tn a1)), .int 23]) (rest := []) m_XW_ride tw_412 32 (le_XW (Or.inl rfl)) rfl ⟨rfl, rfl⟩ (c_XW_ride g (Or.inl rfl) hw) rfl rfl rfl d_X_over_42 (fun M8 hw => ?_)
      refine z_iload_n C d_X_over_45 rfl 3 rfl ?_
      have hj12 : ∀ u11 : Int32, u11 = (if a2 = 0 then (M8 32 13) else (M8 32 14)) → Zj X 4 (oX g) M8 60 [] [.int u11] := by
        intro u11 hu11
        replace hw := hw u11 hu11
        exact z_iret C hr hw d_X_over_60
      refine z_if_ne C 56 d_X_over_46 (by decide) (fun h10 => ?_) (fun h10 => ?_)
      · refine z_aload_n C d_X_over_56 rfl 0 rfl ?_
        refine gf_X_177 (Or.inl rfl) C d_X_over_57 ?_
        refine z_sub [] rfl ?_
        exact hj12 _ ((if_neg h10)).symm
      · refine z_aload_n C d_X_over_49 rfl 0 rfl ?_
        refine gf_X_174 (Or.inl rfl) C d_X_over_50 ?_
        refine z_goto C 60 d_X_over_53 (by decide) ?_
        refine z_sub [] rfl ?_
        exact hj12 _ ((if_pos h10)).symm
    · replace hw := hw.2 h4
      refine z_bipush (v := (-2)) C d_X_over_22 (by decide) ?_
      exact z_iret C hr hw d_X_over_24
theorem d_X_cleared_0 : decode prog_1_method_19_code 0 = .ok (.iload_n 1, 1) := by decide +kernel
theorem d_X_cleared_1 : decode prog_1_method_19_code 1 = .ok (.aload_n 0, 1) := by decide +kernel
theorem d_X_cleared_2 : decode prog_1_method_19_code 2 = .ok (.getfield 18, 3) := by decide +kernel
theorem d_X_cleared_5 : decode prog_1_method_19_code 5 = .ok (.getfield 94, 3) := by decide +kernel
theorem d_X_cleared_8 : decode prog_1_method_19_code 8 = .ok (.invokestatic 70, 3) := by decide +kernel
theorem d_X_cleared_11 : decode prog_1_method_19_code 11 = .ok (.ifCond .ne (11), 3) := by decide +kernel
theorem d_X_cleared_14 : decode prog_1_method_19_code 14 = .ok (.iload_n 2, 1) := by decide +kernel
theorem d_X_cleared_15 : decode prog_1_method_19_code 15 = .ok (.iconst 2, 1) := by decide +kernel
theorem d_X_cleared_16 : decode prog_1_method_19_code 16 = .ok (.invokestatic 70, 3) := by decide +kernel
theorem d_X_cleared_19 : decode prog_1_method_19_code 19 = .ok (.ifCond .eq (6), 3) := by decide +kernel
theorem d_X_cleared_22 : decode prog_1_method_19_code 22 = .ok (.bipush (-2), 2) := by decide +kernel
theorem d_X_cleared_24 : decode prog_1_method_19_code 24 = .ok (.ireturn, 1) := by decide +kernel
theorem d_X_cleared_25 : decode prog_1_method_19_code 25 = .ok (.iload_n 2, 1) := by decide +kernel
theorem d_X_cleared_26 : decode prog_1_method_19_code 26 = .ok (.ifCond .ne (15), 3) := by decide +kernel
theorem d_X_cleared_29 : decode prog_1_method_19_code 29 = .ok (.aload_n 0, 1) := by decide +kernel
theorem d_X_cleared_30 : decode prog_1_method_19_code 30 = .ok (.invokevirtual 145, 3) := by decide +kernel
theorem d_X_cleared_33 : decode prog_1_method_19_code 33 = .ok (.getfield 180, 3) := by decide +kernel
theorem d_X_cleared_36 : decode prog_1_method_19_code 36 = .ok (.iload_n 1, 1) := by decide +kernel
theorem d_X_cleared_37 : decode prog_1_method_19_code 37 = .ok (.iaload, 1) := by decide +kernel
theorem d_X_cleared_38 : decode prog_1_method_19_code 38 = .ok (.goto (12), 3) := by decide +kernel
theorem d_X_cleared_41 : decode prog_1_method_19_code 41 = .ok (.aload_n 0, 1) := by decide +kernel
theorem d_X_cleared_42 : decode prog_1_method_19_code 42 = .ok (.invokevirtual 145, 3) := by decide +kernel
theorem d_X_cleared_45 : decode prog_1_method_19_code 45 = .ok (.getfield 183, 3) := by decide +kernel
theorem d_X_cleared_48 : decode prog_1_method_19_code 48 = .ok (.iload_n 1, 1) := by decide +kernel
theorem d_X_cleared_49 : decode prog_1_method_19_code 49 = .ok (.iaload, 1) := by decide +kernel
theorem d_X_cleared_50 : decode prog_1_method_19_code 50 = .ok (.ireturn, 1) := by decide +kernel
def wp_X_cleared (a1 : Int32) (a2 : Int32) (M : Mem) (post : Int32 → Mem → Prop) : Prop :=
  ((((pf_X_outside a1 (M 10 2)) = 0) → ((((pf_X_outside a2 2) = 0) → (((a2 = 0) → wp_X_asTold M (fun M9 => vp_in a1 4 ∧ post (M9 (32 + 5) (tn a1)) M9)) ∧ (¬ (a2 = 0) → wp_X_asTold M (fun M6 => vp_in a1 4 ∧ post (M6 (32 + 6) (tn a1)) M6)))) ∧ (¬ ((pf_X_outside a2 2) = 0) → post (-2) M))) ∧ (¬ ((pf_X_outside a1 (M 10 2)) = 0) → post (-2) M))
set_option maxHeartbeats 4000000 in
set_option maxRecDepth 100000 in
theorem c_X_cleared (g : GX) {a1 : Int32} {a2 : Int32} {M : Mem} {post : Int32 → Mem → Prop} (hw : wp_X_cleared a1 a2 M post) : CtI (oX g) y_X_cleared prog_1_method_19_code 3 (some .int) (rl 4) [.ref (ax g 0), .int a1, .int a2] M post := by
  refine z_metI (oX_ok g) (by decide) rfl (fun X C hr => ?_)
  show Zj X 3 (oX g) M 0 [(0, .ref (ax g 0)), (1, .int a1), (2, .int a2)] []
  unfold wp_X_cleared at hw
  refine z_iload_n C d_X_cleared_0 rfl 1 rfl ?_
  refine z_aload_n C d_X_cleared_1 rfl 0 rfl ?_
  refine gf_X_18 C d_X_cleared_2 ?_
  refine gf_X_94 C d_X_cleared_5 ?_
  refine z_callSi C (As := [.int a1, .int (M 10 2)]) (rest := []) m_X_outside tw_251 ⟨rfl, rfl⟩ (c_X_outside (oX_ok g) _ _ _) rfl rfl rfl d_X_cleared_8 (fun r M2 hq => ?_)
  obtain ⟨rfl, rfl⟩ := hq
  refine z_if_ne C 22 d_X_cleared_11 (by decide) (fun h2 => ?_) (fun h2 => ?_)
  · replace hw := hw.2 h2
    refine z_bipush (v := (-2)) C d_X_cleared_22 (by decide) ?_
    exact z_iret C hr hw d_X_cleared_24
  · replace hw := hw.1 h2
    refine z_iload_n C d_X_cleared_14 rfl 2 rfl ?_
    refine z_iconst (v := 2) C d_X_cleared_15 (by decide) ?_
    refine z_callSi C (As := [.int a2, .int 2]) (rest := []) m_X_outside tw_251 ⟨rfl, rfl⟩ (c_X_outside (oX_ok g) _ _ _) rfl rfl rfl d_X_cleared_16 (fun r M2 hq => ?_)
    obtain ⟨rfl, rfl⟩ := hq
    refine z_if_eq C 25 d_X_cleared_19 (by decide) (fun h4 => ?_) (fun h4 => ?_)
    · replace hw := hw.1 h4
      refine z_iload_n C d_X_cleared_25 rfl 2 rfl ?_
      refine z_if_ne C 41 d_X_cleared_26 (by decide) (fun h5 => ?_) (fun h5 => ?_)
      · replace hw := hw.2 h5
        refine z_aload_n C d_X_cleared_41 rfl 0 rfl ?_
        refine z_callVr C (As := []) (rest := []) m_X_asTold tw_358 0 (le_X) rfl ⟨rfl, rfl⟩ (c_X_asTold g hw) rfl rfl rfl d_X_cleared_42 (fun M6 hw => ?_)
        refine gf_X_183 (Or.inl rfl) C d_X_cleared_45 ?_
        refine z_iload_n C d_X_cleared_48 rfl 1 rfl ?_
        have hv8 := hw.1
        replace hw := hw.2
        refine z_al (zar_xW6 (Or.inl rfl)) C hv8 d_X_cleared_49 ?_
        exact z_iret C hr hw d_X_cleared_50
      · replace hw := hw.1 h5
        refine z_aload_n C d_X_cleared_29 rfl 0 rfl ?_
        refine z_callVr C (As := []) (rest := []) m_X_asTold tw_358 0 (le_X) rfl ⟨rfl, rfl⟩ (c_X_asTold g hw) rfl rfl rfl d_X_cleared_30 (fun M9 hw => ?_)
        refine gf_X_180 (Or.inl rfl) C d_X_cleared_33 ?_
        refine z_iload_n C d_X_cleared_36 rfl 1 rfl ?_
        have hv11 := hw.1
        replace hw := hw.2
        refine z_al (zar_xW5 (Or.inl rfl)) C hv11 d_X_cleared_37 ?_
        refine z_goto C 50 d_X_cleared_38 (by decide) ?_
        exact z_iret C hr hw d_X_cleared_50
    · replace hw := hw.2 h4
      refine z_bipush (v := (-2)) C d_X_cleared_22 (by decide) ?_
      exact z_iret C hr hw d_X_cleared_24
theorem d_X_deepest_0 : decode prog_1_method_20_code 0 = .ok (.iload_n 1, 1) := by decide +kernel
theorem d_X_deepest_1 : decode prog_1_method_20_code 1 = .ok (.iconst 3, 1) := by decide +kernel
theorem d_X_deepest_2 : decode prog_1_method_20_code 2 = .ok (.invokestatic 70, 3) := by decide +kernel
theorem d_X_deepest_5 : decode prog_1_method_20_code 5 = .ok (.ifCond .eq (6), 3) := by decide +kernel
theorem d_X_deepest_8 : decode prog_1_method_20_code 8 = .ok (.bipush (-2), 2) := by decide +kernel
theorem d_X_deepest_10 : decode prog_1_method_20_code 10 = .ok (.ireturn, 1) := by decide +kernel
theorem d_X_deepest_11 : decode prog_1_method_20_code 11 = .ok (.aload_n 0, 1) := by decide +kernel
theorem d_X_deepest_12 : decode prog_1_method_20_code 12 = .ok (.invokevirtual 145, 3) := by decide +kernel
theorem d_X_deepest_15 : decode prog_1_method_20_code 15 = .ok (.invokevirtual 186, 3) := by decide +kernel
theorem d_X_deepest_18 : decode prog_1_method_20_code 18 = .ok (.istore_n 2, 1) := by decide +kernel
theorem d_X_deepest_19 : decode prog_1_method_20_code 19 = .ok (.iload_n 1, 1) := by decide +kernel
theorem d_X_deepest_20 : decode prog_1_method_20_code 20 = .ok (.ifCond .ne (13), 3) := by decide +kernel
theorem d_X_deepest_23 : decode prog_1_method_20_code 23 = .ok (.aload_n 0, 1) := by decide +kernel
theorem d_X_deepest_24 : decode prog_1_method_20_code 24 = .ok (.getfield 42, 3) := by decide +kernel
theorem d_X_deepest_27 : decode prog_1_method_20_code 27 = .ok (.getfield 149, 3) := by decide +kernel
theorem d_X_deepest_30 : decode prog_1_method_20_code 30 = .ok (.iload_n 2, 1) := by decide +kernel
theorem d_X_deepest_31 : decode prog_1_method_20_code 31 = .ok (.iaload, 1) := by decide +kernel
theorem d_X_deepest_32 : decode prog_1_method_20_code 32 = .ok (.ireturn, 1) := by decide +kernel
theorem d_X_deepest_33 : decode prog_1_method_20_code 33 = .ok (.iload_n 1, 1) := by decide +kernel
theorem d_X_deepest_34 : decode prog_1_method_20_code 34 = .ok (.iconst 1, 1) := by decide +kernel
theorem d_X_deepest_35 : decode prog_1_method_20_code 35 = .ok (.if_icmp .ne (10), 3) := by decide +kernel
theorem d_X_deepest_38 : decode prog_1_method_20_code 38 = .ok (.iload_n 2, 1) := by decide +kernel
theorem d_X_deepest_39 : decode prog_1_method_20_code 39 = .ok (.bipush 12, 2) := by decide +kernel
theorem d_X_deepest_41 : decode prog_1_method_20_code 41 = .ok (.idiv, 1) := by decide +kernel
theorem d_X_deepest_42 : decode prog_1_method_20_code 42 = .ok (.goto (7), 3) := by decide +kernel
theorem d_X_deepest_45 : decode prog_1_method_20_code 45 = .ok (.iload_n 2, 1) := by decide +kernel
theorem d_X_deepest_46 : decode prog_1_method_20_code 46 = .ok (.bipush 12, 2) := by decide +kernel
theorem d_X_deepest_48 : decode prog_1_method_20_code 48 = .ok (.irem, 1) := by decide +kernel
theorem d_X_deepest_49 : decode prog_1_method_20_code 49 = .ok (.ireturn, 1) := by decide +kernel
def wp_X_deepest (a1 : Int32) (M : Mem) (post : Int32 → Mem → Prop) : Prop :=
  ((((pf_X_outside a1 3) = 0) → wp_X_asTold M (fun M3 => wp_XW_deepestPlace 32 M3 (fun r5 => (((a1 = 0) → vp_in r5 288 ∧ post (M3 (32 + 1) (tn r5)) M3) ∧ (¬ (a1 = 0) → ∀ u8 : Int32, u8 = (if a1 = 1 then (r5 / 12) else (r5 - r5 / 12 * 12)) → post u8 M3))))) ∧ (¬ ((pf_X_outside a1 3) = 0) → post (-2) M))
set_option maxHeartbeats 4000000 in
set_option maxRecDepth 100000 in
theorem c_X_deepest (g : GX) {a1 : Int32} {M : Mem} {post : Int32 → Mem → Prop} (hw : wp_X_deepest a1 M post) : CtI (oX g) y_X_deepest prog_1_method_20_code 3 (some .int) (rl 4) [.ref (ax g 0), .int a1] M post := by
  refine z_metI (oX_ok g) (by decide) rfl (fun X C hr => ?_)
  show Zj X 3 (oX g) M 0 [(0, .ref (ax g 0)), (1, .int a1)] []
  unfold wp_X_deepest at hw
  refine z_iload_n C d_X_deepest_0 rfl 1 rfl ?_
  refine z_iconst (v := 3) C d_X_deepest_1 (by decide) ?_
  refine z_callSi C (As := [.int a1, .int 3]) (rest := []) m_X_outside tw_251 ⟨rfl, rfl⟩ (c_X_outside (oX_ok g) _ _ _) rfl rfl rfl d_X_deepest_2 (fun r M2 hq => ?_)
  obtain ⟨rfl, rfl⟩ := hq
  refine z_if_eq C 11 d_X_deepest_5 (by decide) (fun h2 => ?_) (fun h2 => ?_)
  · replace hw := hw.1 h2
    refine z_aload_n C d_X_deepest_11 rfl 0 rfl ?_
    refine z_callVr C (As := []) (rest := []) m_X_asTold tw_358 0 (le_X) rfl ⟨rfl, rfl⟩ (c_X_asTold g hw) rfl rfl rfl d_X_deepest_12 (fun M3 hw => ?_)
    refine z_callVi C (As := []) (rest := []) m_XW_deepestPlace tw_444 32 (le_XW (Or.inl rfl)) rfl ⟨rfl, rfl⟩ (c_XW_deepestPlace g (Or.inl rfl) hw) rfl rfl rfl d_X_deepest_15 (fun r5 M2 hq => ?_)
    obtain ⟨rfl, hw⟩ := hq
    refine z_istore_n (lv' := [(2, .int r5), (0, .ref (ax g 0)), (1, .int a1)]) C d_X_deepest_18 rfl rfl rfl ?_
    refine z_iload_n C d_X_deepest_19 rfl 2 rfl ?_
    refine z_if_ne C 33 d_X_deepest_20 (by decide) (fun h6 => ?_) (fun h6 => ?_)
    · replace hw := hw.2 h6
      refine z_iload_n C d_X_deepest_33 rfl 2 rfl ?_
      refine z_iconst (v := 1) C d_X_deepest_34 (by decide) ?_
      have hj9 : ∀ u8 : Int32, u8 = (if a1 = 1 then (r5 / 12) else (r5 - r5 / 12 * 12)) → Zj X 3 (oX g) M3 49 [] [.int u8] := by
        intro u8 hu8
        replace hw := hw u8 hu8
        exact z_iret C hr hw d_X_deepest_49
      refine z_ic_ne C 45 d_X_deepest_35 (by decide) (fun h7 => ?_) (fun h7 => ?_)
      · refine z_iload_n C d_X_deepest_45 rfl 0 rfl ?_
        refine z_bipush (v := 12) C d_X_deepest_46 (by decide) ?_
        refine z_irem C d_X_deepest_48 (by decide) ?_
        refine z_sub [] rfl ?_
        exact hj9 _ ((if_neg h7)).symm
      · refine z_iload_n C d_X_deepest_38 rfl 0 rfl ?_
        refine z_bipush (v := 12) C d_X_deepest_39 (by decide) ?_
        refine z_idiv C d_X_deepest_41 (by decide) ?_
        refine z_goto C 49 d_X_deepest_42 (by decide) ?_
        refine z_sub [] rfl ?_
        exact hj9 _ ((if_pos h7)).symm
    · replace hw := hw.1 h6
      refine z_aload_n C d_X_deepest_23 rfl 1 rfl ?_
      refine gf_X_42 C d_X_deepest_24 ?_
      refine gf_X_149 (Or.inl rfl) C d_X_deepest_27 ?_
      refine z_iload_n C d_X_deepest_30 rfl 0 rfl ?_
      have hv10 := hw.1
      replace hw := hw.2
      refine z_al (zar_xW1 (Or.inl rfl)) C hv10 d_X_deepest_31 ?_
      exact z_iret C hr hw d_X_deepest_32
  · replace hw := hw.2 h2
    refine z_bipush (v := (-2)) C d_X_deepest_8 (by decide) ?_
    exact z_iret C hr hw d_X_deepest_10
theorem d_X_shut_0 : decode prog_1_method_21_code 0 = .ok (.iconst 0, 1) := by decide +kernel
theorem d_X_shut_1 : decode prog_1_method_21_code 1 = .ok (.istore_n 1, 1) := by decide +kernel
theorem d_X_shut_2 : decode prog_1_method_21_code 2 = .ok (.iconst 0, 1) := by decide +kernel
theorem d_X_shut_3 : decode prog_1_method_21_code 3 = .ok (.istore_n 2, 1) := by decide +kernel
theorem d_X_shut_4 : decode prog_1_method_21_code 4 = .ok (.iload_n 2, 1) := by decide +kernel
theorem d_X_shut_5 : decode prog_1_method_21_code 5 = .ok (.bipush 24, 2) := by decide +kernel
theorem d_X_shut_7 : decode prog_1_method_21_code 7 = .ok (.if_icmp .ge (23), 3) := by decide +kernel
theorem d_X_shut_10 : decode prog_1_method_21_code 10 = .ok (.aload_n 0, 1) := by decide +kernel
theorem d_X_shut_11 : decode prog_1_method_21_code 11 = .ok (.invokevirtual 145, 3) := by decide +kernel
theorem d_X_shut_14 : decode prog_1_method_21_code 14 = .ok (.iload_n 2, 1) := by decide +kernel
theorem d_X_shut_15 : decode prog_1_method_21_code 15 = .ok (.invokevirtual 171, 3) := by decide +kernel
theorem d_X_shut_18 : decode prog_1_method_21_code 18 = .ok (.ifCond .le (6), 3) := by decide +kernel
theorem d_X_shut_21 : decode prog_1_method_21_code 21 = .ok (.iinc 1 1, 3) := by decide +kernel
theorem d_X_shut_24 : decode prog_1_method_21_code 24 = .ok (.iinc 2 1, 3) := by decide +kernel
theorem d_X_shut_27 : decode prog_1_method_21_code 27 = .ok (.goto (-23), 3) := by decide +kernel
theorem d_X_shut_30 : decode prog_1_method_21_code 30 = .ok (.iload_n 1, 1) := by decide +kernel
theorem d_X_shut_31 : decode prog_1_method_21_code 31 = .ok (.ireturn, 1) := by decide +kernel
def wp_X_shut (M : Mem) (post : Int32 → Mem → Prop) : Prop :=
  (it3 (fun rec1 (i3 : Int32) (i4 : Int32) (M5 : Mem) => (((24 ≤ i4) → post i3 M5) ∧ (¬ (24 ≤ i4) → wp_X_asTold M5 (fun M7 => wp_XW_deepMilesBehind 32 i4 M7 (fun r9 => ∀ u11 : Int32, u11 = (if r9 ≤ 0 then i3 else (i3 + 1)) → rec1 u11 (i4 + 1) M7))))) 4096 0 0 M)
set_option maxHeartbeats 4000000 in
set_option maxRecDepth 100000 in
theorem c_X_shut (g : GX) {M : Mem} {post : Int32 → Mem → Prop} (hw : wp_X_shut M post) : CtI (oX g) y_X_shut prog_1_method_21_code 3 (some .int) (rl 4) [.ref (ax g 0)] M post := by
  refine z_metI (oX_ok g) (by decide) rfl (fun X C hr => ?_)
  show Zj X 3 (oX g) M 0 [(0, .ref (ax g 0))] []
  unfold wp_X_shut at hw
  refine z_iconst (v := 0) C d_X_shut_0 (by decide) ?_
  refine z_istore_n (lv' := [(1, .int 0), (0, .ref (ax g 0))]) C d_X_shut_1 rfl rfl rfl ?_
  refine z_iconst (v := 0) C d_X_shut_2 (by decide) ?_
  refine z_istore_n (lv' := [(2, .int 0), (1, .int 0), (0, .ref (ax g 0))]) C d_X_shut_3 rfl rfl rfl ?_
  refine z_sub [2, 1, 0] rfl ?_
  refine it3_Z (Z := fun (i3 : Int32) (i4 : Int32) (M5 : Mem) => Zj X 3 (oX g) M5 4 [(0, .ref (ax g 0)), (1, .int i3), (2, .int i4)] []) (fun rec1 ih2 i3 i4 M5 hw => ?_) _ _ _ _ hw
  refine z_iload_n C d_X_shut_4 rfl 2 rfl ?_
  refine z_bipush (v := 24) C d_X_shut_5 (by decide) ?_
  refine z_ic_ge C 30 d_X_shut_7 (by decide) (fun h6 => ?_) (fun h6 => ?_)
  · replace hw := hw.1 h6
    refine z_iload_n C d_X_shut_30 rfl 1 rfl ?_
    exact z_iret C hr hw d_X_shut_31
  · replace hw := hw.2 h6
    refine z_aload_n C d_X_shut_10 rfl 0 rfl ?_
    refine z_callVr C (As := []) (rest := []) m_X_asTold tw_358 0 (le_X) rfl ⟨rfl, rfl⟩ (c_X_asTold g hw) rfl rfl rfl d_X_shut_11 (fun M7 hw => ?_)
    refine z_iload_n C d_X_shut_14 rfl 2 rfl ?_
    refine z_callVi C (As := [.int i4]) (rest := []) m_XW_deepMilesBehind tw_428 32 (le_XW (Or.inl rfl)) rfl ⟨rfl, rfl⟩ (c_XW_deepMilesBehind g (Or.inl rfl) hw) rfl rfl rfl d_X_shut_15 (fun r9 M2 hq => ?_)
    obtain ⟨rfl, hw⟩ := hq
    have hj12 : ∀ u11 : Int32, u11 = (if r9 ≤ 0 then i3 else (i3 + 1)) → Zj X 3 (oX g) M7 24 [(0, .ref (ax g 0)), (1, .int u11), (2, .int i4)] [] := by
      intro u11 hu11
      replace hw := hw u11 hu11
      refine z_iinc (v := (i4 + 1)) (lv' := [(2, .int (i4 + 1)), (0, .ref (ax g 0)), (1, .int u11)]) C d_X_shut_24 2 rfl rfl rfl rfl ?_
      refine z_goto C 4 d_X_shut_27 (by decide) ?_
      refine z_sub [1, 2, 0] rfl ?_
      exact ih2 _ _ _ hw
    refine z_if_le C 24 d_X_shut_18 (by decide) (fun h10 => ?_) (fun h10 => ?_)
    · refine z_sub [0, 1, 2] rfl ?_
      exact hj12 _ ((if_pos h10)).symm
    · refine z_iinc (v := (i3 + 1)) (lv' := [(1, .int (i3 + 1)), (0, .ref (ax g 0)), (2, .int i4)]) C d_X_shut_21 1 rfl rfl rfl rfl ?_
      refine z_sub [1, 0, 2] rfl ?_
      exact hj12 _ ((if_neg h10)).symm
theorem d_X_best_0 : decode prog_1_method_22_code 0 = .ok (.aload_n 0, 1) := by decide +kernel
theorem d_X_best_1 : decode prog_1_method_22_code 1 = .ok (.invokevirtual 145, 3) := by decide +kernel
theorem d_X_best_4 : decode prog_1_method_22_code 4 = .ok (.astore_n 1, 1) := by decide +kernel
theorem d_X_best_5 : decode prog_1_method_22_code 5 = .ok (.iconst (-1), 1) := by decide +kernel
theorem d_X_best_6 : decode prog_1_method_22_code 6 = .ok (.istore_n 2, 1) := by decide +kernel
theorem d_X_best_7 : decode prog_1_method_22_code 7 = .ok (.iconst 0, 1) := by decide +kernel
theorem d_X_best_8 : decode prog_1_method_22_code 8 = .ok (.istore_n 3, 1) := by decide +kernel
theorem d_X_best_9 : decode prog_1_method_22_code 9 = .ok (.iconst 0, 1) := by decide +kernel
theorem d_X_best_10 : decode prog_1_method_22_code 10 = .ok (.istore 4, 2) := by decide +kernel
theorem d_X_best_12 : decode prog_1_method_22_code 12 = .ok (.iload 4, 2) := by decide +kernel
theorem d_X_best_14 : decode prog_1_method_22_code 14 = .ok (.aload_n 0, 1) := by decide +kernel
theorem d_X_best_15 : decode prog_1_method_22_code 15 = .ok (.getfield 18, 3) := by decide +kernel
theorem d_X_best_18 : decode prog_1_method_22_code 18 = .ok (.getfield 94, 3) := by decide +kernel
theorem d_X_best_21 : decode prog_1_method_22_code 21 = .ok (.if_icmp .ge (31), 3) := by decide +kernel
theorem d_X_best_24 : decode prog_1_method_22_code 24 = .ok (.aload_n 1, 1) := by decide +kernel
theorem d_X_best_25 : decode prog_1_method_22_code 25 = .ok (.getfield 180, 3) := by decide +kernel
theorem d_X_best_28 : decode prog_1_method_22_code 28 = .ok (.iload 4, 2) := by decide +kernel
theorem d_X_best_30 : decode prog_1_method_22_code 30 = .ok (.iaload, 1) := by decide +kernel
theorem d_X_best_31 : decode prog_1_method_22_code 31 = .ok (.iload_n 3, 1) := by decide +kernel
theorem d_X_best_32 : decode prog_1_method_22_code 32 = .ok (.if_icmp .le (14), 3) := by decide +kernel
theorem d_X_best_35 : decode prog_1_method_22_code 35 = .ok (.aload_n 1, 1) := by decide +kernel
theorem d_X_best_36 : decode prog_1_method_22_code 36 = .ok (.getfield 180, 3) := by decide +kernel
theorem d_X_best_39 : decode prog_1_method_22_code 39 = .ok (.iload 4, 2) := by decide +kernel
theorem d_X_best_41 : decode prog_1_method_22_code 41 = .ok (.iaload, 1) := by decide +kernel
theorem d_X_best_42 : decode prog_1_method_22_code 42 = .ok (.istore_n 3, 1) := by decide +kernel
theorem d_X_best_43 : decode prog_1_method_22_code 43 = .ok (.iload 4, 2) := by decide +kernel
theorem d_X_best_45 : decode prog_1_method_22_code 45 = .ok (.istore_n 2, 1) := by decide +kernel
theorem d_X_best_46 : decode prog_1_method_22_code 46 = .ok (.iinc 4 1, 3) := by decide +kernel
theorem d_X_best_49 : decode prog_1_method_22_code 49 = .ok (.goto (-37), 3) := by decide +kernel
theorem d_X_best_52 : decode prog_1_method_22_code 52 = .ok (.iload_n 2, 1) := by decide +kernel
theorem d_X_best_53 : decode prog_1_method_22_code 53 = .ok (.ireturn, 1) := by decide +kernel
def wp_X_best (M : Mem) (post : Int32 → Mem → Prop) : Prop :=
  wp_X_asTold M (fun M1 => (it3 (fun rec3 (i5 : Int32) (i6 : Int32) (i7 : Int32) => ((((M1 10 2) ≤ i7) → post i5 M1) ∧ (¬ ((M1 10 2) ≤ i7) → vp_in i7 4 ∧ ∀ u11 : Int32, u11 = (if (M1 (32 + 5) (tn i7)) ≤ i6 then i5 else i7) → ∀ u12 : Int32, u12 = (if (M1 (32 + 5) (tn i7)) ≤ i6 then i6 else (M1 (32 + 5) (tn i7))) → rec3 u11 u12 (i7 + 1)))) 4096 (-1) 0 0))
set_option maxHeartbeats 4000000 in
set_option maxRecDepth 100000 in
theorem c_X_best (g : GX) {M : Mem} {post : Int32 → Mem → Prop} (hw : wp_X_best M post) : CtI (oX g) y_X_best prog_1_method_22_code 5 (some .int) (rl 4) [.ref (ax g 0)] M post := by
  refine z_metI (oX_ok g) (by decide) rfl (fun X C hr => ?_)
  show Zj X 5 (oX g) M 0 [(0, .ref (ax g 0))] []
  unfold wp_X_best at hw
  refine z_aload_n C d_X_best_0 rfl 0 rfl ?_
  refine z_callVr C (As := []) (rest := []) m_X_asTold tw_358 0 (le_X) rfl ⟨rfl, rfl⟩ (c_X_asTold g hw) rfl rfl rfl d_X_best_1 (fun M1 hw => ?_)
  refine z_astore_n (lv' := [(1, .ref (ax g 32)), (0, .ref (ax g 0))]) C d_X_best_4 rfl rfl rfl ?_
  refine z_iconst (v := (-1)) C d_X_best_5 (by decide) ?_
  refine z_istore_n (lv' := [(2, .int (-1)), (1, .ref (ax g 32)), (0, .ref (ax g 0))]) C d_X_best_6 rfl rfl rfl ?_
  refine z_iconst (v := 0) C d_X_best_7 (by decide) ?_
  refine z_istore_n (lv' := [(3, .int 0), (2, .int (-1)), (1, .ref (ax g 32)), (0, .ref (ax g 0))]) C d_X_best_8 rfl rfl rfl ?_
  refine z_iconst (v := 0) C d_X_best_9 (by decide) ?_
  refine z_istore (lv' := [(4, .int 0), (3, .int 0), (2, .int (-1)), (1, .ref (ax g 32)), (0, .ref (ax g 0))]) C d_X_best_10 rfl rfl ?_
  refine z_sub [4, 3, 2, 1, 0] rfl ?_
  refine it3_Z (Z := fun (i5 : Int32) (i6 : Int32) (i7 : Int32) => Zj X 5 (oX g) M1 12 [(0, .ref (ax g 0)), (1, .ref (ax g 32)), (2, .int i5), (3, .int i6), (4, .int i7)] []) (fun rec3 ih4 i5 i6 i7 hw => ?_) _ _ _ _ hw
  refine z_iload C d_X_best_12 4 rfl ?_
  refine z_aload_n C d_X_best_14 rfl 0 rfl ?_
  refine gf_X_18 C d_X_best_15 ?_
  refine gf_X_94 C d_X_best_18 ?_
  refine z_ic_ge C 52 d_X_best_21 (by decide) (fun h8 => ?_) (fun h8 => ?_)
  · replace hw := hw.1 h8
    refine z_iload_n C d_X_best_52 rfl 2 rfl ?_
    exact z_iret C hr hw d_X_best_53
  · replace hw := hw.2 h8
    refine z_aload_n C d_X_best_24 rfl 1 rfl ?_
    refine gf_X_180 (Or.inl rfl) C d_X_best_25 ?_
    refine z_iload C d_X_best_28 4 rfl ?_
    have hv9 := hw.1
    replace hw := hw.2
    refine z_al (zar_xW5 (Or.inl rfl)) C hv9 d_X_best_30 ?_
    refine z_iload_n C d_X_best_31 rfl 3 rfl ?_
    have hj13 : ∀ u11 : Int32, u11 = (if (M1 (32 + 5) (tn i7)) ≤ i6 then i5 else i7) → ∀ u12 : Int32, u12 = (if (M1 (32 + 5) (tn i7)) ≤ i6 then i6 else (M1 (32 + 5) (tn i7))) → Zj X 5 (oX g) M1 46 [(0, .ref (ax g 0)), (1, .ref (ax g 32)), (2, .int u11), (3, .int u12), (4, .int i7)] [] := by
      intro u11 hu11
      intro u12 hu12
      replace hw := hw u11 hu11 u12 hu12
      refine z_iinc (v := (i7 + 1)) (lv' := [(4, .int (i7 + 1)), (0, .ref (ax g 0)), (1, .ref (ax g 32)), (2, .int u11), (3, .int u12)]) C d_X_best_46 4 rfl rfl rfl rfl ?_
      refine z_goto C 12 d_X_best_49 (by decide) ?_
      refine z_sub [1, 2, 3, 4, 0] rfl ?_
      exact ih4 _ _ _ hw
    refine z_ic_le C 46 d_X_best_32 (by decide) (fun h10 => ?_) (fun h10 => ?_)
    · refine z_sub [0, 1, 2, 3, 4] rfl ?_
      exact hj13 _ ((if_pos h10)).symm _ ((if_pos h10)).symm
    · refine z_aload_n C d_X_best_35 rfl 1 rfl ?_
      refine gf_X_180 (Or.inl rfl) C d_X_best_36 ?_
      refine z_iload C d_X_best_39 4 rfl ?_
      refine z_al (zar_xW5 (Or.inl rfl)) C hv9 d_X_best_41 ?_
      refine z_istore_n (lv' := [(3, .int (M1 (32 + 5) (tn i7))), (0, .ref (ax g 0)), (1, .ref (ax g 32)), (2, .int i5), (4, .int i7)]) C d_X_best_42 rfl rfl rfl ?_
      refine z_iload C d_X_best_43 4 rfl ?_
      refine z_istore_n (lv' := [(2, .int i7), (3, .int (M1 (32 + 5) (tn i7))), (0, .ref (ax g 0)), (1, .ref (ax g 32)), (4, .int i7)]) C d_X_best_45 rfl rfl rfl ?_
      refine z_sub [2, 3, 0, 1, 4] rfl ?_
      exact hj13 _ ((if_neg h10)).symm _ ((if_neg h10)).symm
theorem d_X_hedge_0 : decode prog_1_method_24_code 0 = .ok (.iload_n 1, 1) := by decide +kernel
theorem d_X_hedge_1 : decode prog_1_method_24_code 1 = .ok (.iconst 2, 1) := by decide +kernel
theorem d_X_hedge_2 : decode prog_1_method_24_code 2 = .ok (.invokestatic 70, 3) := by decide +kernel
theorem d_X_hedge_5 : decode prog_1_method_24_code 5 = .ok (.ifCond .eq (6), 3) := by decide +kernel
theorem d_X_hedge_8 : decode prog_1_method_24_code 8 = .ok (.bipush (-2), 2) := by decide +kernel
theorem d_X_hedge_10 : decode prog_1_method_24_code 10 = .ok (.ireturn, 1) := by decide +kernel
theorem d_X_hedge_11 : decode prog_1_method_24_code 11 = .ok (.iconst 0, 1) := by decide +kernel
theorem d_X_hedge_12 : decode prog_1_method_24_code 12 = .ok (.istore_n 2, 1) := by decide +kernel
theorem d_X_hedge_13 : decode prog_1_method_24_code 13 = .ok (.iconst (-1), 1) := by decide +kernel
theorem d_X_hedge_14 : decode prog_1_method_24_code 14 = .ok (.istore_n 3, 1) := by decide +kernel
theorem d_X_hedge_15 : decode prog_1_method_24_code 15 = .ok (.iconst 0, 1) := by decide +kernel
theorem d_X_hedge_16 : decode prog_1_method_24_code 16 = .ok (.istore 4, 2) := by decide +kernel
theorem d_X_hedge_18 : decode prog_1_method_24_code 18 = .ok (.iload 4, 2) := by decide +kernel
theorem d_X_hedge_20 : decode prog_1_method_24_code 20 = .ok (.bipush 12, 2) := by decide +kernel
theorem d_X_hedge_22 : decode prog_1_method_24_code 22 = .ok (.if_icmp .ge (44), 3) := by decide +kernel
theorem d_X_hedge_25 : decode prog_1_method_24_code 25 = .ok (.aload_n 0, 1) := by decide +kernel
theorem d_X_hedge_26 : decode prog_1_method_24_code 26 = .ok (.iload 4, 2) := by decide +kernel
theorem d_X_hedge_28 : decode prog_1_method_24_code 28 = .ok (.iconst 1, 1) := by decide +kernel
theorem d_X_hedge_29 : decode prog_1_method_24_code 29 = .ok (.invokevirtual 200, 3) := by decide +kernel
theorem d_X_hedge_32 : decode prog_1_method_24_code 32 = .ok (.aload_n 0, 1) := by decide +kernel
theorem d_X_hedge_33 : decode prog_1_method_24_code 33 = .ok (.getfield 46, 3) := by decide +kernel
theorem d_X_hedge_36 : decode prog_1_method_24_code 36 = .ok (.bipush 23, 2) := by decide +kernel
theorem d_X_hedge_38 : decode prog_1_method_24_code 38 = .ok (.invokevirtual 168, 3) := by decide +kernel
theorem d_X_hedge_41 : decode prog_1_method_24_code 41 = .ok (.istore 5, 2) := by decide +kernel
theorem d_X_hedge_43 : decode prog_1_method_24_code 43 = .ok (.iload_n 3, 1) := by decide +kernel
theorem d_X_hedge_44 : decode prog_1_method_24_code 44 = .ok (.iconst (-1), 1) := by decide +kernel
theorem d_X_hedge_45 : decode prog_1_method_24_code 45 = .ok (.if_icmp .eq (9), 3) := by decide +kernel
theorem d_X_hedge_48 : decode prog_1_method_24_code 48 = .ok (.iload 5, 2) := by decide +kernel
theorem d_X_hedge_50 : decode prog_1_method_24_code 50 = .ok (.iload_n 3, 1) := by decide +kernel
theorem d_X_hedge_51 : decode prog_1_method_24_code 51 = .ok (.if_icmp .ge (9), 3) := by decide +kernel
theorem d_X_hedge_54 : decode prog_1_method_24_code 54 = .ok (.iload 5, 2) := by decide +kernel
theorem d_X_hedge_56 : decode prog_1_method_24_code 56 = .ok (.istore_n 3, 1) := by decide +kernel
theorem d_X_hedge_57 : decode prog_1_method_24_code 57 = .ok (.iload 4, 2) := by decide +kernel
theorem d_X_hedge_59 : decode prog_1_method_24_code 59 = .ok (.istore_n 2, 1) := by decide +kernel
theorem d_X_hedge_60 : decode prog_1_method_24_code 60 = .ok (.iinc 4 1, 3) := by decide +kernel
theorem d_X_hedge_63 : decode prog_1_method_24_code 63 = .ok (.goto (-45), 3) := by decide +kernel
theorem d_X_hedge_66 : decode prog_1_method_24_code 66 = .ok (.iload_n 1, 1) := by decide +kernel
theorem d_X_hedge_67 : decode prog_1_method_24_code 67 = .ok (.ifCond .ne (7), 3) := by decide +kernel
theorem d_X_hedge_70 : decode prog_1_method_24_code 70 = .ok (.iload_n 2, 1) := by decide +kernel
theorem d_X_hedge_71 : decode prog_1_method_24_code 71 = .ok (.goto (4), 3) := by decide +kernel
theorem d_X_hedge_74 : decode prog_1_method_24_code 74 = .ok (.iload_n 3, 1) := by decide +kernel
theorem d_X_hedge_75 : decode prog_1_method_24_code 75 = .ok (.ireturn, 1) := by decide +kernel
def wp_X_hedge (a1 : Int32) (M : Mem) (post : Int32 → Mem → Prop) : Prop :=
  ((((pf_X_outside a1 2) = 0) → (it4 (fun rec3 (i5 : Int32) (i6 : Int32) (i7 : Int32) (M8 : Mem) => (((12 ≤ i7) → ∀ u11 : Int32, u11 = (if a1 = 0 then i5 else i6) → post u11 M8) ∧ (¬ (12 ≤ i7) → wp_X_tryLand i7 1 M8 (fun M13 => wp_XW_snowBehind 44 23 M13 (fun r15 => ∀ u18 : Int32, u18 = (if i6 = (-1) then i7 else (if i6 ≤ r15 then i5 else i7)) → ∀ u19 : Int32, u19 = (if i6 = (-1) then r15 else (if i6 ≤ r15 then i6 else r15)) → rec3 u18 u19 (i7 + 1) M13))))) 4096 0 (-1) 0 M)) ∧ (¬ ((pf_X_outside a1 2) = 0) → post (-2) M))
set_option maxHeartbeats 4000000 in
set_option maxRecDepth 100000 in
theorem c_X_hedge (g : GX) {a1 : Int32} {M : Mem} {post : Int32 → Mem → Prop} (hw : wp_X_hedge a1 M post) : CtI (oX g) y_X_hedge prog_1_method_24_code 6 (some .int) (rl 4) [.ref (ax g 0), .int a1] M post := by
  refine z_metI (oX_ok g) (by decide) rfl (fun X C hr => ?_)
  show Zj X 6 (oX g) M 0 [(0, .ref (ax g 0)), (1, .int a1)] []
  unfold wp_X_hedge at hw
  refine z_iload_n C d_X_hedge_0 rfl 1 rfl ?_
  refine z_iconst (v := 2) C d_X_hedge_1 (by decide) ?_
  refine z_callSi C (As := [.int a1, .int 2]) (rest := []) m_X_outside tw_251 ⟨rfl, rfl⟩ (c_X_outside (oX_ok g) _ _ _) rfl rfl rfl d_X_hedge_2 (fun r M2 hq => ?_)
  obtain ⟨rfl, rfl⟩ := hq
  refine z_if_eq C 11 d_X_hedge_5 (by decide) (fun h2 => ?_) (fun h2 => ?_)
  · replace hw := hw.1 h2
    refine z_iconst (v := 0) C d_X_hedge_11 (by decide) ?_
    refine z_istore_n (lv' := [(2, .int 0), (0, .ref (ax g 0)), (1, .int a1)]) C d_X_hedge_12 rfl rfl rfl ?_
    refine z_iconst (v := (-1)) C d_X_hedge_13 (by decide) ?_
    refine z_istore_n (lv' := [(3, .int (-1)), (2, .int 0), (0, .ref (ax g 0)), (1, .int a1)]) C d_X_hedge_14 rfl rfl rfl ?_
    refine z_iconst (v := 0) C d_X_hedge_15 (by decide) ?_
    refine z_istore (lv' := [(4, .int 0), (3, .int (-1)), (2, .int 0), (0, .ref (ax g 0)), (1, .int a1)]) C d_X_hedge_16 rfl rfl ?_
    refine z_sub [3, 4, 2, 1, 0] rfl ?_
    refine it4_Z (Z := fun (i5 : Int32) (i6 : Int32) (i7 : Int32) (M8 : Mem) => Zj X 6 (oX g) M8 18 [(0, .ref (ax g 0)), (1, .int a1), (2, .int i5), (3, .int i6), (4, .int i7)] []) (fun rec3 ih4 i5 i6 i7 M8 hw => ?_) _ _ _ _ _ hw
    refine z_iload C d_X_hedge_18 4 rfl ?_
    refine z_bipush (v := 12) C d_X_hedge_20 (by decide) ?_
    refine z_ic_ge C 66 d_X_hedge_22 (by decide) (fun h9 => ?_) (fun h9 => ?_)
    · replace hw := hw.1 h9
      refine z_iload_n C d_X_hedge_66 rfl 1 rfl ?_
      have hj12 : ∀ u11 : Int32, u11 = (if a1 = 0 then i5 else i6) → Zj X 6 (oX g) M8 75 [] [.int u11] := by
        intro u11 hu11
        replace hw := hw u11 hu11
        exact z_iret C hr hw d_X_hedge_75
      refine z_if_ne C 74 d_X_hedge_67 (by decide) (fun h10 => ?_) (fun h10 => ?_)
      · refine z_iload_n C d_X_hedge_74 rfl 3 rfl ?_
        refine z_sub [] rfl ?_
        exact hj12 _ ((if_neg h10)).symm
      · refine z_iload_n C d_X_hedge_70 rfl 2 rfl ?_
        refine z_goto C 75 d_X_hedge_71 (by decide) ?_
        refine z_sub [] rfl ?_
        exact hj12 _ ((if_pos h10)).symm
    · replace hw := hw.2 h9
      refine z_aload_n C d_X_hedge_25 rfl 0 rfl ?_
      refine z_iload C d_X_hedge_26 4 rfl ?_
      refine z_iconst (v := 1) C d_X_hedge_28 (by decide) ?_
      refine z_callVv C (As := [.int i7, .int 1]) (rest := []) m_X_tryLand tw_469 0 (le_X) rfl ⟨rfl, rfl⟩ (c_X_tryLand g hw) rfl rfl rfl d_X_hedge_29 (fun M13 hw => ?_)
      refine z_aload_n C d_X_hedge_32 rfl 0 rfl ?_
      refine gf_X_46 C d_X_hedge_33 ?_
      refine z_bipush (v := 23) C d_X_hedge_36 (by decide) ?_
      refine z_callVi C (As := [.int 23]) (rest := []) m_XW_snowBehind tw_424 44 (le_XW (Or.inr rfl)) rfl ⟨rfl, rfl⟩ (c_XW_snowBehind g (Or.inr rfl) hw) rfl rfl rfl d_X_hedge_38 (fun r15 M2 hq => ?_)
      obtain ⟨rfl, hw⟩ := hq
      refine z_istore (lv' := [(5, .int r15), (0, .ref (ax g 0)), (1, .int a1), (2, .int i5), (3, .int i6), (4, .int i7)]) C d_X_hedge_41 rfl rfl ?_
      refine z_iload_n C d_X_hedge_43 rfl 4 rfl ?_
      refine z_iconst (v := (-1)) C d_X_hedge_44 (by decide) ?_
      have hj20 : ∀ u18 : Int32, u18 = (if i6 = (-1) then i7 else (if i6 ≤ r15 then i5 else i7)) → ∀ u19 : Int32, u19 = (if i6 = (-1) then r15 else (if i6 ≤ r15 then i6 else r15)) → Zj X 6 (oX g) M13 60 [(0, .ref (ax g 0)), (1, .int a1), (2, .int u18), (3, .int u19), (4, .int i7)] [] := by
        intro u18 hu18
        intro u19 hu19
        replace hw := hw u18 hu18 u19 hu19
        refine z_iinc (v := (i7 + 1)) (lv' := [(4, .int (i7 + 1)), (0, .ref (ax g 0)), (1, .int a1), (2, .int u18), (3, .int u19)]) C d_X_hedge_60 4 rfl rfl rfl rfl ?_
        refine z_goto C 18 d_X_hedge_63 (by decide) ?_
        refine z_sub [1, 2, 3, 4, 0] rfl ?_
        exact ih4 _ _ _ _ hw
      refine z_ic_eq C 54 d_X_hedge_45 (by decide) (fun h16 => ?_) (fun h16 => ?_)
      · refine z_iload C d_X_hedge_54 0 rfl ?_
        refine z_istore_n (lv' := [(3, .int r15), (5, .int r15), (0, .ref (ax g 0)), (1, .int a1), (2, .int i5), (4, .int i7)]) C d_X_hedge_56 rfl rfl rfl ?_
        refine z_iload C d_X_hedge_57 5 rfl ?_
        refine z_istore_n (lv' := [(2, .int i7), (3, .int r15), (5, .int r15), (0, .ref (ax g 0)), (1, .int a1), (4, .int i7)]) C d_X_hedge_59 rfl rfl rfl ?_
        refine z_sub [3, 4, 0, 1, 5] rfl ?_
        exact hj20 _ ((if_pos h16)).symm _ ((if_pos h16)).symm
      · refine z_iload C d_X_hedge_48 0 rfl ?_
        refine z_iload_n C d_X_hedge_50 rfl 4 rfl ?_
        refine z_ic_ge C 60 d_X_hedge_51 (by decide) (fun h17 => ?_) (fun h17 => ?_)
        · refine z_sub [1, 2, 3, 4, 5] rfl ?_
          exact hj20 _ (((if_neg h16).trans (if_pos h17))).symm _ (((if_neg h16).trans (if_pos h17))).symm
        · refine z_iload C d_X_hedge_54 0 rfl ?_
          refine z_istore_n (lv' := [(3, .int r15), (5, .int r15), (0, .ref (ax g 0)), (1, .int a1), (2, .int i5), (4, .int i7)]) C d_X_hedge_56 rfl rfl rfl ?_
          refine z_iload C d_X_hedge_57 5 rfl ?_
          refine z_istore_n (lv' := [(2, .int i7), (3, .int r15), (5, .int r15), (0, .ref (ax g 0)), (1, .int a1), (4, .int i7)]) C d_X_hedge_59 rfl rfl rfl ?_
          refine z_sub [3, 4, 0, 1, 5] rfl ?_
          exact hj20 _ (((if_neg h16).trans (if_neg h17))).symm _ (((if_neg h16).trans (if_neg h17))).symm
  · replace hw := hw.2 h2
    refine z_bipush (v := (-2)) C d_X_hedge_8 (by decide) ?_
    exact z_iret C hr hw d_X_hedge_10
theorem d_X_start_0 : decode prog_1_method_25_code 0 = .ok (.iload_n 1, 1) := by decide +kernel
theorem d_X_start_1 : decode prog_1_method_25_code 1 = .ok (.aload_n 0, 1) := by decide +kernel
theorem d_X_start_2 : decode prog_1_method_25_code 2 = .ok (.getfield 18, 3) := by decide +kernel
theorem d_X_start_5 : decode prog_1_method_25_code 5 = .ok (.getfield 106, 3) := by decide +kernel
theorem d_X_start_8 : decode prog_1_method_25_code 8 = .ok (.invokestatic 70, 3) := by decide +kernel
theorem d_X_start_11 : decode prog_1_method_25_code 11 = .ok (.ifCond .ne (11), 3) := by decide +kernel
theorem d_X_start_14 : decode prog_1_method_25_code 14 = .ok (.iload_n 2, 1) := by decide +kernel
theorem d_X_start_15 : decode prog_1_method_25_code 15 = .ok (.iconst 2, 1) := by decide +kernel
theorem d_X_start_16 : decode prog_1_method_25_code 16 = .ok (.invokestatic 70, 3) := by decide +kernel
theorem d_X_start_19 : decode prog_1_method_25_code 19 = .ok (.ifCond .eq (6), 3) := by decide +kernel
theorem d_X_start_22 : decode prog_1_method_25_code 22 = .ok (.bipush (-2), 2) := by decide +kernel
theorem d_X_start_24 : decode prog_1_method_25_code 24 = .ok (.ireturn, 1) := by decide +kernel
theorem d_X_start_25 : decode prog_1_method_25_code 25 = .ok (.aload_n 0, 1) := by decide +kernel
theorem d_X_start_26 : decode prog_1_method_25_code 26 = .ok (.invokevirtual 145, 3) := by decide +kernel
theorem d_X_start_29 : decode prog_1_method_25_code 29 = .ok (.astore_n 3, 1) := by decide +kernel
theorem d_X_start_30 : decode prog_1_method_25_code 30 = .ok (.iconst (-1), 1) := by decide +kernel
theorem d_X_start_31 : decode prog_1_method_25_code 31 = .ok (.istore 4, 2) := by decide +kernel
theorem d_X_start_33 : decode prog_1_method_25_code 33 = .ok (.iconst (-1), 1) := by decide +kernel
theorem d_X_start_34 : decode prog_1_method_25_code 34 = .ok (.istore 5, 2) := by decide +kernel
theorem d_X_start_36 : decode prog_1_method_25_code 36 = .ok (.iconst 0, 1) := by decide +kernel
theorem d_X_start_37 : decode prog_1_method_25_code 37 = .ok (.istore 6, 2) := by decide +kernel
theorem d_X_start_39 : decode prog_1_method_25_code 39 = .ok (.iload 6, 2) := by decide +kernel
theorem d_X_start_41 : decode prog_1_method_25_code 41 = .ok (.bipush 24, 2) := by decide +kernel
theorem d_X_start_43 : decode prog_1_method_25_code 43 = .ok (.if_icmp .ge (50), 3) := by decide +kernel
theorem d_X_start_46 : decode prog_1_method_25_code 46 = .ok (.aload_n 3, 1) := by decide +kernel
theorem d_X_start_47 : decode prog_1_method_25_code 47 = .ok (.iload 6, 2) := by decide +kernel
theorem d_X_start_49 : decode prog_1_method_25_code 49 = .ok (.bipush 23, 2) := by decide +kernel
theorem d_X_start_51 : decode prog_1_method_25_code 51 = .ok (.invokevirtual 161, 3) := by decide +kernel
theorem d_X_start_54 : decode prog_1_method_25_code 54 = .ok (.aload_n 3, 1) := by decide +kernel
theorem d_X_start_55 : decode prog_1_method_25_code 55 = .ok (.getfield 174, 3) := by decide +kernel
theorem d_X_start_58 : decode prog_1_method_25_code 58 = .ok (.iconst (-1), 1) := by decide +kernel
theorem d_X_start_59 : decode prog_1_method_25_code 59 = .ok (.if_icmp .eq (28), 3) := by decide +kernel
theorem d_X_start_62 : decode prog_1_method_25_code 62 = .ok (.iload 5, 2) := by decide +kernel
theorem d_X_start_64 : decode prog_1_method_25_code 64 = .ok (.iconst (-1), 1) := by decide +kernel
theorem d_X_start_65 : decode prog_1_method_25_code 65 = .ok (.if_icmp .eq (12), 3) := by decide +kernel
theorem d_X_start_68 : decode prog_1_method_25_code 68 = .ok (.aload_n 3, 1) := by decide +kernel
theorem d_X_start_69 : decode prog_1_method_25_code 69 = .ok (.getfield 174, 3) := by decide +kernel
theorem d_X_start_72 : decode prog_1_method_25_code 72 = .ok (.iload 5, 2) := by decide +kernel
theorem d_X_start_74 : decode prog_1_method_25_code 74 = .ok (.if_icmp .ge (13), 3) := by decide +kernel
theorem d_X_start_77 : decode prog_1_method_25_code 77 = .ok (.aload_n 3, 1) := by decide +kernel
theorem d_X_start_78 : decode prog_1_method_25_code 78 = .ok (.getfield 174, 3) := by decide +kernel
theorem d_X_start_81 : decode prog_1_method_25_code 81 = .ok (.istore 5, 2) := by decide +kernel
theorem d_X_start_83 : decode prog_1_method_25_code 83 = .ok (.iload 6, 2) := by decide +kernel
theorem d_X_start_85 : decode prog_1_method_25_code 85 = .ok (.istore 4, 2) := by decide +kernel
theorem d_X_start_87 : decode prog_1_method_25_code 87 = .ok (.iinc 6 1, 3) := by decide +kernel
theorem d_X_start_90 : decode prog_1_method_25_code 90 = .ok (.goto (-51), 3) := by decide +kernel
theorem d_X_start_93 : decode prog_1_method_25_code 93 = .ok (.iload_n 2, 1) := by decide +kernel
theorem d_X_start_94 : decode prog_1_method_25_code 94 = .ok (.ifCond .ne (8), 3) := by decide +kernel
theorem d_X_start_97 : decode prog_1_method_25_code 97 = .ok (.iload 4, 2) := by decide +kernel
theorem d_X_start_99 : decode prog_1_method_25_code 99 = .ok (.goto (5), 3) := by decide +kernel
theorem d_X_start_102 : decode prog_1_method_25_code 102 = .ok (.iload 5, 2) := by decide +kernel
theorem d_X_start_104 : decode prog_1_method_25_code 104 = .ok (.ireturn, 1) := by decide +kernel
def wp_X_start (a1 : Int32) (a2 : Int32) (M : Mem) (post : Int32 → Mem → Prop) : Prop :=
  ((((pf_X_outside a1 (M 10 6)) = 0) → ((((pf_X_outside a2 2) = 0) → wp_X_asTold M (fun M5 => (it4 (fun rec7 (i9 : Int32) (i10 : Int32) (i11 : Int32) (M12 : Mem) => (((24 ≤ i11) → ∀ u15 : Int32, u15 = (if a2 = 0 then i9 else i10) → post u15 M12) ∧ (¬ (24 ≤ i11) → wp_XW_ride 32 i11 23 M12 (fun M17 => ∀ u22 : Int32, u22 = (if (M17 32 13) = (-1) then i9 else (if i10 = (-1) then i11 else (if i10 ≤ (M17 32 13) then i9 else i11))) → ∀ u23 : Int32, u23 = (if (M17 32 13) = (-1) then i10 else (if i10 = (-1) then (M17 32 13) else (if i10 ≤ (M17 32 13) then i10 else (M17 32 13)))) → rec7 u22 u23 (i11 + 1) M17)))) 4096 (-1) (-1) 0 M5))) ∧ (¬ ((pf_X_outside a2 2) = 0) → post (-2) M))) ∧ (¬ ((pf_X_outside a1 (M 10 6)) = 0) → post (-2) M))
set_option maxHeartbeats 4000000 in
set_option maxRecDepth 100000 in
theorem c_X_start (g : GX) {a1 : Int32} {a2 : Int32} {M : Mem} {post : Int32 → Mem → Prop} (hw : wp_X_start a1 a2 M post) : CtI (oX g) y_X_start prog_1_method_25_code 7 (some .int) (rl 4) [.ref (ax g 0), .int a1, .int a2] M post := by
  refine z_metI (oX_ok g) (by decide) rfl (fun X C hr => ?_)
  show Zj X 7 (oX g) M 0 [(0, .ref (ax g 0)), (1, .int a1), (2, .int a2)] []
  unfold wp_X_start at hw
  refine z_iload_n C d_X_start_0 rfl 1 rfl ?_
  refine z_aload_n C d_X_start_1 rfl 0 rfl ?_
  refine gf_X_18 C d_X_start_2 ?_
  refine gf_X_106 C d_X_start_5 ?_
  refine z_callSi C (As := [.int a1, .int (M 10 6)]) (rest := []) m_X_outside tw_251 ⟨rfl, rfl⟩ (c_X_outside (oX_ok g) _ _ _) rfl rfl rfl d_X_start_8 (fun r M2 hq => ?_)
  obtain ⟨rfl, rfl⟩ := hq
  refine z_if_ne C 22 d_X_start_11 (by decide) (fun h2 => ?_) (fun h2 => ?_)
  · replace hw := hw.2 h2
    refine z_bipush (v := (-2)) C d_X_start_22 (by decide) ?_
    exact z_iret C hr hw d_X_start_24
  · replace hw := hw.1 h2
    refine z_iload_n C d_X_start_14 rfl 2 rfl ?_
    refine z_iconst (v := 2) C d_X_start_15 (by decide) ?_
    refine z_callSi C (As := [.int a2, .int 2]) (rest := []) m_X_outside tw_251 ⟨rfl, rfl⟩ (c_X_outside (oX_ok g) _ _ _) rfl rfl rfl d_X_start_16 (fun r M2 hq => ?_)
    obtain ⟨rfl, rfl⟩ := hq
    refine z_if_eq C 25 d_X_start_19 (by decide) (fun h4 => ?_) (fun h4 => ?_)
    · replace hw := hw.1 h4
      refine z_aload_n C d_X_start_25 rfl 0 rfl ?_
      refine z_callVr C (As := []) (rest := []) m_X_asTold tw_358 0 (le_X) rfl ⟨rfl, rfl⟩ (c_X_asTold g hw) rfl rfl rfl d_X_start_26 (fun M5 hw => ?_)
      refine z_astore_n (lv' := [(3, .ref (ax g 32)), (0, .ref (ax g 0)), (1, .int a1), (2, .int a2)]) C d_X_start_29 rfl rfl rfl ?_
      refine z_iconst (v := (-1)) C d_X_start_30 (by decide) ?_
      refine z_istore (lv' := [(4, .int (-1)), (3, .ref (ax g 32)), (0, .ref (ax g 0)), (1, .int a1), (2, .int a2)]) C d_X_start_31 rfl rfl ?_
      refine z_iconst (v := (-1)) C d_X_start_33 (by decide) ?_
      refine z_istore (lv' := [(5, .int (-1)), (4, .int (-1)), (3, .ref (ax g 32)), (0, .ref (ax g 0)), (1, .int a1), (2, .int a2)]) C d_X_start_34 rfl rfl ?_
      refine z_iconst (v := 0) C d_X_start_36 (by decide) ?_
      refine z_istore (lv' := [(6, .int 0), (5, .int (-1)), (4, .int (-1)), (3, .ref (ax g 32)), (0, .ref (ax g 0)), (1, .int a1), (2, .int a2)]) C d_X_start_37 rfl rfl ?_
      refine z_sub [6, 3, 2, 1, 0] rfl ?_
      refine it4_Z (Z := fun (i9 : Int32) (i10 : Int32) (i11 : Int32) (M12 : Mem) => Zj X 7 (oX g) M12 39 [(2, .int a2), (3, .ref (ax g 32)), (4, .int i9), (5, .int i10), (6, .int i11)] []) (fun rec7 ih8 i9 i10 i11 M12 hw => ?_) _ _ _ _ _ hw
      refine z_iload C d_X_start_39 4 rfl ?_
      refine z_bipush (v := 24) C d_X_start_41 (by decide) ?_
      refine z_ic_ge C 93 d_X_start_43 (by decide) (fun h13 => ?_) (fun h13 => ?_)
      · replace hw := hw.1 h13
        refine z_iload_n C d_X_start_93 rfl 0 rfl ?_
        have hj16 : ∀ u15 : Int32, u15 = (if a2 = 0 then i9 else i10) → Zj X 7 (oX g) M12 104 [] [.int u15] := by
          intro u15 hu15
          replace hw := hw u15 hu15
          exact z_iret C hr hw d_X_start_104
        refine z_if_ne C 102 d_X_start_94 (by decide) (fun h14 => ?_) (fun h14 => ?_)
        · refine z_iload C d_X_start_102 3 rfl ?_
          refine z_sub [] rfl ?_
          exact hj16 _ ((if_neg h14)).symm
        · refine z_iload C d_X_start_97 2 rfl ?_
          refine z_goto C 104 d_X_start_99 (by decide) ?_
          refine z_sub [] rfl ?_
          exact hj16 _ ((if_pos h14)).symm
      · replace hw := hw.2 h13
        refine z_aload_n C d_X_start_46 rfl 1 rfl ?_
        refine z_iload C d_X_start_47 4 rfl ?_
        refine z_bipush (v := 23) C d_X_start_49 (by decide) ?_
        refine z_callVv C (As := [.int i11, .int 23]) (rest := []) m_XW_ride tw_412 32 (le_XW (Or.inl rfl)) rfl ⟨rfl, rfl⟩ (c_XW_ride g (Or.inl rfl) hw) rfl rfl rfl d_X_start_51 (fun M17 hw => ?_)
        refine z_aload_n C d_X_start_54 rfl 1 rfl ?_
        refine gf_X_174 (Or.inl rfl) C d_X_start_55 ?_
        refine z_iconst (v := (-1)) C d_X_start_58 (by decide) ?_
        have hj24 : ∀ u22 : Int32, u22 = (if (M17 32 13) = (-1) then i9 else (if i10 = (-1) then i11 else (if i10 ≤ (M17 32 13) then i9 else i11))) → ∀ u23 : Int32, u23 = (if (M17 32 13) = (-1) then i10 else (if i10 = (-1) then (M17 32 13) else (if i10 ≤ (M17 32 13) then i10 else (M17 32 13)))) → Zj X 7 (oX g) M17 87 [(2, .int a2), (3, .ref (ax g 32)), (4, .int u22), (5, .int u23), (6, .int i11)] [] := by
          intro u22 hu22
          intro u23 hu23
          replace hw := hw u22 hu22 u23 hu23
          refine z_iinc (v := (i11 + 1)) (lv' := [(6, .int (i11 + 1)), (2, .int a2), (3, .ref (ax g 32)), (4, .int u22), (5, .int u23)]) C d_X_start_87 4 rfl rfl rfl rfl ?_
          refine z_goto C 39 d_X_start_90 (by decide) ?_
          refine z_sub [1, 2, 3, 4, 0] rfl ?_
          exact ih8 _ _ _ _ hw
        refine z_ic_eq C 87 d_X_start_59 (by decide) (fun h19 => ?_) (fun h19 => ?_)
        · refine z_sub [0, 1, 2, 3, 4] rfl ?_
          exact hj24 _ ((if_pos h19)).symm _ ((if_pos h19)).symm
        · refine z_iload C d_X_start_62 3 rfl ?_
          refine z_iconst (v := (-1)) C d_X_start_64 (by decide) ?_
          refine z_ic_eq C 77 d_X_start_65 (by decide) (fun h20 => ?_) (fun h20 => ?_)
          · refine z_aload_n C d_X_start_77 rfl 1 rfl ?_
            refine gf_X_174 (Or.inl rfl) C d_X_start_78 ?_
            refine z_istore (lv' := [(5, .int (M17 32 13)), (2, .int a2), (3, .ref (ax g 32)), (4, .int i9), (6, .int i11)]) C d_X_start_81 rfl rfl ?_
            refine z_iload C d_X_start_83 4 rfl ?_
            refine z_istore (lv' := [(4, .int i11), (5, .int (M17 32 13)), (2, .int a2), (3, .ref (ax g 32)), (6, .int i11)]) C d_X_start_85 rfl rfl ?_
            refine z_sub [2, 3, 0, 1, 4] rfl ?_
            exact hj24 _ (((if_neg h19).trans (if_pos h20))).symm _ (((if_neg h19).trans (if_pos h20))).symm
          · refine z_aload_n C d_X_start_68 rfl 1 rfl ?_
            refine gf_X_174 (Or.inl rfl) C d_X_start_69 ?_
            refine z_iload C d_X_start_72 3 rfl ?_
            refine z_ic_ge C 87 d_X_start_74 (by decide) (fun h21 => ?_) (fun h21 => ?_)
            · refine z_sub [0, 1, 2, 3, 4] rfl ?_
              exact hj24 _ (((if_neg h19).trans ((if_neg h20).trans (if_pos h21)))).symm _ (((if_neg h19).trans ((if_neg h20).trans (if_pos h21)))).symm
            · refine z_aload_n C d_X_start_77 rfl 1 rfl ?_
              refine gf_X_174 (Or.inl rfl) C d_X_start_78 ?_
              refine z_istore (lv' := [(5, .int (M17 32 13)), (2, .int a2), (3, .ref (ax g 32)), (4, .int i9), (6, .int i11)]) C d_X_start_81 rfl rfl ?_
              refine z_iload C d_X_start_83 4 rfl ?_
              refine z_istore (lv' := [(4, .int i11), (5, .int (M17 32 13)), (2, .int a2), (3, .ref (ax g 32)), (6, .int i11)]) C d_X_start_85 rfl rfl ?_
              refine z_sub [2, 3, 0, 1, 4] rfl ?_
              exact hj24 _ (((if_neg h19).trans ((if_neg h20).trans (if_neg h21)))).symm _ (((if_neg h19).trans ((if_neg h20).trans (if_neg h21)))).symm
    · replace hw := hw.2 h4
      refine z_bipush (v := (-2)) C d_X_start_22 (by decide) ?_
      exact z_iret C hr hw d_X_start_24
