theorem d_R_rides_0 : decode prog_8_method_57_code 0 = .ok (.aload_n 0, 1) := by decide +kernel
theorem d_R_rides_1 : decode prog_8_method_57_code 1 = .ok (.invokevirtual 228, 3) := by decide +kernel
theorem d_R_rides_4 : decode prog_8_method_57_code 4 = .ok (.iload_n 1, 1) := by decide +kernel
theorem d_R_rides_5 : decode prog_8_method_57_code 5 = .ok (.invokestatic 178, 3) := by decide +kernel
theorem d_R_rides_8 : decode prog_8_method_57_code 8 = .ok (.ifCond .eq (25), 3) := by decide +kernel
theorem d_R_rides_11 : decode prog_8_method_57_code 11 = .ok (.aload_n 0, 1) := by decide +kernel
theorem d_R_rides_12 : decode prog_8_method_57_code 12 = .ok (.iload_n 2, 1) := by decide +kernel
theorem d_R_rides_13 : decode prog_8_method_57_code 13 = .ok (.invokevirtual 184, 3) := by decide +kernel
theorem d_R_rides_16 : decode prog_8_method_57_code 16 = .ok (.ifCond .eq (17), 3) := by decide +kernel
theorem d_R_rides_19 : decode prog_8_method_57_code 19 = .ok (.aload_n 0, 1) := by decide +kernel
theorem d_R_rides_20 : decode prog_8_method_57_code 20 = .ok (.getfield 82, 3) := by decide +kernel
theorem d_R_rides_23 : decode prog_8_method_57_code 23 = .ok (.bipush 8, 2) := by decide +kernel
theorem d_R_rides_25 : decode prog_8_method_57_code 25 = .ok (.iload_n 1, 1) := by decide +kernel
theorem d_R_rides_26 : decode prog_8_method_57_code 26 = .ok (.imul, 1) := by decide +kernel
theorem d_R_rides_27 : decode prog_8_method_57_code 27 = .ok (.iload_n 2, 1) := by decide +kernel
theorem d_R_rides_28 : decode prog_8_method_57_code 28 = .ok (.iadd, 1) := by decide +kernel
theorem d_R_rides_29 : decode prog_8_method_57_code 29 = .ok (.iaload, 1) := by decide +kernel
theorem d_R_rides_30 : decode prog_8_method_57_code 30 = .ok (.goto (5), 3) := by decide +kernel
theorem d_R_rides_33 : decode prog_8_method_57_code 33 = .ok (.bipush (-2), 2) := by decide +kernel
theorem d_R_rides_35 : decode prog_8_method_57_code 35 = .ok (.ireturn, 1) := by decide +kernel
def wp_R_rides (a1 : Int32) (a2 : Int32) (M : Mem) (post : Int32 → Mem → Prop) : Prop :=
  wp_R_find M (fun M1 => ((((pf_R_isHour a1) = 0) → post (-2) M1) ∧ (¬ ((pf_R_isHour a1) = 0) → wp_R_isBus a2 M1 (fun r5 => (((r5 = 0) → True) ∧ (¬ (r5 = 0) → (vp_in ((8 * a1) + a2) 192))) ∧ (∀ u8 : Int32, u8 = (if r5 = 0 then (-2) else (M1 25 (tn ((8 * a1) + a2)))) → post u8 M1)))))
set_option maxHeartbeats 4000000 in
set_option maxRecDepth 100000 in
theorem c_R_rides (g : GX) {a1 : Int32} {a2 : Int32} {M : Mem} {post : Int32 → Mem → Prop} (hw : wp_R_rides a1 a2 M post) : CtI (oR g) y_R_rides prog_8_method_57_code 3 (some .int) (rl 6) [.ref (ax g 0), .int a1, .int a2] M post := by
  refine z_metI (oR_ok g) (by decide) rfl (fun X C hr => ?_)
  show Zj X 3 (oR g) M 0 [(0, .ref (ax g 0)), (1, .int a1), (2, .int a2)] []
  unfold wp_R_rides at hw
  refine z_aload_n C d_R_rides_0 rfl 0 rfl ?_
  refine z_callVv C (As := []) (rest := []) m_R_find tw_931 0 (le_R) rfl ⟨rfl, rfl⟩ (c_R_find g hw) rfl rfl rfl d_R_rides_1 (fun M1 hw => ?_)
  refine z_iload_n C d_R_rides_4 rfl 1 rfl ?_
  refine z_callSi C (As := [.int a1]) (rest := []) m_R_isHour tw_889 ⟨rfl, rfl⟩ (c_R_isHour (oR_ok g) _ _) rfl rfl rfl d_R_rides_5 (fun r M2 hq => ?_)
  obtain ⟨rfl, rfl⟩ := hq
  refine z_if_eq C 33 d_R_rides_8 (by decide) (fun h4 => ?_) (fun h4 => ?_)
  · replace hw := hw.1 h4
    refine z_bipush (v := (-2)) C d_R_rides_33 (by decide) ?_
    exact z_iret C hr hw d_R_rides_35
  · replace hw := hw.2 h4
    refine z_aload_n C d_R_rides_11 rfl 0 rfl ?_
    refine z_iload_n C d_R_rides_12 rfl 2 rfl ?_
    refine z_callVi C (As := [.int a2]) (rest := []) m_R_isBus tw_905 0 (le_R) rfl ⟨rfl, rfl⟩ (c_R_isBus g hw) rfl rfl rfl d_R_rides_13 (fun r5 M2 hq => ?_)
    obtain ⟨rfl, hw⟩ := hq
    have hj9 : ∀ u8 : Int32, u8 = (if r5 = 0 then (-2) else (M1 25 (tn ((8 * a1) + a2)))) → Zj X 3 (oR g) M1 35 [] [.int u8] := by
      intro u8 hu8
      replace hw := hw.2 u8 hu8
      exact z_iret C hr hw d_R_rides_35
    have ha0 := hw.1
    refine z_if_eq C 33 d_R_rides_16 (by decide) (fun h6 => ?_) (fun h6 => ?_)
    · refine z_bipush (v := (-2)) C d_R_rides_33 (by decide) ?_
      refine z_sub [] rfl ?_
      exact hj9 _ ((if_pos h6)).symm
    · have ha10 := ha0.2 h6
      refine z_aload_n C d_R_rides_19 rfl 0 rfl ?_
      refine gf_R_82 C d_R_rides_20 ?_
      refine z_bipush (v := 8) C d_R_rides_23 (by decide) ?_
      refine z_iload_n C d_R_rides_25 rfl 1 rfl ?_
      refine z_imul C d_R_rides_26 ?_
      refine z_iload_n C d_R_rides_27 rfl 2 rfl ?_
      refine z_iadd C d_R_rides_28 ?_
      have hv7 := ha10
      refine z_al (zar_r25) C hv7 d_R_rides_29 ?_
      refine z_goto C 35 d_R_rides_30 (by decide) ?_
      refine z_sub [] rfl ?_
      exact hj9 _ ((if_neg h6)).symm
theorem d_R_snow_0 : decode prog_8_method_59_code 0 = .ok (.aload_n 0, 1) := by decide +kernel
theorem d_R_snow_1 : decode prog_8_method_59_code 1 = .ok (.invokevirtual 228, 3) := by decide +kernel
theorem d_R_snow_4 : decode prog_8_method_59_code 4 = .ok (.iload_n 1, 1) := by decide +kernel
theorem d_R_snow_5 : decode prog_8_method_59_code 5 = .ok (.invokestatic 178, 3) := by decide +kernel
theorem d_R_snow_8 : decode prog_8_method_59_code 8 = .ok (.ifCond .eq (19), 3) := by decide +kernel
theorem d_R_snow_11 : decode prog_8_method_59_code 11 = .ok (.iload_n 2, 1) := by decide +kernel
theorem d_R_snow_12 : decode prog_8_method_59_code 12 = .ok (.invokestatic 234, 3) := by decide +kernel
theorem d_R_snow_15 : decode prog_8_method_59_code 15 = .ok (.ifCond .eq (12), 3) := by decide +kernel
theorem d_R_snow_18 : decode prog_8_method_59_code 18 = .ok (.aload_n 0, 1) := by decide +kernel
theorem d_R_snow_19 : decode prog_8_method_59_code 19 = .ok (.iload_n 1, 1) := by decide +kernel
theorem d_R_snow_20 : decode prog_8_method_59_code 20 = .ok (.iload_n 2, 1) := by decide +kernel
theorem d_R_snow_21 : decode prog_8_method_59_code 21 = .ok (.invokevirtual 237, 3) := by decide +kernel
theorem d_R_snow_24 : decode prog_8_method_59_code 24 = .ok (.goto (5), 3) := by decide +kernel
theorem d_R_snow_27 : decode prog_8_method_59_code 27 = .ok (.bipush (-2), 2) := by decide +kernel
theorem d_R_snow_29 : decode prog_8_method_59_code 29 = .ok (.ireturn, 1) := by decide +kernel
def wp_R_snow (a1 : Int32) (a2 : Int32) (M : Mem) (post : Int32 → Mem → Prop) : Prop :=
  wp_R_find M (fun M1 => ((((pf_R_isHour a1) = 0) → post (-2) M1) ∧ (¬ ((pf_R_isHour a1) = 0) → ((((pf_R_isTwo a2) = 0) → post (-2) M1) ∧ (¬ ((pf_R_isTwo a2) = 0) → wp_R_snowBy a1 a2 M1 (fun r7 => post r7 M1))))))
set_option maxHeartbeats 4000000 in
set_option maxRecDepth 100000 in
theorem c_R_snow (g : GX) {a1 : Int32} {a2 : Int32} {M : Mem} {post : Int32 → Mem → Prop} (hw : wp_R_snow a1 a2 M post) : CtI (oR g) y_R_snow prog_8_method_59_code 3 (some .int) (rl 6) [.ref (ax g 0), .int a1, .int a2] M post := by
  refine z_metI (oR_ok g) (by decide) rfl (fun X C hr => ?_)
  show Zj X 3 (oR g) M 0 [(0, .ref (ax g 0)), (1, .int a1), (2, .int a2)] []
  unfold wp_R_snow at hw
  refine z_aload_n C d_R_snow_0 rfl 0 rfl ?_
  refine z_callVv C (As := []) (rest := []) m_R_find tw_931 0 (le_R) rfl ⟨rfl, rfl⟩ (c_R_find g hw) rfl rfl rfl d_R_snow_1 (fun M1 hw => ?_)
  refine z_iload_n C d_R_snow_4 rfl 1 rfl ?_
  refine z_callSi C (As := [.int a1]) (rest := []) m_R_isHour tw_889 ⟨rfl, rfl⟩ (c_R_isHour (oR_ok g) _ _) rfl rfl rfl d_R_snow_5 (fun r M2 hq => ?_)
  obtain ⟨rfl, rfl⟩ := hq
  refine z_if_eq C 27 d_R_snow_8 (by decide) (fun h4 => ?_) (fun h4 => ?_)
  · replace hw := hw.1 h4
    refine z_bipush (v := (-2)) C d_R_snow_27 (by decide) ?_
    exact z_iret C hr hw d_R_snow_29
  · replace hw := hw.2 h4
    refine z_iload_n C d_R_snow_11 rfl 2 rfl ?_
    refine z_callSi C (As := [.int a2]) (rest := []) m_R_isTwo tw_985 ⟨rfl, rfl⟩ (c_R_isTwo (oR_ok g) _ _) rfl rfl rfl d_R_snow_12 (fun r M2 hq => ?_)
    obtain ⟨rfl, rfl⟩ := hq
    refine z_if_eq C 27 d_R_snow_15 (by decide) (fun h6 => ?_) (fun h6 => ?_)
    · replace hw := hw.1 h6
      refine z_bipush (v := (-2)) C d_R_snow_27 (by decide) ?_
      exact z_iret C hr hw d_R_snow_29
    · replace hw := hw.2 h6
      refine z_aload_n C d_R_snow_18 rfl 0 rfl ?_
      refine z_iload_n C d_R_snow_19 rfl 1 rfl ?_
      refine z_iload_n C d_R_snow_20 rfl 2 rfl ?_
      refine z_callVi C (As := [.int a1, .int a2]) (rest := []) m_R_snowBy tw_988 0 (le_R) rfl ⟨rfl, rfl⟩ (c_R_snowBy g hw) rfl rfl rfl d_R_snow_21 (fun r7 M2 hq => ?_)
      obtain ⟨rfl, hw⟩ := hq
      refine z_goto C 29 d_R_snow_24 (by decide) ?_
      exact z_iret C hr hw d_R_snow_29
theorem d_R_over_0 : decode prog_8_method_61_code 0 = .ok (.aload_n 0, 1) := by decide +kernel
theorem d_R_over_1 : decode prog_8_method_61_code 1 = .ok (.invokevirtual 228, 3) := by decide +kernel
theorem d_R_over_4 : decode prog_8_method_61_code 4 = .ok (.aload_n 0, 1) := by decide +kernel
theorem d_R_over_5 : decode prog_8_method_61_code 5 = .ok (.iload_n 1, 1) := by decide +kernel
theorem d_R_over_6 : decode prog_8_method_61_code 6 = .ok (.invokevirtual 184, 3) := by decide +kernel
theorem d_R_over_9 : decode prog_8_method_61_code 9 = .ok (.ifCond .eq (19), 3) := by decide +kernel
theorem d_R_over_12 : decode prog_8_method_61_code 12 = .ok (.iload_n 2, 1) := by decide +kernel
theorem d_R_over_13 : decode prog_8_method_61_code 13 = .ok (.invokestatic 234, 3) := by decide +kernel
theorem d_R_over_16 : decode prog_8_method_61_code 16 = .ok (.ifCond .eq (12), 3) := by decide +kernel
theorem d_R_over_19 : decode prog_8_method_61_code 19 = .ok (.aload_n 0, 1) := by decide +kernel
theorem d_R_over_20 : decode prog_8_method_61_code 20 = .ok (.iload_n 1, 1) := by decide +kernel
theorem d_R_over_21 : decode prog_8_method_61_code 21 = .ok (.iload_n 2, 1) := by decide +kernel
theorem d_R_over_22 : decode prog_8_method_61_code 22 = .ok (.invokevirtual 240, 3) := by decide +kernel
theorem d_R_over_25 : decode prog_8_method_61_code 25 = .ok (.goto (5), 3) := by decide +kernel
theorem d_R_over_28 : decode prog_8_method_61_code 28 = .ok (.bipush (-2), 2) := by decide +kernel
theorem d_R_over_30 : decode prog_8_method_61_code 30 = .ok (.ireturn, 1) := by decide +kernel
def wp_R_over (a1 : Int32) (a2 : Int32) (M : Mem) (post : Int32 → Mem → Prop) : Prop :=
  wp_R_find M (fun M1 => wp_R_isBus a1 M1 (fun r3 => (((r3 = 0) → post (-2) M1) ∧ (¬ (r3 = 0) → ((((pf_R_isTwo a2) = 0) → post (-2) M1) ∧ (¬ ((pf_R_isTwo a2) = 0) → wp_R_overBy a1 a2 M1 (fun r7 => post r7 M1)))))))
set_option maxHeartbeats 4000000 in
set_option maxRecDepth 100000 in
theorem c_R_over (g : GX) {a1 : Int32} {a2 : Int32} {M : Mem} {post : Int32 → Mem → Prop} (hw : wp_R_over a1 a2 M post) : CtI (oR g) y_R_over prog_8_method_61_code 3 (some .int) (rl 6) [.ref (ax g 0), .int a1, .int a2] M post := by
  refine z_metI (oR_ok g) (by decide) rfl (fun X C hr => ?_)
  show Zj X 3 (oR g) M 0 [(0, .ref (ax g 0)), (1, .int a1), (2, .int a2)] []
  unfold wp_R_over at hw
  refine z_aload_n C d_R_over_0 rfl 0 rfl ?_
  refine z_callVv C (As := []) (rest := []) m_R_find tw_931 0 (le_R) rfl ⟨rfl, rfl⟩ (c_R_find g hw) rfl rfl rfl d_R_over_1 (fun M1 hw => ?_)
  refine z_aload_n C d_R_over_4 rfl 0 rfl ?_
  refine z_iload_n C d_R_over_5 rfl 1 rfl ?_
  refine z_callVi C (As := [.int a1]) (rest := []) m_R_isBus tw_905 0 (le_R) rfl ⟨rfl, rfl⟩ (c_R_isBus g hw) rfl rfl rfl d_R_over_6 (fun r3 M2 hq => ?_)
  obtain ⟨rfl, hw⟩ := hq
  refine z_if_eq C 28 d_R_over_9 (by decide) (fun h4 => ?_) (fun h4 => ?_)
  · replace hw := hw.1 h4
    refine z_bipush (v := (-2)) C d_R_over_28 (by decide) ?_
    exact z_iret C hr hw d_R_over_30
  · replace hw := hw.2 h4
    refine z_iload_n C d_R_over_12 rfl 2 rfl ?_
    refine z_callSi C (As := [.int a2]) (rest := []) m_R_isTwo tw_985 ⟨rfl, rfl⟩ (c_R_isTwo (oR_ok g) _ _) rfl rfl rfl d_R_over_13 (fun r M2 hq => ?_)
    obtain ⟨rfl, rfl⟩ := hq
    refine z_if_eq C 28 d_R_over_16 (by decide) (fun h6 => ?_) (fun h6 => ?_)
    · replace hw := hw.1 h6
      refine z_bipush (v := (-2)) C d_R_over_28 (by decide) ?_
      exact z_iret C hr hw d_R_over_30
    · replace hw := hw.2 h6
      refine z_aload_n C d_R_over_19 rfl 0 rfl ?_
      refine z_iload_n C d_R_over_20 rfl 1 rfl ?_
      refine z_iload_n C d_R_over_21 rfl 2 rfl ?_
      refine z_callVi C (As := [.int a1, .int a2]) (rest := []) m_R_overBy tw_996 0 (le_R) rfl ⟨rfl, rfl⟩ (c_R_overBy g hw) rfl rfl rfl d_R_over_22 (fun r7 M2 hq => ?_)
      obtain ⟨rfl, hw⟩ := hq
      refine z_goto C 30 d_R_over_25 (by decide) ?_
      exact z_iret C hr hw d_R_over_30
theorem d_R_cleared_0 : decode prog_8_method_63_code 0 = .ok (.aload_n 0, 1) := by decide +kernel
theorem d_R_cleared_1 : decode prog_8_method_63_code 1 = .ok (.invokevirtual 228, 3) := by decide +kernel
theorem d_R_cleared_4 : decode prog_8_method_63_code 4 = .ok (.aload_n 0, 1) := by decide +kernel
theorem d_R_cleared_5 : decode prog_8_method_63_code 5 = .ok (.iload_n 1, 1) := by decide +kernel
theorem d_R_cleared_6 : decode prog_8_method_63_code 6 = .ok (.invokevirtual 181, 3) := by decide +kernel
theorem d_R_cleared_9 : decode prog_8_method_63_code 9 = .ok (.ifCond .eq (19), 3) := by decide +kernel
theorem d_R_cleared_12 : decode prog_8_method_63_code 12 = .ok (.iload_n 2, 1) := by decide +kernel
theorem d_R_cleared_13 : decode prog_8_method_63_code 13 = .ok (.invokestatic 234, 3) := by decide +kernel
theorem d_R_cleared_16 : decode prog_8_method_63_code 16 = .ok (.ifCond .eq (12), 3) := by decide +kernel
theorem d_R_cleared_19 : decode prog_8_method_63_code 19 = .ok (.aload_n 0, 1) := by decide +kernel
theorem d_R_cleared_20 : decode prog_8_method_63_code 20 = .ok (.iload_n 1, 1) := by decide +kernel
theorem d_R_cleared_21 : decode prog_8_method_63_code 21 = .ok (.iload_n 2, 1) := by decide +kernel
theorem d_R_cleared_22 : decode prog_8_method_63_code 22 = .ok (.invokevirtual 243, 3) := by decide +kernel
theorem d_R_cleared_25 : decode prog_8_method_63_code 25 = .ok (.goto (5), 3) := by decide +kernel
theorem d_R_cleared_28 : decode prog_8_method_63_code 28 = .ok (.bipush (-2), 2) := by decide +kernel
theorem d_R_cleared_30 : decode prog_8_method_63_code 30 = .ok (.ireturn, 1) := by decide +kernel
def wp_R_cleared (a1 : Int32) (a2 : Int32) (M : Mem) (post : Int32 → Mem → Prop) : Prop :=
  wp_R_find M (fun M1 => wp_R_isPlough a1 M1 (fun r3 => (((r3 = 0) → post (-2) M1) ∧ (¬ (r3 = 0) → ((((pf_R_isTwo a2) = 0) → post (-2) M1) ∧ (¬ ((pf_R_isTwo a2) = 0) → wp_R_clearedBy a1 a2 M1 (fun r7 => post r7 M1)))))))
set_option maxHeartbeats 4000000 in
set_option maxRecDepth 100000 in
theorem c_R_cleared (g : GX) {a1 : Int32} {a2 : Int32} {M : Mem} {post : Int32 → Mem → Prop} (hw : wp_R_cleared a1 a2 M post) : CtI (oR g) y_R_cleared prog_8_method_63_code 3 (some .int) (rl 6) [.ref (ax g 0), .int a1, .int a2] M post := by
  refine z_metI (oR_ok g) (by decide) rfl (fun X C hr => ?_)
  show Zj X 3 (oR g) M 0 [(0, .ref (ax g 0)), (1, .int a1), (2, .int a2)] []
  unfold wp_R_cleared at hw
  refine z_aload_n C d_R_cleared_0 rfl 0 rfl ?_
  refine z_callVv C (As := []) (rest := []) m_R_find tw_931 0 (le_R) rfl ⟨rfl, rfl⟩ (c_R_find g hw) rfl rfl rfl d_R_cleared_1 (fun M1 hw => ?_)
  refine z_aload_n C d_R_cleared_4 rfl 0 rfl ?_
  refine z_iload_n C d_R_cleared_5 rfl 1 rfl ?_
  refine z_callVi C (As := [.int a1]) (rest := []) m_R_isPlough tw_897 0 (le_R) rfl ⟨rfl, rfl⟩ (c_R_isPlough g hw) rfl rfl rfl d_R_cleared_6 (fun r3 M2 hq => ?_)
  obtain ⟨rfl, hw⟩ := hq
  refine z_if_eq C 28 d_R_cleared_9 (by decide) (fun h4 => ?_) (fun h4 => ?_)
  · replace hw := hw.1 h4
    refine z_bipush (v := (-2)) C d_R_cleared_28 (by decide) ?_
    exact z_iret C hr hw d_R_cleared_30
  · replace hw := hw.2 h4
    refine z_iload_n C d_R_cleared_12 rfl 2 rfl ?_
    refine z_callSi C (As := [.int a2]) (rest := []) m_R_isTwo tw_985 ⟨rfl, rfl⟩ (c_R_isTwo (oR_ok g) _ _) rfl rfl rfl d_R_cleared_13 (fun r M2 hq => ?_)
    obtain ⟨rfl, rfl⟩ := hq
    refine z_if_eq C 28 d_R_cleared_16 (by decide) (fun h6 => ?_) (fun h6 => ?_)
    · replace hw := hw.1 h6
      refine z_bipush (v := (-2)) C d_R_cleared_28 (by decide) ?_
      exact z_iret C hr hw d_R_cleared_30
    · replace hw := hw.2 h6
      refine z_aload_n C d_R_cleared_19 rfl 0 rfl ?_
      refine z_iload_n C d_R_cleared_20 rfl 1 rfl ?_
      refine z_iload_n C d_R_cleared_21 rfl 2 rfl ?_
      refine z_callVi C (As := [.int a1, .int a2]) (rest := []) m_R_clearedBy tw_1004 0 (le_R) rfl ⟨rfl, rfl⟩ (c_R_clearedBy g hw) rfl rfl rfl d_R_cleared_22 (fun r7 M2 hq => ?_)
      obtain ⟨rfl, hw⟩ := hq
      refine z_goto C 30 d_R_cleared_25 (by decide) ?_
      exact z_iret C hr hw d_R_cleared_30
theorem d_R_deepest_0 : decode prog_8_method_65_code 0 = .ok (.aload_n 0, 1) := by decide +kernel
theorem d_R_deepest_1 : decode prog_8_method_65_code 1 = .ok (.invokevirtual 228, 3) := by decide +kernel
theorem d_R_deepest_4 : decode prog_8_method_65_code 4 = .ok (.iload_n 1, 1) := by decide +kernel
theorem d_R_deepest_5 : decode prog_8_method_65_code 5 = .ok (.i2l, 1) := by decide +kernel
theorem d_R_deepest_6 : decode prog_8_method_65_code 6 = .ok (.lconst 0, 1) := by decide +kernel
theorem d_R_deepest_7 : decode prog_8_method_65_code 7 = .ok (.ldc2_w 110, 3) := by decide +kernel
theorem d_R_deepest_10 : decode prog_8_method_65_code 10 = .ok (.invokestatic 97, 3) := by decide +kernel
theorem d_R_deepest_13 : decode prog_8_method_65_code 13 = .ok (.ifCond .eq (11), 3) := by decide +kernel
theorem d_R_deepest_16 : decode prog_8_method_65_code 16 = .ok (.aload_n 0, 1) := by decide +kernel
theorem d_R_deepest_17 : decode prog_8_method_65_code 17 = .ok (.iload_n 1, 1) := by decide +kernel
theorem d_R_deepest_18 : decode prog_8_method_65_code 18 = .ok (.invokevirtual 246, 3) := by decide +kernel
theorem d_R_deepest_21 : decode prog_8_method_65_code 21 = .ok (.goto (5), 3) := by decide +kernel
theorem d_R_deepest_24 : decode prog_8_method_65_code 24 = .ok (.bipush (-2), 2) := by decide +kernel
theorem d_R_deepest_26 : decode prog_8_method_65_code 26 = .ok (.ireturn, 1) := by decide +kernel
def wp_R_deepest (a1 : Int32) (M : Mem) (post : Int32 → Mem → Prop) : Prop :=
  wp_R_find M (fun M1 => ((((pf_R_in (Int32.toInt64 a1) 0 (2)) = 0) → post (-2) M1) ∧ (¬ ((pf_R_in (Int32.toInt64 a1) 0 (2)) = 0) → wp_R_deepestBy a1 M1 (fun r5 => post r5 M1))))
set_option maxHeartbeats 4000000 in
set_option maxRecDepth 100000 in
theorem c_R_deepest (g : GX) {a1 : Int32} {M : Mem} {post : Int32 → Mem → Prop} (hw : wp_R_deepest a1 M post) : CtI (oR g) y_R_deepest prog_8_method_65_code 2 (some .int) (rl 6) [.ref (ax g 0), .int a1] M post := by
  refine z_metI (oR_ok g) (by decide) rfl (fun X C hr => ?_)
  show Zj X 2 (oR g) M 0 [(0, .ref (ax g 0)), (1, .int a1)] []
  unfold wp_R_deepest at hw
  refine z_aload_n C d_R_deepest_0 rfl 0 rfl ?_
  refine z_callVv C (As := []) (rest := []) m_R_find tw_931 0 (le_R) rfl ⟨rfl, rfl⟩ (c_R_find g hw) rfl rfl rfl d_R_deepest_1 (fun M1 hw => ?_)
  refine z_iload_n C d_R_deepest_4 rfl 1 rfl ?_
  refine z_i2l C d_R_deepest_5 ?_
  refine z_lconst (v := 0) C d_R_deepest_6 (by decide) ?_
  refine z_ldc2 C d_R_deepest_7 tw_789 ?_
  refine z_callSi C (As := [.long (Int32.toInt64 a1), .long 0, .long (2)]) (rest := []) m_R_in tw_786 ⟨rfl, rfl⟩ (c_R_in (oR_ok g) _ _ _ _) rfl rfl rfl d_R_deepest_10 (fun r M2 hq => ?_)
  obtain ⟨rfl, rfl⟩ := hq
  refine z_if_eq C 24 d_R_deepest_13 (by decide) (fun h4 => ?_) (fun h4 => ?_)
  · replace hw := hw.1 h4
    refine z_bipush (v := (-2)) C d_R_deepest_24 (by decide) ?_
    exact z_iret C hr hw d_R_deepest_26
  · replace hw := hw.2 h4
    refine z_aload_n C d_R_deepest_16 rfl 0 rfl ?_
    refine z_iload_n C d_R_deepest_17 rfl 1 rfl ?_
    refine z_callVi C (As := [.int a1]) (rest := []) m_R_deepestBy tw_1012 0 (le_R) rfl ⟨rfl, rfl⟩ (c_R_deepestBy g hw) rfl rfl rfl d_R_deepest_18 (fun r5 M2 hq => ?_)
    obtain ⟨rfl, hw⟩ := hq
    refine z_goto C 26 d_R_deepest_21 (by decide) ?_
    exact z_iret C hr hw d_R_deepest_26
theorem d_R_shut_0 : decode prog_8_method_67_code 0 = .ok (.aload_n 0, 1) := by decide +kernel
theorem d_R_shut_1 : decode prog_8_method_67_code 1 = .ok (.invokevirtual 228, 3) := by decide +kernel
theorem d_R_shut_4 : decode prog_8_method_67_code 4 = .ok (.aload_n 0, 1) := by decide +kernel
theorem d_R_shut_5 : decode prog_8_method_67_code 5 = .ok (.invokevirtual 249, 3) := by decide +kernel
theorem d_R_shut_8 : decode prog_8_method_67_code 8 = .ok (.ireturn, 1) := by decide +kernel
def wp_R_shut (M : Mem) (post : Int32 → Mem → Prop) : Prop :=
  wp_R_find M (fun M1 => wp_R_shutNow M1 (fun r3 => post r3 M1))
set_option maxHeartbeats 4000000 in
set_option maxRecDepth 100000 in
theorem c_R_shut (g : GX) {M : Mem} {post : Int32 → Mem → Prop} (hw : wp_R_shut M post) : CtI (oR g) y_R_shut prog_8_method_67_code 1 (some .int) (rl 6) [.ref (ax g 0)] M post := by
  refine z_metI (oR_ok g) (by decide) rfl (fun X C hr => ?_)
  show Zj X 1 (oR g) M 0 [(0, .ref (ax g 0))] []
  unfold wp_R_shut at hw
  refine z_aload_n C d_R_shut_0 rfl 0 rfl ?_
  refine z_callVv C (As := []) (rest := []) m_R_find tw_931 0 (le_R) rfl ⟨rfl, rfl⟩ (c_R_find g hw) rfl rfl rfl d_R_shut_1 (fun M1 hw => ?_)
  refine z_aload_n C d_R_shut_4 rfl 0 rfl ?_
  refine z_callVi C (As := []) (rest := []) m_R_shutNow tw_1020 0 (le_R) rfl ⟨rfl, rfl⟩ (c_R_shutNow g hw) rfl rfl rfl d_R_shut_5 (fun r3 M2 hq => ?_)
  obtain ⟨rfl, hw⟩ := hq
  exact z_iret C hr hw d_R_shut_8
theorem d_R_best_0 : decode prog_8_method_69_code 0 = .ok (.aload_n 0, 1) := by decide +kernel
theorem d_R_best_1 : decode prog_8_method_69_code 1 = .ok (.invokevirtual 228, 3) := by decide +kernel
theorem d_R_best_4 : decode prog_8_method_69_code 4 = .ok (.aload_n 0, 1) := by decide +kernel
theorem d_R_best_5 : decode prog_8_method_69_code 5 = .ok (.invokevirtual 255, 3) := by decide +kernel
theorem d_R_best_8 : decode prog_8_method_69_code 8 = .ok (.ireturn, 1) := by decide +kernel
def wp_R_best (M : Mem) (post : Int32 → Mem → Prop) : Prop :=
  wp_R_find M (fun M1 => wp_R_bestNow M1 (fun r3 => post r3 M1))
set_option maxHeartbeats 4000000 in
set_option maxRecDepth 100000 in
theorem c_R_best (g : GX) {M : Mem} {post : Int32 → Mem → Prop} (hw : wp_R_best M post) : CtI (oR g) y_R_best prog_8_method_69_code 1 (some .int) (rl 6) [.ref (ax g 0)] M post := by
  refine z_metI (oR_ok g) (by decide) rfl (fun X C hr => ?_)
  show Zj X 1 (oR g) M 0 [(0, .ref (ax g 0))] []
  unfold wp_R_best at hw
  refine z_aload_n C d_R_best_0 rfl 0 rfl ?_
  refine z_callVv C (As := []) (rest := []) m_R_find tw_931 0 (le_R) rfl ⟨rfl, rfl⟩ (c_R_find g hw) rfl rfl rfl d_R_best_1 (fun M1 hw => ?_)
  refine z_aload_n C d_R_best_4 rfl 0 rfl ?_
  refine z_callVi C (As := []) (rest := []) m_R_bestNow tw_1028 0 (le_R) rfl ⟨rfl, rfl⟩ (c_R_bestNow g hw) rfl rfl rfl d_R_best_5 (fun r3 M2 hq => ?_)
  obtain ⟨rfl, hw⟩ := hq
  exact z_iret C hr hw d_R_best_8
theorem d_R_begin_0 : decode prog_8_method_72_code 0 = .ok (.aload_n 0, 1) := by decide +kernel
theorem d_R_begin_1 : decode prog_8_method_72_code 1 = .ok (.invokevirtual 228, 3) := by decide +kernel
theorem d_R_begin_4 : decode prog_8_method_72_code 4 = .ok (.aload_n 0, 1) := by decide +kernel
theorem d_R_begin_5 : decode prog_8_method_72_code 5 = .ok (.iload_n 1, 1) := by decide +kernel
theorem d_R_begin_6 : decode prog_8_method_72_code 6 = .ok (.invokevirtual 181, 3) := by decide +kernel
theorem d_R_begin_9 : decode prog_8_method_72_code 9 = .ok (.ifCond .eq (19), 3) := by decide +kernel
theorem d_R_begin_12 : decode prog_8_method_72_code 12 = .ok (.iload_n 2, 1) := by decide +kernel
theorem d_R_begin_13 : decode prog_8_method_72_code 13 = .ok (.invokestatic 234, 3) := by decide +kernel
theorem d_R_begin_16 : decode prog_8_method_72_code 16 = .ok (.ifCond .eq (12), 3) := by decide +kernel
theorem d_R_begin_19 : decode prog_8_method_72_code 19 = .ok (.aload_n 0, 1) := by decide +kernel
theorem d_R_begin_20 : decode prog_8_method_72_code 20 = .ok (.iload_n 1, 1) := by decide +kernel
theorem d_R_begin_21 : decode prog_8_method_72_code 21 = .ok (.iload_n 2, 1) := by decide +kernel
theorem d_R_begin_22 : decode prog_8_method_72_code 22 = .ok (.invokevirtual 261, 3) := by decide +kernel
theorem d_R_begin_25 : decode prog_8_method_72_code 25 = .ok (.goto (5), 3) := by decide +kernel
theorem d_R_begin_28 : decode prog_8_method_72_code 28 = .ok (.bipush (-2), 2) := by decide +kernel
theorem d_R_begin_30 : decode prog_8_method_72_code 30 = .ok (.ireturn, 1) := by decide +kernel
def wp_R_begin (a1 : Int32) (a2 : Int32) (M : Mem) (post : Int32 → Mem → Prop) : Prop :=
  wp_R_find M (fun M1 => wp_R_isPlough a1 M1 (fun r3 => (((r3 = 0) → post (-2) M1) ∧ (¬ (r3 = 0) → ((((pf_R_isTwo a2) = 0) → post (-2) M1) ∧ (¬ ((pf_R_isTwo a2) = 0) → wp_R_beginOf a1 a2 M1 (fun r8 M7 => post r8 M7)))))))
set_option maxHeartbeats 4000000 in
set_option maxRecDepth 100000 in
theorem c_R_begin (g : GX) {a1 : Int32} {a2 : Int32} {M : Mem} {post : Int32 → Mem → Prop} (hw : wp_R_begin a1 a2 M post) : CtI (oR g) y_R_begin prog_8_method_72_code 3 (some .int) (rl 6) [.ref (ax g 0), .int a1, .int a2] M post := by
  refine z_metI (oR_ok g) (by decide) rfl (fun X C hr => ?_)
  show Zj X 3 (oR g) M 0 [(0, .ref (ax g 0)), (1, .int a1), (2, .int a2)] []
  unfold wp_R_begin at hw
  refine z_aload_n C d_R_begin_0 rfl 0 rfl ?_
  refine z_callVv C (As := []) (rest := []) m_R_find tw_931 0 (le_R) rfl ⟨rfl, rfl⟩ (c_R_find g hw) rfl rfl rfl d_R_begin_1 (fun M1 hw => ?_)
  refine z_aload_n C d_R_begin_4 rfl 0 rfl ?_
  refine z_iload_n C d_R_begin_5 rfl 1 rfl ?_
  refine z_callVi C (As := [.int a1]) (rest := []) m_R_isPlough tw_897 0 (le_R) rfl ⟨rfl, rfl⟩ (c_R_isPlough g hw) rfl rfl rfl d_R_begin_6 (fun r3 M2 hq => ?_)
  obtain ⟨rfl, hw⟩ := hq
  refine z_if_eq C 28 d_R_begin_9 (by decide) (fun h4 => ?_) (fun h4 => ?_)
  · replace hw := hw.1 h4
    refine z_bipush (v := (-2)) C d_R_begin_28 (by decide) ?_
    exact z_iret C hr hw d_R_begin_30
  · replace hw := hw.2 h4
    refine z_iload_n C d_R_begin_12 rfl 2 rfl ?_
    refine z_callSi C (As := [.int a2]) (rest := []) m_R_isTwo tw_985 ⟨rfl, rfl⟩ (c_R_isTwo (oR_ok g) _ _) rfl rfl rfl d_R_begin_13 (fun r M2 hq => ?_)
    obtain ⟨rfl, rfl⟩ := hq
    refine z_if_eq C 28 d_R_begin_16 (by decide) (fun h6 => ?_) (fun h6 => ?_)
    · replace hw := hw.1 h6
      refine z_bipush (v := (-2)) C d_R_begin_28 (by decide) ?_
      exact z_iret C hr hw d_R_begin_30
    · replace hw := hw.2 h6
      refine z_aload_n C d_R_begin_19 rfl 0 rfl ?_
      refine z_iload_n C d_R_begin_20 rfl 1 rfl ?_
      refine z_iload_n C d_R_begin_21 rfl 2 rfl ?_
      refine z_callVi C (As := [.int a1, .int a2]) (rest := []) m_R_beginOf tw_1039 0 (le_R) rfl ⟨rfl, rfl⟩ (c_R_beginOf g hw) rfl rfl rfl d_R_begin_22 (fun r8 M7 hw => ?_)
      refine z_goto C 30 d_R_begin_25 (by decide) ?_
      exact z_iret C hr hw d_R_begin_30
theorem d_R_hedge_0 : decode prog_8_method_74_code 0 = .ok (.aload_n 0, 1) := by decide +kernel
theorem d_R_hedge_1 : decode prog_8_method_74_code 1 = .ok (.invokevirtual 228, 3) := by decide +kernel
theorem d_R_hedge_4 : decode prog_8_method_74_code 4 = .ok (.iload_n 1, 1) := by decide +kernel
theorem d_R_hedge_5 : decode prog_8_method_74_code 5 = .ok (.invokestatic 234, 3) := by decide +kernel
theorem d_R_hedge_8 : decode prog_8_method_74_code 8 = .ok (.ifCond .eq (11), 3) := by decide +kernel
theorem d_R_hedge_11 : decode prog_8_method_74_code 11 = .ok (.aload_n 0, 1) := by decide +kernel
theorem d_R_hedge_12 : decode prog_8_method_74_code 12 = .ok (.iload_n 1, 1) := by decide +kernel
theorem d_R_hedge_13 : decode prog_8_method_74_code 13 = .ok (.invokevirtual 265, 3) := by decide +kernel
theorem d_R_hedge_16 : decode prog_8_method_74_code 16 = .ok (.goto (5), 3) := by decide +kernel
theorem d_R_hedge_19 : decode prog_8_method_74_code 19 = .ok (.bipush (-2), 2) := by decide +kernel
theorem d_R_hedge_21 : decode prog_8_method_74_code 21 = .ok (.ireturn, 1) := by decide +kernel
def wp_R_hedge (a1 : Int32) (M : Mem) (post : Int32 → Mem → Prop) : Prop :=
  wp_R_find M (fun M1 => ((((pf_R_isTwo a1) = 0) → post (-2) M1) ∧ (¬ ((pf_R_isTwo a1) = 0) → wp_R_hedgeBy a1 M1 (fun r6 M5 => post r6 M5))))
set_option maxHeartbeats 4000000 in
set_option maxRecDepth 100000 in
theorem c_R_hedge (g : GX) {a1 : Int32} {M : Mem} {post : Int32 → Mem → Prop} (hw : wp_R_hedge a1 M post) : CtI (oR g) y_R_hedge prog_8_method_74_code 2 (some .int) (rl 6) [.ref (ax g 0), .int a1] M post := by
  refine z_metI (oR_ok g) (by decide) rfl (fun X C hr => ?_)
  show Zj X 2 (oR g) M 0 [(0, .ref (ax g 0)), (1, .int a1)] []
  unfold wp_R_hedge at hw
  refine z_aload_n C d_R_hedge_0 rfl 0 rfl ?_
  refine z_callVv C (As := []) (rest := []) m_R_find tw_931 0 (le_R) rfl ⟨rfl, rfl⟩ (c_R_find g hw) rfl rfl rfl d_R_hedge_1 (fun M1 hw => ?_)
  refine z_iload_n C d_R_hedge_4 rfl 1 rfl ?_
  refine z_callSi C (As := [.int a1]) (rest := []) m_R_isTwo tw_985 ⟨rfl, rfl⟩ (c_R_isTwo (oR_ok g) _ _) rfl rfl rfl d_R_hedge_5 (fun r M2 hq => ?_)
  obtain ⟨rfl, rfl⟩ := hq
  refine z_if_eq C 19 d_R_hedge_8 (by decide) (fun h4 => ?_) (fun h4 => ?_)
  · replace hw := hw.1 h4
    refine z_bipush (v := (-2)) C d_R_hedge_19 (by decide) ?_
    exact z_iret C hr hw d_R_hedge_21
  · replace hw := hw.2 h4
    refine z_aload_n C d_R_hedge_11 rfl 0 rfl ?_
    refine z_iload_n C d_R_hedge_12 rfl 1 rfl ?_
    refine z_callVi C (As := [.int a1]) (rest := []) m_R_hedgeBy tw_1051 0 (le_R) rfl ⟨rfl, rfl⟩ (c_R_hedgeBy g hw) rfl rfl rfl d_R_hedge_13 (fun r6 M5 hw => ?_)
    refine z_goto C 21 d_R_hedge_16 (by decide) ?_
    exact z_iret C hr hw d_R_hedge_21
theorem d_R_start_0 : decode prog_8_method_76_code 0 = .ok (.aload_n 0, 1) := by decide +kernel
theorem d_R_start_1 : decode prog_8_method_76_code 1 = .ok (.invokevirtual 228, 3) := by decide +kernel
theorem d_R_start_4 : decode prog_8_method_76_code 4 = .ok (.aload_n 0, 1) := by decide +kernel
theorem d_R_start_5 : decode prog_8_method_76_code 5 = .ok (.iload_n 1, 1) := by decide +kernel
theorem d_R_start_6 : decode prog_8_method_76_code 6 = .ok (.invokevirtual 184, 3) := by decide +kernel
theorem d_R_start_9 : decode prog_8_method_76_code 9 = .ok (.ifCond .eq (19), 3) := by decide +kernel
theorem d_R_start_12 : decode prog_8_method_76_code 12 = .ok (.iload_n 2, 1) := by decide +kernel
theorem d_R_start_13 : decode prog_8_method_76_code 13 = .ok (.invokestatic 234, 3) := by decide +kernel
theorem d_R_start_16 : decode prog_8_method_76_code 16 = .ok (.ifCond .eq (12), 3) := by decide +kernel
theorem d_R_start_19 : decode prog_8_method_76_code 19 = .ok (.aload_n 0, 1) := by decide +kernel
theorem d_R_start_20 : decode prog_8_method_76_code 20 = .ok (.iload_n 1, 1) := by decide +kernel
theorem d_R_start_21 : decode prog_8_method_76_code 21 = .ok (.iload_n 2, 1) := by decide +kernel
theorem d_R_start_22 : decode prog_8_method_76_code 22 = .ok (.invokevirtual 268, 3) := by decide +kernel
theorem d_R_start_25 : decode prog_8_method_76_code 25 = .ok (.goto (5), 3) := by decide +kernel
theorem d_R_start_28 : decode prog_8_method_76_code 28 = .ok (.bipush (-2), 2) := by decide +kernel
theorem d_R_start_30 : decode prog_8_method_76_code 30 = .ok (.ireturn, 1) := by decide +kernel
def wp_R_start (a1 : Int32) (a2 : Int32) (M : Mem) (post : Int32 → Mem → Prop) : Prop :=
  wp_R_find M (fun M1 => wp_R_isBus a1 M1 (fun r3 => (((r3 = 0) → post (-2) M1) ∧ (¬ (r3 = 0) → ((((pf_R_isTwo a2) = 0) → post (-2) M1) ∧ (¬ ((pf_R_isTwo a2) = 0) → wp_R_startOf a1 a2 M1 (fun r8 M7 => post r8 M7)))))))
set_option maxHeartbeats 4000000 in
set_option maxRecDepth 100000 in
theorem c_R_start (g : GX) {a1 : Int32} {a2 : Int32} {M : Mem} {post : Int32 → Mem → Prop} (hw : wp_R_start a1 a2 M post) : CtI (oR g) y_R_start prog_8_method_76_code 3 (some .int) (rl 6) [.ref (ax g 0), .int a1, .int a2] M post := by
  refine z_metI (oR_ok g) (by decide) rfl (fun X C hr => ?_)
  show Zj X 3 (oR g) M 0 [(0, .ref (ax g 0)), (1, .int a1), (2, .int a2)] []
  unfold wp_R_start at hw
  refine z_aload_n C d_R_start_0 rfl 0 rfl ?_
  refine z_callVv C (As := []) (rest := []) m_R_find tw_931 0 (le_R) rfl ⟨rfl, rfl⟩ (c_R_find g hw) rfl rfl rfl d_R_start_1 (fun M1 hw => ?_)
  refine z_aload_n C d_R_start_4 rfl 0 rfl ?_
  refine z_iload_n C d_R_start_5 rfl 1 rfl ?_
  refine z_callVi C (As := [.int a1]) (rest := []) m_R_isBus tw_905 0 (le_R) rfl ⟨rfl, rfl⟩ (c_R_isBus g hw) rfl rfl rfl d_R_start_6 (fun r3 M2 hq => ?_)
  obtain ⟨rfl, hw⟩ := hq
  refine z_if_eq C 28 d_R_start_9 (by decide) (fun h4 => ?_) (fun h4 => ?_)
  · replace hw := hw.1 h4
    refine z_bipush (v := (-2)) C d_R_start_28 (by decide) ?_
    exact z_iret C hr hw d_R_start_30
  · replace hw := hw.2 h4
    refine z_iload_n C d_R_start_12 rfl 2 rfl ?_
    refine z_callSi C (As := [.int a2]) (rest := []) m_R_isTwo tw_985 ⟨rfl, rfl⟩ (c_R_isTwo (oR_ok g) _ _) rfl rfl rfl d_R_start_13 (fun r M2 hq => ?_)
    obtain ⟨rfl, rfl⟩ := hq
    refine z_if_eq C 28 d_R_start_16 (by decide) (fun h6 => ?_) (fun h6 => ?_)
    · replace hw := hw.1 h6
      refine z_bipush (v := (-2)) C d_R_start_28 (by decide) ?_
      exact z_iret C hr hw d_R_start_30
    · replace hw := hw.2 h6
      refine z_aload_n C d_R_start_19 rfl 0 rfl ?_
      refine z_iload_n C d_R_start_20 rfl 1 rfl ?_
      refine z_iload_n C d_R_start_21 rfl 2 rfl ?_
      refine z_callVi C (As := [.int a1, .int a2]) (rest := []) m_R_startOf tw_1060 0 (le_R) rfl ⟨rfl, rfl⟩ (c_R_startOf g hw) rfl rfl rfl d_R_start_22 (fun r8 M7 hw => ?_)
      refine z_goto C 30 d_R_start_25 (by decide) ?_
      exact z_iret C hr hw d_R_start_30
theorem d_R_spareBy_0 : decode prog_8_method_78_code 0 = .ok (.aload_n 0, 1) := by decide +kernel
theorem d_R_spareBy_1 : decode prog_8_method_78_code 1 = .ok (.iconst 0, 1) := by decide +kernel
theorem d_R_spareBy_2 : decode prog_8_method_78_code 2 = .ok (.invokevirtual 271, 3) := by decide +kernel
theorem d_R_spareBy_5 : decode prog_8_method_78_code 5 = .ok (.ifCond .eq (14), 3) := by decide +kernel
theorem d_R_spareBy_8 : decode prog_8_method_78_code 8 = .ok (.iload_n 1, 1) := by decide +kernel
theorem d_R_spareBy_9 : decode prog_8_method_78_code 9 = .ok (.iconst (-1), 1) := by decide +kernel
theorem d_R_spareBy_10 : decode prog_8_method_78_code 10 = .ok (.if_icmp .ne (7), 3) := by decide +kernel
theorem d_R_spareBy_13 : decode prog_8_method_78_code 13 = .ok (.iconst 0, 1) := by decide +kernel
theorem d_R_spareBy_14 : decode prog_8_method_78_code 14 = .ok (.goto (4), 3) := by decide +kernel
theorem d_R_spareBy_17 : decode prog_8_method_78_code 17 = .ok (.iconst (-1), 1) := by decide +kernel
theorem d_R_spareBy_18 : decode prog_8_method_78_code 18 = .ok (.ireturn, 1) := by decide +kernel
theorem d_R_spareBy_19 : decode prog_8_method_78_code 19 = .ok (.iconst 0, 1) := by decide +kernel
theorem d_R_spareBy_20 : decode prog_8_method_78_code 20 = .ok (.istore_n 2, 1) := by decide +kernel
theorem d_R_spareBy_21 : decode prog_8_method_78_code 21 = .ok (.iload_n 2, 1) := by decide +kernel
theorem d_R_spareBy_22 : decode prog_8_method_78_code 22 = .ok (.aload_n 0, 1) := by decide +kernel
theorem d_R_spareBy_23 : decode prog_8_method_78_code 23 = .ok (.getfield 189, 3) := by decide +kernel
theorem d_R_spareBy_26 : decode prog_8_method_78_code 26 = .ok (.if_icmp .ge (38), 3) := by decide +kernel
theorem d_R_spareBy_29 : decode prog_8_method_78_code 29 = .ok (.aload_n 0, 1) := by decide +kernel
theorem d_R_spareBy_30 : decode prog_8_method_78_code 30 = .ok (.iconst 1, 1) := by decide +kernel
theorem d_R_spareBy_31 : decode prog_8_method_78_code 31 = .ok (.iload_n 2, 1) := by decide +kernel
theorem d_R_spareBy_32 : decode prog_8_method_78_code 32 = .ok (.ishl, 1) := by decide +kernel
theorem d_R_spareBy_33 : decode prog_8_method_78_code 33 = .ok (.invokevirtual 271, 3) := by decide +kernel
theorem d_R_spareBy_36 : decode prog_8_method_78_code 36 = .ok (.ifCond .eq (22), 3) := by decide +kernel
theorem d_R_spareBy_39 : decode prog_8_method_78_code 39 = .ok (.iload_n 1, 1) := by decide +kernel
theorem d_R_spareBy_40 : decode prog_8_method_78_code 40 = .ok (.iconst (-1), 1) := by decide +kernel
theorem d_R_spareBy_41 : decode prog_8_method_78_code 41 = .ok (.if_icmp .ne (7), 3) := by decide +kernel
theorem d_R_spareBy_44 : decode prog_8_method_78_code 44 = .ok (.iconst 1, 1) := by decide +kernel
theorem d_R_spareBy_45 : decode prog_8_method_78_code 45 = .ok (.goto (12), 3) := by decide +kernel
theorem d_R_spareBy_48 : decode prog_8_method_78_code 48 = .ok (.iload_n 1, 1) := by decide +kernel
theorem d_R_spareBy_49 : decode prog_8_method_78_code 49 = .ok (.ifCond .ne (7), 3) := by decide +kernel
theorem d_R_spareBy_52 : decode prog_8_method_78_code 52 = .ok (.iload_n 2, 1) := by decide +kernel
theorem d_R_spareBy_53 : decode prog_8_method_78_code 53 = .ok (.goto (4), 3) := by decide +kernel
theorem d_R_spareBy_56 : decode prog_8_method_78_code 56 = .ok (.iconst (-1), 1) := by decide +kernel
theorem d_R_spareBy_57 : decode prog_8_method_78_code 57 = .ok (.ireturn, 1) := by decide +kernel
theorem d_R_spareBy_58 : decode prog_8_method_78_code 58 = .ok (.iinc 2 1, 3) := by decide +kernel
theorem d_R_spareBy_61 : decode prog_8_method_78_code 61 = .ok (.goto (-40), 3) := by decide +kernel
theorem d_R_spareBy_64 : decode prog_8_method_78_code 64 = .ok (.iconst 0, 1) := by decide +kernel
theorem d_R_spareBy_65 : decode prog_8_method_78_code 65 = .ok (.istore_n 2, 1) := by decide +kernel
theorem d_R_spareBy_66 : decode prog_8_method_78_code 66 = .ok (.iload_n 2, 1) := by decide +kernel
theorem d_R_spareBy_67 : decode prog_8_method_78_code 67 = .ok (.aload_n 0, 1) := by decide +kernel
theorem d_R_spareBy_68 : decode prog_8_method_78_code 68 = .ok (.getfield 189, 3) := by decide +kernel
theorem d_R_spareBy_71 : decode prog_8_method_78_code 71 = .ok (.if_icmp .ge (60), 3) := by decide +kernel
theorem d_R_spareBy_74 : decode prog_8_method_78_code 74 = .ok (.iload_n 2, 1) := by decide +kernel
theorem d_R_spareBy_75 : decode prog_8_method_78_code 75 = .ok (.iconst 1, 1) := by decide +kernel
theorem d_R_spareBy_76 : decode prog_8_method_78_code 76 = .ok (.iadd, 1) := by decide +kernel
theorem d_R_spareBy_77 : decode prog_8_method_78_code 77 = .ok (.istore_n 3, 1) := by decide +kernel
theorem d_R_spareBy_78 : decode prog_8_method_78_code 78 = .ok (.iload_n 3, 1) := by decide +kernel
theorem d_R_spareBy_79 : decode prog_8_method_78_code 79 = .ok (.aload_n 0, 1) := by decide +kernel
theorem d_R_spareBy_80 : decode prog_8_method_78_code 80 = .ok (.getfield 189, 3) := by decide +kernel
theorem d_R_spareBy_83 : decode prog_8_method_78_code 83 = .ok (.if_icmp .ge (42), 3) := by decide +kernel
theorem d_R_spareBy_86 : decode prog_8_method_78_code 86 = .ok (.aload_n 0, 1) := by decide +kernel
theorem d_R_spareBy_87 : decode prog_8_method_78_code 87 = .ok (.iconst 1, 1) := by decide +kernel
theorem d_R_spareBy_88 : decode prog_8_method_78_code 88 = .ok (.iload_n 2, 1) := by decide +kernel
theorem d_R_spareBy_89 : decode prog_8_method_78_code 89 = .ok (.ishl, 1) := by decide +kernel
theorem d_R_spareBy_90 : decode prog_8_method_78_code 90 = .ok (.iconst 1, 1) := by decide +kernel
theorem d_R_spareBy_91 : decode prog_8_method_78_code 91 = .ok (.iload_n 3, 1) := by decide +kernel
theorem d_R_spareBy_92 : decode prog_8_method_78_code 92 = .ok (.ishl, 1) := by decide +kernel
theorem d_R_spareBy_93 : decode prog_8_method_78_code 93 = .ok (.ior, 1) := by decide +kernel
theorem d_R_spareBy_94 : decode prog_8_method_78_code 94 = .ok (.invokevirtual 271, 3) := by decide +kernel
theorem d_R_spareBy_97 : decode prog_8_method_78_code 97 = .ok (.ifCond .eq (22), 3) := by decide +kernel
theorem d_R_spareBy_100 : decode prog_8_method_78_code 100 = .ok (.iload_n 1, 1) := by decide +kernel
theorem d_R_spareBy_101 : decode prog_8_method_78_code 101 = .ok (.iconst (-1), 1) := by decide +kernel
theorem d_R_spareBy_102 : decode prog_8_method_78_code 102 = .ok (.if_icmp .ne (7), 3) := by decide +kernel
theorem d_R_spareBy_105 : decode prog_8_method_78_code 105 = .ok (.iconst 2, 1) := by decide +kernel
theorem d_R_spareBy_106 : decode prog_8_method_78_code 106 = .ok (.goto (12), 3) := by decide +kernel
theorem d_R_spareBy_109 : decode prog_8_method_78_code 109 = .ok (.iload_n 1, 1) := by decide +kernel
theorem d_R_spareBy_110 : decode prog_8_method_78_code 110 = .ok (.ifCond .ne (7), 3) := by decide +kernel
theorem d_R_spareBy_113 : decode prog_8_method_78_code 113 = .ok (.iload_n 2, 1) := by decide +kernel
theorem d_R_spareBy_114 : decode prog_8_method_78_code 114 = .ok (.goto (4), 3) := by decide +kernel
theorem d_R_spareBy_117 : decode prog_8_method_78_code 117 = .ok (.iload_n 3, 1) := by decide +kernel
theorem d_R_spareBy_118 : decode prog_8_method_78_code 118 = .ok (.ireturn, 1) := by decide +kernel
theorem d_R_spareBy_119 : decode prog_8_method_78_code 119 = .ok (.iinc 3 1, 3) := by decide +kernel
theorem d_R_spareBy_122 : decode prog_8_method_78_code 122 = .ok (.goto (-44), 3) := by decide +kernel
theorem d_R_spareBy_125 : decode prog_8_method_78_code 125 = .ok (.iinc 2 1, 3) := by decide +kernel
theorem d_R_spareBy_128 : decode prog_8_method_78_code 128 = .ok (.goto (-62), 3) := by decide +kernel
theorem d_R_spareBy_131 : decode prog_8_method_78_code 131 = .ok (.iconst (-1), 1) := by decide +kernel
theorem d_R_spareBy_132 : decode prog_8_method_78_code 132 = .ok (.ireturn, 1) := by decide +kernel
def wp_R_spareBy (a1 : Int32) (M : Mem) (post : Int32 → Mem → Prop) : Prop :=
  wp_R_isSpared 0 M (fun r2 M1 => (((r2 = 0) → (it2 (fun rec4 (i6 : Int32) (M7 : Mem) => ((((M7 0 14) ≤ i6) → (it2 (fun rec9 (i11 : Int32) (M12 : Mem) => ((((M12 0 14) ≤ i11) → post (-1) M12) ∧ (¬ ((M12 0 14) ≤ i11) → (it2 (fun rec14 (i16 : Int32) (M17 : Mem) => ((((M17 0 14) ≤ i16) → rec9 (i11 + 1) M17) ∧ (¬ ((M17 0 14) ≤ i16) → wp_R_isSpared (((1 : Int32) <<< (i11 &&& 31)) ||| ((1 : Int32) <<< (i16 &&& 31))) M17 (fun r20 M19 => (((r20 = 0) → rec14 (i16 + 1) M19) ∧ (¬ (r20 = 0) → ∀ u24 : Int32, u24 = (if a1 = (-1) then 2 else (if a1 = 0 then i11 else i16)) → post u24 M19)))))) 4096 (i11 + 1) M12)))) 4096 0 M7)) ∧ (¬ ((M7 0 14) ≤ i6) → wp_R_isSpared ((1 : Int32) <<< (i6 &&& 31)) M7 (fun r27 M26 => (((r27 = 0) → rec4 (i6 + 1) M26) ∧ (¬ (r27 = 0) → ∀ u31 : Int32, u31 = (if a1 = (-1) then 1 else (if a1 = 0 then i6 else (-1))) → post u31 M26)))))) 4096 0 M1)) ∧ (¬ (r2 = 0) → ∀ u34 : Int32, u34 = (if a1 = (-1) then 0 else (-1)) → post u34 M1)))
set_option maxHeartbeats 4000000 in
set_option maxRecDepth 100000 in
theorem c_R_spareBy (g : GX) {a1 : Int32} {M : Mem} {post : Int32 → Mem → Prop} (hw : wp_R_spareBy a1 M post) : CtI (oR g) y_R_spareBy prog_8_method_78_code 4 (some .int) (rl 6) [.ref (ax g 0), .int a1] M post := by
  refine z_metI (oR_ok g) (by decide) rfl (fun X C hr => ?_)
  show Zj X 4 (oR g) M 0 [(0, .ref (ax g 0)), (1, .int a1)] []
  unfold wp_R_spareBy at hw
  refine z_aload_n C d_R_spareBy_0 rfl 0 rfl ?_
  refine z_iconst (v := 0) C d_R_spareBy_1 (by decide) ?_
  refine z_callVi C (As := [.int 0]) (rest := []) m_R_isSpared tw_1073 0 (le_R) rfl ⟨rfl, rfl⟩ (c_R_isSpared g hw) rfl rfl rfl d_R_spareBy_2 (fun r2 M1 hw => ?_)
  refine z_if_eq C 19 d_R_spareBy_5 (by decide) (fun h3 => ?_) (fun h3 => ?_)
  · replace hw := hw.1 h3
    refine z_iconst (v := 0) C d_R_spareBy_19 (by decide) ?_
    refine z_istore_n (lv' := [(2, .int 0), (0, .ref (ax g 0)), (1, .int a1)]) C d_R_spareBy_20 rfl rfl rfl ?_
    refine z_sub [1, 2, 0] rfl ?_
    refine it2_Z (Z := fun (i6 : Int32) (M7 : Mem) => Zj X 4 (oR g) M7 21 [(0, .ref (ax g 0)), (1, .int a1), (2, .int i6)] []) (fun rec4 ih5 i6 M7 hw => ?_) _ _ _ hw
    refine z_iload_n C d_R_spareBy_21 rfl 2 rfl ?_
    refine z_aload_n C d_R_spareBy_22 rfl 0 rfl ?_
    refine gf_R_189 C d_R_spareBy_23 ?_
    refine z_ic_ge C 64 d_R_spareBy_26 (by decide) (fun h8 => ?_) (fun h8 => ?_)
    · replace hw := hw.1 h8
      refine z_iconst (v := 0) C d_R_spareBy_64 (by decide) ?_
      refine z_istore_n (lv' := [(2, .int 0), (0, .ref (ax g 0)), (1, .int a1)]) C d_R_spareBy_65 rfl rfl rfl ?_
      refine z_sub [1, 2, 0] rfl ?_
      refine it2_Z (Z := fun (i11 : Int32) (M12 : Mem) => Zj X 4 (oR g) M12 66 [(0, .ref (ax g 0)), (1, .int a1), (2, .int i11)] []) (fun rec9 ih10 i11 M12 hw => ?_) _ _ _ hw
      refine z_iload_n C d_R_spareBy_66 rfl 2 rfl ?_
      refine z_aload_n C d_R_spareBy_67 rfl 0 rfl ?_
      refine gf_R_189 C d_R_spareBy_68 ?_
      refine z_ic_ge C 131 d_R_spareBy_71 (by decide) (fun h13 => ?_) (fun h13 => ?_)
      · replace hw := hw.1 h13
        refine z_iconst (v := (-1)) C d_R_spareBy_131 (by decide) ?_
        exact z_iret C hr hw d_R_spareBy_132
      · replace hw := hw.2 h13
        refine z_iload_n C d_R_spareBy_74 rfl 2 rfl ?_
        refine z_iconst (v := 1) C d_R_spareBy_75 (by decide) ?_
        refine z_iadd C d_R_spareBy_76 ?_
        refine z_istore_n (lv' := [(3, .int (i11 + 1)), (0, .ref (ax g 0)), (1, .int a1), (2, .int i11)]) C d_R_spareBy_77 rfl rfl rfl ?_
        refine z_sub [1, 2, 3, 0] rfl ?_
        refine it2_Z (Z := fun (i16 : Int32) (M17 : Mem) => Zj X 4 (oR g) M17 78 [(0, .ref (ax g 0)), (1, .int a1), (2, .int i11), (3, .int i16)] []) (fun rec14 ih15 i16 M17 hw => ?_) _ _ _ hw
        refine z_iload_n C d_R_spareBy_78 rfl 3 rfl ?_
        refine z_aload_n C d_R_spareBy_79 rfl 0 rfl ?_
        refine gf_R_189 C d_R_spareBy_80 ?_
        refine z_ic_ge C 125 d_R_spareBy_83 (by decide) (fun h18 => ?_) (fun h18 => ?_)
        · replace hw := hw.1 h18
          refine z_iinc (v := (i11 + 1)) (lv' := [(2, .int (i11 + 1)), (0, .ref (ax g 0)), (1, .int a1), (3, .int i16)]) C d_R_spareBy_125 2 rfl rfl rfl rfl ?_
          refine z_goto C 66 d_R_spareBy_128 (by decide) ?_
          refine z_sub [1, 2, 0] rfl ?_
          exact ih10 _ _ hw
        · replace hw := hw.2 h18
          refine z_aload_n C d_R_spareBy_86 rfl 0 rfl ?_
          refine z_iconst (v := 1) C d_R_spareBy_87 (by decide) ?_
          refine z_iload_n C d_R_spareBy_88 rfl 2 rfl ?_
          refine z_ishl C d_R_spareBy_89 ?_
          refine z_iconst (v := 1) C d_R_spareBy_90 (by decide) ?_
          refine z_iload_n C d_R_spareBy_91 rfl 3 rfl ?_
          refine z_ishl C d_R_spareBy_92 ?_
          refine z_ior C d_R_spareBy_93 ?_
          refine z_callVi C (As := [.int (((1 : Int32) <<< (i11 &&& 31)) ||| ((1 : Int32) <<< (i16 &&& 31)))]) (rest := []) m_R_isSpared tw_1073 0 (le_R) rfl ⟨rfl, rfl⟩ (c_R_isSpared g hw) rfl rfl rfl d_R_spareBy_94 (fun r20 M19 hw => ?_)
          refine z_if_eq C 119 d_R_spareBy_97 (by decide) (fun h21 => ?_) (fun h21 => ?_)
          · replace hw := hw.1 h21
            refine z_iinc (v := (i16 + 1)) (lv' := [(3, .int (i16 + 1)), (0, .ref (ax g 0)), (1, .int a1), (2, .int i11)]) C d_R_spareBy_119 3 rfl rfl rfl rfl ?_
            refine z_goto C 78 d_R_spareBy_122 (by decide) ?_
            refine z_sub [1, 2, 3, 0] rfl ?_
            exact ih15 _ _ hw
          · replace hw := hw.2 h21
            refine z_iload_n C d_R_spareBy_100 rfl 1 rfl ?_
            refine z_iconst (v := (-1)) C d_R_spareBy_101 (by decide) ?_
            have hj25 : ∀ u24 : Int32, u24 = (if a1 = (-1) then 2 else (if a1 = 0 then i11 else i16)) → Zj X 4 (oR g) M19 118 [] [.int u24] := by
              intro u24 hu24
              replace hw := hw u24 hu24
              exact z_iret C hr hw d_R_spareBy_118
            refine z_ic_ne C 109 d_R_spareBy_102 (by decide) (fun h22 => ?_) (fun h22 => ?_)
            · refine z_iload_n C d_R_spareBy_109 rfl 1 rfl ?_
              refine z_if_ne C 117 d_R_spareBy_110 (by decide) (fun h23 => ?_) (fun h23 => ?_)
              · refine z_iload_n C d_R_spareBy_117 rfl 3 rfl ?_
                refine z_sub [] rfl ?_
                exact hj25 _ (((if_neg h22).trans (if_neg h23))).symm
              · refine z_iload_n C d_R_spareBy_113 rfl 2 rfl ?_
                refine z_goto C 118 d_R_spareBy_114 (by decide) ?_
                refine z_sub [] rfl ?_
                exact hj25 _ (((if_neg h22).trans (if_pos h23))).symm
            · refine z_iconst (v := 2) C d_R_spareBy_105 (by decide) ?_
              refine z_goto C 118 d_R_spareBy_106 (by decide) ?_
              refine z_sub [] rfl ?_
              exact hj25 _ ((if_pos h22)).symm
    · replace hw := hw.2 h8
      refine z_aload_n C d_R_spareBy_29 rfl 0 rfl ?_
      refine z_iconst (v := 1) C d_R_spareBy_30 (by decide) ?_
      refine z_iload_n C d_R_spareBy_31 rfl 2 rfl ?_
      refine z_ishl C d_R_spareBy_32 ?_
      refine z_callVi C (As := [.int ((1 : Int32) <<< (i6 &&& 31))]) (rest := []) m_R_isSpared tw_1073 0 (le_R) rfl ⟨rfl, rfl⟩ (c_R_isSpared g hw) rfl rfl rfl d_R_spareBy_33 (fun r27 M26 hw => ?_)
      refine z_if_eq C 58 d_R_spareBy_36 (by decide) (fun h28 => ?_) (fun h28 => ?_)
      · replace hw := hw.1 h28
        refine z_iinc (v := (i6 + 1)) (lv' := [(2, .int (i6 + 1)), (0, .ref (ax g 0)), (1, .int a1)]) C d_R_spareBy_58 2 rfl rfl rfl rfl ?_
        refine z_goto C 21 d_R_spareBy_61 (by decide) ?_
        refine z_sub [1, 2, 0] rfl ?_
        exact ih5 _ _ hw
      · replace hw := hw.2 h28
        refine z_iload_n C d_R_spareBy_39 rfl 1 rfl ?_
        refine z_iconst (v := (-1)) C d_R_spareBy_40 (by decide) ?_
        have hj32 : ∀ u31 : Int32, u31 = (if a1 = (-1) then 1 else (if a1 = 0 then i6 else (-1))) → Zj X 4 (oR g) M26 57 [] [.int u31] := by
          intro u31 hu31
          replace hw := hw u31 hu31
          exact z_iret C hr hw d_R_spareBy_57
        refine z_ic_ne C 48 d_R_spareBy_41 (by decide) (fun h29 => ?_) (fun h29 => ?_)
        · refine z_iload_n C d_R_spareBy_48 rfl 1 rfl ?_
          refine z_if_ne C 56 d_R_spareBy_49 (by decide) (fun h30 => ?_) (fun h30 => ?_)
          · refine z_iconst (v := (-1)) C d_R_spareBy_56 (by decide) ?_
            refine z_sub [] rfl ?_
            exact hj32 _ (((if_neg h29).trans (if_neg h30))).symm
          · refine z_iload_n C d_R_spareBy_52 rfl 2 rfl ?_
            refine z_goto C 57 d_R_spareBy_53 (by decide) ?_
            refine z_sub [] rfl ?_
            exact hj32 _ (((if_neg h29).trans (if_pos h30))).symm
        · refine z_iconst (v := 1) C d_R_spareBy_44 (by decide) ?_
          refine z_goto C 57 d_R_spareBy_45 (by decide) ?_
          refine z_sub [] rfl ?_
          exact hj32 _ ((if_pos h29)).symm
  · replace hw := hw.2 h3
    refine z_iload_n C d_R_spareBy_8 rfl 1 rfl ?_
    refine z_iconst (v := (-1)) C d_R_spareBy_9 (by decide) ?_
    have hj35 : ∀ u34 : Int32, u34 = (if a1 = (-1) then 0 else (-1)) → Zj X 4 (oR g) M1 18 [] [.int u34] := by
      intro u34 hu34
      replace hw := hw u34 hu34
      exact z_iret C hr hw d_R_spareBy_18
    refine z_ic_ne C 17 d_R_spareBy_10 (by decide) (fun h33 => ?_) (fun h33 => ?_)
    · refine z_iconst (v := (-1)) C d_R_spareBy_17 (by decide) ?_
      refine z_sub [] rfl ?_
      exact hj35 _ ((if_neg h33)).symm
    · refine z_iconst (v := 0) C d_R_spareBy_13 (by decide) ?_
      refine z_goto C 18 d_R_spareBy_14 (by decide) ?_
      refine z_sub [] rfl ?_
      exact hj35 _ ((if_pos h33)).symm
theorem d_R_neverNow_0 : decode prog_8_method_83_code 0 = .ok (.iconst 0, 1) := by decide +kernel
theorem d_R_neverNow_1 : decode prog_8_method_83_code 1 = .ok (.istore_n 1, 1) := by decide +kernel
theorem d_R_neverNow_2 : decode prog_8_method_83_code 2 = .ok (.iconst 0, 1) := by decide +kernel
theorem d_R_neverNow_3 : decode prog_8_method_83_code 3 = .ok (.istore_n 2, 1) := by decide +kernel
theorem d_R_neverNow_4 : decode prog_8_method_83_code 4 = .ok (.iload_n 2, 1) := by decide +kernel
theorem d_R_neverNow_5 : decode prog_8_method_83_code 5 = .ok (.aload_n 0, 1) := by decide +kernel
theorem d_R_neverNow_6 : decode prog_8_method_83_code 6 = .ok (.getfield 189, 3) := by decide +kernel
theorem d_R_neverNow_9 : decode prog_8_method_83_code 9 = .ok (.if_icmp .ge (33), 3) := by decide +kernel
theorem d_R_neverNow_12 : decode prog_8_method_83_code 12 = .ok (.aload_n 0, 1) := by decide +kernel
theorem d_R_neverNow_13 : decode prog_8_method_83_code 13 = .ok (.iconst 1, 1) := by decide +kernel
theorem d_R_neverNow_14 : decode prog_8_method_83_code 14 = .ok (.iload_n 2, 1) := by decide +kernel
theorem d_R_neverNow_15 : decode prog_8_method_83_code 15 = .ok (.ishl, 1) := by decide +kernel
theorem d_R_neverNow_16 : decode prog_8_method_83_code 16 = .ok (.putfield 194, 3) := by decide +kernel
theorem d_R_neverNow_19 : decode prog_8_method_83_code 19 = .ok (.iload_n 1, 1) := by decide +kernel
theorem d_R_neverNow_20 : decode prog_8_method_83_code 20 = .ok (.aload_n 0, 1) := by decide +kernel
theorem d_R_neverNow_21 : decode prog_8_method_83_code 21 = .ok (.invokevirtual 284, 3) := by decide +kernel
theorem d_R_neverNow_24 : decode prog_8_method_83_code 24 = .ok (.ifCond .eq (9), 3) := by decide +kernel
theorem d_R_neverNow_27 : decode prog_8_method_83_code 27 = .ok (.iconst 1, 1) := by decide +kernel
theorem d_R_neverNow_28 : decode prog_8_method_83_code 28 = .ok (.iload_n 2, 1) := by decide +kernel
theorem d_R_neverNow_29 : decode prog_8_method_83_code 29 = .ok (.ishl, 1) := by decide +kernel
theorem d_R_neverNow_30 : decode prog_8_method_83_code 30 = .ok (.goto (4), 3) := by decide +kernel
theorem d_R_neverNow_33 : decode prog_8_method_83_code 33 = .ok (.iconst 0, 1) := by decide +kernel
theorem d_R_neverNow_34 : decode prog_8_method_83_code 34 = .ok (.ior, 1) := by decide +kernel
theorem d_R_neverNow_35 : decode prog_8_method_83_code 35 = .ok (.istore_n 1, 1) := by decide +kernel
theorem d_R_neverNow_36 : decode prog_8_method_83_code 36 = .ok (.iinc 2 1, 3) := by decide +kernel
theorem d_R_neverNow_39 : decode prog_8_method_83_code 39 = .ok (.goto (-35), 3) := by decide +kernel
theorem d_R_neverNow_42 : decode prog_8_method_83_code 42 = .ok (.aload_n 0, 1) := by decide +kernel
theorem d_R_neverNow_43 : decode prog_8_method_83_code 43 = .ok (.iconst 0, 1) := by decide +kernel
theorem d_R_neverNow_44 : decode prog_8_method_83_code 44 = .ok (.putfield 194, 3) := by decide +kernel
theorem d_R_neverNow_47 : decode prog_8_method_83_code 47 = .ok (.iload_n 1, 1) := by decide +kernel
theorem d_R_neverNow_48 : decode prog_8_method_83_code 48 = .ok (.ireturn, 1) := by decide +kernel
def wp_R_neverNow (M : Mem) (post : Int32 → Mem → Prop) : Prop :=
  (it3 (fun rec1 (i3 : Int32) (i4 : Int32) (M5 : Mem) => ((((M5 0 14) ≤ i4) → ∀ M7 : Mem, M7 = upm M5 0 16 0 → post i3 M7) ∧ (¬ ((M5 0 14) ≤ i4) → ∀ M8 : Mem, M8 = upm M5 0 16 ((1 : Int32) <<< (i4 &&& 31)) → wp_R_isSeen M8 (fun r10 M9 => ∀ u12 : Int32, u12 = (if r10 = 0 then 0 else ((1 : Int32) <<< (i4 &&& 31))) → rec1 (i3 ||| u12) (i4 + 1) M9)))) 4096 0 0 M)
set_option maxHeartbeats 4000000 in
set_option maxRecDepth 100000 in
theorem c_R_neverNow (g : GX) {M : Mem} {post : Int32 → Mem → Prop} (hw : wp_R_neverNow M post) : CtI (oR g) y_R_neverNow prog_8_method_83_code 3 (some .int) (rl 6) [.ref (ax g 0)] M post := by
  refine z_metI (oR_ok g) (by decide) rfl (fun X C hr => ?_)
  show Zj X 3 (oR g) M 0 [(0, .ref (ax g 0))] []
  unfold wp_R_neverNow at hw
  refine z_iconst (v := 0) C d_R_neverNow_0 (by decide) ?_
  refine z_istore_n (lv' := [(1, .int 0), (0, .ref (ax g 0))]) C d_R_neverNow_1 rfl rfl rfl ?_
  refine z_iconst (v := 0) C d_R_neverNow_2 (by decide) ?_
  refine z_istore_n (lv' := [(2, .int 0), (1, .int 0), (0, .ref (ax g 0))]) C d_R_neverNow_3 rfl rfl rfl ?_
  refine z_sub [2, 1, 0] rfl ?_
  refine it3_Z (Z := fun (i3 : Int32) (i4 : Int32) (M5 : Mem) => Zj X 3 (oR g) M5 4 [(0, .ref (ax g 0)), (1, .int i3), (2, .int i4)] []) (fun rec1 ih2 i3 i4 M5 hw => ?_) _ _ _ _ hw
  refine z_iload_n C d_R_neverNow_4 rfl 2 rfl ?_
  refine z_aload_n C d_R_neverNow_5 rfl 0 rfl ?_
  refine gf_R_189 C d_R_neverNow_6 ?_
  refine z_ic_ge C 42 d_R_neverNow_9 (by decide) (fun h6 => ?_) (fun h6 => ?_)
  · replace hw := hw.1 h6
    refine z_aload_n C d_R_neverNow_42 rfl 0 rfl ?_
    refine z_iconst (v := 0) C d_R_neverNow_43 (by decide) ?_
    refine pp_R_194 C d_R_neverNow_44 (fun M7 hM7 => ?_)
    replace hw := hw M7 hM7
    refine z_iload_n C d_R_neverNow_47 rfl 1 rfl ?_
    exact z_iret C hr hw d_R_neverNow_48
  · replace hw := hw.2 h6
    refine z_aload_n C d_R_neverNow_12 rfl 0 rfl ?_
    refine z_iconst (v := 1) C d_R_neverNow_13 (by decide) ?_
    refine z_iload_n C d_R_neverNow_14 rfl 2 rfl ?_
    refine z_ishl C d_R_neverNow_15 ?_
    refine pp_R_194 C d_R_neverNow_16 (fun M8 hM8 => ?_)
    replace hw := hw M8 hM8
    refine z_iload_n C d_R_neverNow_19 rfl 1 rfl ?_
    refine z_aload_n C d_R_neverNow_20 rfl 0 rfl ?_
    refine z_callVi C (As := []) (rest := [.int i3]) m_R_isSeen tw_1094 0 (le_R) rfl ⟨rfl, rfl⟩ (c_R_isSeen g hw) rfl rfl rfl d_R_neverNow_21 (fun r10 M9 hw => ?_)
    have hj13 : ∀ u12 : Int32, u12 = (if r10 = 0 then 0 else ((1 : Int32) <<< (i4 &&& 31))) → Zj X 3 (oR g) M9 34 [(0, .ref (ax g 0)), (2, .int i4)] [.int u12, .int i3] := by
      intro u12 hu12
      replace hw := hw u12 hu12
      refine z_ior C d_R_neverNow_34 ?_
      refine z_istore_n (lv' := [(1, .int (i3 ||| u12)), (0, .ref (ax g 0)), (2, .int i4)]) C d_R_neverNow_35 rfl rfl rfl ?_
      refine z_iinc (v := (i4 + 1)) (lv' := [(2, .int (i4 + 1)), (1, .int (i3 ||| u12)), (0, .ref (ax g 0))]) C d_R_neverNow_36 2 rfl rfl rfl rfl ?_
      refine z_goto C 4 d_R_neverNow_39 (by decide) ?_
      refine z_sub [2, 1, 0] rfl ?_
      exact ih2 _ _ _ hw
    refine z_if_eq C 33 d_R_neverNow_24 (by decide) (fun h11 => ?_) (fun h11 => ?_)
    · refine z_iconst (v := 0) C d_R_neverNow_33 (by decide) ?_
      refine z_sub [0, 2] rfl ?_
      exact hj13 _ ((if_pos h11)).symm
    · refine z_iconst (v := 1) C d_R_neverNow_27 (by decide) ?_
      refine z_iload_n C d_R_neverNow_28 rfl 2 rfl ?_
      refine z_ishl C d_R_neverNow_29 ?_
      refine z_goto C 34 d_R_neverNow_30 (by decide) ?_
      refine z_sub [0, 2] rfl ?_
      exact hj13 _ ((if_neg h11)).symm
