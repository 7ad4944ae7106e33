theorem d_R_isTold_0 : decode prog_8_method_46_code 0 = .ok (.aload_n 0, 1) := by decide +kernel
theorem d_R_isTold_1 : decode prog_8_method_46_code 1 = .ok (.getfield 40, 3) := by decide +kernel
theorem d_R_isTold_4 : decode prog_8_method_46_code 4 = .ok (.iconst 3, 1) := by decide +kernel
theorem d_R_isTold_5 : decode prog_8_method_46_code 5 = .ok (.iload_n 1, 1) := by decide +kernel
theorem d_R_isTold_6 : decode prog_8_method_46_code 6 = .ok (.imul, 1) := by decide +kernel
theorem d_R_isTold_7 : decode prog_8_method_46_code 7 = .ok (.iaload, 1) := by decide +kernel
theorem d_R_isTold_8 : decode prog_8_method_46_code 8 = .ok (.iload_n 2, 1) := by decide +kernel
theorem d_R_isTold_9 : decode prog_8_method_46_code 9 = .ok (.if_icmp .ne (32), 3) := by decide +kernel
theorem d_R_isTold_12 : decode prog_8_method_46_code 12 = .ok (.aload_n 0, 1) := by decide +kernel
theorem d_R_isTold_13 : decode prog_8_method_46_code 13 = .ok (.getfield 40, 3) := by decide +kernel
theorem d_R_isTold_16 : decode prog_8_method_46_code 16 = .ok (.iconst 3, 1) := by decide +kernel
theorem d_R_isTold_17 : decode prog_8_method_46_code 17 = .ok (.iload_n 1, 1) := by decide +kernel
theorem d_R_isTold_18 : decode prog_8_method_46_code 18 = .ok (.imul, 1) := by decide +kernel
theorem d_R_isTold_19 : decode prog_8_method_46_code 19 = .ok (.iconst 1, 1) := by decide +kernel
theorem d_R_isTold_20 : decode prog_8_method_46_code 20 = .ok (.iadd, 1) := by decide +kernel
theorem d_R_isTold_21 : decode prog_8_method_46_code 21 = .ok (.iaload, 1) := by decide +kernel
theorem d_R_isTold_22 : decode prog_8_method_46_code 22 = .ok (.iload_n 3, 1) := by decide +kernel
theorem d_R_isTold_23 : decode prog_8_method_46_code 23 = .ok (.if_icmp .ne (18), 3) := by decide +kernel
theorem d_R_isTold_26 : decode prog_8_method_46_code 26 = .ok (.aload_n 0, 1) := by decide +kernel
theorem d_R_isTold_27 : decode prog_8_method_46_code 27 = .ok (.getfield 194, 3) := by decide +kernel
theorem d_R_isTold_30 : decode prog_8_method_46_code 30 = .ok (.iload_n 1, 1) := by decide +kernel
theorem d_R_isTold_31 : decode prog_8_method_46_code 31 = .ok (.invokestatic 197, 3) := by decide +kernel
theorem d_R_isTold_34 : decode prog_8_method_46_code 34 = .ok (.ifCond .ne (7), 3) := by decide +kernel
theorem d_R_isTold_37 : decode prog_8_method_46_code 37 = .ok (.iconst 1, 1) := by decide +kernel
theorem d_R_isTold_38 : decode prog_8_method_46_code 38 = .ok (.goto (4), 3) := by decide +kernel
theorem d_R_isTold_41 : decode prog_8_method_46_code 41 = .ok (.iconst 0, 1) := by decide +kernel
theorem d_R_isTold_42 : decode prog_8_method_46_code 42 = .ok (.ireturn, 1) := by decide +kernel
def wp_R_isTold (a1 : Int32) (a2 : Int32) (a3 : Int32) (M : Mem) (post : Int32 → Prop) : Prop :=
  vp_in (3 * a1) 24 ∧ ((((M 11 (tn (3 * a1))) = a2) → (vp_in ((3 * a1) + 1) 24)) ∧ (¬ ((M 11 (tn (3 * a1))) = a2) → True)) ∧ (∀ u7 : Int32, u7 = (if (M 11 (tn (3 * a1))) = a2 then (if (M 11 (tn ((3 * a1) + 1))) = a3 then (if (pf_R_isIn (M 0 16) a1) = 0 then 1 else 0) else 0) else 0) → (u7 = 0 ∨ u7 = 1) ∧ post u7)
set_option maxHeartbeats 4000000 in
set_option maxRecDepth 100000 in
theorem c_R_isTold (g : GX) {a1 : Int32} {a2 : Int32} {a3 : Int32} {M : Mem} {post : Int32 → Prop} (hw : wp_R_isTold a1 a2 a3 M post) : CtI (oR g) y_R_isTold prog_8_method_46_code 4 (some .boolean) (rl 1) [.ref (ax g 0), .int a1, .int a2, .int a3] M (fun r M2 => M = M2 ∧ post r) := by
  refine z_metI (oR_ok g) (by decide) rfl (fun X C hr => ?_)
  show Zj X 4 (oR g) M 0 [(0, .ref (ax g 0)), (1, .int a1), (2, .int a2), (3, .int a3)] []
  unfold wp_R_isTold at hw
  refine z_aload_n C d_R_isTold_0 rfl 0 rfl ?_
  refine gf_R_40 C d_R_isTold_1 ?_
  refine z_iconst (v := 3) C d_R_isTold_4 (by decide) ?_
  refine z_iload_n C d_R_isTold_5 rfl 1 rfl ?_
  refine z_imul C d_R_isTold_6 ?_
  have hv1 := hw.1
  replace hw := hw.2
  refine z_al (zar_r11) C hv1 d_R_isTold_7 ?_
  refine z_iload_n C d_R_isTold_8 rfl 2 rfl ?_
  have hj8 : ∀ u7 : Int32, u7 = (if (M 11 (tn (3 * a1))) = a2 then (if (M 11 (tn ((3 * a1) + 1))) = a3 then (if (pf_R_isIn (M 0 16) a1) = 0 then 1 else 0) else 0) else 0) → Zj X 4 (oR g) M 42 [] [.int u7] := by
    intro u7 hu7
    replace hw := hw.2 u7 hu7
    exact z_zret C hr hw.1 ⟨rfl, hw.2⟩ d_R_isTold_42
  have ha0 := hw.1
  refine z_ic_ne C 41 d_R_isTold_9 (by decide) (fun h2 => ?_) (fun h2 => ?_)
  · refine z_iconst (v := 0) C d_R_isTold_41 (by decide) ?_
    refine z_sub [] rfl ?_
    exact hj8 _ ((if_neg h2)).symm
  · have ha9 := ha0.1 h2
    refine z_aload_n C d_R_isTold_12 rfl 0 rfl ?_
    refine gf_R_40 C d_R_isTold_13 ?_
    refine z_iconst (v := 3) C d_R_isTold_16 (by decide) ?_
    refine z_iload_n C d_R_isTold_17 rfl 1 rfl ?_
    refine z_imul C d_R_isTold_18 ?_
    refine z_iconst (v := 1) C d_R_isTold_19 (by decide) ?_
    refine z_iadd C d_R_isTold_20 ?_
    have hv3 := ha9
    refine z_al (zar_r11) C hv3 d_R_isTold_21 ?_
    refine z_iload_n C d_R_isTold_22 rfl 3 rfl ?_
    refine z_ic_ne C 41 d_R_isTold_23 (by decide) (fun h4 => ?_) (fun h4 => ?_)
    · refine z_iconst (v := 0) C d_R_isTold_41 (by decide) ?_
      refine z_sub [] rfl ?_
      exact hj8 _ (((if_pos h2).trans (if_neg h4))).symm
    · refine z_aload_n C d_R_isTold_26 rfl 0 rfl ?_
      refine gf_R_194 C d_R_isTold_27 ?_
      refine z_iload_n C d_R_isTold_30 rfl 1 rfl ?_
      refine z_callSi C (As := [.int (M 0 16), .int a1]) (rest := []) m_R_isIn tw_951 ⟨rfl, rfl⟩ (c_R_isIn (oR_ok g) _ _ _) rfl rfl rfl d_R_isTold_31 (fun r M2 hq => ?_)
      obtain ⟨rfl, rfl⟩ := hq
      refine z_if_ne C 41 d_R_isTold_34 (by decide) (fun h6 => ?_) (fun h6 => ?_)
      · refine z_iconst (v := 0) C d_R_isTold_41 (by decide) ?_
        refine z_sub [] rfl ?_
        exact hj8 _ (((if_pos h2).trans ((if_pos h4).trans (if_neg h6)))).symm
      · refine z_iconst (v := 1) C d_R_isTold_37 (by decide) ?_
        refine z_goto C 42 d_R_isTold_38 (by decide) ?_
        refine z_sub [] rfl ?_
        exact hj8 _ (((if_pos h2).trans ((if_pos h4).trans (if_pos h6)))).symm
theorem d_R_shutNow_0 : decode prog_8_method_66_code 0 = .ok (.iconst 0, 1) := by decide +kernel
theorem d_R_shutNow_1 : decode prog_8_method_66_code 1 = .ok (.istore_n 1, 1) := by decide +kernel
theorem d_R_shutNow_2 : decode prog_8_method_66_code 2 = .ok (.iconst 0, 1) := by decide +kernel
theorem d_R_shutNow_3 : decode prog_8_method_66_code 3 = .ok (.istore_n 2, 1) := by decide +kernel
theorem d_R_shutNow_4 : decode prog_8_method_66_code 4 = .ok (.iload_n 2, 1) := by decide +kernel
theorem d_R_shutNow_5 : decode prog_8_method_66_code 5 = .ok (.bipush 24, 2) := by decide +kernel
theorem d_R_shutNow_7 : decode prog_8_method_66_code 7 = .ok (.if_icmp .ge (26), 3) := by decide +kernel
theorem d_R_shutNow_10 : decode prog_8_method_66_code 10 = .ok (.iload_n 1, 1) := by decide +kernel
theorem d_R_shutNow_11 : decode prog_8_method_66_code 11 = .ok (.aload_n 0, 1) := by decide +kernel
theorem d_R_shutNow_12 : decode prog_8_method_66_code 12 = .ok (.iload_n 2, 1) := by decide +kernel
theorem d_R_shutNow_13 : decode prog_8_method_66_code 13 = .ok (.iconst 1, 1) := by decide +kernel
theorem d_R_shutNow_14 : decode prog_8_method_66_code 14 = .ok (.invokevirtual 237, 3) := by decide +kernel
theorem d_R_shutNow_17 : decode prog_8_method_66_code 17 = .ok (.ifCond .le (7), 3) := by decide +kernel
theorem d_R_shutNow_20 : decode prog_8_method_66_code 20 = .ok (.iconst 1, 1) := by decide +kernel
theorem d_R_shutNow_21 : decode prog_8_method_66_code 21 = .ok (.goto (4), 3) := by decide +kernel
theorem d_R_shutNow_24 : decode prog_8_method_66_code 24 = .ok (.iconst 0, 1) := by decide +kernel
theorem d_R_shutNow_25 : decode prog_8_method_66_code 25 = .ok (.iadd, 1) := by decide +kernel
theorem d_R_shutNow_26 : decode prog_8_method_66_code 26 = .ok (.istore_n 1, 1) := by decide +kernel
theorem d_R_shutNow_27 : decode prog_8_method_66_code 27 = .ok (.iinc 2 1, 3) := by decide +kernel
theorem d_R_shutNow_30 : decode prog_8_method_66_code 30 = .ok (.goto (-26), 3) := by decide +kernel
theorem d_R_shutNow_33 : decode prog_8_method_66_code 33 = .ok (.iload_n 1, 1) := by decide +kernel
theorem d_R_shutNow_34 : decode prog_8_method_66_code 34 = .ok (.ireturn, 1) := by decide +kernel
def wp_R_shutNow (M : Mem) (post : Int32 → Prop) : Prop :=
  (it2 (fun rec1 (i3 : Int32) (i4 : Int32) => (((24 ≤ i4) → post i3) ∧ (¬ (24 ≤ i4) → wp_R_snowBy i4 1 M (fun r6 => ∀ u8 : Int32, u8 = (if r6 ≤ 0 then 0 else 1) → rec1 (i3 + u8) (i4 + 1))))) 4096 0 0)
set_option maxHeartbeats 4000000 in
set_option maxRecDepth 100000 in
theorem c_R_shutNow (g : GX) {M : Mem} {post : Int32 → Prop} (hw : wp_R_shutNow M post) : CtI (oR g) y_R_shutNow prog_8_method_66_code 3 (some .int) (rl 1) [.ref (ax g 0)] M (fun r M2 => M = M2 ∧ post r) := by
  refine z_metI (oR_ok g) (by decide) rfl (fun X C hr => ?_)
  show Zj X 3 (oR g) M 0 [(0, .ref (ax g 0))] []
  unfold wp_R_shutNow at hw
  refine z_iconst (v := 0) C d_R_shutNow_0 (by decide) ?_
  refine z_istore_n (lv' := [(1, .int 0), (0, .ref (ax g 0))]) C d_R_shutNow_1 rfl rfl rfl ?_
  refine z_iconst (v := 0) C d_R_shutNow_2 (by decide) ?_
  refine z_istore_n (lv' := [(2, .int 0), (1, .int 0), (0, .ref (ax g 0))]) C d_R_shutNow_3 rfl rfl rfl ?_
  refine z_sub [2, 1, 0] rfl ?_
  refine it2_Z (Z := fun (i3 : Int32) (i4 : Int32) => Zj X 3 (oR g) M 4 [(0, .ref (ax g 0)), (1, .int i3), (2, .int i4)] []) (fun rec1 ih2 i3 i4 hw => ?_) _ _ _ hw
  refine z_iload_n C d_R_shutNow_4 rfl 2 rfl ?_
  refine z_bipush (v := 24) C d_R_shutNow_5 (by decide) ?_
  refine z_ic_ge C 33 d_R_shutNow_7 (by decide) (fun h5 => ?_) (fun h5 => ?_)
  · replace hw := hw.1 h5
    refine z_iload_n C d_R_shutNow_33 rfl 1 rfl ?_
    exact z_iret C hr ⟨rfl, hw⟩ d_R_shutNow_34
  · replace hw := hw.2 h5
    refine z_iload_n C d_R_shutNow_10 rfl 1 rfl ?_
    refine z_aload_n C d_R_shutNow_11 rfl 0 rfl ?_
    refine z_iload_n C d_R_shutNow_12 rfl 2 rfl ?_
    refine z_iconst (v := 1) C d_R_shutNow_13 (by decide) ?_
    refine z_callVi C (As := [.int i4, .int 1]) (rest := [.int i3]) m_R_snowBy tw_988 0 (le_R) rfl ⟨rfl, rfl⟩ (c_R_snowBy g hw) rfl rfl rfl d_R_shutNow_14 (fun r6 M2 hq => ?_)
    obtain ⟨rfl, hw⟩ := hq
    have hj9 : ∀ u8 : Int32, u8 = (if r6 ≤ 0 then 0 else 1) → Zj X 3 (oR g) M 25 [(0, .ref (ax g 0)), (2, .int i4)] [.int u8, .int i3] := by
      intro u8 hu8
      replace hw := hw u8 hu8
      refine z_iadd C d_R_shutNow_25 ?_
      refine z_istore_n (lv' := [(1, .int (i3 + u8)), (0, .ref (ax g 0)), (2, .int i4)]) C d_R_shutNow_26 rfl rfl rfl ?_
      refine z_iinc (v := (i4 + 1)) (lv' := [(2, .int (i4 + 1)), (1, .int (i3 + u8)), (0, .ref (ax g 0))]) C d_R_shutNow_27 2 rfl rfl rfl rfl ?_
      refine z_goto C 4 d_R_shutNow_30 (by decide) ?_
      refine z_sub [2, 1, 0] rfl ?_
      exact ih2 _ _ hw
    refine z_if_le C 24 d_R_shutNow_17 (by decide) (fun h7 => ?_) (fun h7 => ?_)
    · refine z_iconst (v := 0) C d_R_shutNow_24 (by decide) ?_
      refine z_sub [0, 2] rfl ?_
      exact hj9 _ ((if_pos h7)).symm
    · refine z_iconst (v := 1) C d_R_shutNow_20 (by decide) ?_
      refine z_goto C 25 d_R_shutNow_21 (by decide) ?_
      refine z_sub [0, 2] rfl ?_
      exact hj9 _ ((if_neg h7)).symm
theorem d_R_bestNow_0 : decode prog_8_method_68_code 0 = .ok (.iconst (-1), 1) := by decide +kernel
theorem d_R_bestNow_1 : decode prog_8_method_68_code 1 = .ok (.istore_n 1, 1) := by decide +kernel
theorem d_R_bestNow_2 : decode prog_8_method_68_code 2 = .ok (.iconst 0, 1) := by decide +kernel
theorem d_R_bestNow_3 : decode prog_8_method_68_code 3 = .ok (.istore_n 2, 1) := by decide +kernel
theorem d_R_bestNow_4 : decode prog_8_method_68_code 4 = .ok (.iconst 0, 1) := by decide +kernel
theorem d_R_bestNow_5 : decode prog_8_method_68_code 5 = .ok (.istore_n 3, 1) := by decide +kernel
theorem d_R_bestNow_6 : decode prog_8_method_68_code 6 = .ok (.iload_n 3, 1) := by decide +kernel
theorem d_R_bestNow_7 : decode prog_8_method_68_code 7 = .ok (.aload_n 0, 1) := by decide +kernel
theorem d_R_bestNow_8 : decode prog_8_method_68_code 8 = .ok (.getfield 146, 3) := by decide +kernel
theorem d_R_bestNow_11 : decode prog_8_method_68_code 11 = .ok (.if_icmp .ge (36), 3) := by decide +kernel
theorem d_R_bestNow_14 : decode prog_8_method_68_code 14 = .ok (.aload_n 0, 1) := by decide +kernel
theorem d_R_bestNow_15 : decode prog_8_method_68_code 15 = .ok (.getfield 55, 3) := by decide +kernel
theorem d_R_bestNow_18 : decode prog_8_method_68_code 18 = .ok (.iload_n 3, 1) := by decide +kernel
theorem d_R_bestNow_19 : decode prog_8_method_68_code 19 = .ok (.iaload, 1) := by decide +kernel
theorem d_R_bestNow_20 : decode prog_8_method_68_code 20 = .ok (.iload_n 2, 1) := by decide +kernel
theorem d_R_bestNow_21 : decode prog_8_method_68_code 21 = .ok (.if_icmp .le (7), 3) := by decide +kernel
theorem d_R_bestNow_24 : decode prog_8_method_68_code 24 = .ok (.iload_n 3, 1) := by decide +kernel
theorem d_R_bestNow_25 : decode prog_8_method_68_code 25 = .ok (.goto (4), 3) := by decide +kernel
theorem d_R_bestNow_28 : decode prog_8_method_68_code 28 = .ok (.iload_n 1, 1) := by decide +kernel
theorem d_R_bestNow_29 : decode prog_8_method_68_code 29 = .ok (.istore_n 1, 1) := by decide +kernel
theorem d_R_bestNow_30 : decode prog_8_method_68_code 30 = .ok (.aload_n 0, 1) := by decide +kernel
theorem d_R_bestNow_31 : decode prog_8_method_68_code 31 = .ok (.getfield 55, 3) := by decide +kernel
theorem d_R_bestNow_34 : decode prog_8_method_68_code 34 = .ok (.iload_n 3, 1) := by decide +kernel
theorem d_R_bestNow_35 : decode prog_8_method_68_code 35 = .ok (.iaload, 1) := by decide +kernel
theorem d_R_bestNow_36 : decode prog_8_method_68_code 36 = .ok (.iload_n 2, 1) := by decide +kernel
theorem d_R_bestNow_37 : decode prog_8_method_68_code 37 = .ok (.invokestatic 252, 3) := by decide +kernel
theorem d_R_bestNow_40 : decode prog_8_method_68_code 40 = .ok (.istore_n 2, 1) := by decide +kernel
theorem d_R_bestNow_41 : decode prog_8_method_68_code 41 = .ok (.iinc 3 1, 3) := by decide +kernel
theorem d_R_bestNow_44 : decode prog_8_method_68_code 44 = .ok (.goto (-38), 3) := by decide +kernel
theorem d_R_bestNow_47 : decode prog_8_method_68_code 47 = .ok (.iload_n 1, 1) := by decide +kernel
theorem d_R_bestNow_48 : decode prog_8_method_68_code 48 = .ok (.ireturn, 1) := by decide +kernel
def wp_R_bestNow (M : Mem) (post : Int32 → Prop) : Prop :=
  (it3 (fun rec1 (i3 : Int32) (i4 : Int32) (i5 : Int32) => ((((M 0 9) ≤ i5) → post i3) ∧ (¬ ((M 0 9) ≤ i5) → vp_in i5 4 ∧ ∀ u9 : Int32, u9 = (if (M 16 (tn i5)) ≤ i4 then i3 else i5) → ∀ x11 : Int32, x11 = (pf_R_greater (M 16 (tn i5)) i4) → rec1 u9 x11 (i5 + 1)))) 4096 (-1) 0 0)
set_option maxHeartbeats 4000000 in
set_option maxRecDepth 100000 in
theorem c_R_bestNow (g : GX) {M : Mem} {post : Int32 → Prop} (hw : wp_R_bestNow M post) : CtI (oR g) y_R_bestNow prog_8_method_68_code 4 (some .int) (rl 1) [.ref (ax g 0)] M (fun r M2 => M = M2 ∧ post r) := by
  refine z_metI (oR_ok g) (by decide) rfl (fun X C hr => ?_)
  show Zj X 4 (oR g) M 0 [(0, .ref (ax g 0))] []
  unfold wp_R_bestNow at hw
  refine z_iconst (v := (-1)) C d_R_bestNow_0 (by decide) ?_
  refine z_istore_n (lv' := [(1, .int (-1)), (0, .ref (ax g 0))]) C d_R_bestNow_1 rfl rfl rfl ?_
  refine z_iconst (v := 0) C d_R_bestNow_2 (by decide) ?_
  refine z_istore_n (lv' := [(2, .int 0), (1, .int (-1)), (0, .ref (ax g 0))]) C d_R_bestNow_3 rfl rfl rfl ?_
  refine z_iconst (v := 0) C d_R_bestNow_4 (by decide) ?_
  refine z_istore_n (lv' := [(3, .int 0), (2, .int 0), (1, .int (-1)), (0, .ref (ax g 0))]) C d_R_bestNow_5 rfl rfl rfl ?_
  refine z_sub [3, 2, 1, 0] rfl ?_
  refine it3_Z (Z := fun (i3 : Int32) (i4 : Int32) (i5 : Int32) => Zj X 4 (oR g) M 6 [(0, .ref (ax g 0)), (1, .int i3), (2, .int i4), (3, .int i5)] []) (fun rec1 ih2 i3 i4 i5 hw => ?_) _ _ _ _ hw
  refine z_iload_n C d_R_bestNow_6 rfl 3 rfl ?_
  refine z_aload_n C d_R_bestNow_7 rfl 0 rfl ?_
  refine gf_R_146 C d_R_bestNow_8 ?_
  refine z_ic_ge C 47 d_R_bestNow_11 (by decide) (fun h6 => ?_) (fun h6 => ?_)
  · replace hw := hw.1 h6
    refine z_iload_n C d_R_bestNow_47 rfl 1 rfl ?_
    exact z_iret C hr ⟨rfl, hw⟩ d_R_bestNow_48
  · replace hw := hw.2 h6
    refine z_aload_n C d_R_bestNow_14 rfl 0 rfl ?_
    refine gf_R_55 C d_R_bestNow_15 ?_
    refine z_iload_n C d_R_bestNow_18 rfl 3 rfl ?_
    have hv7 := hw.1
    replace hw := hw.2
    refine z_al (zar_r16) C hv7 d_R_bestNow_19 ?_
    refine z_iload_n C d_R_bestNow_20 rfl 2 rfl ?_
    have hj12 : ∀ u9 : Int32, u9 = (if (M 16 (tn i5)) ≤ i4 then i3 else i5) → Zj X 4 (oR g) M 29 [(0, .ref (ax g 0)), (2, .int i4), (3, .int i5)] [.int u9] := by
      intro u9 hu9
      replace hw := hw u9 hu9
      refine z_istore_n (lv' := [(1, .int u9), (0, .ref (ax g 0)), (2, .int i4), (3, .int i5)]) C d_R_bestNow_29 rfl rfl rfl ?_
      refine z_aload_n C d_R_bestNow_30 rfl 1 rfl ?_
      refine gf_R_55 C d_R_bestNow_31 ?_
      refine z_iload_n C d_R_bestNow_34 rfl 3 rfl ?_
      refine z_al (zar_r16) C hv7 d_R_bestNow_35 ?_
      refine z_iload_n C d_R_bestNow_36 rfl 2 rfl ?_
      refine z_callSi C (As := [.int (M 16 (tn i5)), .int i4]) (rest := []) m_R_greater tw_1032 ⟨rfl, rfl⟩ (c_R_greater (oR_ok g) _ _ _) rfl rfl rfl d_R_bestNow_37 (fun r M2 hq => ?_)
      obtain ⟨rfl, rfl⟩ := hq
      obtain ⟨x11, hx11⟩ : ∃ z : Int32, z = (pf_R_greater (M 16 (tn i5)) i4) := ⟨_, rfl⟩
      rw [← hx11]
      replace hw := hw x11 hx11
      refine z_istore_n (lv' := [(2, .int x11), (1, .int u9), (0, .ref (ax g 0)), (3, .int i5)]) C d_R_bestNow_40 rfl rfl rfl ?_
      refine z_iinc (v := (i5 + 1)) (lv' := [(3, .int (i5 + 1)), (2, .int x11), (1, .int u9), (0, .ref (ax g 0))]) C d_R_bestNow_41 3 rfl rfl rfl rfl ?_
      refine z_goto C 6 d_R_bestNow_44 (by decide) ?_
      refine z_sub [3, 2, 1, 0] rfl ?_
      exact ih2 _ _ _ hw
    refine z_ic_le C 28 d_R_bestNow_21 (by decide) (fun h8 => ?_) (fun h8 => ?_)
    · refine z_iload_n C d_R_bestNow_28 rfl 1 rfl ?_
      refine z_sub [0, 2, 3] rfl ?_
      exact hj12 _ ((if_pos h8)).symm
    · refine z_iload_n C d_R_bestNow_24 rfl 3 rfl ?_
      refine z_goto C 29 d_R_bestNow_25 (by decide) ?_
      refine z_sub [0, 2, 3] rfl ?_
      exact hj12 _ ((if_neg h8)).symm
theorem d_R_alike_0 : decode prog_8_method_90_code 0 = .ok (.iconst 0, 1) := by decide +kernel
theorem d_R_alike_1 : decode prog_8_method_90_code 1 = .ok (.istore_n 3, 1) := by decide +kernel
theorem d_R_alike_2 : decode prog_8_method_90_code 2 = .ok (.iconst 1, 1) := by decide +kernel
theorem d_R_alike_3 : decode prog_8_method_90_code 3 = .ok (.istore 4, 2) := by decide +kernel
theorem d_R_alike_5 : decode prog_8_method_90_code 5 = .ok (.iload 4, 2) := by decide +kernel
theorem d_R_alike_7 : decode prog_8_method_90_code 7 = .ok (.bipush 10, 2) := by decide +kernel
theorem d_R_alike_9 : decode prog_8_method_90_code 9 = .ok (.if_icmp .ge (75), 3) := by decide +kernel
theorem d_R_alike_12 : decode prog_8_method_90_code 12 = .ok (.iconst 0, 1) := by decide +kernel
theorem d_R_alike_13 : decode prog_8_method_90_code 13 = .ok (.istore 5, 2) := by decide +kernel
theorem d_R_alike_15 : decode prog_8_method_90_code 15 = .ok (.iconst 1, 1) := by decide +kernel
theorem d_R_alike_16 : decode prog_8_method_90_code 16 = .ok (.istore 6, 2) := by decide +kernel
theorem d_R_alike_18 : decode prog_8_method_90_code 18 = .ok (.iload 6, 2) := by decide +kernel
theorem d_R_alike_20 : decode prog_8_method_90_code 20 = .ok (.bipush 10, 2) := by decide +kernel
theorem d_R_alike_22 : decode prog_8_method_90_code 22 = .ok (.if_icmp .ge (49), 3) := by decide +kernel
theorem d_R_alike_25 : decode prog_8_method_90_code 25 = .ok (.iload 5, 2) := by decide +kernel
theorem d_R_alike_27 : decode prog_8_method_90_code 27 = .ok (.iload_n 1, 1) := by decide +kernel
theorem d_R_alike_28 : decode prog_8_method_90_code 28 = .ok (.iload 4, 2) := by decide +kernel
theorem d_R_alike_30 : decode prog_8_method_90_code 30 = .ok (.invokestatic 197, 3) := by decide +kernel
theorem d_R_alike_33 : decode prog_8_method_90_code 33 = .ok (.ifCond .eq (28), 3) := by decide +kernel
theorem d_R_alike_36 : decode prog_8_method_90_code 36 = .ok (.iload_n 1, 1) := by decide +kernel
theorem d_R_alike_37 : decode prog_8_method_90_code 37 = .ok (.iload 6, 2) := by decide +kernel
theorem d_R_alike_39 : decode prog_8_method_90_code 39 = .ok (.invokestatic 197, 3) := by decide +kernel
theorem d_R_alike_42 : decode prog_8_method_90_code 42 = .ok (.ifCond .eq (19), 3) := by decide +kernel
theorem d_R_alike_45 : decode prog_8_method_90_code 45 = .ok (.aload_n 0, 1) := by decide +kernel
theorem d_R_alike_46 : decode prog_8_method_90_code 46 = .ok (.iload 4, 2) := by decide +kernel
theorem d_R_alike_48 : decode prog_8_method_90_code 48 = .ok (.iload 6, 2) := by decide +kernel
theorem d_R_alike_50 : decode prog_8_method_90_code 50 = .ok (.iload_n 2, 1) := by decide +kernel
theorem d_R_alike_51 : decode prog_8_method_90_code 51 = .ok (.invokevirtual 297, 3) := by decide +kernel
theorem d_R_alike_54 : decode prog_8_method_90_code 54 = .ok (.ifCond .eq (7), 3) := by decide +kernel
theorem d_R_alike_57 : decode prog_8_method_90_code 57 = .ok (.iconst 1, 1) := by decide +kernel
theorem d_R_alike_58 : decode prog_8_method_90_code 58 = .ok (.goto (4), 3) := by decide +kernel
theorem d_R_alike_61 : decode prog_8_method_90_code 61 = .ok (.iconst 0, 1) := by decide +kernel
theorem d_R_alike_62 : decode prog_8_method_90_code 62 = .ok (.iadd, 1) := by decide +kernel
theorem d_R_alike_63 : decode prog_8_method_90_code 63 = .ok (.istore 5, 2) := by decide +kernel
theorem d_R_alike_65 : decode prog_8_method_90_code 65 = .ok (.iinc 6 1, 3) := by decide +kernel
theorem d_R_alike_68 : decode prog_8_method_90_code 68 = .ok (.goto (-50), 3) := by decide +kernel
theorem d_R_alike_71 : decode prog_8_method_90_code 71 = .ok (.iload 5, 2) := by decide +kernel
theorem d_R_alike_73 : decode prog_8_method_90_code 73 = .ok (.iload_n 3, 1) := by decide +kernel
theorem d_R_alike_74 : decode prog_8_method_90_code 74 = .ok (.invokestatic 252, 3) := by decide +kernel
theorem d_R_alike_77 : decode prog_8_method_90_code 77 = .ok (.istore_n 3, 1) := by decide +kernel
theorem d_R_alike_78 : decode prog_8_method_90_code 78 = .ok (.iinc 4 1, 3) := by decide +kernel
theorem d_R_alike_81 : decode prog_8_method_90_code 81 = .ok (.goto (-76), 3) := by decide +kernel
theorem d_R_alike_84 : decode prog_8_method_90_code 84 = .ok (.iload_n 3, 1) := by decide +kernel
theorem d_R_alike_85 : decode prog_8_method_90_code 85 = .ok (.ireturn, 1) := by decide +kernel
def wp_R_alike (a1 : Int32) (a2 : Int32) (M : Mem) (post : Int32 → Prop) : Prop :=
  (it2 (fun rec1 (i3 : Int32) (i4 : Int32) => (((10 ≤ i4) → post i3) ∧ (¬ (10 ≤ i4) → (it2 (fun rec6 (i8 : Int32) (i9 : Int32) => (((10 ≤ i9) → ∀ x12 : Int32, x12 = (pf_R_greater i8 i3) → rec1 x12 (i4 + 1)) ∧ (¬ (10 ≤ i9) → ((((pf_R_isIn a1 i4) = 0) → rec6 (i8 + 0) (i9 + 1)) ∧ (¬ ((pf_R_isIn a1 i4) = 0) → ((((pf_R_isIn a1 i9) = 0) → rec6 (i8 + 0) (i9 + 1)) ∧ (¬ ((pf_R_isIn a1 i9) = 0) → wp_R_same i4 i9 a2 M (fun r17 => ∀ u19 : Int32, u19 = (if r17 = 0 then 0 else 1) → rec6 (i8 + u19) (i9 + 1))))))))) 4096 0 1)))) 4096 0 1)
set_option maxHeartbeats 4000000 in
set_option maxRecDepth 100000 in
theorem c_R_alike (g : GX) {a1 : Int32} {a2 : Int32} {M : Mem} {post : Int32 → Prop} (hw : wp_R_alike a1 a2 M post) : CtI (oR g) y_R_alike prog_8_method_90_code 7 (some .int) (rl 1) [.ref (ax g 0), .int a1, .int a2] M (fun r M2 => M = M2 ∧ post r) := by
  refine z_metI (oR_ok g) (by decide) rfl (fun X C hr => ?_)
  show Zj X 7 (oR g) M 0 [(0, .ref (ax g 0)), (1, .int a1), (2, .int a2)] []
  unfold wp_R_alike at hw
  refine z_iconst (v := 0) C d_R_alike_0 (by decide) ?_
  refine z_istore_n (lv' := [(3, .int 0), (0, .ref (ax g 0)), (1, .int a1), (2, .int a2)]) C d_R_alike_1 rfl rfl rfl ?_
  refine z_iconst (v := 1) C d_R_alike_2 (by decide) ?_
  refine z_istore (lv' := [(4, .int 1), (3, .int 0), (0, .ref (ax g 0)), (1, .int a1), (2, .int a2)]) C d_R_alike_3 rfl rfl ?_
  refine z_sub [2, 3, 4, 1, 0] rfl ?_
  refine it2_Z (Z := fun (i3 : Int32) (i4 : Int32) => Zj X 7 (oR g) M 5 [(0, .ref (ax g 0)), (1, .int a1), (2, .int a2), (3, .int i3), (4, .int i4)] []) (fun rec1 ih2 i3 i4 hw => ?_) _ _ _ hw
  refine z_iload C d_R_alike_5 4 rfl ?_
  refine z_bipush (v := 10) C d_R_alike_7 (by decide) ?_
  refine z_ic_ge C 84 d_R_alike_9 (by decide) (fun h5 => ?_) (fun h5 => ?_)
  · replace hw := hw.1 h5
    refine z_iload_n C d_R_alike_84 rfl 3 rfl ?_
    exact z_iret C hr ⟨rfl, hw⟩ d_R_alike_85
  · replace hw := hw.2 h5
    refine z_iconst (v := 0) C d_R_alike_12 (by decide) ?_
    refine z_istore (lv' := [(5, .int 0), (0, .ref (ax g 0)), (1, .int a1), (2, .int a2), (3, .int i3), (4, .int i4)]) C d_R_alike_13 rfl rfl ?_
    refine z_iconst (v := 1) C d_R_alike_15 (by decide) ?_
    refine z_istore (lv' := [(6, .int 1), (5, .int 0), (0, .ref (ax g 0)), (1, .int a1), (2, .int a2), (3, .int i3), (4, .int i4)]) C d_R_alike_16 rfl rfl ?_
    refine z_sub [2, 3, 4, 5, 6, 1, 0] rfl ?_
    refine it2_Z (Z := fun (i8 : Int32) (i9 : Int32) => Zj X 7 (oR g) M 18 [(0, .ref (ax g 0)), (1, .int a1), (2, .int a2), (3, .int i3), (4, .int i4), (5, .int i8), (6, .int i9)] []) (fun rec6 ih7 i8 i9 hw => ?_) _ _ _ hw
    refine z_iload C d_R_alike_18 6 rfl ?_
    refine z_bipush (v := 10) C d_R_alike_20 (by decide) ?_
    refine z_ic_ge C 71 d_R_alike_22 (by decide) (fun h10 => ?_) (fun h10 => ?_)
    · replace hw := hw.1 h10
      refine z_iload C d_R_alike_71 5 rfl ?_
      refine z_iload_n C d_R_alike_73 rfl 3 rfl ?_
      refine z_callSi C (As := [.int i8, .int i3]) (rest := []) m_R_greater tw_1032 ⟨rfl, rfl⟩ (c_R_greater (oR_ok g) _ _ _) rfl rfl rfl d_R_alike_74 (fun r M2 hq => ?_)
      obtain ⟨rfl, rfl⟩ := hq
      obtain ⟨x12, hx12⟩ : ∃ z : Int32, z = (pf_R_greater i8 i3) := ⟨_, rfl⟩
      rw [← hx12]
      replace hw := hw x12 hx12
      refine z_istore_n (lv' := [(3, .int x12), (0, .ref (ax g 0)), (1, .int a1), (2, .int a2), (4, .int i4), (5, .int i8), (6, .int i9)]) C d_R_alike_77 rfl rfl rfl ?_
      refine z_iinc (v := (i4 + 1)) (lv' := [(4, .int (i4 + 1)), (3, .int x12), (0, .ref (ax g 0)), (1, .int a1), (2, .int a2), (5, .int i8), (6, .int i9)]) C d_R_alike_78 4 rfl rfl rfl rfl ?_
      refine z_goto C 5 d_R_alike_81 (by decide) ?_
      refine z_sub [2, 3, 4, 1, 0] rfl ?_
      exact ih2 _ _ hw
    · replace hw := hw.2 h10
      refine z_iload C d_R_alike_25 5 rfl ?_
      refine z_iload_n C d_R_alike_27 rfl 1 rfl ?_
      refine z_iload C d_R_alike_28 4 rfl ?_
      refine z_callSi C (As := [.int a1, .int i4]) (rest := [.int i8]) m_R_isIn tw_951 ⟨rfl, rfl⟩ (c_R_isIn (oR_ok g) _ _ _) rfl rfl rfl d_R_alike_30 (fun r M2 hq => ?_)
      obtain ⟨rfl, rfl⟩ := hq
      refine z_if_eq C 61 d_R_alike_33 (by decide) (fun h14 => ?_) (fun h14 => ?_)
      · replace hw := hw.1 h14
        refine z_iconst (v := 0) C d_R_alike_61 (by decide) ?_
        refine z_iadd C d_R_alike_62 ?_
        refine z_istore (lv' := [(5, .int (i8 + 0)), (0, .ref (ax g 0)), (1, .int a1), (2, .int a2), (3, .int i3), (4, .int i4), (6, .int i9)]) C d_R_alike_63 rfl rfl ?_
        refine z_iinc (v := (i9 + 1)) (lv' := [(6, .int (i9 + 1)), (5, .int (i8 + 0)), (0, .ref (ax g 0)), (1, .int a1), (2, .int a2), (3, .int i3), (4, .int i4)]) C d_R_alike_65 6 rfl rfl rfl rfl ?_
        refine z_goto C 18 d_R_alike_68 (by decide) ?_
        refine z_sub [2, 3, 4, 5, 6, 1, 0] rfl ?_
        exact ih7 _ _ hw
      · replace hw := hw.2 h14
        refine z_iload_n C d_R_alike_36 rfl 1 rfl ?_
        refine z_iload C d_R_alike_37 6 rfl ?_
        refine z_callSi C (As := [.int a1, .int i9]) (rest := [.int i8]) m_R_isIn tw_951 ⟨rfl, rfl⟩ (c_R_isIn (oR_ok g) _ _ _) rfl rfl rfl d_R_alike_39 (fun r M2 hq => ?_)
        obtain ⟨rfl, rfl⟩ := hq
        refine z_if_eq C 61 d_R_alike_42 (by decide) (fun h16 => ?_) (fun h16 => ?_)
        · replace hw := hw.1 h16
          refine z_iconst (v := 0) C d_R_alike_61 (by decide) ?_
          refine z_iadd C d_R_alike_62 ?_
          refine z_istore (lv' := [(5, .int (i8 + 0)), (0, .ref (ax g 0)), (1, .int a1), (2, .int a2), (3, .int i3), (4, .int i4), (6, .int i9)]) C d_R_alike_63 rfl rfl ?_
          refine z_iinc (v := (i9 + 1)) (lv' := [(6, .int (i9 + 1)), (5, .int (i8 + 0)), (0, .ref (ax g 0)), (1, .int a1), (2, .int a2), (3, .int i3), (4, .int i4)]) C d_R_alike_65 6 rfl rfl rfl rfl ?_
          refine z_goto C 18 d_R_alike_68 (by decide) ?_
          refine z_sub [2, 3, 4, 5, 6, 1, 0] rfl ?_
          exact ih7 _ _ hw
        · replace hw := hw.2 h16
          refine z_aload_n C d_R_alike_45 rfl 0 rfl ?_
          refine z_iload C d_R_alike_46 4 rfl ?_
          refine z_iload C d_R_alike_48 6 rfl ?_
          refine z_iload_n C d_R_alike_50 rfl 2 rfl ?_
          refine z_callVi C (As := [.int i4, .int i9, .int a2]) (rest := [.int i8]) m_R_same tw_1126 0 (le_R) rfl ⟨rfl, rfl⟩ (c_R_same g hw) rfl rfl rfl d_R_alike_51 (fun r17 M2 hq => ?_)
          obtain ⟨rfl, hw⟩ := hq
          have hj20 : ∀ u19 : Int32, u19 = (if r17 = 0 then 0 else 1) → Zj X 7 (oR g) M 62 [(0, .ref (ax g 0)), (1, .int a1), (2, .int a2), (3, .int i3), (4, .int i4), (6, .int i9)] [.int u19, .int i8] := by
            intro u19 hu19
            replace hw := hw u19 hu19
            refine z_iadd C d_R_alike_62 ?_
            refine z_istore (lv' := [(5, .int (i8 + u19)), (0, .ref (ax g 0)), (1, .int a1), (2, .int a2), (3, .int i3), (4, .int i4), (6, .int i9)]) C d_R_alike_63 rfl rfl ?_
            refine z_iinc (v := (i9 + 1)) (lv' := [(6, .int (i9 + 1)), (5, .int (i8 + u19)), (0, .ref (ax g 0)), (1, .int a1), (2, .int a2), (3, .int i3), (4, .int i4)]) C d_R_alike_65 6 rfl rfl rfl rfl ?_
            refine z_goto C 18 d_R_alike_68 (by decide) ?_
            refine z_sub [2, 3, 4, 5, 6, 1, 0] rfl ?_
            exact ih7 _ _ hw
          refine z_if_eq C 61 d_R_alike_54 (by decide) (fun h18 => ?_) (fun h18 => ?_)
          · refine z_iconst (v := 0) C d_R_alike_61 (by decide) ?_
            refine z_sub [0, 1, 2, 3, 4, 6] rfl ?_
            exact hj20 _ ((if_pos h18)).symm
          · refine z_iconst (v := 1) C d_R_alike_57 (by decide) ?_
            refine z_goto C 62 d_R_alike_58 (by decide) ?_
            refine z_sub [0, 1, 2, 3, 4, 6] rfl ?_
            exact hj20 _ ((if_neg h18)).symm
theorem d_R_tellsHour_0 : decode prog_8_method_100_code 0 = .ok (.lload_n 1, 1) := by decide +kernel
theorem d_R_tellsHour_1 : decode prog_8_method_100_code 1 = .ok (.lstore 5, 2) := by decide +kernel
theorem d_R_tellsHour_3 : decode prog_8_method_100_code 3 = .ok (.iconst 0, 1) := by decide +kernel
theorem d_R_tellsHour_4 : decode prog_8_method_100_code 4 = .ok (.istore 7, 2) := by decide +kernel
theorem d_R_tellsHour_6 : decode prog_8_method_100_code 6 = .ok (.iload 7, 2) := by decide +kernel
theorem d_R_tellsHour_8 : decode prog_8_method_100_code 8 = .ok (.iconst 3, 1) := by decide +kernel
theorem d_R_tellsHour_9 : decode prog_8_method_100_code 9 = .ok (.if_icmp .ge (28), 3) := by decide +kernel
theorem d_R_tellsHour_12 : decode prog_8_method_100_code 12 = .ok (.ldc2_w 332, 3) := by decide +kernel
theorem d_R_tellsHour_15 : decode prog_8_method_100_code 15 = .ok (.lload 5, 2) := by decide +kernel
theorem d_R_tellsHour_17 : decode prog_8_method_100_code 17 = .ok (.lmul, 1) := by decide +kernel
theorem d_R_tellsHour_18 : decode prog_8_method_100_code 18 = .ok (.aload_n 0, 1) := by decide +kernel
theorem d_R_tellsHour_19 : decode prog_8_method_100_code 19 = .ok (.iload_n 3, 1) := by decide +kernel
theorem d_R_tellsHour_20 : decode prog_8_method_100_code 20 = .ok (.iload 4, 2) := by decide +kernel
theorem d_R_tellsHour_22 : decode prog_8_method_100_code 22 = .ok (.iload 7, 2) := by decide +kernel
theorem d_R_tellsHour_24 : decode prog_8_method_100_code 24 = .ok (.invokevirtual 231, 3) := by decide +kernel
theorem d_R_tellsHour_27 : decode prog_8_method_100_code 27 = .ok (.i2l, 1) := by decide +kernel
theorem d_R_tellsHour_28 : decode prog_8_method_100_code 28 = .ok (.ladd, 1) := by decide +kernel
theorem d_R_tellsHour_29 : decode prog_8_method_100_code 29 = .ok (.lstore 5, 2) := by decide +kernel
theorem d_R_tellsHour_31 : decode prog_8_method_100_code 31 = .ok (.iinc 7 1, 3) := by decide +kernel
theorem d_R_tellsHour_34 : decode prog_8_method_100_code 34 = .ok (.goto (-28), 3) := by decide +kernel
theorem d_R_tellsHour_37 : decode prog_8_method_100_code 37 = .ok (.lload 5, 2) := by decide +kernel
theorem d_R_tellsHour_39 : decode prog_8_method_100_code 39 = .ok (.lreturn, 1) := by decide +kernel
def wp_R_tellsHour (a1 : Int64) (a3 : Int32) (a4 : Int32) (M : Mem) (post : Int64 → Prop) : Prop :=
  (it2 (fun rec1 (l3 : Int64) (i4 : Int32) => (((3 ≤ i4) → post l3) ∧ (¬ (3 ≤ i4) → wp_R_atBy a3 a4 i4 M (fun r6 => ∀ x7 : Int64, x7 = (((31) * l3) + (Int32.toInt64 r6)) → rec1 x7 (i4 + 1))))) 4096 a1 0)
set_option maxHeartbeats 4000000 in
set_option maxRecDepth 100000 in
theorem c_R_tellsHour (g : GX) {a1 : Int64} {a3 : Int32} {a4 : Int32} {M : Mem} {post : Int64 → Prop} (hw : wp_R_tellsHour a1 a3 a4 M post) : CtL (oR g) y_R_tellsHour prog_8_method_100_code 8 (some .long) (rl 1) [.ref (ax g 0), .long a1, .int a3, .int a4] M (fun r M2 => M = M2 ∧ post r) := by
  refine z_metL (oR_ok g) (by decide) rfl (fun X C hr => ?_)
  show Zj X 8 (oR g) M 0 [(0, .ref (ax g 0)), (1, .long a1), (3, .int a3), (4, .int a4)] []
  unfold wp_R_tellsHour at hw
  refine z_lload_n C d_R_tellsHour_0 rfl 1 rfl ?_
  refine z_lstore (lv' := [(5, .long a1), (0, .ref (ax g 0)), (1, .long a1), (3, .int a3), (4, .int a4)]) C d_R_tellsHour_1 rfl rfl ?_
  refine z_iconst (v := 0) C d_R_tellsHour_3 (by decide) ?_
  refine z_istore (lv' := [(7, .int 0), (5, .long a1), (0, .ref (ax g 0)), (1, .long a1), (3, .int a3), (4, .int a4)]) C d_R_tellsHour_4 rfl rfl ?_
  refine z_sub [2, 4, 5, 1, 0] rfl ?_
  refine it2_Z (Z := fun (l3 : Int64) (i4 : Int32) => Zj X 8 (oR g) M 6 [(0, .ref (ax g 0)), (3, .int a3), (4, .int a4), (5, .long l3), (7, .int i4)] []) (fun rec1 ih2 l3 i4 hw => ?_) _ _ _ hw
  refine z_iload C d_R_tellsHour_6 4 rfl ?_
  refine z_iconst (v := 3) C d_R_tellsHour_8 (by decide) ?_
  refine z_ic_ge C 37 d_R_tellsHour_9 (by decide) (fun h5 => ?_) (fun h5 => ?_)
  · replace hw := hw.1 h5
    refine z_lload C d_R_tellsHour_37 3 rfl ?_
    exact z_lret C hr ⟨rfl, hw⟩ d_R_tellsHour_39
  · replace hw := hw.2 h5
    refine z_ldc2 C d_R_tellsHour_12 tw_1173 ?_
    refine z_lload C d_R_tellsHour_15 3 rfl ?_
    refine z_lmul C d_R_tellsHour_17 ?_
    refine z_aload_n C d_R_tellsHour_18 rfl 0 rfl ?_
    refine z_iload_n C d_R_tellsHour_19 rfl 1 rfl ?_
    refine z_iload C d_R_tellsHour_20 2 rfl ?_
    refine z_iload C d_R_tellsHour_22 4 rfl ?_
    refine z_callVi C (As := [.int a3, .int a4, .int i4]) (rest := [.long ((31) * l3)]) m_R_atBy tw_973 0 (le_R) rfl ⟨rfl, rfl⟩ (c_R_atBy g hw) rfl rfl rfl d_R_tellsHour_24 (fun r6 M2 hq => ?_)
    obtain ⟨rfl, hw⟩ := hq
    refine z_i2l C d_R_tellsHour_27 ?_
    refine z_ladd C d_R_tellsHour_28 ?_
    obtain ⟨x7, hx7⟩ : ∃ z : Int64, z = (((31) * l3) + (Int32.toInt64 r6)) := ⟨_, rfl⟩
    rw [← hx7]
    replace hw := hw x7 hx7
    refine z_lstore (lv' := [(5, .long x7), (0, .ref (ax g 0)), (3, .int a3), (4, .int a4), (7, .int i4)]) C d_R_tellsHour_29 rfl rfl ?_
    refine z_iinc (v := (i4 + 1)) (lv' := [(7, .int (i4 + 1)), (5, .long x7), (0, .ref (ax g 0)), (3, .int a3), (4, .int a4)]) C d_R_tellsHour_31 4 rfl rfl rfl rfl ?_
    refine z_goto C 6 d_R_tellsHour_34 (by decide) ?_
    refine z_sub [2, 3, 4, 1, 0] rfl ?_
    exact ih2 _ _ hw
theorem d_XH_renew_0 : decode prog_2_method_2_code 0 = .ok (.aload_n 0, 1) := by decide +kernel
theorem d_XH_renew_1 : decode prog_2_method_2_code 1 = .ok (.iload_n 1, 1) := by decide +kernel
theorem d_XH_renew_2 : decode prog_2_method_2_code 2 = .ok (.putfield 15, 3) := by decide +kernel
theorem d_XH_renew_5 : decode prog_2_method_2_code 5 = .ok (.aload_n 0, 1) := by decide +kernel
theorem d_XH_renew_6 : decode prog_2_method_2_code 6 = .ok (.iload_n 2, 1) := by decide +kernel
theorem d_XH_renew_7 : decode prog_2_method_2_code 7 = .ok (.putfield 19, 3) := by decide +kernel
theorem d_XH_renew_10 : decode prog_2_method_2_code 10 = .ok (.aload_n 0, 1) := by decide +kernel
theorem d_XH_renew_11 : decode prog_2_method_2_code 11 = .ok (.getfield 9, 3) := by decide +kernel
theorem d_XH_renew_14 : decode prog_2_method_2_code 14 = .ok (.iconst 0, 1) := by decide +kernel
theorem d_XH_renew_15 : decode prog_2_method_2_code 15 = .ok (.invokestatic 22, 3) := by decide +kernel
theorem d_XH_renew_18 : decode prog_2_method_2_code 18 = .ok (.return_, 1) := by decide +kernel
def wp_XH_renew (c1 : Nat) (a1 : Int32) (a2 : Int32) (M : Mem) (post : Mem → Prop) : Prop :=
  ∀ M1 : Mem, M1 = upm M (24 + 2 * c1) 1 a1 → ∀ M2 : Mem, M2 = upm M1 (24 + 2 * c1) 2 a2 → ∀ M3 : Mem, M3 = upr M2 (25 + 2 * c1) (zfill 60 0 (M2 (25 + 2 * c1))) → post M3
set_option maxHeartbeats 4000000 in
set_option maxRecDepth 100000 in
theorem c_XH_renew (g : GX) {c1 : Nat} {a1 : Int32} {a2 : Int32} {M : Mem} {post : Mem → Prop} (hc1 : c1 < 4) (hw : wp_XH_renew c1 a1 a2 M post) : CtV (oX g) y_XH_renew prog_2_method_2_code 3 none (rl 1) [.ref (ax g (24 + 2 * c1)), .int a1, .int a2] M post := by
  refine z_metV (oX_ok g) (by decide) rfl (fun X C hr => ?_)
  show Zj X 3 (oX g) M 0 [(0, .ref (ax g (24 + 2 * c1))), (1, .int a1), (2, .int a2)] []
  unfold wp_XH_renew at hw
  refine z_aload_n C d_XH_renew_0 rfl 0 rfl ?_
  refine z_iload_n C d_XH_renew_1 rfl 1 rfl ?_
  refine pp_XH_15 hc1 C d_XH_renew_2 (fun M1 hM1 => ?_)
  replace hw := hw M1 hM1
  refine z_aload_n C d_XH_renew_5 rfl 0 rfl ?_
  refine z_iload_n C d_XH_renew_6 rfl 2 rfl ?_
  refine pp_XH_19 hc1 C d_XH_renew_7 (fun M2 hM2 => ?_)
  replace hw := hw M2 hM2
  refine z_aload_n C d_XH_renew_10 rfl 0 rfl ?_
  refine gf_XH_9 hc1 C d_XH_renew_11 ?_
  refine z_iconst (v := 0) C d_XH_renew_14 (by decide) ?_
  refine z_fill C tw_578 (zar_xSI hc1) rfl rfl d_XH_renew_15 (fun M3 hM3 => ?_)
  replace hw := hw M3 hM3
  exact z_vret C hr hw d_XH_renew_18
theorem d_XT_mayStand_0 : decode prog_4_method_4_code 0 = .ok (.aload_n 0, 1) := by decide +kernel
theorem d_XT_mayStand_1 : decode prog_4_method_4_code 1 = .ok (.getfield 15, 3) := by decide +kernel
theorem d_XT_mayStand_4 : decode prog_4_method_4_code 4 = .ok (.tableswitch 78 0 2 #[28, 52, 70], 28) := by decide +kernel
theorem d_XT_mayStand_32 : decode prog_4_method_4_code 32 = .ok (.iload_n 2, 1) := by decide +kernel
theorem d_XT_mayStand_33 : decode prog_4_method_4_code 33 = .ok (.bipush 111, 2) := by decide +kernel
theorem d_XT_mayStand_35 : decode prog_4_method_4_code 35 = .ok (.if_icmp .eq (15), 3) := by decide +kernel
theorem d_XT_mayStand_38 : decode prog_4_method_4_code 38 = .ok (.iload_n 2, 1) := by decide +kernel
theorem d_XT_mayStand_39 : decode prog_4_method_4_code 39 = .ok (.bipush 104, 2) := by decide +kernel
theorem d_XT_mayStand_41 : decode prog_4_method_4_code 41 = .ok (.if_icmp .eq (9), 3) := by decide +kernel
theorem d_XT_mayStand_44 : decode prog_4_method_4_code 44 = .ok (.iload_n 2, 1) := by decide +kernel
theorem d_XT_mayStand_45 : decode prog_4_method_4_code 45 = .ok (.bipush 99, 2) := by decide +kernel
theorem d_XT_mayStand_47 : decode prog_4_method_4_code 47 = .ok (.if_icmp .ne (7), 3) := by decide +kernel
theorem d_XT_mayStand_50 : decode prog_4_method_4_code 50 = .ok (.iconst 1, 1) := by decide +kernel
theorem d_XT_mayStand_51 : decode prog_4_method_4_code 51 = .ok (.goto (4), 3) := by decide +kernel
theorem d_XT_mayStand_54 : decode prog_4_method_4_code 54 = .ok (.iconst 0, 1) := by decide +kernel
theorem d_XT_mayStand_55 : decode prog_4_method_4_code 55 = .ok (.ireturn, 1) := by decide +kernel
theorem d_XT_mayStand_56 : decode prog_4_method_4_code 56 = .ok (.iload_n 2, 1) := by decide +kernel
theorem d_XT_mayStand_57 : decode prog_4_method_4_code 57 = .ok (.bipush 48, 2) := by decide +kernel
theorem d_XT_mayStand_59 : decode prog_4_method_4_code 59 = .ok (.if_icmp .lt (13), 3) := by decide +kernel
theorem d_XT_mayStand_62 : decode prog_4_method_4_code 62 = .ok (.iload_n 2, 1) := by decide +kernel
theorem d_XT_mayStand_63 : decode prog_4_method_4_code 63 = .ok (.bipush 57, 2) := by decide +kernel
theorem d_XT_mayStand_65 : decode prog_4_method_4_code 65 = .ok (.if_icmp .gt (7), 3) := by decide +kernel
theorem d_XT_mayStand_68 : decode prog_4_method_4_code 68 = .ok (.iconst 1, 1) := by decide +kernel
theorem d_XT_mayStand_69 : decode prog_4_method_4_code 69 = .ok (.goto (4), 3) := by decide +kernel
theorem d_XT_mayStand_72 : decode prog_4_method_4_code 72 = .ok (.iconst 0, 1) := by decide +kernel
theorem d_XT_mayStand_73 : decode prog_4_method_4_code 73 = .ok (.ireturn, 1) := by decide +kernel
theorem d_XT_mayStand_74 : decode prog_4_method_4_code 74 = .ok (.iload_n 1, 1) := by decide +kernel
theorem d_XT_mayStand_75 : decode prog_4_method_4_code 75 = .ok (.iconst 4, 1) := by decide +kernel
theorem d_XT_mayStand_76 : decode prog_4_method_4_code 76 = .ok (.irem, 1) := by decide +kernel
theorem d_XT_mayStand_77 : decode prog_4_method_4_code 77 = .ok (.iload_n 2, 1) := by decide +kernel
theorem d_XT_mayStand_78 : decode prog_4_method_4_code 78 = .ok (.invokestatic 29, 3) := by decide +kernel
theorem d_XT_mayStand_81 : decode prog_4_method_4_code 81 = .ok (.ireturn, 1) := by decide +kernel
theorem d_XT_mayStand_82 : decode prog_4_method_4_code 82 = .ok (.iload_n 2, 1) := by decide +kernel
theorem d_XT_mayStand_83 : decode prog_4_method_4_code 83 = .ok (.bipush 97, 2) := by decide +kernel
theorem d_XT_mayStand_85 : decode prog_4_method_4_code 85 = .ok (.if_icmp .lt (13), 3) := by decide +kernel
theorem d_XT_mayStand_88 : decode prog_4_method_4_code 88 = .ok (.iload_n 2, 1) := by decide +kernel
theorem d_XT_mayStand_89 : decode prog_4_method_4_code 89 = .ok (.bipush 120, 2) := by decide +kernel
theorem d_XT_mayStand_91 : decode prog_4_method_4_code 91 = .ok (.if_icmp .gt (7), 3) := by decide +kernel
theorem d_XT_mayStand_94 : decode prog_4_method_4_code 94 = .ok (.iconst 1, 1) := by decide +kernel
theorem d_XT_mayStand_95 : decode prog_4_method_4_code 95 = .ok (.goto (4), 3) := by decide +kernel
theorem d_XT_mayStand_98 : decode prog_4_method_4_code 98 = .ok (.iconst 0, 1) := by decide +kernel
theorem d_XT_mayStand_99 : decode prog_4_method_4_code 99 = .ok (.ireturn, 1) := by decide +kernel
def wp_XT_mayStand (c1 : Nat) (a1 : Int32) (a2 : Int32) (M : Mem) (post : Int32 → Prop) : Prop :=
  ((((M (2 + 2 * c1) 0) = 0) → ∀ u4 : Int32, u4 = (if a2 = 111 then 1 else (if a2 = 104 then 1 else (if a2 = 99 then 1 else 0))) → (u4 = 0 ∨ u4 = 1) ∧ post u4) ∧ (((M (2 + 2 * c1) 0) = 1) → ∀ u8 : Int32, u8 = (if a2 < 48 then 0 else (if 57 < a2 then 0 else 1)) → (u8 = 0 ∨ u8 = 1) ∧ post u8) ∧ (((M (2 + 2 * c1) 0) = 2) → ((pf_XT_mayStandInPloughs (a1 - a1 / 4 * 4) a2) = 0 ∨ (pf_XT_mayStandInPloughs (a1 - a1 / 4 * 4) a2) = 1) ∧ post (pf_XT_mayStandInPloughs (a1 - a1 / 4 * 4) a2)) ∧ ((¬ (M (2 + 2 * c1) 0) = 0) → (¬ (M (2 + 2 * c1) 0) = 1) → (¬ (M (2 + 2 * c1) 0) = 2) → ∀ u13 : Int32, u13 = (if a2 < 97 then 0 else (if 120 < a2 then 0 else 1)) → (u13 = 0 ∨ u13 = 1) ∧ post u13))
set_option maxHeartbeats 4000000 in
set_option maxRecDepth 100000 in
theorem c_XT_mayStand (g : GX) {c1 : Nat} {a1 : Int32} {a2 : Int32} {M : Mem} {post : Int32 → Prop} (hc1 : c1 < 4) (hw : wp_XT_mayStand c1 a1 a2 M post) : CtI (oX g) y_XT_mayStand prog_4_method_4_code 3 (some .boolean) (rl 1) [.ref (ax g (2 + 2 * c1)), .int a1, .int a2] M (fun r M2 => M = M2 ∧ post r) := by
  refine z_metI (oX_ok g) (by decide) rfl (fun X C hr => ?_)
  show Zj X 3 (oX g) M 0 [(0, .ref (ax g (2 + 2 * c1))), (1, .int a1), (2, .int a2)] []
  unfold wp_XT_mayStand at hw
  refine z_aload_n C d_XT_mayStand_0 rfl 0 rfl ?_
  refine gf_XT_15 hc1 C d_XT_mayStand_1 ?_
  refine z_table C [32, 56, 74] 82 d_XT_mayStand_4 rfl rfl rfl (by decide) (fun k t hk hx => ?_) (fun hx => ?_)
  · rcases k with _ | _ | _ | k
    · cases hk
      replace hw := hw.1 hx
      refine z_iload_n C d_XT_mayStand_32 rfl 2 rfl ?_
      refine z_bipush (v := 111) C d_XT_mayStand_33 (by decide) ?_
      have hj5 : ∀ u4 : Int32, u4 = (if a2 = 111 then 1 else (if a2 = 104 then 1 else (if a2 = 99 then 1 else 0))) → Zj X 3 (oX g) M 55 [] [.int u4] := by
        intro u4 hu4
        replace hw := hw u4 hu4
        exact z_zret C hr hw.1 ⟨rfl, hw.2⟩ d_XT_mayStand_55
      refine z_ic_eq C 50 d_XT_mayStand_35 (by decide) (fun h1 => ?_) (fun h1 => ?_)
      · refine z_iconst (v := 1) C d_XT_mayStand_50 (by decide) ?_
        refine z_goto C 55 d_XT_mayStand_51 (by decide) ?_
        refine z_sub [] rfl ?_
        exact hj5 _ ((if_pos h1)).symm
      · refine z_iload_n C d_XT_mayStand_38 rfl 2 rfl ?_
        refine z_bipush (v := 104) C d_XT_mayStand_39 (by decide) ?_
        refine z_ic_eq C 50 d_XT_mayStand_41 (by decide) (fun h2 => ?_) (fun h2 => ?_)
        · refine z_iconst (v := 1) C d_XT_mayStand_50 (by decide) ?_
          refine z_goto C 55 d_XT_mayStand_51 (by decide) ?_
          refine z_sub [] rfl ?_
          exact hj5 _ (((if_neg h1).trans (if_pos h2))).symm
        · refine z_iload_n C d_XT_mayStand_44 rfl 2 rfl ?_
          refine z_bipush (v := 99) C d_XT_mayStand_45 (by decide) ?_
          refine z_ic_ne C 54 d_XT_mayStand_47 (by decide) (fun h3 => ?_) (fun h3 => ?_)
          · refine z_iconst (v := 0) C d_XT_mayStand_54 (by decide) ?_
            refine z_sub [] rfl ?_
            exact hj5 _ (((if_neg h1).trans ((if_neg h2).trans (if_neg h3)))).symm
          · refine z_iconst (v := 1) C d_XT_mayStand_50 (by decide) ?_
            refine z_goto C 55 d_XT_mayStand_51 (by decide) ?_
            refine z_sub [] rfl ?_
            exact hj5 _ (((if_neg h1).trans ((if_neg h2).trans (if_pos h3)))).symm
    · cases hk
      replace hw := hw.2.1 hx
      refine z_iload_n C d_XT_mayStand_56 rfl 2 rfl ?_
      refine z_bipush (v := 48) C d_XT_mayStand_57 (by decide) ?_
      have hj9 : ∀ u8 : Int32, u8 = (if a2 < 48 then 0 else (if 57 < a2 then 0 else 1)) → Zj X 3 (oX g) M 73 [] [.int u8] := by
        intro u8 hu8
        replace hw := hw u8 hu8
        exact z_zret C hr hw.1 ⟨rfl, hw.2⟩ d_XT_mayStand_73
      refine z_ic_lt C 72 d_XT_mayStand_59 (by decide) (fun h6 => ?_) (fun h6 => ?_)
      · refine z_iconst (v := 0) C d_XT_mayStand_72 (by decide) ?_
        refine z_sub [] rfl ?_
        exact hj9 _ ((if_pos h6)).symm
      · refine z_iload_n C d_XT_mayStand_62 rfl 2 rfl ?_
        refine z_bipush (v := 57) C d_XT_mayStand_63 (by decide) ?_
        refine z_ic_gt C 72 d_XT_mayStand_65 (by decide) (fun h7 => ?_) (fun h7 => ?_)
        · refine z_iconst (v := 0) C d_XT_mayStand_72 (by decide) ?_
          refine z_sub [] rfl ?_
          exact hj9 _ (((if_neg h6).trans (if_pos h7))).symm
        · refine z_iconst (v := 1) C d_XT_mayStand_68 (by decide) ?_
          refine z_goto C 73 d_XT_mayStand_69 (by decide) ?_
          refine z_sub [] rfl ?_
          exact hj9 _ (((if_neg h6).trans (if_neg h7))).symm
    · cases hk
      replace hw := hw.2.2.1 hx
      refine z_iload_n C d_XT_mayStand_74 rfl 1 rfl ?_
      refine z_iconst (v := 4) C d_XT_mayStand_75 (by decide) ?_
      refine z_irem C d_XT_mayStand_76 (by decide) ?_
      refine z_iload_n C d_XT_mayStand_77 rfl 2 rfl ?_
      refine z_callSi C (As := [.int (a1 - a1 / 4 * 4), .int a2]) (rest := []) m_XT_mayStandInPloughs tw_278 ⟨rfl, rfl⟩ (c_XT_mayStandInPloughs (oX_ok g) _ _ _) rfl rfl rfl d_XT_mayStand_78 (fun r M2 hq => ?_)
      obtain ⟨rfl, rfl⟩ := hq
      exact z_zret C hr hw.1 ⟨rfl, hw.2⟩ d_XT_mayStand_81
    · simp at hk
  · replace hw := hw.2.2.2 (hx 0 (by decide)) (hx 1 (by decide)) (hx 2 (by decide))
    refine z_iload_n C d_XT_mayStand_82 rfl 2 rfl ?_
    refine z_bipush (v := 97) C d_XT_mayStand_83 (by decide) ?_
    have hj14 : ∀ u13 : Int32, u13 = (if a2 < 97 then 0 else (if 120 < a2 then 0 else 1)) → Zj X 3 (oX g) M 99 [] [.int u13] := by
      intro u13 hu13
      replace hw := hw u13 hu13
      exact z_zret C hr hw.1 ⟨rfl, hw.2⟩ d_XT_mayStand_99
    refine z_ic_lt C 98 d_XT_mayStand_85 (by decide) (fun h11 => ?_) (fun h11 => ?_)
    · refine z_iconst (v := 0) C d_XT_mayStand_98 (by decide) ?_
      refine z_sub [] rfl ?_
      exact hj14 _ ((if_pos h11)).symm
    · refine z_iload_n C d_XT_mayStand_88 rfl 2 rfl ?_
      refine z_bipush (v := 120) C d_XT_mayStand_89 (by decide) ?_
      refine z_ic_gt C 98 d_XT_mayStand_91 (by decide) (fun h12 => ?_) (fun h12 => ?_)
      · refine z_iconst (v := 0) C d_XT_mayStand_98 (by decide) ?_
        refine z_sub [] rfl ?_
        exact hj14 _ (((if_neg h11).trans (if_pos h12))).symm
      · refine z_iconst (v := 1) C d_XT_mayStand_94 (by decide) ?_
        refine z_goto C 99 d_XT_mayStand_95 (by decide) ?_
        refine z_sub [] rfl ?_
        exact hj14 _ (((if_neg h11).trans (if_neg h12))).symm
theorem d_XW_sortEvents_0 : decode prog_6_method_3_code 0 = .ok (.aload_n 0, 1) := by decide +kernel
theorem d_XW_sortEvents_1 : decode prog_6_method_3_code 1 = .ok (.getfield 30, 3) := by decide +kernel
theorem d_XW_sortEvents_4 : decode prog_6_method_3_code 4 = .ok (.aload_n 1, 1) := by decide +kernel
theorem d_XW_sortEvents_5 : decode prog_6_method_3_code 5 = .ok (.getfield 104, 3) := by decide +kernel
theorem d_XW_sortEvents_8 : decode prog_6_method_3_code 8 = .ok (.invokestatic 58, 3) := by decide +kernel
theorem d_XW_sortEvents_11 : decode prog_6_method_3_code 11 = .ok (.aload_n 0, 1) := by decide +kernel
theorem d_XW_sortEvents_12 : decode prog_6_method_3_code 12 = .ok (.getfield 33, 3) := by decide +kernel
theorem d_XW_sortEvents_15 : decode prog_6_method_3_code 15 = .ok (.iconst 0, 1) := by decide +kernel
theorem d_XW_sortEvents_16 : decode prog_6_method_3_code 16 = .ok (.invokestatic 58, 3) := by decide +kernel
theorem d_XW_sortEvents_19 : decode prog_6_method_3_code 19 = .ok (.aload_n 0, 1) := by decide +kernel
theorem d_XW_sortEvents_20 : decode prog_6_method_3_code 20 = .ok (.iconst 0, 1) := by decide +kernel
theorem d_XW_sortEvents_21 : decode prog_6_method_3_code 21 = .ok (.putfield 36, 3) := by decide +kernel
theorem d_XW_sortEvents_24 : decode prog_6_method_3_code 24 = .ok (.iconst 0, 1) := by decide +kernel
theorem d_XW_sortEvents_25 : decode prog_6_method_3_code 25 = .ok (.istore_n 3, 1) := by decide +kernel
theorem d_XW_sortEvents_26 : decode prog_6_method_3_code 26 = .ok (.iload_n 3, 1) := by decide +kernel
theorem d_XW_sortEvents_27 : decode prog_6_method_3_code 27 = .ok (.aload_n 1, 1) := by decide +kernel
theorem d_XW_sortEvents_28 : decode prog_6_method_3_code 28 = .ok (.getfield 107, 3) := by decide +kernel
theorem d_XW_sortEvents_31 : decode prog_6_method_3_code 31 = .ok (.if_icmp .ge (40), 3) := by decide +kernel
theorem d_XW_sortEvents_34 : decode prog_6_method_3_code 34 = .ok (.iload_n 2, 1) := by decide +kernel
theorem d_XW_sortEvents_35 : decode prog_6_method_3_code 35 = .ok (.iload_n 3, 1) := by decide +kernel
theorem d_XW_sortEvents_36 : decode prog_6_method_3_code 36 = .ok (.ishr, 1) := by decide +kernel
theorem d_XW_sortEvents_37 : decode prog_6_method_3_code 37 = .ok (.iconst 1, 1) := by decide +kernel
theorem d_XW_sortEvents_38 : decode prog_6_method_3_code 38 = .ok (.iand, 1) := by decide +kernel
theorem d_XW_sortEvents_39 : decode prog_6_method_3_code 39 = .ok (.iconst 1, 1) := by decide +kernel
theorem d_XW_sortEvents_40 : decode prog_6_method_3_code 40 = .ok (.if_icmp .ne (25), 3) := by decide +kernel
theorem d_XW_sortEvents_43 : decode prog_6_method_3_code 43 = .ok (.aload_n 0, 1) := by decide +kernel
theorem d_XW_sortEvents_44 : decode prog_6_method_3_code 44 = .ok (.aload_n 1, 1) := by decide +kernel
theorem d_XW_sortEvents_45 : decode prog_6_method_3_code 45 = .ok (.getfield 110, 3) := by decide +kernel
theorem d_XW_sortEvents_48 : decode prog_6_method_3_code 48 = .ok (.iload_n 3, 1) := by decide +kernel
theorem d_XW_sortEvents_49 : decode prog_6_method_3_code 49 = .ok (.iaload, 1) := by decide +kernel
theorem d_XW_sortEvents_50 : decode prog_6_method_3_code 50 = .ok (.aload_n 1, 1) := by decide +kernel
theorem d_XW_sortEvents_51 : decode prog_6_method_3_code 51 = .ok (.getfield 113, 3) := by decide +kernel
theorem d_XW_sortEvents_54 : decode prog_6_method_3_code 54 = .ok (.iload_n 3, 1) := by decide +kernel
theorem d_XW_sortEvents_55 : decode prog_6_method_3_code 55 = .ok (.iaload, 1) := by decide +kernel
theorem d_XW_sortEvents_56 : decode prog_6_method_3_code 56 = .ok (.aload_n 1, 1) := by decide +kernel
theorem d_XW_sortEvents_57 : decode prog_6_method_3_code 57 = .ok (.getfield 116, 3) := by decide +kernel
theorem d_XW_sortEvents_60 : decode prog_6_method_3_code 60 = .ok (.iload_n 3, 1) := by decide +kernel
theorem d_XW_sortEvents_61 : decode prog_6_method_3_code 61 = .ok (.iaload, 1) := by decide +kernel
theorem d_XW_sortEvents_62 : decode prog_6_method_3_code 62 = .ok (.invokevirtual 119, 3) := by decide +kernel
theorem d_XW_sortEvents_65 : decode prog_6_method_3_code 65 = .ok (.iinc 3 1, 3) := by decide +kernel
theorem d_XW_sortEvents_68 : decode prog_6_method_3_code 68 = .ok (.goto (-42), 3) := by decide +kernel
theorem d_XW_sortEvents_71 : decode prog_6_method_3_code 71 = .ok (.return_, 1) := by decide +kernel
def wp_XW_sortEvents (c1 : Nat) (a2 : Int32) (M : Mem) (post : Mem → Prop) : Prop :=
  ∀ M1 : Mem, M1 = upr M (c1 + 7) (zfill 24 (M 10 8) (M (c1 + 7))) → ∀ M2 : Mem, M2 = upr M1 (c1 + 8) (zfill 24 0 (M1 (c1 + 8))) → ∀ M3 : Mem, M3 = upm M2 c1 8 0 → (it2 (fun rec4 (i6 : Int32) (M7 : Mem) => ((((M7 10 9) ≤ i6) → post M7) ∧ (¬ ((M7 10 9) ≤ i6) → (((((a2 >>> (i6 &&& 31)) &&& 1) = 1) → vp_in i6 8 ∧ wp_XW_sortEvent c1 (M7 17 (tn i6)) (M7 18 (tn i6)) (M7 19 (tn i6)) M7 (fun M11 => rec4 (i6 + 1) M11)) ∧ (¬ (((a2 >>> (i6 &&& 31)) &&& 1) = 1) → rec4 (i6 + 1) M7))))) 4096 0 M3)
set_option maxHeartbeats 4000000 in
set_option maxRecDepth 100000 in
theorem c_XW_sortEvents (g : GX) {c1 : Nat} {a2 : Int32} {M : Mem} {post : Mem → Prop} (hc1 : c1 = 32 ∨ c1 = 44) (hw : wp_XW_sortEvents c1 a2 M post) : CtV (oX g) y_XW_sortEvents prog_6_method_3_code 4 none (rl 1) [.ref (ax g c1), .ref (ax g 10), .int a2] M post := by
  refine z_metV (oX_ok g) (by decide) rfl (fun X C hr => ?_)
  show Zj X 4 (oX g) M 0 [(0, .ref (ax g c1)), (1, .ref (ax g 10)), (2, .int a2)] []
  unfold wp_XW_sortEvents at hw
  refine z_aload_n C d_XW_sortEvents_0 rfl 0 rfl ?_
  refine gf_XW_30 hc1 C d_XW_sortEvents_1 ?_
  refine z_aload_n C d_XW_sortEvents_4 rfl 1 rfl ?_
  refine gf_XW_104 C d_XW_sortEvents_5 ?_
  refine z_fill C tw_370 (zar_xW7 hc1) rfl rfl d_XW_sortEvents_8 (fun M1 hM1 => ?_)
  replace hw := hw M1 hM1
  refine z_aload_n C d_XW_sortEvents_11 rfl 0 rfl ?_
  refine gf_XW_33 hc1 C d_XW_sortEvents_12 ?_
  refine z_iconst (v := 0) C d_XW_sortEvents_15 (by decide) ?_
  refine z_fill C tw_370 (zar_xW8 hc1) rfl rfl d_XW_sortEvents_16 (fun M2 hM2 => ?_)
  replace hw := hw M2 hM2
  refine z_aload_n C d_XW_sortEvents_19 rfl 0 rfl ?_
  refine z_iconst (v := 0) C d_XW_sortEvents_20 (by decide) ?_
  refine pp_XW_36 hc1 C d_XW_sortEvents_21 (fun M3 hM3 => ?_)
  replace hw := hw M3 hM3
  refine z_iconst (v := 0) C d_XW_sortEvents_24 (by decide) ?_
  refine z_istore_n (lv' := [(3, .int 0), (0, .ref (ax g c1)), (1, .ref (ax g 10)), (2, .int a2)]) C d_XW_sortEvents_25 rfl rfl rfl ?_
  refine z_sub [1, 2, 3, 0] rfl ?_
  refine it2_Z (Z := fun (i6 : Int32) (M7 : Mem) => Zj X 4 (oX g) M7 26 [(0, .ref (ax g c1)), (1, .ref (ax g 10)), (2, .int a2), (3, .int i6)] []) (fun rec4 ih5 i6 M7 hw => ?_) _ _ _ hw
  refine z_iload_n C d_XW_sortEvents_26 rfl 3 rfl ?_
  refine z_aload_n C d_XW_sortEvents_27 rfl 1 rfl ?_
  refine gf_XW_107 C d_XW_sortEvents_28 ?_
  refine z_ic_ge C 71 d_XW_sortEvents_31 (by decide) (fun h8 => ?_) (fun h8 => ?_)
  · replace hw := hw.1 h8
    exact z_vret C hr hw d_XW_sortEvents_71
  · replace hw := hw.2 h8
    refine z_iload_n C d_XW_sortEvents_34 rfl 2 rfl ?_
    refine z_iload_n C d_XW_sortEvents_35 rfl 3 rfl ?_
    refine z_ishr C d_XW_sortEvents_36 ?_
    refine z_iconst (v := 1) C d_XW_sortEvents_37 (by decide) ?_
    refine z_iand C d_XW_sortEvents_38 ?_
    refine z_iconst (v := 1) C d_XW_sortEvents_39 (by decide) ?_
    refine z_ic_ne C 65 d_XW_sortEvents_40 (by decide) (fun h9 => ?_) (fun h9 => ?_)
    · replace hw := hw.2 h9
      refine z_iinc (v := (i6 + 1)) (lv' := [(3, .int (i6 + 1)), (0, .ref (ax g c1)), (1, .ref (ax g 10)), (2, .int a2)]) C d_XW_sortEvents_65 3 rfl rfl rfl rfl ?_
      refine z_goto C 26 d_XW_sortEvents_68 (by decide) ?_
      refine z_sub [1, 2, 3, 0] rfl ?_
      exact ih5 _ _ hw
    · replace hw := hw.1 h9
      refine z_aload_n C d_XW_sortEvents_43 rfl 0 rfl ?_
      refine z_aload_n C d_XW_sortEvents_44 rfl 1 rfl ?_
      refine gf_XW_110 C d_XW_sortEvents_45 ?_
      refine z_iload_n C d_XW_sortEvents_48 rfl 3 rfl ?_
      have hv10 := hw.1
      replace hw := hw.2
      refine z_al (zar_x17) C hv10 d_XW_sortEvents_49 ?_
      refine z_aload_n C d_XW_sortEvents_50 rfl 1 rfl ?_
      refine gf_XW_113 C d_XW_sortEvents_51 ?_
      refine z_iload_n C d_XW_sortEvents_54 rfl 3 rfl ?_
      refine z_al (zar_x18) C hv10 d_XW_sortEvents_55 ?_
      refine z_aload_n C d_XW_sortEvents_56 rfl 1 rfl ?_
      refine gf_XW_116 C d_XW_sortEvents_57 ?_
      refine z_iload_n C d_XW_sortEvents_60 rfl 3 rfl ?_
      refine z_al (zar_x19) C hv10 d_XW_sortEvents_61 ?_
      refine z_callVv C (As := [.int (M7 17 (tn i6)), .int (M7 18 (tn i6)), .int (M7 19 (tn i6))]) (rest := []) m_XW_sortEvent tw_377 c1 (le_XW hc1) rfl ⟨rfl, rfl⟩ (c_XW_sortEvent g hc1 hw) rfl rfl rfl d_XW_sortEvents_62 (fun M11 hw => ?_)
      refine z_iinc (v := (i6 + 1)) (lv' := [(3, .int (i6 + 1)), (0, .ref (ax g c1)), (1, .ref (ax g 10)), (2, .int a2)]) C d_XW_sortEvents_65 3 rfl rfl rfl rfl ?_
      refine z_goto C 26 d_XW_sortEvents_68 (by decide) ?_
      refine z_sub [1, 2, 3, 0] rfl ?_
      exact ih5 _ _ hw
