theorem d_XW_deepMilesBehind_0 : decode prog_6_method_14_code 0 = .ok (.iconst 0, 1) := by decide +kernel
theorem d_XW_deepMilesBehind_1 : decode prog_6_method_14_code 1 = .ok (.istore_n 2, 1) := by decide +kernel
theorem d_XW_deepMilesBehind_2 : decode prog_6_method_14_code 2 = .ok (.iconst 0, 1) := by decide +kernel
theorem d_XW_deepMilesBehind_3 : decode prog_6_method_14_code 3 = .ok (.istore_n 3, 1) := by decide +kernel
theorem d_XW_deepMilesBehind_4 : decode prog_6_method_14_code 4 = .ok (.iload_n 3, 1) := by decide +kernel
theorem d_XW_deepMilesBehind_5 : decode prog_6_method_14_code 5 = .ok (.bipush 12, 2) := by decide +kernel
theorem d_XW_deepMilesBehind_7 : decode prog_6_method_14_code 7 = .ok (.if_icmp .ge (27), 3) := by decide +kernel
theorem d_XW_deepMilesBehind_10 : decode prog_6_method_14_code 10 = .ok (.aload_n 0, 1) := by decide +kernel
theorem d_XW_deepMilesBehind_11 : decode prog_6_method_14_code 11 = .ok (.getfield 9, 3) := by decide +kernel
theorem d_XW_deepMilesBehind_14 : decode prog_6_method_14_code 14 = .ok (.iload_n 1, 1) := by decide +kernel
theorem d_XW_deepMilesBehind_15 : decode prog_6_method_14_code 15 = .ok (.bipush 12, 2) := by decide +kernel
theorem d_XW_deepMilesBehind_17 : decode prog_6_method_14_code 17 = .ok (.imul, 1) := by decide +kernel
theorem d_XW_deepMilesBehind_18 : decode prog_6_method_14_code 18 = .ok (.iload_n 3, 1) := by decide +kernel
theorem d_XW_deepMilesBehind_19 : decode prog_6_method_14_code 19 = .ok (.iadd, 1) := by decide +kernel
theorem d_XW_deepMilesBehind_20 : decode prog_6_method_14_code 20 = .ok (.iaload, 1) := by decide +kernel
theorem d_XW_deepMilesBehind_21 : decode prog_6_method_14_code 21 = .ok (.iconst 4, 1) := by decide +kernel
theorem d_XW_deepMilesBehind_22 : decode prog_6_method_14_code 22 = .ok (.if_icmp .le (6), 3) := by decide +kernel
theorem d_XW_deepMilesBehind_25 : decode prog_6_method_14_code 25 = .ok (.iinc 2 1, 3) := by decide +kernel
theorem d_XW_deepMilesBehind_28 : decode prog_6_method_14_code 28 = .ok (.iinc 3 1, 3) := by decide +kernel
theorem d_XW_deepMilesBehind_31 : decode prog_6_method_14_code 31 = .ok (.goto (-27), 3) := by decide +kernel
theorem d_XW_deepMilesBehind_34 : decode prog_6_method_14_code 34 = .ok (.iload_n 2, 1) := by decide +kernel
theorem d_XW_deepMilesBehind_35 : decode prog_6_method_14_code 35 = .ok (.ireturn, 1) := by decide +kernel
def wp_XW_deepMilesBehind (c1 : Nat) (a1 : Int32) (M : Mem) (post : Int32 → Prop) : Prop :=
  (it2 (fun rec1 (i3 : Int32) (i4 : Int32) => (((12 ≤ i4) → post i3) ∧ (¬ (12 ≤ i4) → vp_in ((a1 * 12) + i4) 288 ∧ ∀ u8 : Int32, u8 = (if (M (c1 + 1) (tn ((a1 * 12) + i4))) ≤ 4 then i3 else (i3 + 1)) → rec1 u8 (i4 + 1)))) 4096 0 0)
set_option maxHeartbeats 4000000 in
set_option maxRecDepth 100000 in
theorem c_XW_deepMilesBehind (g : GX) {c1 : Nat} {a1 : Int32} {M : Mem} {post : Int32 → Prop} (hc1 : c1 = 32 ∨ c1 = 44) (hw : wp_XW_deepMilesBehind c1 a1 M post) : CtI (oX g) y_XW_deepMilesBehind prog_6_method_14_code 4 (some .int) (rl 0) [.ref (ax g c1), .int a1] M (fun r M2 => M = M2 ∧ post r) := by
  refine z_metI (oX_ok g) (by decide) rfl (fun X C hr => ?_)
  show Zj X 4 (oX g) M 0 [(0, .ref (ax g c1)), (1, .int a1)] []
  unfold wp_XW_deepMilesBehind at hw
  refine z_iconst (v := 0) C d_XW_deepMilesBehind_0 (by decide) ?_
  refine z_istore_n (lv' := [(2, .int 0), (0, .ref (ax g c1)), (1, .int a1)]) C d_XW_deepMilesBehind_1 rfl rfl rfl ?_
  refine z_iconst (v := 0) C d_XW_deepMilesBehind_2 (by decide) ?_
  refine z_istore_n (lv' := [(3, .int 0), (2, .int 0), (0, .ref (ax g c1)), (1, .int a1)]) C d_XW_deepMilesBehind_3 rfl rfl rfl ?_
  refine z_sub [2, 3, 1, 0] rfl ?_
  refine it2_Z (Z := fun (i3 : Int32) (i4 : Int32) => Zj X 4 (oX g) M 4 [(0, .ref (ax g c1)), (1, .int a1), (2, .int i3), (3, .int i4)] []) (fun rec1 ih2 i3 i4 hw => ?_) _ _ _ hw
  refine z_iload_n C d_XW_deepMilesBehind_4 rfl 3 rfl ?_
  refine z_bipush (v := 12) C d_XW_deepMilesBehind_5 (by decide) ?_
  refine z_ic_ge C 34 d_XW_deepMilesBehind_7 (by decide) (fun h5 => ?_) (fun h5 => ?_)
  · replace hw := hw.1 h5
    refine z_iload_n C d_XW_deepMilesBehind_34 rfl 2 rfl ?_
    exact z_iret C hr ⟨rfl, hw⟩ d_XW_deepMilesBehind_35
  · replace hw := hw.2 h5
    refine z_aload_n C d_XW_deepMilesBehind_10 rfl 0 rfl ?_
    refine gf_XW_9 hc1 C d_XW_deepMilesBehind_11 ?_
    refine z_iload_n C d_XW_deepMilesBehind_14 rfl 1 rfl ?_
    refine z_bipush (v := 12) C d_XW_deepMilesBehind_15 (by decide) ?_
    refine z_imul C d_XW_deepMilesBehind_17 ?_
    refine z_iload_n C d_XW_deepMilesBehind_18 rfl 3 rfl ?_
    refine z_iadd C d_XW_deepMilesBehind_19 ?_
    have hv6 := hw.1
    replace hw := hw.2
    refine z_al (zar_xW1 hc1) C hv6 d_XW_deepMilesBehind_20 ?_
    refine z_iconst (v := 4) C d_XW_deepMilesBehind_21 (by decide) ?_
    have hj9 : ∀ u8 : Int32, u8 = (if (M (c1 + 1) (tn ((a1 * 12) + i4))) ≤ 4 then i3 else (i3 + 1)) → Zj X 4 (oX g) M 28 [(0, .ref (ax g c1)), (1, .int a1), (2, .int u8), (3, .int i4)] [] := by
      intro u8 hu8
      replace hw := hw u8 hu8
      refine z_iinc (v := (i4 + 1)) (lv' := [(3, .int (i4 + 1)), (0, .ref (ax g c1)), (1, .int a1), (2, .int u8)]) C d_XW_deepMilesBehind_28 3 rfl rfl rfl rfl ?_
      refine z_goto C 4 d_XW_deepMilesBehind_31 (by decide) ?_
      refine z_sub [1, 2, 3, 0] rfl ?_
      exact ih2 _ _ hw
    refine z_ic_le C 28 d_XW_deepMilesBehind_22 (by decide) (fun h7 => ?_) (fun h7 => ?_)
    · refine z_sub [0, 1, 2, 3] rfl ?_
      exact hj9 _ ((if_pos h7)).symm
    · refine z_iinc (v := (i3 + 1)) (lv' := [(2, .int (i3 + 1)), (0, .ref (ax g c1)), (1, .int a1), (3, .int i4)]) C d_XW_deepMilesBehind_25 2 rfl rfl rfl rfl ?_
      refine z_sub [1, 2, 0, 3] rfl ?_
      exact hj9 _ ((if_neg h7)).symm
theorem d_XW_deepestPlace_0 : decode prog_6_method_15_code 0 = .ok (.iconst 0, 1) := by decide +kernel
theorem d_XW_deepestPlace_1 : decode prog_6_method_15_code 1 = .ok (.istore_n 1, 1) := by decide +kernel
theorem d_XW_deepestPlace_2 : decode prog_6_method_15_code 2 = .ok (.iconst 1, 1) := by decide +kernel
theorem d_XW_deepestPlace_3 : decode prog_6_method_15_code 3 = .ok (.istore_n 2, 1) := by decide +kernel
theorem d_XW_deepestPlace_4 : decode prog_6_method_15_code 4 = .ok (.iload_n 2, 1) := by decide +kernel
theorem d_XW_deepestPlace_5 : decode prog_6_method_15_code 5 = .ok (.aload_n 0, 1) := by decide +kernel
theorem d_XW_deepestPlace_6 : decode prog_6_method_15_code 6 = .ok (.getfield 9, 3) := by decide +kernel
theorem d_XW_deepestPlace_9 : decode prog_6_method_15_code 9 = .ok (.arraylength, 1) := by decide +kernel
theorem d_XW_deepestPlace_10 : decode prog_6_method_15_code 10 = .ok (.if_icmp .ge (26), 3) := by decide +kernel
theorem d_XW_deepestPlace_13 : decode prog_6_method_15_code 13 = .ok (.aload_n 0, 1) := by decide +kernel
theorem d_XW_deepestPlace_14 : decode prog_6_method_15_code 14 = .ok (.getfield 9, 3) := by decide +kernel
theorem d_XW_deepestPlace_17 : decode prog_6_method_15_code 17 = .ok (.iload_n 2, 1) := by decide +kernel
theorem d_XW_deepestPlace_18 : decode prog_6_method_15_code 18 = .ok (.iaload, 1) := by decide +kernel
theorem d_XW_deepestPlace_19 : decode prog_6_method_15_code 19 = .ok (.aload_n 0, 1) := by decide +kernel
theorem d_XW_deepestPlace_20 : decode prog_6_method_15_code 20 = .ok (.getfield 9, 3) := by decide +kernel
theorem d_XW_deepestPlace_23 : decode prog_6_method_15_code 23 = .ok (.iload_n 1, 1) := by decide +kernel
theorem d_XW_deepestPlace_24 : decode prog_6_method_15_code 24 = .ok (.iaload, 1) := by decide +kernel
theorem d_XW_deepestPlace_25 : decode prog_6_method_15_code 25 = .ok (.if_icmp .le (5), 3) := by decide +kernel
theorem d_XW_deepestPlace_28 : decode prog_6_method_15_code 28 = .ok (.iload_n 2, 1) := by decide +kernel
theorem d_XW_deepestPlace_29 : decode prog_6_method_15_code 29 = .ok (.istore_n 1, 1) := by decide +kernel
theorem d_XW_deepestPlace_30 : decode prog_6_method_15_code 30 = .ok (.iinc 2 1, 3) := by decide +kernel
theorem d_XW_deepestPlace_33 : decode prog_6_method_15_code 33 = .ok (.goto (-29), 3) := by decide +kernel
theorem d_XW_deepestPlace_36 : decode prog_6_method_15_code 36 = .ok (.iload_n 1, 1) := by decide +kernel
theorem d_XW_deepestPlace_37 : decode prog_6_method_15_code 37 = .ok (.ireturn, 1) := by decide +kernel
def wp_XW_deepestPlace (c1 : Nat) (M : Mem) (post : Int32 → Prop) : Prop :=
  (it2 (fun rec1 (i3 : Int32) (i4 : Int32) => (((288 ≤ i4) → post i3) ∧ (¬ (288 ≤ i4) → vp_in i4 288 ∧ vp_in i3 288 ∧ ∀ u9 : Int32, u9 = (if (M (c1 + 1) (tn i4)) ≤ (M (c1 + 1) (tn i3)) then i3 else i4) → rec1 u9 (i4 + 1)))) 4096 0 1)
set_option maxHeartbeats 4000000 in
set_option maxRecDepth 100000 in
theorem c_XW_deepestPlace (g : GX) {c1 : Nat} {M : Mem} {post : Int32 → Prop} (hc1 : c1 = 32 ∨ c1 = 44) (hw : wp_XW_deepestPlace c1 M post) : CtI (oX g) y_XW_deepestPlace prog_6_method_15_code 3 (some .int) (rl 0) [.ref (ax g c1)] M (fun r M2 => M = M2 ∧ post r) := by
  refine z_metI (oX_ok g) (by decide) rfl (fun X C hr => ?_)
  show Zj X 3 (oX g) M 0 [(0, .ref (ax g c1))] []
  unfold wp_XW_deepestPlace at hw
  refine z_iconst (v := 0) C d_XW_deepestPlace_0 (by decide) ?_
  refine z_istore_n (lv' := [(1, .int 0), (0, .ref (ax g c1))]) C d_XW_deepestPlace_1 rfl rfl rfl ?_
  refine z_iconst (v := 1) C d_XW_deepestPlace_2 (by decide) ?_
  refine z_istore_n (lv' := [(2, .int 1), (1, .int 0), (0, .ref (ax g c1))]) C d_XW_deepestPlace_3 rfl rfl rfl ?_
  refine z_sub [2, 1, 0] rfl ?_
  refine it2_Z (Z := fun (i3 : Int32) (i4 : Int32) => Zj X 3 (oX g) M 4 [(0, .ref (ax g c1)), (1, .int i3), (2, .int i4)] []) (fun rec1 ih2 i3 i4 hw => ?_) _ _ _ hw
  refine z_iload_n C d_XW_deepestPlace_4 rfl 2 rfl ?_
  refine z_aload_n C d_XW_deepestPlace_5 rfl 0 rfl ?_
  refine gf_XW_9 hc1 C d_XW_deepestPlace_6 ?_
  refine z_an (zar_xW1 hc1) C (v := 288) rfl d_XW_deepestPlace_9 ?_
  refine z_ic_ge C 36 d_XW_deepestPlace_10 (by decide) (fun h5 => ?_) (fun h5 => ?_)
  · replace hw := hw.1 h5
    refine z_iload_n C d_XW_deepestPlace_36 rfl 1 rfl ?_
    exact z_iret C hr ⟨rfl, hw⟩ d_XW_deepestPlace_37
  · replace hw := hw.2 h5
    refine z_aload_n C d_XW_deepestPlace_13 rfl 0 rfl ?_
    refine gf_XW_9 hc1 C d_XW_deepestPlace_14 ?_
    refine z_iload_n C d_XW_deepestPlace_17 rfl 2 rfl ?_
    have hv6 := hw.1
    replace hw := hw.2
    refine z_al (zar_xW1 hc1) C hv6 d_XW_deepestPlace_18 ?_
    refine z_aload_n C d_XW_deepestPlace_19 rfl 0 rfl ?_
    refine gf_XW_9 hc1 C d_XW_deepestPlace_20 ?_
    refine z_iload_n C d_XW_deepestPlace_23 rfl 1 rfl ?_
    have hv7 := hw.1
    replace hw := hw.2
    refine z_al (zar_xW1 hc1) C hv7 d_XW_deepestPlace_24 ?_
    have hj10 : ∀ u9 : Int32, u9 = (if (M (c1 + 1) (tn i4)) ≤ (M (c1 + 1) (tn i3)) then i3 else i4) → Zj X 3 (oX g) M 30 [(0, .ref (ax g c1)), (1, .int u9), (2, .int i4)] [] := by
      intro u9 hu9
      replace hw := hw u9 hu9
      refine z_iinc (v := (i4 + 1)) (lv' := [(2, .int (i4 + 1)), (0, .ref (ax g c1)), (1, .int u9)]) C d_XW_deepestPlace_30 2 rfl rfl rfl rfl ?_
      refine z_goto C 4 d_XW_deepestPlace_33 (by decide) ?_
      refine z_sub [1, 2, 0] rfl ?_
      exact ih2 _ _ hw
    refine z_ic_le C 30 d_XW_deepestPlace_25 (by decide) (fun h8 => ?_) (fun h8 => ?_)
    · refine z_sub [0, 1, 2] rfl ?_
      exact hj10 _ ((if_pos h8)).symm
    · refine z_iload_n C d_XW_deepestPlace_28 rfl 2 rfl ?_
      refine z_istore_n (lv' := [(1, .int i4), (0, .ref (ax g c1)), (2, .int i4)]) C d_XW_deepestPlace_29 rfl rfl rfl ?_
      refine z_sub [1, 0, 2] rfl ?_
      exact hj10 _ ((if_neg h8)).symm
theorem d_X_land_0 : decode prog_1_method_6_code 0 = .ok (.iload_n 1, 1) := by decide +kernel
theorem d_X_land_1 : decode prog_1_method_6_code 1 = .ok (.bipush 12, 2) := by decide +kernel
theorem d_X_land_3 : decode prog_1_method_6_code 3 = .ok (.invokestatic 70, 3) := by decide +kernel
theorem d_X_land_6 : decode prog_1_method_6_code 6 = .ok (.ifCond .eq (8), 3) := by decide +kernel
theorem d_X_land_9 : decode prog_1_method_6_code 9 = .ok (.bipush (-2), 2) := by decide +kernel
theorem d_X_land_11 : decode prog_1_method_6_code 11 = .ok (.goto (12), 3) := by decide +kernel
theorem d_X_land_14 : decode prog_1_method_6_code 14 = .ok (.aload_n 0, 1) := by decide +kernel
theorem d_X_land_15 : decode prog_1_method_6_code 15 = .ok (.getfield 18, 3) := by decide +kernel
theorem d_X_land_18 : decode prog_1_method_6_code 18 = .ok (.getfield 88, 3) := by decide +kernel
theorem d_X_land_21 : decode prog_1_method_6_code 21 = .ok (.iload_n 1, 1) := by decide +kernel
theorem d_X_land_22 : decode prog_1_method_6_code 22 = .ok (.iaload, 1) := by decide +kernel
theorem d_X_land_23 : decode prog_1_method_6_code 23 = .ok (.ireturn, 1) := by decide +kernel
def wp_X_land (a1 : Int32) (M : Mem) (post : Int32 → Prop) : Prop :=
  ((((pf_X_outside a1 12) = 0) → (vp_in a1 12)) ∧ (¬ ((pf_X_outside a1 12) = 0) → True)) ∧ (∀ u4 : Int32, u4 = (if (pf_X_outside a1 12) = 0 then (M 11 (tn a1)) else (-2)) → post u4)
set_option maxHeartbeats 4000000 in
set_option maxRecDepth 100000 in
theorem c_X_land (g : GX) {a1 : Int32} {M : Mem} {post : Int32 → Prop} (hw : wp_X_land a1 M post) : CtI (oX g) y_X_land prog_1_method_6_code 2 (some .int) (rl 1) [.ref (ax g 0), .int a1] M (fun r M2 => M = M2 ∧ post r) := by
  refine z_metI (oX_ok g) (by decide) rfl (fun X C hr => ?_)
  show Zj X 2 (oX g) M 0 [(0, .ref (ax g 0)), (1, .int a1)] []
  unfold wp_X_land at hw
  refine z_iload_n C d_X_land_0 rfl 1 rfl ?_
  refine z_bipush (v := 12) C d_X_land_1 (by decide) ?_
  refine z_callSi C (As := [.int a1, .int 12]) (rest := []) m_X_outside tw_251 ⟨rfl, rfl⟩ (c_X_outside (oX_ok g) _ _ _) rfl rfl rfl d_X_land_3 (fun r M2 hq => ?_)
  obtain ⟨rfl, rfl⟩ := hq
  have hj5 : ∀ u4 : Int32, u4 = (if (pf_X_outside a1 12) = 0 then (M 11 (tn a1)) else (-2)) → Zj X 2 (oX g) M 23 [] [.int u4] := by
    intro u4 hu4
    replace hw := hw.2 u4 hu4
    exact z_iret C hr ⟨rfl, hw⟩ d_X_land_23
  have ha0 := hw.1
  refine z_if_eq C 14 d_X_land_6 (by decide) (fun h2 => ?_) (fun h2 => ?_)
  · have ha6 := ha0.1 h2
    refine z_aload_n C d_X_land_14 rfl 0 rfl ?_
    refine gf_X_18 C d_X_land_15 ?_
    refine gf_X_88 C d_X_land_18 ?_
    refine z_iload_n C d_X_land_21 rfl 1 rfl ?_
    have hv3 := ha6
    refine z_al (zar_x11) C hv3 d_X_land_22 ?_
    refine z_sub [] rfl ?_
    exact hj5 _ ((if_pos h2)).symm
  · refine z_bipush (v := (-2)) C d_X_land_9 (by decide) ?_
    refine z_goto C 23 d_X_land_11 (by decide) ?_
    refine z_sub [] rfl ?_
    exact hj5 _ ((if_neg h2)).symm
theorem d_X_fall_0 : decode prog_1_method_7_code 0 = .ok (.iload_n 1, 1) := by decide +kernel
theorem d_X_fall_1 : decode prog_1_method_7_code 1 = .ok (.bipush 24, 2) := by decide +kernel
theorem d_X_fall_3 : decode prog_1_method_7_code 3 = .ok (.invokestatic 70, 3) := by decide +kernel
theorem d_X_fall_6 : decode prog_1_method_7_code 6 = .ok (.ifCond .eq (8), 3) := by decide +kernel
theorem d_X_fall_9 : decode prog_1_method_7_code 9 = .ok (.bipush (-2), 2) := by decide +kernel
theorem d_X_fall_11 : decode prog_1_method_7_code 11 = .ok (.goto (12), 3) := by decide +kernel
theorem d_X_fall_14 : decode prog_1_method_7_code 14 = .ok (.aload_n 0, 1) := by decide +kernel
theorem d_X_fall_15 : decode prog_1_method_7_code 15 = .ok (.getfield 18, 3) := by decide +kernel
theorem d_X_fall_18 : decode prog_1_method_7_code 18 = .ok (.getfield 91, 3) := by decide +kernel
theorem d_X_fall_21 : decode prog_1_method_7_code 21 = .ok (.iload_n 1, 1) := by decide +kernel
theorem d_X_fall_22 : decode prog_1_method_7_code 22 = .ok (.iaload, 1) := by decide +kernel
theorem d_X_fall_23 : decode prog_1_method_7_code 23 = .ok (.ireturn, 1) := by decide +kernel
def wp_X_fall (a1 : Int32) (M : Mem) (post : Int32 → Prop) : Prop :=
  ((((pf_X_outside a1 24) = 0) → (vp_in a1 24)) ∧ (¬ ((pf_X_outside a1 24) = 0) → True)) ∧ (∀ u4 : Int32, u4 = (if (pf_X_outside a1 24) = 0 then (M (fz M) (tn a1)) else (-2)) → post u4)
set_option maxHeartbeats 4000000 in
set_option maxRecDepth 100000 in
theorem c_X_fall (g : GX) {a1 : Int32} {M : Mem} {post : Int32 → Prop} (hw : wp_X_fall a1 M post) : CtI (oX g) y_X_fall prog_1_method_7_code 2 (some .int) (rl 1) [.ref (ax g 0), .int a1] M (fun r M2 => M = M2 ∧ post r) := by
  refine z_metI (oX_ok g) (by decide) rfl (fun X C hr => ?_)
  show Zj X 2 (oX g) M 0 [(0, .ref (ax g 0)), (1, .int a1)] []
  unfold wp_X_fall at hw
  refine z_iload_n C d_X_fall_0 rfl 1 rfl ?_
  refine z_bipush (v := 24) C d_X_fall_1 (by decide) ?_
  refine z_callSi C (As := [.int a1, .int 24]) (rest := []) m_X_outside tw_251 ⟨rfl, rfl⟩ (c_X_outside (oX_ok g) _ _ _) rfl rfl rfl d_X_fall_3 (fun r M2 hq => ?_)
  obtain ⟨rfl, rfl⟩ := hq
  have hj5 : ∀ u4 : Int32, u4 = (if (pf_X_outside a1 24) = 0 then (M (fz M) (tn a1)) else (-2)) → Zj X 2 (oX g) M 23 [] [.int u4] := by
    intro u4 hu4
    replace hw := hw.2 u4 hu4
    exact z_iret C hr ⟨rfl, hw⟩ d_X_fall_23
  have ha0 := hw.1
  refine z_if_eq C 14 d_X_fall_6 (by decide) (fun h2 => ?_) (fun h2 => ?_)
  · have ha6 := ha0.1 h2
    refine z_aload_n C d_X_fall_14 rfl 0 rfl ?_
    refine gf_X_18 C d_X_fall_15 ?_
    refine gf_X_91 C d_X_fall_18 ?_
    refine z_iload_n C d_X_fall_21 rfl 1 rfl ?_
    have hv3 := ha6
    refine z_al (zar_xF) C hv3 d_X_fall_22 ?_
    refine z_sub [] rfl ?_
    exact hj5 _ ((if_pos h2)).symm
  · refine z_bipush (v := (-2)) C d_X_fall_9 (by decide) ?_
    refine z_goto C 23 d_X_fall_11 (by decide) ?_
    refine z_sub [] rfl ?_
    exact hj5 _ ((if_neg h2)).symm
theorem d_X_plough_0 : decode prog_1_method_8_code 0 = .ok (.iload_n 1, 1) := by decide +kernel
theorem d_X_plough_1 : decode prog_1_method_8_code 1 = .ok (.aload_n 0, 1) := by decide +kernel
theorem d_X_plough_2 : decode prog_1_method_8_code 2 = .ok (.getfield 18, 3) := by decide +kernel
theorem d_X_plough_5 : decode prog_1_method_8_code 5 = .ok (.getfield 94, 3) := by decide +kernel
theorem d_X_plough_8 : decode prog_1_method_8_code 8 = .ok (.invokestatic 70, 3) := by decide +kernel
theorem d_X_plough_11 : decode prog_1_method_8_code 11 = .ok (.ifCond .ne (11), 3) := by decide +kernel
theorem d_X_plough_14 : decode prog_1_method_8_code 14 = .ok (.iload_n 2, 1) := by decide +kernel
theorem d_X_plough_15 : decode prog_1_method_8_code 15 = .ok (.iconst 3, 1) := by decide +kernel
theorem d_X_plough_16 : decode prog_1_method_8_code 16 = .ok (.invokestatic 70, 3) := by decide +kernel
theorem d_X_plough_19 : decode prog_1_method_8_code 19 = .ok (.ifCond .eq (6), 3) := by decide +kernel
theorem d_X_plough_22 : decode prog_1_method_8_code 22 = .ok (.bipush (-2), 2) := by decide +kernel
theorem d_X_plough_24 : decode prog_1_method_8_code 24 = .ok (.ireturn, 1) := by decide +kernel
theorem d_X_plough_25 : decode prog_1_method_8_code 25 = .ok (.iload_n 2, 1) := by decide +kernel
theorem d_X_plough_26 : decode prog_1_method_8_code 26 = .ok (.ifCond .ne (13), 3) := by decide +kernel
theorem d_X_plough_29 : decode prog_1_method_8_code 29 = .ok (.aload_n 0, 1) := by decide +kernel
theorem d_X_plough_30 : decode prog_1_method_8_code 30 = .ok (.getfield 18, 3) := by decide +kernel
theorem d_X_plough_33 : decode prog_1_method_8_code 33 = .ok (.getfield 97, 3) := by decide +kernel
theorem d_X_plough_36 : decode prog_1_method_8_code 36 = .ok (.iload_n 1, 1) := by decide +kernel
theorem d_X_plough_37 : decode prog_1_method_8_code 37 = .ok (.iaload, 1) := by decide +kernel
theorem d_X_plough_38 : decode prog_1_method_8_code 38 = .ok (.ireturn, 1) := by decide +kernel
theorem d_X_plough_39 : decode prog_1_method_8_code 39 = .ok (.iload_n 2, 1) := by decide +kernel
theorem d_X_plough_40 : decode prog_1_method_8_code 40 = .ok (.iconst 1, 1) := by decide +kernel
theorem d_X_plough_41 : decode prog_1_method_8_code 41 = .ok (.if_icmp .ne (15), 3) := by decide +kernel
theorem d_X_plough_44 : decode prog_1_method_8_code 44 = .ok (.aload_n 0, 1) := by decide +kernel
theorem d_X_plough_45 : decode prog_1_method_8_code 45 = .ok (.getfield 18, 3) := by decide +kernel
theorem d_X_plough_48 : decode prog_1_method_8_code 48 = .ok (.getfield 100, 3) := by decide +kernel
theorem d_X_plough_51 : decode prog_1_method_8_code 51 = .ok (.iload_n 1, 1) := by decide +kernel
theorem d_X_plough_52 : decode prog_1_method_8_code 52 = .ok (.iaload, 1) := by decide +kernel
theorem d_X_plough_53 : decode prog_1_method_8_code 53 = .ok (.goto (12), 3) := by decide +kernel
theorem d_X_plough_56 : decode prog_1_method_8_code 56 = .ok (.aload_n 0, 1) := by decide +kernel
theorem d_X_plough_57 : decode prog_1_method_8_code 57 = .ok (.getfield 18, 3) := by decide +kernel
theorem d_X_plough_60 : decode prog_1_method_8_code 60 = .ok (.getfield 103, 3) := by decide +kernel
theorem d_X_plough_63 : decode prog_1_method_8_code 63 = .ok (.iload_n 1, 1) := by decide +kernel
theorem d_X_plough_64 : decode prog_1_method_8_code 64 = .ok (.iaload, 1) := by decide +kernel
theorem d_X_plough_65 : decode prog_1_method_8_code 65 = .ok (.ireturn, 1) := by decide +kernel
def wp_X_plough (a1 : Int32) (a2 : Int32) (M : Mem) (post : Int32 → Prop) : Prop :=
  ((((pf_X_outside a1 (M 10 2)) = 0) → ((((pf_X_outside a2 3) = 0) → (((a2 = 0) → vp_in a1 4 ∧ post (M 13 (tn a1))) ∧ (¬ (a2 = 0) → (((a2 = 1) → (vp_in a1 4)) ∧ (¬ (a2 = 1) → (vp_in a1 4))) ∧ (∀ u9 : Int32, u9 = (if a2 = 1 then (M 14 (tn a1)) else (M 15 (tn a1))) → post u9)))) ∧ (¬ ((pf_X_outside a2 3) = 0) → post (-2)))) ∧ (¬ ((pf_X_outside a1 (M 10 2)) = 0) → post (-2)))
set_option maxHeartbeats 4000000 in
set_option maxRecDepth 100000 in
theorem c_X_plough (g : GX) {a1 : Int32} {a2 : Int32} {M : Mem} {post : Int32 → Prop} (hw : wp_X_plough a1 a2 M post) : CtI (oX g) y_X_plough prog_1_method_8_code 3 (some .int) (rl 1) [.ref (ax g 0), .int a1, .int a2] M (fun r M2 => M = M2 ∧ post r) := by
  refine z_metI (oX_ok g) (by decide) rfl (fun X C hr => ?_)
  show Zj X 3 (oX g) M 0 [(0, .ref (ax g 0)), (1, .int a1), (2, .int a2)] []
  unfold wp_X_plough at hw
  refine z_iload_n C d_X_plough_0 rfl 1 rfl ?_
  refine z_aload_n C d_X_plough_1 rfl 0 rfl ?_
  refine gf_X_18 C d_X_plough_2 ?_
  refine gf_X_94 C d_X_plough_5 ?_
  refine z_callSi C (As := [.int a1, .int (M 10 2)]) (rest := []) m_X_outside tw_251 ⟨rfl, rfl⟩ (c_X_outside (oX_ok g) _ _ _) rfl rfl rfl d_X_plough_8 (fun r M2 hq => ?_)
  obtain ⟨rfl, rfl⟩ := hq
  refine z_if_ne C 22 d_X_plough_11 (by decide) (fun h2 => ?_) (fun h2 => ?_)
  · replace hw := hw.2 h2
    refine z_bipush (v := (-2)) C d_X_plough_22 (by decide) ?_
    exact z_iret C hr ⟨rfl, hw⟩ d_X_plough_24
  · replace hw := hw.1 h2
    refine z_iload_n C d_X_plough_14 rfl 2 rfl ?_
    refine z_iconst (v := 3) C d_X_plough_15 (by decide) ?_
    refine z_callSi C (As := [.int a2, .int 3]) (rest := []) m_X_outside tw_251 ⟨rfl, rfl⟩ (c_X_outside (oX_ok g) _ _ _) rfl rfl rfl d_X_plough_16 (fun r M2 hq => ?_)
    obtain ⟨rfl, rfl⟩ := hq
    refine z_if_eq C 25 d_X_plough_19 (by decide) (fun h4 => ?_) (fun h4 => ?_)
    · replace hw := hw.1 h4
      refine z_iload_n C d_X_plough_25 rfl 2 rfl ?_
      refine z_if_ne C 39 d_X_plough_26 (by decide) (fun h5 => ?_) (fun h5 => ?_)
      · replace hw := hw.2 h5
        refine z_iload_n C d_X_plough_39 rfl 2 rfl ?_
        refine z_iconst (v := 1) C d_X_plough_40 (by decide) ?_
        have hj10 : ∀ u9 : Int32, u9 = (if a2 = 1 then (M 14 (tn a1)) else (M 15 (tn a1))) → Zj X 3 (oX g) M 65 [] [.int u9] := by
          intro u9 hu9
          replace hw := hw.2 u9 hu9
          exact z_iret C hr ⟨rfl, hw⟩ d_X_plough_65
        have ha0 := hw.1
        refine z_ic_ne C 56 d_X_plough_41 (by decide) (fun h6 => ?_) (fun h6 => ?_)
        · have ha11 := ha0.2 h6
          refine z_aload_n C d_X_plough_56 rfl 0 rfl ?_
          refine gf_X_18 C d_X_plough_57 ?_
          refine gf_X_103 C d_X_plough_60 ?_
          refine z_iload_n C d_X_plough_63 rfl 1 rfl ?_
          have hv7 := ha11
          refine z_al (zar_x15) C hv7 d_X_plough_64 ?_
          refine z_sub [] rfl ?_
          exact hj10 _ ((if_neg h6)).symm
        · have ha12 := ha0.1 h6
          refine z_aload_n C d_X_plough_44 rfl 0 rfl ?_
          refine gf_X_18 C d_X_plough_45 ?_
          refine gf_X_100 C d_X_plough_48 ?_
          refine z_iload_n C d_X_plough_51 rfl 1 rfl ?_
          have hv8 := ha12
          refine z_al (zar_x14) C hv8 d_X_plough_52 ?_
          refine z_goto C 65 d_X_plough_53 (by decide) ?_
          refine z_sub [] rfl ?_
          exact hj10 _ ((if_pos h6)).symm
      · replace hw := hw.1 h5
        refine z_aload_n C d_X_plough_29 rfl 0 rfl ?_
        refine gf_X_18 C d_X_plough_30 ?_
        refine gf_X_97 C d_X_plough_33 ?_
        refine z_iload_n C d_X_plough_36 rfl 1 rfl ?_
        have hv13 := hw.1
        replace hw := hw.2
        refine z_al (zar_x13) C hv13 d_X_plough_37 ?_
        exact z_iret C hr ⟨rfl, hw⟩ d_X_plough_38
    · replace hw := hw.2 h4
      refine z_bipush (v := (-2)) C d_X_plough_22 (by decide) ?_
      exact z_iret C hr ⟨rfl, hw⟩ d_X_plough_24
theorem d_X_bus_0 : decode prog_1_method_9_code 0 = .ok (.iload_n 1, 1) := by decide +kernel
theorem d_X_bus_1 : decode prog_1_method_9_code 1 = .ok (.aload_n 0, 1) := by decide +kernel
theorem d_X_bus_2 : decode prog_1_method_9_code 2 = .ok (.getfield 18, 3) := by decide +kernel
theorem d_X_bus_5 : decode prog_1_method_9_code 5 = .ok (.getfield 106, 3) := by decide +kernel
theorem d_X_bus_8 : decode prog_1_method_9_code 8 = .ok (.invokestatic 70, 3) := by decide +kernel
theorem d_X_bus_11 : decode prog_1_method_9_code 11 = .ok (.ifCond .eq (8), 3) := by decide +kernel
theorem d_X_bus_14 : decode prog_1_method_9_code 14 = .ok (.bipush (-2), 2) := by decide +kernel
theorem d_X_bus_16 : decode prog_1_method_9_code 16 = .ok (.goto (12), 3) := by decide +kernel
theorem d_X_bus_19 : decode prog_1_method_9_code 19 = .ok (.aload_n 0, 1) := by decide +kernel
theorem d_X_bus_20 : decode prog_1_method_9_code 20 = .ok (.getfield 18, 3) := by decide +kernel
theorem d_X_bus_23 : decode prog_1_method_9_code 23 = .ok (.getfield 109, 3) := by decide +kernel
theorem d_X_bus_26 : decode prog_1_method_9_code 26 = .ok (.iload_n 1, 1) := by decide +kernel
theorem d_X_bus_27 : decode prog_1_method_9_code 27 = .ok (.iaload, 1) := by decide +kernel
theorem d_X_bus_28 : decode prog_1_method_9_code 28 = .ok (.ireturn, 1) := by decide +kernel
def wp_X_bus (a1 : Int32) (M : Mem) (post : Int32 → Prop) : Prop :=
  ((((pf_X_outside a1 (M 10 6)) = 0) → (vp_in a1 8)) ∧ (¬ ((pf_X_outside a1 (M 10 6)) = 0) → True)) ∧ (∀ u4 : Int32, u4 = (if (pf_X_outside a1 (M 10 6)) = 0 then (M 16 (tn a1)) else (-2)) → post u4)
set_option maxHeartbeats 4000000 in
set_option maxRecDepth 100000 in
theorem c_X_bus (g : GX) {a1 : Int32} {M : Mem} {post : Int32 → Prop} (hw : wp_X_bus a1 M post) : CtI (oX g) y_X_bus prog_1_method_9_code 2 (some .int) (rl 1) [.ref (ax g 0), .int a1] M (fun r M2 => M = M2 ∧ post r) := by
  refine z_metI (oX_ok g) (by decide) rfl (fun X C hr => ?_)
  show Zj X 2 (oX g) M 0 [(0, .ref (ax g 0)), (1, .int a1)] []
  unfold wp_X_bus at hw
  refine z_iload_n C d_X_bus_0 rfl 1 rfl ?_
  refine z_aload_n C d_X_bus_1 rfl 0 rfl ?_
  refine gf_X_18 C d_X_bus_2 ?_
  refine gf_X_106 C d_X_bus_5 ?_
  refine z_callSi C (As := [.int a1, .int (M 10 6)]) (rest := []) m_X_outside tw_251 ⟨rfl, rfl⟩ (c_X_outside (oX_ok g) _ _ _) rfl rfl rfl d_X_bus_8 (fun r M2 hq => ?_)
  obtain ⟨rfl, rfl⟩ := hq
  have hj5 : ∀ u4 : Int32, u4 = (if (pf_X_outside a1 (M 10 6)) = 0 then (M 16 (tn a1)) else (-2)) → Zj X 2 (oX g) M 28 [] [.int u4] := by
    intro u4 hu4
    replace hw := hw.2 u4 hu4
    exact z_iret C hr ⟨rfl, hw⟩ d_X_bus_28
  have ha0 := hw.1
  refine z_if_eq C 19 d_X_bus_11 (by decide) (fun h2 => ?_) (fun h2 => ?_)
  · have ha6 := ha0.1 h2
    refine z_aload_n C d_X_bus_19 rfl 0 rfl ?_
    refine gf_X_18 C d_X_bus_20 ?_
    refine gf_X_109 C d_X_bus_23 ?_
    refine z_iload_n C d_X_bus_26 rfl 1 rfl ?_
    have hv3 := ha6
    refine z_al (zar_x16) C hv3 d_X_bus_27 ?_
    refine z_sub [] rfl ?_
    exact hj5 _ ((if_pos h2)).symm
  · refine z_bipush (v := (-2)) C d_X_bus_14 (by decide) ?_
    refine z_goto C 28 d_X_bus_16 (by decide) ?_
    refine z_sub [] rfl ?_
    exact hj5 _ ((if_neg h2)).symm
theorem d_X_wind_0 : decode prog_1_method_10_code 0 = .ok (.iload_n 1, 1) := by decide +kernel
theorem d_X_wind_1 : decode prog_1_method_10_code 1 = .ok (.ifCond .lt (9), 3) := by decide +kernel
theorem d_X_wind_4 : decode prog_1_method_10_code 4 = .ok (.iload_n 1, 1) := by decide +kernel
theorem d_X_wind_5 : decode prog_1_method_10_code 5 = .ok (.bipush 9, 2) := by decide +kernel
theorem d_X_wind_7 : decode prog_1_method_10_code 7 = .ok (.if_icmp .le (6), 3) := by decide +kernel
theorem d_X_wind_10 : decode prog_1_method_10_code 10 = .ok (.bipush (-2), 2) := by decide +kernel
theorem d_X_wind_12 : decode prog_1_method_10_code 12 = .ok (.ireturn, 1) := by decide +kernel
theorem d_X_wind_13 : decode prog_1_method_10_code 13 = .ok (.aload_n 0, 1) := by decide +kernel
theorem d_X_wind_14 : decode prog_1_method_10_code 14 = .ok (.getfield 18, 3) := by decide +kernel
theorem d_X_wind_17 : decode prog_1_method_10_code 17 = .ok (.getfield 112, 3) := by decide +kernel
theorem d_X_wind_20 : decode prog_1_method_10_code 20 = .ok (.istore_n 2, 1) := by decide +kernel
theorem d_X_wind_21 : decode prog_1_method_10_code 21 = .ok (.aload_n 0, 1) := by decide +kernel
theorem d_X_wind_22 : decode prog_1_method_10_code 22 = .ok (.getfield 18, 3) := by decide +kernel
theorem d_X_wind_25 : decode prog_1_method_10_code 25 = .ok (.iload_n 1, 1) := by decide +kernel
theorem d_X_wind_26 : decode prog_1_method_10_code 26 = .ok (.putfield 112, 3) := by decide +kernel
theorem d_X_wind_29 : decode prog_1_method_10_code 29 = .ok (.aload_n 0, 1) := by decide +kernel
theorem d_X_wind_30 : decode prog_1_method_10_code 30 = .ok (.invokevirtual 115, 3) := by decide +kernel
theorem d_X_wind_33 : decode prog_1_method_10_code 33 = .ok (.iload_n 2, 1) := by decide +kernel
theorem d_X_wind_34 : decode prog_1_method_10_code 34 = .ok (.ireturn, 1) := by decide +kernel
def wp_X_wind (a1 : Int32) (M : Mem) (post : Int32 → Mem → Prop) : Prop :=
  (((a1 < 0) → post (-2) M) ∧ (¬ (a1 < 0) → (((a1 ≤ 9) → ∀ M3 : Mem, M3 = upm M 10 8 a1 → wp_X_changed M3 (fun M4 => post (M 10 8) M4)) ∧ (¬ (a1 ≤ 9) → post (-2) M))))
set_option maxHeartbeats 4000000 in
set_option maxRecDepth 100000 in
theorem c_X_wind (g : GX) {a1 : Int32} {M : Mem} {post : Int32 → Mem → Prop} (hw : wp_X_wind a1 M post) : CtI (oX g) y_X_wind prog_1_method_10_code 3 (some .int) (rl 1) [.ref (ax g 0), .int a1] M post := by
  refine z_metI (oX_ok g) (by decide) rfl (fun X C hr => ?_)
  show Zj X 3 (oX g) M 0 [(0, .ref (ax g 0)), (1, .int a1)] []
  unfold wp_X_wind at hw
  refine z_iload_n C d_X_wind_0 rfl 1 rfl ?_
  refine z_if_lt C 10 d_X_wind_1 (by decide) (fun h1 => ?_) (fun h1 => ?_)
  · replace hw := hw.1 h1
    refine z_bipush (v := (-2)) C d_X_wind_10 (by decide) ?_
    exact z_iret C hr hw d_X_wind_12
  · replace hw := hw.2 h1
    refine z_iload_n C d_X_wind_4 rfl 1 rfl ?_
    refine z_bipush (v := 9) C d_X_wind_5 (by decide) ?_
    refine z_ic_le C 13 d_X_wind_7 (by decide) (fun h2 => ?_) (fun h2 => ?_)
    · replace hw := hw.1 h2
      refine z_aload_n C d_X_wind_13 rfl 0 rfl ?_
      refine gf_X_18 C d_X_wind_14 ?_
      refine gf_X_112 C d_X_wind_17 ?_
      refine z_istore_n (lv' := [(2, .int (M 10 8)), (0, .ref (ax g 0)), (1, .int a1)]) C d_X_wind_20 rfl rfl rfl ?_
      refine z_aload_n C d_X_wind_21 rfl 1 rfl ?_
      refine gf_X_18 C d_X_wind_22 ?_
      refine z_iload_n C d_X_wind_25 rfl 2 rfl ?_
      refine pp_X_112 C d_X_wind_26 (fun M3 hM3 => ?_)
      replace hw := hw M3 hM3
      refine z_aload_n C d_X_wind_29 rfl 1 rfl ?_
      refine z_callVv C (As := []) (rest := []) m_X_changed tw_293 0 (le_X) rfl ⟨rfl, rfl⟩ (c_X_changed g hw) rfl rfl rfl d_X_wind_30 (fun M4 hw => ?_)
      refine z_iload_n C d_X_wind_33 rfl 0 rfl ?_
      exact z_iret C hr hw d_X_wind_34
    · replace hw := hw.2 h2
      refine z_bipush (v := (-2)) C d_X_wind_10 (by decide) ?_
      exact z_iret C hr hw d_X_wind_12
theorem d_X_back_0 : decode prog_1_method_12_code 0 = .ok (.aload_n 0, 1) := by decide +kernel
theorem d_X_back_1 : decode prog_1_method_12_code 1 = .ok (.getfield 18, 3) := by decide +kernel
theorem d_X_back_4 : decode prog_1_method_12_code 4 = .ok (.getfield 125, 3) := by decide +kernel
theorem d_X_back_7 : decode prog_1_method_12_code 7 = .ok (.ifCond .ne (6), 3) := by decide +kernel
theorem d_X_back_10 : decode prog_1_method_12_code 10 = .ok (.bipush (-3), 2) := by decide +kernel
theorem d_X_back_12 : decode prog_1_method_12_code 12 = .ok (.ireturn, 1) := by decide +kernel
theorem d_X_back_13 : decode prog_1_method_12_code 13 = .ok (.aload_n 0, 1) := by decide +kernel
theorem d_X_back_14 : decode prog_1_method_12_code 14 = .ok (.getfield 18, 3) := by decide +kernel
theorem d_X_back_17 : decode prog_1_method_12_code 17 = .ok (.dup, 1) := by decide +kernel
theorem d_X_back_18 : decode prog_1_method_12_code 18 = .ok (.getfield 125, 3) := by decide +kernel
theorem d_X_back_21 : decode prog_1_method_12_code 21 = .ok (.iconst 1, 1) := by decide +kernel
theorem d_X_back_22 : decode prog_1_method_12_code 22 = .ok (.isub, 1) := by decide +kernel
theorem d_X_back_23 : decode prog_1_method_12_code 23 = .ok (.putfield 125, 3) := by decide +kernel
theorem d_X_back_26 : decode prog_1_method_12_code 26 = .ok (.aload_n 0, 1) := by decide +kernel
theorem d_X_back_27 : decode prog_1_method_12_code 27 = .ok (.invokevirtual 115, 3) := by decide +kernel
theorem d_X_back_30 : decode prog_1_method_12_code 30 = .ok (.aload_n 0, 1) := by decide +kernel
theorem d_X_back_31 : decode prog_1_method_12_code 31 = .ok (.getfield 18, 3) := by decide +kernel
theorem d_X_back_34 : decode prog_1_method_12_code 34 = .ok (.getfield 125, 3) := by decide +kernel
theorem d_X_back_37 : decode prog_1_method_12_code 37 = .ok (.ireturn, 1) := by decide +kernel
def wp_X_back (M : Mem) (post : Int32 → Mem → Prop) : Prop :=
  ((((M 10 9) = 0) → post (-3) M) ∧ (¬ ((M 10 9) = 0) → ∀ M2 : Mem, M2 = upm M 10 9 ((M 10 9) - 1) → wp_X_changed M2 (fun M3 => post (M3 10 9) M3)))
set_option maxHeartbeats 4000000 in
set_option maxRecDepth 100000 in
theorem c_X_back (g : GX) {M : Mem} {post : Int32 → Mem → Prop} (hw : wp_X_back M post) : CtI (oX g) y_X_back prog_1_method_12_code 1 (some .int) (rl 1) [.ref (ax g 0)] M post := by
  refine z_metI (oX_ok g) (by decide) rfl (fun X C hr => ?_)
  show Zj X 1 (oX g) M 0 [(0, .ref (ax g 0))] []
  unfold wp_X_back at hw
  refine z_aload_n C d_X_back_0 rfl 0 rfl ?_
  refine gf_X_18 C d_X_back_1 ?_
  refine gf_X_125 C d_X_back_4 ?_
  refine z_if_ne C 13 d_X_back_7 (by decide) (fun h1 => ?_) (fun h1 => ?_)
  · replace hw := hw.2 h1
    refine z_aload_n C d_X_back_13 rfl 0 rfl ?_
    refine gf_X_18 C d_X_back_14 ?_
    refine z_dup C d_X_back_17 rfl ?_
    refine gf_X_125 C d_X_back_18 ?_
    refine z_iconst (v := 1) C d_X_back_21 (by decide) ?_
    refine z_isub C d_X_back_22 ?_
    refine pp_X_125 C d_X_back_23 (fun M2 hM2 => ?_)
    replace hw := hw M2 hM2
    refine z_aload_n C d_X_back_26 rfl 0 rfl ?_
    refine z_callVv C (As := []) (rest := []) m_X_changed tw_293 0 (le_X) rfl ⟨rfl, rfl⟩ (c_X_changed g hw) rfl rfl rfl d_X_back_27 (fun M3 hw => ?_)
    refine z_aload_n C d_X_back_30 rfl 0 rfl ?_
    refine gf_X_18 C d_X_back_31 ?_
    refine gf_X_125 C d_X_back_34 ?_
    exact z_iret C hr hw d_X_back_37
  · replace hw := hw.1 h1
    refine z_bipush (v := (-3)) C d_X_back_10 (by decide) ?_
    exact z_iret C hr hw d_X_back_12
theorem d_X_seen_0 : decode prog_1_method_27_code 0 = .ok (.iload_n 1, 1) := by decide +kernel
theorem d_X_seen_1 : decode prog_1_method_27_code 1 = .ok (.bipush 24, 2) := by decide +kernel
theorem d_X_seen_3 : decode prog_1_method_27_code 3 = .ok (.invokestatic 70, 3) := by decide +kernel
theorem d_X_seen_6 : decode prog_1_method_27_code 6 = .ok (.ifCond .ne (22), 3) := by decide +kernel
theorem d_X_seen_9 : decode prog_1_method_27_code 9 = .ok (.iload_n 2, 1) := by decide +kernel
theorem d_X_seen_10 : decode prog_1_method_27_code 10 = .ok (.bipush 12, 2) := by decide +kernel
theorem d_X_seen_12 : decode prog_1_method_27_code 12 = .ok (.invokestatic 70, 3) := by decide +kernel
theorem d_X_seen_15 : decode prog_1_method_27_code 15 = .ok (.ifCond .ne (13), 3) := by decide +kernel
theorem d_X_seen_18 : decode prog_1_method_27_code 18 = .ok (.iload_n 3, 1) := by decide +kernel
theorem d_X_seen_19 : decode prog_1_method_27_code 19 = .ok (.ifCond .lt (9), 3) := by decide +kernel
theorem d_X_seen_22 : decode prog_1_method_27_code 22 = .ok (.iload_n 3, 1) := by decide +kernel
theorem d_X_seen_23 : decode prog_1_method_27_code 23 = .ok (.bipush 99, 2) := by decide +kernel
theorem d_X_seen_25 : decode prog_1_method_27_code 25 = .ok (.if_icmp .le (6), 3) := by decide +kernel
theorem d_X_seen_28 : decode prog_1_method_27_code 28 = .ok (.bipush (-2), 2) := by decide +kernel
theorem d_X_seen_30 : decode prog_1_method_27_code 30 = .ok (.ireturn, 1) := by decide +kernel
theorem d_X_seen_31 : decode prog_1_method_27_code 31 = .ok (.aload_n 0, 1) := by decide +kernel
theorem d_X_seen_32 : decode prog_1_method_27_code 32 = .ok (.getfield 25, 3) := by decide +kernel
theorem d_X_seen_35 : decode prog_1_method_27_code 35 = .ok (.iload_n 1, 1) := by decide +kernel
theorem d_X_seen_36 : decode prog_1_method_27_code 36 = .ok (.iload_n 2, 1) := by decide +kernel
theorem d_X_seen_37 : decode prog_1_method_27_code 37 = .ok (.iload_n 3, 1) := by decide +kernel
theorem d_X_seen_38 : decode prog_1_method_27_code 38 = .ok (.invokevirtual 214, 3) := by decide +kernel
theorem d_X_seen_41 : decode prog_1_method_27_code 41 = .ok (.ifCond .eq (13), 3) := by decide +kernel
theorem d_X_seen_44 : decode prog_1_method_27_code 44 = .ok (.aload_n 0, 1) := by decide +kernel
theorem d_X_seen_45 : decode prog_1_method_27_code 45 = .ok (.getfield 25, 3) := by decide +kernel
theorem d_X_seen_48 : decode prog_1_method_27_code 48 = .ok (.getfield 217, 3) := by decide +kernel
theorem d_X_seen_51 : decode prog_1_method_27_code 51 = .ok (.goto (5), 3) := by decide +kernel
theorem d_X_seen_54 : decode prog_1_method_27_code 54 = .ok (.bipush (-4), 2) := by decide +kernel
theorem d_X_seen_56 : decode prog_1_method_27_code 56 = .ok (.ireturn, 1) := by decide +kernel
def wp_X_seen (a1 : Int32) (a2 : Int32) (a3 : Int32) (M : Mem) (post : Int32 → Mem → Prop) : Prop :=
  ((((pf_X_outside a1 24) = 0) → ((((pf_X_outside a2 12) = 0) → (((a3 < 0) → post (-2) M) ∧ (¬ (a3 < 0) → (((a3 ≤ 99) → wp_XG_add a1 a2 a3 M (fun r8 M7 => ∀ u10 : Int32, u10 = (if r8 = 0 then (-4) else (M7 20 2)) → post u10 M7)) ∧ (¬ (a3 ≤ 99) → post (-2) M))))) ∧ (¬ ((pf_X_outside a2 12) = 0) → post (-2) M))) ∧ (¬ ((pf_X_outside a1 24) = 0) → post (-2) M))
set_option maxHeartbeats 4000000 in
set_option maxRecDepth 100000 in
theorem c_X_seen (g : GX) {a1 : Int32} {a2 : Int32} {a3 : Int32} {M : Mem} {post : Int32 → Mem → Prop} (hw : wp_X_seen a1 a2 a3 M post) : CtI (oX g) y_X_seen prog_1_method_27_code 4 (some .int) (rl 1) [.ref (ax g 0), .int a1, .int a2, .int a3] M post := by
  refine z_metI (oX_ok g) (by decide) rfl (fun X C hr => ?_)
  show Zj X 4 (oX g) M 0 [(0, .ref (ax g 0)), (1, .int a1), (2, .int a2), (3, .int a3)] []
  unfold wp_X_seen at hw
  refine z_iload_n C d_X_seen_0 rfl 1 rfl ?_
  refine z_bipush (v := 24) C d_X_seen_1 (by decide) ?_
  refine z_callSi C (As := [.int a1, .int 24]) (rest := []) m_X_outside tw_251 ⟨rfl, rfl⟩ (c_X_outside (oX_ok g) _ _ _) rfl rfl rfl d_X_seen_3 (fun r M2 hq => ?_)
  obtain ⟨rfl, rfl⟩ := hq
  refine z_if_ne C 28 d_X_seen_6 (by decide) (fun h2 => ?_) (fun h2 => ?_)
  · replace hw := hw.2 h2
    refine z_bipush (v := (-2)) C d_X_seen_28 (by decide) ?_
    exact z_iret C hr hw d_X_seen_30
  · replace hw := hw.1 h2
    refine z_iload_n C d_X_seen_9 rfl 2 rfl ?_
    refine z_bipush (v := 12) C d_X_seen_10 (by decide) ?_
    refine z_callSi C (As := [.int a2, .int 12]) (rest := []) m_X_outside tw_251 ⟨rfl, rfl⟩ (c_X_outside (oX_ok g) _ _ _) rfl rfl rfl d_X_seen_12 (fun r M2 hq => ?_)
    obtain ⟨rfl, rfl⟩ := hq
    refine z_if_ne C 28 d_X_seen_15 (by decide) (fun h4 => ?_) (fun h4 => ?_)
    · replace hw := hw.2 h4
      refine z_bipush (v := (-2)) C d_X_seen_28 (by decide) ?_
      exact z_iret C hr hw d_X_seen_30
    · replace hw := hw.1 h4
      refine z_iload_n C d_X_seen_18 rfl 3 rfl ?_
      refine z_if_lt C 28 d_X_seen_19 (by decide) (fun h5 => ?_) (fun h5 => ?_)
      · replace hw := hw.1 h5
        refine z_bipush (v := (-2)) C d_X_seen_28 (by decide) ?_
        exact z_iret C hr hw d_X_seen_30
      · replace hw := hw.2 h5
        refine z_iload_n C d_X_seen_22 rfl 3 rfl ?_
        refine z_bipush (v := 99) C d_X_seen_23 (by decide) ?_
        refine z_ic_le C 31 d_X_seen_25 (by decide) (fun h6 => ?_) (fun h6 => ?_)
        · replace hw := hw.1 h6
          refine z_aload_n C d_X_seen_31 rfl 0 rfl ?_
          refine gf_X_25 C d_X_seen_32 ?_
          refine z_iload_n C d_X_seen_35 rfl 1 rfl ?_
          refine z_iload_n C d_X_seen_36 rfl 2 rfl ?_
          refine z_iload_n C d_X_seen_37 rfl 3 rfl ?_
          refine z_callVi C (As := [.int a1, .int a2, .int a3]) (rest := []) m_XG_add tw_503 20 (le_XG) rfl ⟨rfl, rfl⟩ (c_XG_add g hw) rfl rfl rfl d_X_seen_38 (fun r8 M7 hw => ?_)
          have hj11 : ∀ u10 : Int32, u10 = (if r8 = 0 then (-4) else (M7 20 2)) → Zj X 4 (oX g) M7 56 [] [.int u10] := by
            intro u10 hu10
            replace hw := hw u10 hu10
            exact z_iret C hr hw d_X_seen_56
          refine z_if_eq C 54 d_X_seen_41 (by decide) (fun h9 => ?_) (fun h9 => ?_)
          · refine z_bipush (v := (-4)) C d_X_seen_54 (by decide) ?_
            refine z_sub [] rfl ?_
            exact hj11 _ ((if_pos h9)).symm
          · refine z_aload_n C d_X_seen_44 rfl 0 rfl ?_
            refine gf_X_25 C d_X_seen_45 ?_
            refine gf_X_217 C d_X_seen_48 ?_
            refine z_goto C 56 d_X_seen_51 (by decide) ?_
            refine z_sub [] rfl ?_
            exact hj11 _ ((if_neg h9)).symm
        · replace hw := hw.2 h6
          refine z_bipush (v := (-2)) C d_X_seen_28 (by decide) ?_
          exact z_iret C hr hw d_X_seen_30
theorem d_X_lose_0 : decode prog_1_method_36_code 0 = .ok (.iload_n 1, 1) := by decide +kernel
theorem d_X_lose_1 : decode prog_1_method_36_code 1 = .ok (.iconst 4, 1) := by decide +kernel
theorem d_X_lose_2 : decode prog_1_method_36_code 2 = .ok (.invokestatic 70, 3) := by decide +kernel
theorem d_X_lose_5 : decode prog_1_method_36_code 5 = .ok (.ifCond .eq (6), 3) := by decide +kernel
theorem d_X_lose_8 : decode prog_1_method_36_code 8 = .ok (.bipush (-2), 2) := by decide +kernel
theorem d_X_lose_10 : decode prog_1_method_36_code 10 = .ok (.ireturn, 1) := by decide +kernel
theorem d_X_lose_11 : decode prog_1_method_36_code 11 = .ok (.aload_n 0, 1) := by decide +kernel
theorem d_X_lose_12 : decode prog_1_method_36_code 12 = .ok (.getfield 31, 3) := by decide +kernel
theorem d_X_lose_15 : decode prog_1_method_36_code 15 = .ok (.iload_n 1, 1) := by decide +kernel
theorem d_X_lose_16 : decode prog_1_method_36_code 16 = .ok (.aaload, 1) := by decide +kernel
theorem d_X_lose_17 : decode prog_1_method_36_code 17 = .ok (.getfield 128, 3) := by decide +kernel
theorem d_X_lose_20 : decode prog_1_method_36_code 20 = .ok (.iconst (-1), 1) := by decide +kernel
theorem d_X_lose_21 : decode prog_1_method_36_code 21 = .ok (.if_icmp .ne (9), 3) := by decide +kernel
theorem d_X_lose_24 : decode prog_1_method_36_code 24 = .ok (.aload_n 0, 1) := by decide +kernel
theorem d_X_lose_25 : decode prog_1_method_36_code 25 = .ok (.iconst 1, 1) := by decide +kernel
theorem d_X_lose_26 : decode prog_1_method_36_code 26 = .ok (.invokevirtual 131, 3) := by decide +kernel
theorem d_X_lose_29 : decode prog_1_method_36_code 29 = .ok (.ireturn, 1) := by decide +kernel
theorem d_X_lose_30 : decode prog_1_method_36_code 30 = .ok (.aload_n 0, 1) := by decide +kernel
theorem d_X_lose_31 : decode prog_1_method_36_code 31 = .ok (.getfield 31, 3) := by decide +kernel
theorem d_X_lose_34 : decode prog_1_method_36_code 34 = .ok (.iload_n 1, 1) := by decide +kernel
theorem d_X_lose_35 : decode prog_1_method_36_code 35 = .ok (.aaload, 1) := by decide +kernel
theorem d_X_lose_36 : decode prog_1_method_36_code 36 = .ok (.iconst (-1), 1) := by decide +kernel
theorem d_X_lose_37 : decode prog_1_method_36_code 37 = .ok (.putfield 128, 3) := by decide +kernel
theorem d_X_lose_40 : decode prog_1_method_36_code 40 = .ok (.aload_n 0, 1) := by decide +kernel
theorem d_X_lose_41 : decode prog_1_method_36_code 41 = .ok (.getfield 31, 3) := by decide +kernel
theorem d_X_lose_44 : decode prog_1_method_36_code 44 = .ok (.iload_n 1, 1) := by decide +kernel
theorem d_X_lose_45 : decode prog_1_method_36_code 45 = .ok (.aaload, 1) := by decide +kernel
theorem d_X_lose_46 : decode prog_1_method_36_code 46 = .ok (.getfield 135, 3) := by decide +kernel
theorem d_X_lose_49 : decode prog_1_method_36_code 49 = .ok (.ireturn, 1) := by decide +kernel
def wp_X_lose (a1 : Int32) (M : Mem) (post : Int32 → Mem → Prop) : Prop :=
  ((((pf_X_outside a1 4) = 0) → vp_in a1 4 ∧ ((((M (24 + 2 * (tn a1)) 1) = (-1)) → wp_X_found 1 M (fun r10 M9 => post r10 M9)) ∧ (¬ ((M (24 + 2 * (tn a1)) 1) = (-1)) → ∀ M7 : Mem, M7 = upm M (24 + 2 * (tn a1)) 1 (-1) → post (M7 (24 + 2 * (tn a1)) 2) M7))) ∧ (¬ ((pf_X_outside a1 4) = 0) → post (-2) M))
set_option maxHeartbeats 4000000 in
set_option maxRecDepth 100000 in
theorem c_X_lose (g : GX) {a1 : Int32} {M : Mem} {post : Int32 → Mem → Prop} (hw : wp_X_lose a1 M post) : CtI (oX g) y_X_lose prog_1_method_36_code 2 (some .int) (rl 1) [.ref (ax g 0), .int a1] M post := by
  refine z_metI (oX_ok g) (by decide) rfl (fun X C hr => ?_)
  show Zj X 2 (oX g) M 0 [(0, .ref (ax g 0)), (1, .int a1)] []
  unfold wp_X_lose at hw
  refine z_iload_n C d_X_lose_0 rfl 1 rfl ?_
  refine z_iconst (v := 4) C d_X_lose_1 (by decide) ?_
  refine z_callSi C (As := [.int a1, .int 4]) (rest := []) m_X_outside tw_251 ⟨rfl, rfl⟩ (c_X_outside (oX_ok g) _ _ _) rfl rfl rfl d_X_lose_2 (fun r M2 hq => ?_)
  obtain ⟨rfl, rfl⟩ := hq
  refine z_if_eq C 11 d_X_lose_5 (by decide) (fun h2 => ?_) (fun h2 => ?_)
  · replace hw := hw.1 h2
    refine z_aload_n C d_X_lose_11 rfl 0 rfl ?_
    refine gf_X_31 C d_X_lose_12 ?_
    refine z_iload_n C d_X_lose_15 rfl 1 rfl ?_
    have hv4 := hw.1
    replace hw := hw.2
    have ht3 := vp_lt hv4
    refine z_aaldSheet C hv4 d_X_lose_16 ?_
    refine gf_X_128 ht3 C d_X_lose_17 ?_
    refine z_iconst (v := (-1)) C d_X_lose_20 (by decide) ?_
    refine z_ic_ne C 30 d_X_lose_21 (by decide) (fun h5 => ?_) (fun h5 => ?_)
    · replace hw := hw.2 h5
      refine z_aload_n C d_X_lose_30 rfl 0 rfl ?_
      refine gf_X_31 C d_X_lose_31 ?_
      refine z_iload_n C d_X_lose_34 rfl 1 rfl ?_
      have ht6 := vp_lt hv4
      refine z_aaldSheet C hv4 d_X_lose_35 ?_
      refine z_iconst (v := (-1)) C d_X_lose_36 (by decide) ?_
      refine pp_X_128 ht6 C d_X_lose_37 (fun M7 hM7 => ?_)
      replace hw := hw M7 hM7
      refine z_aload_n C d_X_lose_40 rfl 0 rfl ?_
      refine gf_X_31 C d_X_lose_41 ?_
      refine z_iload_n C d_X_lose_44 rfl 1 rfl ?_
      have ht8 := vp_lt hv4
      refine z_aaldSheet C hv4 d_X_lose_45 ?_
      refine gf_X_135 ht8 C d_X_lose_46 ?_
      exact z_iret C hr hw d_X_lose_49
    · replace hw := hw.1 h5
      refine z_aload_n C d_X_lose_24 rfl 0 rfl ?_
      refine z_iconst (v := 1) C d_X_lose_25 (by decide) ?_
      refine z_callVi C (As := [.int 1]) (rest := []) m_X_found tw_349 0 (le_X) rfl ⟨rfl, rfl⟩ (c_X_found g hw) rfl rfl rfl d_X_lose_26 (fun r10 M9 hw => ?_)
      exact z_iret C hr hw d_X_lose_29
  · replace hw := hw.2 h2
    refine z_bipush (v := (-2)) C d_X_lose_8 (by decide) ?_
    exact z_iret C hr hw d_X_lose_10
