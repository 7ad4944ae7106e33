theorem d_X_strengths_0 : decode prog_1_method_30_code 0 = .ok (.iload_n 1, 1) := by decide +kernel
theorem d_X_strengths_1 : decode prog_1_method_30_code 1 = .ok (.aload_n 0, 1) := by decide +kernel
theorem d_X_strengths_2 : decode prog_1_method_30_code 2 = .ok (.getfield 18, 3) := by decide +kernel
theorem d_X_strengths_5 : decode prog_1_method_30_code 5 = .ok (.getfield 94, 3) := by decide +kernel
theorem d_X_strengths_8 : decode prog_1_method_30_code 8 = .ok (.invokestatic 70, 3) := by decide +kernel
theorem d_X_strengths_11 : decode prog_1_method_30_code 11 = .ok (.ifCond .eq (6), 3) := by decide +kernel
theorem d_X_strengths_14 : decode prog_1_method_30_code 14 = .ok (.bipush (-2), 2) := by decide +kernel
theorem d_X_strengths_16 : decode prog_1_method_30_code 16 = .ok (.ireturn, 1) := by decide +kernel
theorem d_X_strengths_17 : decode prog_1_method_30_code 17 = .ok (.iconst 0, 1) := by decide +kernel
theorem d_X_strengths_18 : decode prog_1_method_30_code 18 = .ok (.istore_n 2, 1) := by decide +kernel
theorem d_X_strengths_19 : decode prog_1_method_30_code 19 = .ok (.iconst 1, 1) := by decide +kernel
theorem d_X_strengths_20 : decode prog_1_method_30_code 20 = .ok (.istore_n 3, 1) := by decide +kernel
theorem d_X_strengths_21 : decode prog_1_method_30_code 21 = .ok (.iload_n 3, 1) := by decide +kernel
theorem d_X_strengths_22 : decode prog_1_method_30_code 22 = .ok (.bipush 9, 2) := by decide +kernel
theorem d_X_strengths_24 : decode prog_1_method_30_code 24 = .ok (.if_icmp .gt (35), 3) := by decide +kernel
theorem d_X_strengths_27 : decode prog_1_method_30_code 27 = .ok (.aload_n 0, 1) := by decide +kernel
theorem d_X_strengths_28 : decode prog_1_method_30_code 28 = .ok (.iload_n 1, 1) := by decide +kernel
theorem d_X_strengths_29 : decode prog_1_method_30_code 29 = .ok (.iload_n 3, 1) := by decide +kernel
theorem d_X_strengths_30 : decode prog_1_method_30_code 30 = .ok (.invokevirtual 222, 3) := by decide +kernel
theorem d_X_strengths_33 : decode prog_1_method_30_code 33 = .ok (.aload_n 0, 1) := by decide +kernel
theorem d_X_strengths_34 : decode prog_1_method_30_code 34 = .ok (.getfield 25, 3) := by decide +kernel
theorem d_X_strengths_37 : decode prog_1_method_30_code 37 = .ok (.aload_n 0, 1) := by decide +kernel
theorem d_X_strengths_38 : decode prog_1_method_30_code 38 = .ok (.getfield 46, 3) := by decide +kernel
theorem d_X_strengths_41 : decode prog_1_method_30_code 41 = .ok (.invokevirtual 218, 3) := by decide +kernel
theorem d_X_strengths_44 : decode prog_1_method_30_code 44 = .ok (.ifCond .eq (9), 3) := by decide +kernel
theorem d_X_strengths_47 : decode prog_1_method_30_code 47 = .ok (.iload_n 2, 1) := by decide +kernel
theorem d_X_strengths_48 : decode prog_1_method_30_code 48 = .ok (.iconst 1, 1) := by decide +kernel
theorem d_X_strengths_49 : decode prog_1_method_30_code 49 = .ok (.iload_n 3, 1) := by decide +kernel
theorem d_X_strengths_50 : decode prog_1_method_30_code 50 = .ok (.ishl, 1) := by decide +kernel
theorem d_X_strengths_51 : decode prog_1_method_30_code 51 = .ok (.ior, 1) := by decide +kernel
theorem d_X_strengths_52 : decode prog_1_method_30_code 52 = .ok (.istore_n 2, 1) := by decide +kernel
theorem d_X_strengths_53 : decode prog_1_method_30_code 53 = .ok (.iinc 3 1, 3) := by decide +kernel
theorem d_X_strengths_56 : decode prog_1_method_30_code 56 = .ok (.goto (-35), 3) := by decide +kernel
theorem d_X_strengths_59 : decode prog_1_method_30_code 59 = .ok (.iload_n 2, 1) := by decide +kernel
theorem d_X_strengths_60 : decode prog_1_method_30_code 60 = .ok (.ireturn, 1) := by decide +kernel
def wp_X_strengths (a1 : Int32) (M : Mem) (post : Int32 → Mem → Prop) : Prop :=
  ((((pf_X_outside a1 (M 10 2)) = 0) → (it3 (fun rec3 (i5 : Int32) (i6 : Int32) (M7 : Mem) => (((9 < i6) → post i5 M7) ∧ (¬ (9 < i6) → wp_X_tryStrength a1 i6 M7 (fun M9 => wp_XG_fit 44 M9 (fun r11 => ∀ u13 : Int32, u13 = (if r11 = 0 then i5 else (i5 ||| ((1 : Int32) <<< (i6 &&& 31)))) → rec3 u13 (i6 + 1) M9))))) 4096 0 1 M)) ∧ (¬ ((pf_X_outside a1 (M 10 2)) = 0) → post (-2) M))
set_option maxHeartbeats 4000000 in
set_option maxRecDepth 100000 in
theorem c_X_strengths (g : GX) {a1 : Int32} {M : Mem} {post : Int32 → Mem → Prop} (hw : wp_X_strengths a1 M post) : CtI (oX g) y_X_strengths prog_1_method_30_code 4 (some .int) (rl 4) [.ref (ax g 0), .int a1] M post := by
  refine z_metI (oX_ok g) (by decide) rfl (fun X C hr => ?_)
  show Zj X 4 (oX g) M 0 [(0, .ref (ax g 0)), (1, .int a1)] []
  unfold wp_X_strengths at hw
  refine z_iload_n C d_X_strengths_0 rfl 1 rfl ?_
  refine z_aload_n C d_X_strengths_1 rfl 0 rfl ?_
  refine gf_X_18 C d_X_strengths_2 ?_
  refine gf_X_94 C d_X_strengths_5 ?_
  refine z_callSi C (As := [.int a1, .int (M 10 2)]) (rest := []) m_X_outside tw_251 ⟨rfl, rfl⟩ (c_X_outside (oX_ok g) _ _ _) rfl rfl rfl d_X_strengths_8 (fun r M2 hq => ?_)
  obtain ⟨rfl, rfl⟩ := hq
  refine z_if_eq C 17 d_X_strengths_11 (by decide) (fun h2 => ?_) (fun h2 => ?_)
  · replace hw := hw.1 h2
    refine z_iconst (v := 0) C d_X_strengths_17 (by decide) ?_
    refine z_istore_n (lv' := [(2, .int 0), (0, .ref (ax g 0)), (1, .int a1)]) C d_X_strengths_18 rfl rfl rfl ?_
    refine z_iconst (v := 1) C d_X_strengths_19 (by decide) ?_
    refine z_istore_n (lv' := [(3, .int 1), (2, .int 0), (0, .ref (ax g 0)), (1, .int a1)]) C d_X_strengths_20 rfl rfl rfl ?_
    refine z_sub [2, 3, 1, 0] rfl ?_
    refine it3_Z (Z := fun (i5 : Int32) (i6 : Int32) (M7 : Mem) => Zj X 4 (oX g) M7 21 [(0, .ref (ax g 0)), (1, .int a1), (2, .int i5), (3, .int i6)] []) (fun rec3 ih4 i5 i6 M7 hw => ?_) _ _ _ _ hw
    refine z_iload_n C d_X_strengths_21 rfl 3 rfl ?_
    refine z_bipush (v := 9) C d_X_strengths_22 (by decide) ?_
    refine z_ic_gt C 59 d_X_strengths_24 (by decide) (fun h8 => ?_) (fun h8 => ?_)
    · replace hw := hw.1 h8
      refine z_iload_n C d_X_strengths_59 rfl 2 rfl ?_
      exact z_iret C hr hw d_X_strengths_60
    · replace hw := hw.2 h8
      refine z_aload_n C d_X_strengths_27 rfl 0 rfl ?_
      refine z_iload_n C d_X_strengths_28 rfl 1 rfl ?_
      refine z_iload_n C d_X_strengths_29 rfl 3 rfl ?_
      refine z_callVv C (As := [.int a1, .int i6]) (rest := []) m_X_tryStrength tw_523 0 (le_X) rfl ⟨rfl, rfl⟩ (c_X_tryStrength g hw) rfl rfl rfl d_X_strengths_30 (fun M9 hw => ?_)
      refine z_aload_n C d_X_strengths_33 rfl 0 rfl ?_
      refine gf_X_25 C d_X_strengths_34 ?_
      refine z_aload_n C d_X_strengths_37 rfl 0 rfl ?_
      refine gf_X_46 C d_X_strengths_38 ?_
      refine z_callVi C (As := [.ref (ax g 44)]) (rest := []) m_XG_fit tw_515 20 (le_XG) rfl ⟨rfl, rfl⟩ (c_XG_fit g (Or.inr rfl) hw) rfl rfl rfl d_X_strengths_41 (fun r11 M2 hq => ?_)
      obtain ⟨rfl, hw⟩ := hq
      have hj14 : ∀ u13 : Int32, u13 = (if r11 = 0 then i5 else (i5 ||| ((1 : Int32) <<< (i6 &&& 31)))) → Zj X 4 (oX g) M9 53 [(0, .ref (ax g 0)), (1, .int a1), (2, .int u13), (3, .int i6)] [] := by
        intro u13 hu13
        replace hw := hw u13 hu13
        refine z_iinc (v := (i6 + 1)) (lv' := [(3, .int (i6 + 1)), (0, .ref (ax g 0)), (1, .int a1), (2, .int u13)]) C d_X_strengths_53 3 rfl rfl rfl rfl ?_
        refine z_goto C 21 d_X_strengths_56 (by decide) ?_
        refine z_sub [1, 2, 3, 0] rfl ?_
        exact ih4 _ _ _ hw
      refine z_if_eq C 53 d_X_strengths_44 (by decide) (fun h12 => ?_) (fun h12 => ?_)
      · refine z_sub [0, 1, 2, 3] rfl ?_
        exact hj14 _ ((if_pos h12)).symm
      · refine z_iload_n C d_X_strengths_47 rfl 2 rfl ?_
        refine z_iconst (v := 1) C d_X_strengths_48 (by decide) ?_
        refine z_iload_n C d_X_strengths_49 rfl 3 rfl ?_
        refine z_ishl C d_X_strengths_50 ?_
        refine z_ior C d_X_strengths_51 ?_
        refine z_istore_n (lv' := [(2, .int (i5 ||| ((1 : Int32) <<< (i6 &&& 31)))), (0, .ref (ax g 0)), (1, .int a1), (3, .int i6)]) C d_X_strengths_52 rfl rfl rfl ?_
        refine z_sub [1, 2, 0, 3] rfl ?_
        exact hj14 _ ((if_neg h12)).symm
  · replace hw := hw.2 h2
    refine z_bipush (v := (-2)) C d_X_strengths_14 (by decide) ?_
    exact z_iret C hr hw d_X_strengths_16
theorem d_X_lie_0 : decode prog_1_method_31_code 0 = .ok (.iload_n 1, 1) := by decide +kernel
theorem d_X_lie_1 : decode prog_1_method_31_code 1 = .ok (.bipush 12, 2) := by decide +kernel
theorem d_X_lie_3 : decode prog_1_method_31_code 3 = .ok (.invokestatic 70, 3) := by decide +kernel
theorem d_X_lie_6 : decode prog_1_method_31_code 6 = .ok (.ifCond .eq (6), 3) := by decide +kernel
theorem d_X_lie_9 : decode prog_1_method_31_code 9 = .ok (.bipush (-2), 2) := by decide +kernel
theorem d_X_lie_11 : decode prog_1_method_31_code 11 = .ok (.ireturn, 1) := by decide +kernel
theorem d_X_lie_12 : decode prog_1_method_31_code 12 = .ok (.iconst 0, 1) := by decide +kernel
theorem d_X_lie_13 : decode prog_1_method_31_code 13 = .ok (.istore_n 2, 1) := by decide +kernel
theorem d_X_lie_14 : decode prog_1_method_31_code 14 = .ok (.iconst 0, 1) := by decide +kernel
theorem d_X_lie_15 : decode prog_1_method_31_code 15 = .ok (.istore_n 3, 1) := by decide +kernel
theorem d_X_lie_16 : decode prog_1_method_31_code 16 = .ok (.iload_n 3, 1) := by decide +kernel
theorem d_X_lie_17 : decode prog_1_method_31_code 17 = .ok (.iconst 3, 1) := by decide +kernel
theorem d_X_lie_18 : decode prog_1_method_31_code 18 = .ok (.if_icmp .ge (35), 3) := by decide +kernel
theorem d_X_lie_21 : decode prog_1_method_31_code 21 = .ok (.aload_n 0, 1) := by decide +kernel
theorem d_X_lie_22 : decode prog_1_method_31_code 22 = .ok (.iload_n 1, 1) := by decide +kernel
theorem d_X_lie_23 : decode prog_1_method_31_code 23 = .ok (.iload_n 3, 1) := by decide +kernel
theorem d_X_lie_24 : decode prog_1_method_31_code 24 = .ok (.invokevirtual 200, 3) := by decide +kernel
theorem d_X_lie_27 : decode prog_1_method_31_code 27 = .ok (.aload_n 0, 1) := by decide +kernel
theorem d_X_lie_28 : decode prog_1_method_31_code 28 = .ok (.getfield 25, 3) := by decide +kernel
theorem d_X_lie_31 : decode prog_1_method_31_code 31 = .ok (.aload_n 0, 1) := by decide +kernel
theorem d_X_lie_32 : decode prog_1_method_31_code 32 = .ok (.getfield 46, 3) := by decide +kernel
theorem d_X_lie_35 : decode prog_1_method_31_code 35 = .ok (.invokevirtual 218, 3) := by decide +kernel
theorem d_X_lie_38 : decode prog_1_method_31_code 38 = .ok (.ifCond .eq (9), 3) := by decide +kernel
theorem d_X_lie_41 : decode prog_1_method_31_code 41 = .ok (.iload_n 2, 1) := by decide +kernel
theorem d_X_lie_42 : decode prog_1_method_31_code 42 = .ok (.iconst 1, 1) := by decide +kernel
theorem d_X_lie_43 : decode prog_1_method_31_code 43 = .ok (.iload_n 3, 1) := by decide +kernel
theorem d_X_lie_44 : decode prog_1_method_31_code 44 = .ok (.ishl, 1) := by decide +kernel
theorem d_X_lie_45 : decode prog_1_method_31_code 45 = .ok (.ior, 1) := by decide +kernel
theorem d_X_lie_46 : decode prog_1_method_31_code 46 = .ok (.istore_n 2, 1) := by decide +kernel
theorem d_X_lie_47 : decode prog_1_method_31_code 47 = .ok (.iinc 3 1, 3) := by decide +kernel
theorem d_X_lie_50 : decode prog_1_method_31_code 50 = .ok (.goto (-34), 3) := by decide +kernel
theorem d_X_lie_53 : decode prog_1_method_31_code 53 = .ok (.iload_n 2, 1) := by decide +kernel
theorem d_X_lie_54 : decode prog_1_method_31_code 54 = .ok (.ireturn, 1) := by decide +kernel
def wp_X_lie (a1 : Int32) (M : Mem) (post : Int32 → Mem → Prop) : Prop :=
  ((((pf_X_outside a1 12) = 0) → (it3 (fun rec3 (i5 : Int32) (i6 : Int32) (M7 : Mem) => (((3 ≤ i6) → post i5 M7) ∧ (¬ (3 ≤ i6) → wp_X_tryLand a1 i6 M7 (fun M9 => wp_XG_fit 44 M9 (fun r11 => ∀ u13 : Int32, u13 = (if r11 = 0 then i5 else (i5 ||| ((1 : Int32) <<< (i6 &&& 31)))) → rec3 u13 (i6 + 1) M9))))) 4096 0 0 M)) ∧ (¬ ((pf_X_outside a1 12) = 0) → post (-2) M))
set_option maxHeartbeats 4000000 in
set_option maxRecDepth 100000 in
theorem c_X_lie (g : GX) {a1 : Int32} {M : Mem} {post : Int32 → Mem → Prop} (hw : wp_X_lie a1 M post) : CtI (oX g) y_X_lie prog_1_method_31_code 4 (some .int) (rl 4) [.ref (ax g 0), .int a1] M post := by
  refine z_metI (oX_ok g) (by decide) rfl (fun X C hr => ?_)
  show Zj X 4 (oX g) M 0 [(0, .ref (ax g 0)), (1, .int a1)] []
  unfold wp_X_lie at hw
  refine z_iload_n C d_X_lie_0 rfl 1 rfl ?_
  refine z_bipush (v := 12) C d_X_lie_1 (by decide) ?_
  refine z_callSi C (As := [.int a1, .int 12]) (rest := []) m_X_outside tw_251 ⟨rfl, rfl⟩ (c_X_outside (oX_ok g) _ _ _) rfl rfl rfl d_X_lie_3 (fun r M2 hq => ?_)
  obtain ⟨rfl, rfl⟩ := hq
  refine z_if_eq C 12 d_X_lie_6 (by decide) (fun h2 => ?_) (fun h2 => ?_)
  · replace hw := hw.1 h2
    refine z_iconst (v := 0) C d_X_lie_12 (by decide) ?_
    refine z_istore_n (lv' := [(2, .int 0), (0, .ref (ax g 0)), (1, .int a1)]) C d_X_lie_13 rfl rfl rfl ?_
    refine z_iconst (v := 0) C d_X_lie_14 (by decide) ?_
    refine z_istore_n (lv' := [(3, .int 0), (2, .int 0), (0, .ref (ax g 0)), (1, .int a1)]) C d_X_lie_15 rfl rfl rfl ?_
    refine z_sub [2, 3, 1, 0] rfl ?_
    refine it3_Z (Z := fun (i5 : Int32) (i6 : Int32) (M7 : Mem) => Zj X 4 (oX g) M7 16 [(0, .ref (ax g 0)), (1, .int a1), (2, .int i5), (3, .int i6)] []) (fun rec3 ih4 i5 i6 M7 hw => ?_) _ _ _ _ hw
    refine z_iload_n C d_X_lie_16 rfl 3 rfl ?_
    refine z_iconst (v := 3) C d_X_lie_17 (by decide) ?_
    refine z_ic_ge C 53 d_X_lie_18 (by decide) (fun h8 => ?_) (fun h8 => ?_)
    · replace hw := hw.1 h8
      refine z_iload_n C d_X_lie_53 rfl 2 rfl ?_
      exact z_iret C hr hw d_X_lie_54
    · replace hw := hw.2 h8
      refine z_aload_n C d_X_lie_21 rfl 0 rfl ?_
      refine z_iload_n C d_X_lie_22 rfl 1 rfl ?_
      refine z_iload_n C d_X_lie_23 rfl 3 rfl ?_
      refine z_callVv C (As := [.int a1, .int i6]) (rest := []) m_X_tryLand tw_469 0 (le_X) rfl ⟨rfl, rfl⟩ (c_X_tryLand g hw) rfl rfl rfl d_X_lie_24 (fun M9 hw => ?_)
      refine z_aload_n C d_X_lie_27 rfl 0 rfl ?_
      refine gf_X_25 C d_X_lie_28 ?_
      refine z_aload_n C d_X_lie_31 rfl 0 rfl ?_
      refine gf_X_46 C d_X_lie_32 ?_
      refine z_callVi C (As := [.ref (ax g 44)]) (rest := []) m_XG_fit tw_515 20 (le_XG) rfl ⟨rfl, rfl⟩ (c_XG_fit g (Or.inr rfl) hw) rfl rfl rfl d_X_lie_35 (fun r11 M2 hq => ?_)
      obtain ⟨rfl, hw⟩ := hq
      have hj14 : ∀ u13 : Int32, u13 = (if r11 = 0 then i5 else (i5 ||| ((1 : Int32) <<< (i6 &&& 31)))) → Zj X 4 (oX g) M9 47 [(0, .ref (ax g 0)), (1, .int a1), (2, .int u13), (3, .int i6)] [] := by
        intro u13 hu13
        replace hw := hw u13 hu13
        refine z_iinc (v := (i6 + 1)) (lv' := [(3, .int (i6 + 1)), (0, .ref (ax g 0)), (1, .int a1), (2, .int u13)]) C d_X_lie_47 3 rfl rfl rfl rfl ?_
        refine z_goto C 16 d_X_lie_50 (by decide) ?_
        refine z_sub [1, 2, 3, 0] rfl ?_
        exact ih4 _ _ _ hw
      refine z_if_eq C 47 d_X_lie_38 (by decide) (fun h12 => ?_) (fun h12 => ?_)
      · refine z_sub [0, 1, 2, 3] rfl ?_
        exact hj14 _ ((if_pos h12)).symm
      · refine z_iload_n C d_X_lie_41 rfl 2 rfl ?_
        refine z_iconst (v := 1) C d_X_lie_42 (by decide) ?_
        refine z_iload_n C d_X_lie_43 rfl 3 rfl ?_
        refine z_ishl C d_X_lie_44 ?_
        refine z_ior C d_X_lie_45 ?_
        refine z_istore_n (lv' := [(2, .int (i5 ||| ((1 : Int32) <<< (i6 &&& 31)))), (0, .ref (ax g 0)), (1, .int a1), (3, .int i6)]) C d_X_lie_46 rfl rfl rfl ?_
        refine z_sub [1, 2, 0, 3] rfl ?_
        exact hj14 _ ((if_neg h12)).symm
  · replace hw := hw.2 h2
    refine z_bipush (v := (-2)) C d_X_lie_9 (by decide) ?_
    exact z_iret C hr hw d_X_lie_11
theorem d_X_ask_0 : decode prog_1_method_32_code 0 = .ok (.iload_n 1, 1) := by decide +kernel
theorem d_X_ask_1 : decode prog_1_method_32_code 1 = .ok (.aload_n 0, 1) := by decide +kernel
theorem d_X_ask_2 : decode prog_1_method_32_code 2 = .ok (.getfield 18, 3) := by decide +kernel
theorem d_X_ask_5 : decode prog_1_method_32_code 5 = .ok (.getfield 94, 3) := by decide +kernel
theorem d_X_ask_8 : decode prog_1_method_32_code 8 = .ok (.invokestatic 70, 3) := by decide +kernel
theorem d_X_ask_11 : decode prog_1_method_32_code 11 = .ok (.ifCond .eq (6), 3) := by decide +kernel
theorem d_X_ask_14 : decode prog_1_method_32_code 14 = .ok (.bipush (-2), 2) := by decide +kernel
theorem d_X_ask_16 : decode prog_1_method_32_code 16 = .ok (.ireturn, 1) := by decide +kernel
theorem d_X_ask_17 : decode prog_1_method_32_code 17 = .ok (.iconst 0, 1) := by decide +kernel
theorem d_X_ask_18 : decode prog_1_method_32_code 18 = .ok (.istore_n 2, 1) := by decide +kernel
theorem d_X_ask_19 : decode prog_1_method_32_code 19 = .ok (.iconst 1, 1) := by decide +kernel
theorem d_X_ask_20 : decode prog_1_method_32_code 20 = .ok (.istore_n 3, 1) := by decide +kernel
theorem d_X_ask_21 : decode prog_1_method_32_code 21 = .ok (.iload_n 3, 1) := by decide +kernel
theorem d_X_ask_22 : decode prog_1_method_32_code 22 = .ok (.bipush 9, 2) := by decide +kernel
theorem d_X_ask_24 : decode prog_1_method_32_code 24 = .ok (.if_icmp .gt (57), 3) := by decide +kernel
theorem d_X_ask_27 : decode prog_1_method_32_code 27 = .ok (.aload_n 0, 1) := by decide +kernel
theorem d_X_ask_28 : decode prog_1_method_32_code 28 = .ok (.iload_n 1, 1) := by decide +kernel
theorem d_X_ask_29 : decode prog_1_method_32_code 29 = .ok (.iload_n 3, 1) := by decide +kernel
theorem d_X_ask_30 : decode prog_1_method_32_code 30 = .ok (.invokevirtual 222, 3) := by decide +kernel
theorem d_X_ask_33 : decode prog_1_method_32_code 33 = .ok (.aload_n 0, 1) := by decide +kernel
theorem d_X_ask_34 : decode prog_1_method_32_code 34 = .ok (.getfield 25, 3) := by decide +kernel
theorem d_X_ask_37 : decode prog_1_method_32_code 37 = .ok (.aload_n 0, 1) := by decide +kernel
theorem d_X_ask_38 : decode prog_1_method_32_code 38 = .ok (.getfield 46, 3) := by decide +kernel
theorem d_X_ask_41 : decode prog_1_method_32_code 41 = .ok (.invokevirtual 218, 3) := by decide +kernel
theorem d_X_ask_44 : decode prog_1_method_32_code 44 = .ok (.ifCond .eq (31), 3) := by decide +kernel
theorem d_X_ask_47 : decode prog_1_method_32_code 47 = .ok (.aload_n 0, 1) := by decide +kernel
theorem d_X_ask_48 : decode prog_1_method_32_code 48 = .ok (.getfield 46, 3) := by decide +kernel
theorem d_X_ask_51 : decode prog_1_method_32_code 51 = .ok (.getfield 149, 3) := by decide +kernel
theorem d_X_ask_54 : decode prog_1_method_32_code 54 = .ok (.iconst 0, 1) := by decide +kernel
theorem d_X_ask_55 : decode prog_1_method_32_code 55 = .ok (.aload_n 0, 1) := by decide +kernel
theorem d_X_ask_56 : decode prog_1_method_32_code 56 = .ok (.getfield 63, 3) := by decide +kernel
theorem d_X_ask_59 : decode prog_1_method_32_code 59 = .ok (.iload_n 2, 1) := by decide +kernel
theorem d_X_ask_60 : decode prog_1_method_32_code 60 = .ok (.bipush 24, 2) := by decide +kernel
theorem d_X_ask_62 : decode prog_1_method_32_code 62 = .ok (.imul, 1) := by decide +kernel
theorem d_X_ask_63 : decode prog_1_method_32_code 63 = .ok (.bipush 12, 2) := by decide +kernel
theorem d_X_ask_65 : decode prog_1_method_32_code 65 = .ok (.imul, 1) := by decide +kernel
theorem d_X_ask_66 : decode prog_1_method_32_code 66 = .ok (.sipush 288, 3) := by decide +kernel
theorem d_X_ask_69 : decode prog_1_method_32_code 69 = .ok (.invokestatic 225, 3) := by decide +kernel
theorem d_X_ask_72 : decode prog_1_method_32_code 72 = .ok (.iinc 2 1, 3) := by decide +kernel
theorem d_X_ask_75 : decode prog_1_method_32_code 75 = .ok (.iinc 3 1, 3) := by decide +kernel
theorem d_X_ask_78 : decode prog_1_method_32_code 78 = .ok (.goto (-57), 3) := by decide +kernel
theorem d_X_ask_81 : decode prog_1_method_32_code 81 = .ok (.iconst 0, 1) := by decide +kernel
theorem d_X_ask_82 : decode prog_1_method_32_code 82 = .ok (.istore_n 3, 1) := by decide +kernel
theorem d_X_ask_83 : decode prog_1_method_32_code 83 = .ok (.iconst (-1), 1) := by decide +kernel
theorem d_X_ask_84 : decode prog_1_method_32_code 84 = .ok (.istore 4, 2) := by decide +kernel
theorem d_X_ask_86 : decode prog_1_method_32_code 86 = .ok (.iconst 0, 1) := by decide +kernel
theorem d_X_ask_87 : decode prog_1_method_32_code 87 = .ok (.istore 5, 2) := by decide +kernel
theorem d_X_ask_89 : decode prog_1_method_32_code 89 = .ok (.iload 5, 2) := by decide +kernel
theorem d_X_ask_91 : decode prog_1_method_32_code 91 = .ok (.bipush 24, 2) := by decide +kernel
theorem d_X_ask_93 : decode prog_1_method_32_code 93 = .ok (.if_icmp .ge (38), 3) := by decide +kernel
theorem d_X_ask_96 : decode prog_1_method_32_code 96 = .ok (.aload_n 0, 1) := by decide +kernel
theorem d_X_ask_97 : decode prog_1_method_32_code 97 = .ok (.iload 5, 2) := by decide +kernel
theorem d_X_ask_99 : decode prog_1_method_32_code 99 = .ok (.iload_n 2, 1) := by decide +kernel
theorem d_X_ask_100 : decode prog_1_method_32_code 100 = .ok (.invokevirtual 231, 3) := by decide +kernel
theorem d_X_ask_103 : decode prog_1_method_32_code 103 = .ok (.istore 6, 2) := by decide +kernel
theorem d_X_ask_105 : decode prog_1_method_32_code 105 = .ok (.iload 4, 2) := by decide +kernel
theorem d_X_ask_107 : decode prog_1_method_32_code 107 = .ok (.iconst (-1), 1) := by decide +kernel
theorem d_X_ask_108 : decode prog_1_method_32_code 108 = .ok (.if_icmp .eq (10), 3) := by decide +kernel
theorem d_X_ask_111 : decode prog_1_method_32_code 111 = .ok (.iload 6, 2) := by decide +kernel
theorem d_X_ask_113 : decode prog_1_method_32_code 113 = .ok (.iload 4, 2) := by decide +kernel
theorem d_X_ask_115 : decode prog_1_method_32_code 115 = .ok (.if_icmp .ge (10), 3) := by decide +kernel
theorem d_X_ask_118 : decode prog_1_method_32_code 118 = .ok (.iload 6, 2) := by decide +kernel
theorem d_X_ask_120 : decode prog_1_method_32_code 120 = .ok (.istore 4, 2) := by decide +kernel
theorem d_X_ask_122 : decode prog_1_method_32_code 122 = .ok (.iload 5, 2) := by decide +kernel
theorem d_X_ask_124 : decode prog_1_method_32_code 124 = .ok (.istore_n 3, 1) := by decide +kernel
theorem d_X_ask_125 : decode prog_1_method_32_code 125 = .ok (.iinc 5 1, 3) := by decide +kernel
theorem d_X_ask_128 : decode prog_1_method_32_code 128 = .ok (.goto (-39), 3) := by decide +kernel
theorem d_X_ask_131 : decode prog_1_method_32_code 131 = .ok (.iload_n 3, 1) := by decide +kernel
theorem d_X_ask_132 : decode prog_1_method_32_code 132 = .ok (.ireturn, 1) := by decide +kernel
def wp_X_ask (a1 : Int32) (M : Mem) (post : Int32 → Mem → Prop) : Prop :=
  ((((pf_X_outside a1 (M 10 2)) = 0) → (it3 (fun rec3 (i5 : Int32) (i6 : Int32) (M7 : Mem) => (((9 < i6) → (it3 (fun rec9 (i11 : Int32) (i12 : Int32) (i13 : Int32) => (((24 ≤ i13) → post i11 M7) ∧ (¬ (24 ≤ i13) → wp_X_mostAlike i13 i5 M7 (fun r15 => ∀ u18 : Int32, u18 = (if i12 = (-1) then i13 else (if i12 ≤ r15 then i11 else i13)) → ∀ u19 : Int32, u19 = (if i12 = (-1) then r15 else (if i12 ≤ r15 then i12 else r15)) → rec9 u18 u19 (i13 + 1))))) 4096 0 (-1) 0)) ∧ (¬ (9 < i6) → wp_X_tryStrength a1 i6 M7 (fun M21 => wp_XG_fit 44 M21 (fun r23 => (((r23 = 0) → rec3 i5 (i6 + 1) M21) ∧ (¬ (r23 = 0) → (¬ (0 : Int32) < 0 ∧ ¬ (((i5 * 24) * 12) : Int32) < 0 ∧ ¬ (288 : Int32) < 0 ∧ tn 0 + tn 288 ≤ 288 ∧ tn ((i5 * 24) * 12) + tn 288 ≤ 2592) ∧ ∀ M25 : Mem, M25 = upr M21 58 (va_cpy (M21 (44 + 1)) (M21 58) (tn 0) (tn ((i5 * 24) * 12)) (tn 288)) → rec3 (i5 + 1) (i6 + 1) M25))))))) 4096 0 1 M)) ∧ (¬ ((pf_X_outside a1 (M 10 2)) = 0) → post (-2) M))
set_option maxHeartbeats 4000000 in
set_option maxRecDepth 100000 in
theorem c_X_ask (g : GX) {a1 : Int32} {M : Mem} {post : Int32 → Mem → Prop} (hw : wp_X_ask a1 M post) : CtI (oX g) y_X_ask prog_1_method_32_code 7 (some .int) (rl 4) [.ref (ax g 0), .int a1] M post := by
  refine z_metI (oX_ok g) (by decide) rfl (fun X C hr => ?_)
  show Zj X 7 (oX g) M 0 [(0, .ref (ax g 0)), (1, .int a1)] []
  unfold wp_X_ask at hw
  refine z_iload_n C d_X_ask_0 rfl 1 rfl ?_
  refine z_aload_n C d_X_ask_1 rfl 0 rfl ?_
  refine gf_X_18 C d_X_ask_2 ?_
  refine gf_X_94 C d_X_ask_5 ?_
  refine z_callSi C (As := [.int a1, .int (M 10 2)]) (rest := []) m_X_outside tw_251 ⟨rfl, rfl⟩ (c_X_outside (oX_ok g) _ _ _) rfl rfl rfl d_X_ask_8 (fun r M2 hq => ?_)
  obtain ⟨rfl, rfl⟩ := hq
  refine z_if_eq C 17 d_X_ask_11 (by decide) (fun h2 => ?_) (fun h2 => ?_)
  · replace hw := hw.1 h2
    refine z_iconst (v := 0) C d_X_ask_17 (by decide) ?_
    refine z_istore_n (lv' := [(2, .int 0), (0, .ref (ax g 0)), (1, .int a1)]) C d_X_ask_18 rfl rfl rfl ?_
    refine z_iconst (v := 1) C d_X_ask_19 (by decide) ?_
    refine z_istore_n (lv' := [(3, .int 1), (2, .int 0), (0, .ref (ax g 0)), (1, .int a1)]) C d_X_ask_20 rfl rfl rfl ?_
    refine z_sub [2, 3, 1, 0] rfl ?_
    refine it3_Z (Z := fun (i5 : Int32) (i6 : Int32) (M7 : Mem) => Zj X 7 (oX g) M7 21 [(0, .ref (ax g 0)), (1, .int a1), (2, .int i5), (3, .int i6)] []) (fun rec3 ih4 i5 i6 M7 hw => ?_) _ _ _ _ hw
    refine z_iload_n C d_X_ask_21 rfl 3 rfl ?_
    refine z_bipush (v := 9) C d_X_ask_22 (by decide) ?_
    refine z_ic_gt C 81 d_X_ask_24 (by decide) (fun h8 => ?_) (fun h8 => ?_)
    · replace hw := hw.1 h8
      refine z_iconst (v := 0) C d_X_ask_81 (by decide) ?_
      refine z_istore_n (lv' := [(3, .int 0), (0, .ref (ax g 0)), (1, .int a1), (2, .int i5)]) C d_X_ask_82 rfl rfl rfl ?_
      refine z_iconst (v := (-1)) C d_X_ask_83 (by decide) ?_
      refine z_istore (lv' := [(4, .int (-1)), (3, .int 0), (0, .ref (ax g 0)), (1, .int a1), (2, .int i5)]) C d_X_ask_84 rfl rfl ?_
      refine z_iconst (v := 0) C d_X_ask_86 (by decide) ?_
      refine z_istore (lv' := [(5, .int 0), (4, .int (-1)), (3, .int 0), (0, .ref (ax g 0)), (1, .int a1), (2, .int i5)]) C d_X_ask_87 rfl rfl ?_
      refine z_sub [3, 5, 2, 1, 0] rfl ?_
      refine it3_Z (Z := fun (i11 : Int32) (i12 : Int32) (i13 : Int32) => Zj X 7 (oX g) M7 89 [(0, .ref (ax g 0)), (2, .int i5), (3, .int i11), (4, .int i12), (5, .int i13)] []) (fun rec9 ih10 i11 i12 i13 hw => ?_) _ _ _ _ hw
      refine z_iload C d_X_ask_89 4 rfl ?_
      refine z_bipush (v := 24) C d_X_ask_91 (by decide) ?_
      refine z_ic_ge C 131 d_X_ask_93 (by decide) (fun h14 => ?_) (fun h14 => ?_)
      · replace hw := hw.1 h14
        refine z_iload_n C d_X_ask_131 rfl 2 rfl ?_
        exact z_iret C hr hw d_X_ask_132
      · replace hw := hw.2 h14
        refine z_aload_n C d_X_ask_96 rfl 0 rfl ?_
        refine z_iload C d_X_ask_97 4 rfl ?_
        refine z_iload_n C d_X_ask_99 rfl 1 rfl ?_
        refine z_callVi C (As := [.int i13, .int i5]) (rest := []) m_X_mostAlike tw_536 0 (le_X) rfl ⟨rfl, rfl⟩ (c_X_mostAlike g hw) rfl rfl rfl d_X_ask_100 (fun r15 M2 hq => ?_)
        obtain ⟨rfl, hw⟩ := hq
        refine z_istore (lv' := [(6, .int r15), (0, .ref (ax g 0)), (2, .int i5), (3, .int i11), (4, .int i12), (5, .int i13)]) C d_X_ask_103 rfl rfl ?_
        refine z_iload C d_X_ask_105 4 rfl ?_
        refine z_iconst (v := (-1)) C d_X_ask_107 (by decide) ?_
        have hj20 : ∀ u18 : Int32, u18 = (if i12 = (-1) then i13 else (if i12 ≤ r15 then i11 else i13)) → ∀ u19 : Int32, u19 = (if i12 = (-1) then r15 else (if i12 ≤ r15 then i12 else r15)) → Zj X 7 (oX g) M7 125 [(0, .ref (ax g 0)), (2, .int i5), (3, .int u18), (4, .int u19), (5, .int i13)] [] := by
          intro u18 hu18
          intro u19 hu19
          replace hw := hw u18 hu18 u19 hu19
          refine z_iinc (v := (i13 + 1)) (lv' := [(5, .int (i13 + 1)), (0, .ref (ax g 0)), (2, .int i5), (3, .int u18), (4, .int u19)]) C d_X_ask_125 4 rfl rfl rfl rfl ?_
          refine z_goto C 89 d_X_ask_128 (by decide) ?_
          refine z_sub [1, 2, 3, 4, 0] rfl ?_
          exact ih10 _ _ _ hw
        refine z_ic_eq C 118 d_X_ask_108 (by decide) (fun h16 => ?_) (fun h16 => ?_)
        · refine z_iload C d_X_ask_118 0 rfl ?_
          refine z_istore (lv' := [(4, .int r15), (6, .int r15), (0, .ref (ax g 0)), (2, .int i5), (3, .int i11), (5, .int i13)]) C d_X_ask_120 rfl rfl ?_
          refine z_iload C d_X_ask_122 5 rfl ?_
          refine z_istore_n (lv' := [(3, .int i13), (4, .int r15), (6, .int r15), (0, .ref (ax g 0)), (2, .int i5), (5, .int i13)]) C d_X_ask_124 rfl rfl rfl ?_
          refine z_sub [3, 4, 0, 1, 5] rfl ?_
          exact hj20 _ ((if_pos h16)).symm _ ((if_pos h16)).symm
        · refine z_iload C d_X_ask_111 0 rfl ?_
          refine z_iload C d_X_ask_113 4 rfl ?_
          refine z_ic_ge C 125 d_X_ask_115 (by decide) (fun h17 => ?_) (fun h17 => ?_)
          · refine z_sub [1, 2, 3, 4, 5] rfl ?_
            exact hj20 _ (((if_neg h16).trans (if_pos h17))).symm _ (((if_neg h16).trans (if_pos h17))).symm
          · refine z_iload C d_X_ask_118 0 rfl ?_
            refine z_istore (lv' := [(4, .int r15), (6, .int r15), (0, .ref (ax g 0)), (2, .int i5), (3, .int i11), (5, .int i13)]) C d_X_ask_120 rfl rfl ?_
            refine z_iload C d_X_ask_122 5 rfl ?_
            refine z_istore_n (lv' := [(3, .int i13), (4, .int r15), (6, .int r15), (0, .ref (ax g 0)), (2, .int i5), (5, .int i13)]) C d_X_ask_124 rfl rfl rfl ?_
            refine z_sub [3, 4, 0, 1, 5] rfl ?_
            exact hj20 _ (((if_neg h16).trans (if_neg h17))).symm _ (((if_neg h16).trans (if_neg h17))).symm
    · replace hw := hw.2 h8
      refine z_aload_n C d_X_ask_27 rfl 0 rfl ?_
      refine z_iload_n C d_X_ask_28 rfl 1 rfl ?_
      refine z_iload_n C d_X_ask_29 rfl 3 rfl ?_
      refine z_callVv C (As := [.int a1, .int i6]) (rest := []) m_X_tryStrength tw_523 0 (le_X) rfl ⟨rfl, rfl⟩ (c_X_tryStrength g hw) rfl rfl rfl d_X_ask_30 (fun M21 hw => ?_)
      refine z_aload_n C d_X_ask_33 rfl 0 rfl ?_
      refine gf_X_25 C d_X_ask_34 ?_
      refine z_aload_n C d_X_ask_37 rfl 0 rfl ?_
      refine gf_X_46 C d_X_ask_38 ?_
      refine z_callVi C (As := [.ref (ax g 44)]) (rest := []) m_XG_fit tw_515 20 (le_XG) rfl ⟨rfl, rfl⟩ (c_XG_fit g (Or.inr rfl) hw) rfl rfl rfl d_X_ask_41 (fun r23 M2 hq => ?_)
      obtain ⟨rfl, hw⟩ := hq
      refine z_if_eq C 75 d_X_ask_44 (by decide) (fun h24 => ?_) (fun h24 => ?_)
      · replace hw := hw.1 h24
        refine z_iinc (v := (i6 + 1)) (lv' := [(3, .int (i6 + 1)), (0, .ref (ax g 0)), (1, .int a1), (2, .int i5)]) C d_X_ask_75 3 rfl rfl rfl rfl ?_
        refine z_goto C 21 d_X_ask_78 (by decide) ?_
        refine z_sub [1, 2, 3, 0] rfl ?_
        exact ih4 _ _ _ hw
      · replace hw := hw.2 h24
        refine z_aload_n C d_X_ask_47 rfl 0 rfl ?_
        refine gf_X_46 C d_X_ask_48 ?_
        refine gf_X_149 (Or.inr rfl) C d_X_ask_51 ?_
        refine z_iconst (v := 0) C d_X_ask_54 (by decide) ?_
        refine z_aload_n C d_X_ask_55 rfl 0 rfl ?_
        refine gf_X_63 C d_X_ask_56 ?_
        refine z_iload_n C d_X_ask_59 rfl 2 rfl ?_
        refine z_bipush (v := 24) C d_X_ask_60 (by decide) ?_
        refine z_imul C d_X_ask_62 ?_
        refine z_bipush (v := 12) C d_X_ask_63 (by decide) ?_
        refine z_imul C d_X_ask_65 ?_
        refine z_sipush (v := 288) C d_X_ask_66 (by decide) ?_
        refine z_acopy C tw_535 (zar_xW1 (Or.inr rfl)) (zar_x58) hw.1 (by decide) (by decide) d_X_ask_69 (fun M25 hM25 => ?_)
        replace hw := hw.2 M25 hM25
        refine z_iinc (v := (i5 + 1)) (lv' := [(2, .int (i5 + 1)), (0, .ref (ax g 0)), (1, .int a1), (3, .int i6)]) C d_X_ask_72 2 rfl rfl rfl rfl ?_
        refine z_iinc (v := (i6 + 1)) (lv' := [(3, .int (i6 + 1)), (2, .int (i5 + 1)), (0, .ref (ax g 0)), (1, .int a1)]) C d_X_ask_75 3 rfl rfl rfl rfl ?_
        refine z_goto C 21 d_X_ask_78 (by decide) ?_
        refine z_sub [2, 3, 1, 0] rfl ?_
        exact ih4 _ _ _ hw
  · replace hw := hw.2 h2
    refine z_bipush (v := (-2)) C d_X_ask_14 (by decide) ?_
    exact z_iret C hr hw d_X_ask_16
theorem d_X_chance_0 : decode prog_1_method_33_code 0 = .ok (.iload_n 1, 1) := by decide +kernel
theorem d_X_chance_1 : decode prog_1_method_33_code 1 = .ok (.ifCond .lt (31), 3) := by decide +kernel
theorem d_X_chance_4 : decode prog_1_method_33_code 4 = .ok (.iload_n 1, 1) := by decide +kernel
theorem d_X_chance_5 : decode prog_1_method_33_code 5 = .ok (.bipush 16, 2) := by decide +kernel
theorem d_X_chance_7 : decode prog_1_method_33_code 7 = .ok (.if_icmp .gt (25), 3) := by decide +kernel
theorem d_X_chance_10 : decode prog_1_method_33_code 10 = .ok (.iload_n 2, 1) := by decide +kernel
theorem d_X_chance_11 : decode prog_1_method_33_code 11 = .ok (.aload_n 0, 1) := by decide +kernel
theorem d_X_chance_12 : decode prog_1_method_33_code 12 = .ok (.getfield 18, 3) := by decide +kernel
theorem d_X_chance_15 : decode prog_1_method_33_code 15 = .ok (.getfield 106, 3) := by decide +kernel
theorem d_X_chance_18 : decode prog_1_method_33_code 18 = .ok (.invokestatic 70, 3) := by decide +kernel
theorem d_X_chance_21 : decode prog_1_method_33_code 21 = .ok (.ifCond .ne (11), 3) := by decide +kernel
theorem d_X_chance_24 : decode prog_1_method_33_code 24 = .ok (.iload_n 3, 1) := by decide +kernel
theorem d_X_chance_25 : decode prog_1_method_33_code 25 = .ok (.iconst 2, 1) := by decide +kernel
theorem d_X_chance_26 : decode prog_1_method_33_code 26 = .ok (.invokestatic 70, 3) := by decide +kernel
theorem d_X_chance_29 : decode prog_1_method_33_code 29 = .ok (.ifCond .eq (7), 3) := by decide +kernel
theorem d_X_chance_32 : decode prog_1_method_33_code 32 = .ok (.ldc2_w 235, 3) := by decide +kernel
theorem d_X_chance_35 : decode prog_1_method_33_code 35 = .ok (.lreturn, 1) := by decide +kernel
theorem d_X_chance_36 : decode prog_1_method_33_code 36 = .ok (.aload_n 0, 1) := by decide +kernel
theorem d_X_chance_37 : decode prog_1_method_33_code 37 = .ok (.invokevirtual 237, 3) := by decide +kernel
theorem d_X_chance_40 : decode prog_1_method_33_code 40 = .ok (.lconst 0, 1) := by decide +kernel
theorem d_X_chance_41 : decode prog_1_method_33_code 41 = .ok (.lstore 4, 2) := by decide +kernel
theorem d_X_chance_43 : decode prog_1_method_33_code 43 = .ok (.iconst 0, 1) := by decide +kernel
theorem d_X_chance_44 : decode prog_1_method_33_code 44 = .ok (.istore 6, 2) := by decide +kernel
theorem d_X_chance_46 : decode prog_1_method_33_code 46 = .ok (.iload 6, 2) := by decide +kernel
theorem d_X_chance_48 : decode prog_1_method_33_code 48 = .ok (.aload_n 0, 1) := by decide +kernel
theorem d_X_chance_49 : decode prog_1_method_33_code 49 = .ok (.getfield 18, 3) := by decide +kernel
theorem d_X_chance_52 : decode prog_1_method_33_code 52 = .ok (.getfield 125, 3) := by decide +kernel
theorem d_X_chance_55 : decode prog_1_method_33_code 55 = .ok (.if_icmp .gt (56), 3) := by decide +kernel
theorem d_X_chance_58 : decode prog_1_method_33_code 58 = .ok (.iload_n 1, 1) := by decide +kernel
theorem d_X_chance_59 : decode prog_1_method_33_code 59 = .ok (.iload 6, 2) := by decide +kernel
theorem d_X_chance_61 : decode prog_1_method_33_code 61 = .ok (.invokestatic 240, 3) := by decide +kernel
theorem d_X_chance_64 : decode prog_1_method_33_code 64 = .ok (.bipush 16, 2) := by decide +kernel
theorem d_X_chance_66 : decode prog_1_method_33_code 66 = .ok (.iload_n 1, 1) := by decide +kernel
theorem d_X_chance_67 : decode prog_1_method_33_code 67 = .ok (.isub, 1) := by decide +kernel
theorem d_X_chance_68 : decode prog_1_method_33_code 68 = .ok (.aload_n 0, 1) := by decide +kernel
theorem d_X_chance_69 : decode prog_1_method_33_code 69 = .ok (.getfield 18, 3) := by decide +kernel
theorem d_X_chance_72 : decode prog_1_method_33_code 72 = .ok (.getfield 125, 3) := by decide +kernel
theorem d_X_chance_75 : decode prog_1_method_33_code 75 = .ok (.iload 6, 2) := by decide +kernel
theorem d_X_chance_77 : decode prog_1_method_33_code 77 = .ok (.isub, 1) := by decide +kernel
theorem d_X_chance_78 : decode prog_1_method_33_code 78 = .ok (.invokestatic 240, 3) := by decide +kernel
theorem d_X_chance_81 : decode prog_1_method_33_code 81 = .ok (.lmul, 1) := by decide +kernel
theorem d_X_chance_82 : decode prog_1_method_33_code 82 = .ok (.lstore 7, 2) := by decide +kernel
theorem d_X_chance_84 : decode prog_1_method_33_code 84 = .ok (.lload 4, 2) := by decide +kernel
theorem d_X_chance_86 : decode prog_1_method_33_code 86 = .ok (.lload 7, 2) := by decide +kernel
theorem d_X_chance_88 : decode prog_1_method_33_code 88 = .ok (.aload_n 0, 1) := by decide +kernel
theorem d_X_chance_89 : decode prog_1_method_33_code 89 = .ok (.getfield 53, 3) := by decide +kernel
theorem d_X_chance_92 : decode prog_1_method_33_code 92 = .ok (.iload_n 2, 1) := by decide +kernel
theorem d_X_chance_93 : decode prog_1_method_33_code 93 = .ok (.bipush 9, 2) := by decide +kernel
theorem d_X_chance_95 : decode prog_1_method_33_code 95 = .ok (.imul, 1) := by decide +kernel
theorem d_X_chance_96 : decode prog_1_method_33_code 96 = .ok (.iload 6, 2) := by decide +kernel
theorem d_X_chance_98 : decode prog_1_method_33_code 98 = .ok (.iadd, 1) := by decide +kernel
theorem d_X_chance_99 : decode prog_1_method_33_code 99 = .ok (.iaload, 1) := by decide +kernel
theorem d_X_chance_100 : decode prog_1_method_33_code 100 = .ok (.i2l, 1) := by decide +kernel
theorem d_X_chance_101 : decode prog_1_method_33_code 101 = .ok (.lmul, 1) := by decide +kernel
theorem d_X_chance_102 : decode prog_1_method_33_code 102 = .ok (.ladd, 1) := by decide +kernel
theorem d_X_chance_103 : decode prog_1_method_33_code 103 = .ok (.lstore 4, 2) := by decide +kernel
theorem d_X_chance_105 : decode prog_1_method_33_code 105 = .ok (.iinc 6 1, 3) := by decide +kernel
theorem d_X_chance_108 : decode prog_1_method_33_code 108 = .ok (.goto (-62), 3) := by decide +kernel
theorem d_X_chance_111 : decode prog_1_method_33_code 111 = .ok (.iconst 4, 1) := by decide +kernel
theorem d_X_chance_112 : decode prog_1_method_33_code 112 = .ok (.aload_n 0, 1) := by decide +kernel
theorem d_X_chance_113 : decode prog_1_method_33_code 113 = .ok (.getfield 18, 3) := by decide +kernel
theorem d_X_chance_116 : decode prog_1_method_33_code 116 = .ok (.getfield 125, 3) := by decide +kernel
theorem d_X_chance_119 : decode prog_1_method_33_code 119 = .ok (.imul, 1) := by decide +kernel
theorem d_X_chance_120 : decode prog_1_method_33_code 120 = .ok (.istore 6, 2) := by decide +kernel
theorem d_X_chance_122 : decode prog_1_method_33_code 122 = .ok (.iload 6, 2) := by decide +kernel
theorem d_X_chance_124 : decode prog_1_method_33_code 124 = .ok (.ifCond .le (28), 3) := by decide +kernel
theorem d_X_chance_127 : decode prog_1_method_33_code 127 = .ok (.lload 4, 2) := by decide +kernel
theorem d_X_chance_129 : decode prog_1_method_33_code 129 = .ok (.ldc2_w 244, 3) := by decide +kernel
theorem d_X_chance_132 : decode prog_1_method_33_code 132 = .ok (.lrem, 1) := by decide +kernel
theorem d_X_chance_133 : decode prog_1_method_33_code 133 = .ok (.lconst 0, 1) := by decide +kernel
theorem d_X_chance_134 : decode prog_1_method_33_code 134 = .ok (.lcmp, 1) := by decide +kernel
theorem d_X_chance_135 : decode prog_1_method_33_code 135 = .ok (.ifCond .ne (17), 3) := by decide +kernel
theorem d_X_chance_138 : decode prog_1_method_33_code 138 = .ok (.lload 4, 2) := by decide +kernel
theorem d_X_chance_140 : decode prog_1_method_33_code 140 = .ok (.ldc2_w 244, 3) := by decide +kernel
theorem d_X_chance_143 : decode prog_1_method_33_code 143 = .ok (.ldiv, 1) := by decide +kernel
theorem d_X_chance_144 : decode prog_1_method_33_code 144 = .ok (.lstore 4, 2) := by decide +kernel
theorem d_X_chance_146 : decode prog_1_method_33_code 146 = .ok (.iinc 6 (-1), 3) := by decide +kernel
theorem d_X_chance_149 : decode prog_1_method_33_code 149 = .ok (.goto (-27), 3) := by decide +kernel
theorem d_X_chance_152 : decode prog_1_method_33_code 152 = .ok (.iload_n 3, 1) := by decide +kernel
theorem d_X_chance_153 : decode prog_1_method_33_code 153 = .ok (.ifCond .ne (8), 3) := by decide +kernel
theorem d_X_chance_156 : decode prog_1_method_33_code 156 = .ok (.lload 4, 2) := by decide +kernel
theorem d_X_chance_158 : decode prog_1_method_33_code 158 = .ok (.goto (7), 3) := by decide +kernel
theorem d_X_chance_161 : decode prog_1_method_33_code 161 = .ok (.lconst 1, 1) := by decide +kernel
theorem d_X_chance_162 : decode prog_1_method_33_code 162 = .ok (.iload 6, 2) := by decide +kernel
theorem d_X_chance_164 : decode prog_1_method_33_code 164 = .ok (.lshl, 1) := by decide +kernel
theorem d_X_chance_165 : decode prog_1_method_33_code 165 = .ok (.lreturn, 1) := by decide +kernel
def wp_X_chance (a1 : Int32) (a2 : Int32) (a3 : Int32) (M : Mem) (post : Int64 → Mem → Prop) : Prop :=
  (((a1 < 0) → post (-9223372036854775806) M) ∧ (¬ (a1 < 0) → (((16 < a1) → post (-9223372036854775806) M) ∧ (¬ (16 < a1) → ((((pf_X_outside a2 (M 10 6)) = 0) → ((((pf_X_outside a3 2) = 0) → wp_X_countChoices M (fun M7 => (it2 (fun rec9 (l11 : Int64) (i12 : Int32) => ((((M7 10 9) < i12) → ∀ x14 : Int32, x14 = (4 * (M7 10 9)) → (it2 (fun rec15 (l17 : Int64) (i18 : Int32) => (((i18 ≤ 0) → ∀ u21 : Int64, u21 = (if a3 = 0 then l17 else ((1 : Int64) <<< (Int32.toInt64 i18 &&& 63))) → post u21 M7) ∧ (¬ (i18 ≤ 0) → ((((lg_cmp (l17 - l17 / (2) * (2)) 0) = 0) → rec15 (l17 / (2)) (i18 + (-1))) ∧ (¬ ((lg_cmp (l17 - l17 / (2) * (2)) 0) = 0) → ∀ u25 : Int64, u25 = (if a3 = 0 then l17 else ((1 : Int64) <<< (Int32.toInt64 i18 &&& 63))) → post u25 M7))))) 4096 l11 x14)) ∧ (¬ ((M7 10 9) < i12) → wp_X_power a1 i12 M7 (fun r27 => wp_X_power (16 - a1) ((M7 10 9) - i12) M7 (fun r28 => vp_in ((a2 * 9) + i12) 72 ∧ ∀ x30 : Int64, x30 = (l11 + ((r27 * r28) * (Int32.toInt64 (M7 56 (tn ((a2 * 9) + i12)))))) → rec9 x30 (i12 + 1)))))) 4096 0 0))) ∧ (¬ ((pf_X_outside a3 2) = 0) → post (-9223372036854775806) M))) ∧ (¬ ((pf_X_outside a2 (M 10 6)) = 0) → post (-9223372036854775806) M))))))
set_option maxHeartbeats 4000000 in
set_option maxRecDepth 100000 in
theorem c_X_chance (g : GX) {a1 : Int32} {a2 : Int32} {a3 : Int32} {M : Mem} {post : Int64 → Mem → Prop} (hw : wp_X_chance a1 a2 a3 M post) : CtL (oX g) y_X_chance prog_1_method_33_code 9 (some .long) (rl 4) [.ref (ax g 0), .int a1, .int a2, .int a3] M post := by
  refine z_metL (oX_ok g) (by decide) rfl (fun X C hr => ?_)
  show Zj X 9 (oX g) M 0 [(0, .ref (ax g 0)), (1, .int a1), (2, .int a2), (3, .int a3)] []
  unfold wp_X_chance at hw
  refine z_iload_n C d_X_chance_0 rfl 1 rfl ?_
  refine z_if_lt C 32 d_X_chance_1 (by decide) (fun h1 => ?_) (fun h1 => ?_)
  · replace hw := hw.1 h1
    refine z_ldc2 C d_X_chance_32 tw_551 ?_
    exact z_lret C hr hw d_X_chance_35
  · replace hw := hw.2 h1
    refine z_iload_n C d_X_chance_4 rfl 1 rfl ?_
    refine z_bipush (v := 16) C d_X_chance_5 (by decide) ?_
    refine z_ic_gt C 32 d_X_chance_7 (by decide) (fun h2 => ?_) (fun h2 => ?_)
    · replace hw := hw.1 h2
      refine z_ldc2 C d_X_chance_32 tw_551 ?_
      exact z_lret C hr hw d_X_chance_35
    · replace hw := hw.2 h2
      refine z_iload_n C d_X_chance_10 rfl 2 rfl ?_
      refine z_aload_n C d_X_chance_11 rfl 0 rfl ?_
      refine gf_X_18 C d_X_chance_12 ?_
      refine gf_X_106 C d_X_chance_15 ?_
      refine z_callSi C (As := [.int a2, .int (M 10 6)]) (rest := []) m_X_outside tw_251 ⟨rfl, rfl⟩ (c_X_outside (oX_ok g) _ _ _) rfl rfl rfl d_X_chance_18 (fun r M2 hq => ?_)
      obtain ⟨rfl, rfl⟩ := hq
      refine z_if_ne C 32 d_X_chance_21 (by decide) (fun h4 => ?_) (fun h4 => ?_)
      · replace hw := hw.2 h4
        refine z_ldc2 C d_X_chance_32 tw_551 ?_
        exact z_lret C hr hw d_X_chance_35
      · replace hw := hw.1 h4
        refine z_iload_n C d_X_chance_24 rfl 3 rfl ?_
        refine z_iconst (v := 2) C d_X_chance_25 (by decide) ?_
        refine z_callSi C (As := [.int a3, .int 2]) (rest := []) m_X_outside tw_251 ⟨rfl, rfl⟩ (c_X_outside (oX_ok g) _ _ _) rfl rfl rfl d_X_chance_26 (fun r M2 hq => ?_)
        obtain ⟨rfl, rfl⟩ := hq
        refine z_if_eq C 36 d_X_chance_29 (by decide) (fun h6 => ?_) (fun h6 => ?_)
        · replace hw := hw.1 h6
          refine z_aload_n C d_X_chance_36 rfl 0 rfl ?_
          refine z_callVv C (As := []) (rest := []) m_X_countChoices tw_552 0 (le_X) rfl ⟨rfl, rfl⟩ (c_X_countChoices g hw) rfl rfl rfl d_X_chance_37 (fun M7 hw => ?_)
          refine z_lconst (v := 0) C d_X_chance_40 (by decide) ?_
          refine z_lstore (lv' := [(4, .long 0), (0, .ref (ax g 0)), (1, .int a1), (2, .int a2), (3, .int a3)]) C d_X_chance_41 rfl rfl ?_
          refine z_iconst (v := 0) C d_X_chance_43 (by decide) ?_
          refine z_istore (lv' := [(6, .int 0), (4, .long 0), (0, .ref (ax g 0)), (1, .int a1), (2, .int a2), (3, .int a3)]) C d_X_chance_44 rfl rfl ?_
          refine z_sub [2, 3, 4, 5, 1, 0] rfl ?_
          refine it2_Z (Z := fun (l11 : Int64) (i12 : Int32) => Zj X 9 (oX g) M7 46 [(0, .ref (ax g 0)), (1, .int a1), (2, .int a2), (3, .int a3), (4, .long l11), (6, .int i12)] []) (fun rec9 ih10 l11 i12 hw => ?_) _ _ _ hw
          refine z_iload C d_X_chance_46 5 rfl ?_
          refine z_aload_n C d_X_chance_48 rfl 0 rfl ?_
          refine gf_X_18 C d_X_chance_49 ?_
          refine gf_X_125 C d_X_chance_52 ?_
          refine z_ic_gt C 111 d_X_chance_55 (by decide) (fun h13 => ?_) (fun h13 => ?_)
          · replace hw := hw.1 h13
            refine z_iconst (v := 4) C d_X_chance_111 (by decide) ?_
            refine z_aload_n C d_X_chance_112 rfl 0 rfl ?_
            refine gf_X_18 C d_X_chance_113 ?_
            refine gf_X_125 C d_X_chance_116 ?_
            refine z_imul C d_X_chance_119 ?_
            obtain ⟨x14, hx14⟩ : ∃ z : Int32, z = (4 * (M7 10 9)) := ⟨_, rfl⟩
            rw [← hx14]
            replace hw := hw x14 hx14
            refine z_istore (lv' := [(6, .int x14), (0, .ref (ax g 0)), (1, .int a1), (2, .int a2), (3, .int a3), (4, .long l11)]) C d_X_chance_120 rfl rfl ?_
            refine z_sub [4, 5, 0] rfl ?_
            refine it2_Z (Z := fun (l17 : Int64) (i18 : Int32) => Zj X 9 (oX g) M7 122 [(3, .int a3), (4, .long l17), (6, .int i18)] []) (fun rec15 ih16 l17 i18 hw => ?_) _ _ _ hw
            refine z_iload C d_X_chance_122 2 rfl ?_
            refine z_if_le C 152 d_X_chance_124 (by decide) (fun h19 => ?_) (fun h19 => ?_)
            · replace hw := hw.1 h19
              refine z_iload_n C d_X_chance_152 rfl 0 rfl ?_
              have hj22 : ∀ u21 : Int64, u21 = (if a3 = 0 then l17 else ((1 : Int64) <<< (Int32.toInt64 i18 &&& 63))) → Zj X 9 (oX g) M7 165 [] [.long u21] := by
                intro u21 hu21
                replace hw := hw u21 hu21
                exact z_lret C hr hw d_X_chance_165
              refine z_if_ne C 161 d_X_chance_153 (by decide) (fun h20 => ?_) (fun h20 => ?_)
              · refine z_lconst (v := 1) C d_X_chance_161 (by decide) ?_
                refine z_iload C d_X_chance_162 2 rfl ?_
                refine z_lshl C d_X_chance_164 ?_
                refine z_sub [] rfl ?_
                exact hj22 _ ((if_neg h20)).symm
              · refine z_lload C d_X_chance_156 1 rfl ?_
                refine z_goto C 165 d_X_chance_158 (by decide) ?_
                refine z_sub [] rfl ?_
                exact hj22 _ ((if_pos h20)).symm
            · replace hw := hw.2 h19
              refine z_lload C d_X_chance_127 1 rfl ?_
              refine z_ldc2 C d_X_chance_129 tw_560 ?_
              refine z_lrem C d_X_chance_132 (by decide) ?_
              refine z_lconst (v := 0) C d_X_chance_133 (by decide) ?_
              refine z_lcmp C d_X_chance_134 ?_
              refine z_if_ne C 152 d_X_chance_135 (by decide) (fun h23 => ?_) (fun h23 => ?_)
              · replace hw := hw.2 h23
                refine z_iload_n C d_X_chance_152 rfl 0 rfl ?_
                have hj26 : ∀ u25 : Int64, u25 = (if a3 = 0 then l17 else ((1 : Int64) <<< (Int32.toInt64 i18 &&& 63))) → Zj X 9 (oX g) M7 165 [] [.long u25] := by
                  intro u25 hu25
                  replace hw := hw u25 hu25
                  exact z_lret C hr hw d_X_chance_165
                refine z_if_ne C 161 d_X_chance_153 (by decide) (fun h24 => ?_) (fun h24 => ?_)
                · refine z_lconst (v := 1) C d_X_chance_161 (by decide) ?_
                  refine z_iload C d_X_chance_162 2 rfl ?_
                  refine z_lshl C d_X_chance_164 ?_
                  refine z_sub [] rfl ?_
                  exact hj26 _ ((if_neg h24)).symm
                · refine z_lload C d_X_chance_156 1 rfl ?_
                  refine z_goto C 165 d_X_chance_158 (by decide) ?_
                  refine z_sub [] rfl ?_
                  exact hj26 _ ((if_pos h24)).symm
              · replace hw := hw.1 h23
                refine z_lload C d_X_chance_138 1 rfl ?_
                refine z_ldc2 C d_X_chance_140 tw_560 ?_
                refine z_ldiv C d_X_chance_143 (by decide) ?_
                refine z_lstore (lv' := [(4, .long (l17 / (2))), (3, .int a3), (6, .int i18)]) C d_X_chance_144 rfl rfl ?_
                refine z_iinc (v := (i18 + (-1))) (lv' := [(6, .int (i18 + (-1))), (4, .long (l17 / (2))), (3, .int a3)]) C d_X_chance_146 2 rfl rfl rfl rfl ?_
                refine z_goto C 122 d_X_chance_149 (by decide) ?_
                refine z_sub [2, 1, 0] rfl ?_
                exact ih16 _ _ hw
          · replace hw := hw.2 h13
            refine z_iload_n C d_X_chance_58 rfl 1 rfl ?_
            refine z_iload C d_X_chance_59 5 rfl ?_
            refine z_callSl C (As := [.int a1, .int i12]) (rest := []) m_X_power tw_557 ⟨rfl, rfl⟩ (c_X_power g hw) rfl rfl rfl d_X_chance_61 (fun r27 M2 hq => ?_)
            obtain ⟨rfl, hw⟩ := hq
            refine z_bipush (v := 16) C d_X_chance_64 (by decide) ?_
            refine z_iload_n C d_X_chance_66 rfl 1 rfl ?_
            refine z_isub C d_X_chance_67 ?_
            refine z_aload_n C d_X_chance_68 rfl 0 rfl ?_
            refine gf_X_18 C d_X_chance_69 ?_
            refine gf_X_125 C d_X_chance_72 ?_
            refine z_iload C d_X_chance_75 5 rfl ?_
            refine z_isub C d_X_chance_77 ?_
            refine z_callSl C (As := [.int (16 - a1), .int ((M7 10 9) - i12)]) (rest := [.long r27]) m_X_power tw_557 ⟨rfl, rfl⟩ (c_X_power g hw) rfl rfl rfl d_X_chance_78 (fun r28 M2 hq => ?_)
            obtain ⟨rfl, hw⟩ := hq
            refine z_lmul C d_X_chance_81 ?_
            refine z_lstore (lv' := [(7, .long (r27 * r28)), (0, .ref (ax g 0)), (1, .int a1), (2, .int a2), (3, .int a3), (4, .long l11), (6, .int i12)]) C d_X_chance_82 rfl rfl ?_
            refine z_lload C d_X_chance_84 5 rfl ?_
            refine z_lload C d_X_chance_86 0 rfl ?_
            refine z_aload_n C d_X_chance_88 rfl 1 rfl ?_
            refine gf_X_53 C d_X_chance_89 ?_
            refine z_iload_n C d_X_chance_92 rfl 3 rfl ?_
            refine z_bipush (v := 9) C d_X_chance_93 (by decide) ?_
            refine z_imul C d_X_chance_95 ?_
            refine z_iload C d_X_chance_96 6 rfl ?_
            refine z_iadd C d_X_chance_98 ?_
            have hv29 := hw.1
            replace hw := hw.2
            refine z_al (zar_x56) C hv29 d_X_chance_99 ?_
            refine z_i2l C d_X_chance_100 ?_
            refine z_lmul C d_X_chance_101 ?_
            refine z_ladd C d_X_chance_102 ?_
            obtain ⟨x30, hx30⟩ : ∃ z : Int64, z = (l11 + ((r27 * r28) * (Int32.toInt64 (M7 56 (tn ((a2 * 9) + i12)))))) := ⟨_, rfl⟩
            rw [← hx30]
            replace hw := hw x30 hx30
            refine z_lstore (lv' := [(4, .long x30), (7, .long (r27 * r28)), (0, .ref (ax g 0)), (1, .int a1), (2, .int a2), (3, .int a3), (6, .int i12)]) C d_X_chance_103 rfl rfl ?_
            refine z_iinc (v := (i12 + 1)) (lv' := [(6, .int (i12 + 1)), (4, .long x30), (7, .long (r27 * r28)), (0, .ref (ax g 0)), (1, .int a1), (2, .int a2), (3, .int a3)]) C d_X_chance_105 6 rfl rfl rfl rfl ?_
            refine z_goto C 46 d_X_chance_108 (by decide) ?_
            refine z_sub [3, 4, 5, 6, 1, 0] rfl ?_
            exact ih10 _ _ hw
        · replace hw := hw.2 h6
          refine z_ldc2 C d_X_chance_32 tw_551 ?_
          exact z_lret C hr hw d_X_chance_35
