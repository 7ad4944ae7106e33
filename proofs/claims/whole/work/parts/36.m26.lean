theorem d_R_strengthsOf_0 : decode prog_8_method_85_code 0 = .ok (.aload_n 0, 1) := by decide +kernel
theorem d_R_strengthsOf_1 : decode prog_8_method_85_code 1 = .ok (.getfield 34, 3) := by decide +kernel
theorem d_R_strengthsOf_4 : decode prog_8_method_85_code 4 = .ok (.iconst 3, 1) := by decide +kernel
theorem d_R_strengthsOf_5 : decode prog_8_method_85_code 5 = .ok (.iload_n 1, 1) := by decide +kernel
theorem d_R_strengthsOf_6 : decode prog_8_method_85_code 6 = .ok (.imul, 1) := by decide +kernel
theorem d_R_strengthsOf_7 : decode prog_8_method_85_code 7 = .ok (.iconst 1, 1) := by decide +kernel
theorem d_R_strengthsOf_8 : decode prog_8_method_85_code 8 = .ok (.iadd, 1) := by decide +kernel
theorem d_R_strengthsOf_9 : decode prog_8_method_85_code 9 = .ok (.iaload, 1) := by decide +kernel
theorem d_R_strengthsOf_10 : decode prog_8_method_85_code 10 = .ok (.istore_n 2, 1) := by decide +kernel
theorem d_R_strengthsOf_11 : decode prog_8_method_85_code 11 = .ok (.iconst 0, 1) := by decide +kernel
theorem d_R_strengthsOf_12 : decode prog_8_method_85_code 12 = .ok (.istore_n 3, 1) := by decide +kernel
theorem d_R_strengthsOf_13 : decode prog_8_method_85_code 13 = .ok (.iconst 1, 1) := by decide +kernel
theorem d_R_strengthsOf_14 : decode prog_8_method_85_code 14 = .ok (.istore 4, 2) := by decide +kernel
theorem d_R_strengthsOf_16 : decode prog_8_method_85_code 16 = .ok (.iload 4, 2) := by decide +kernel
theorem d_R_strengthsOf_18 : decode prog_8_method_85_code 18 = .ok (.bipush 10, 2) := by decide +kernel
theorem d_R_strengthsOf_20 : decode prog_8_method_85_code 20 = .ok (.if_icmp .ge (77), 3) := by decide +kernel
theorem d_R_strengthsOf_23 : decode prog_8_method_85_code 23 = .ok (.aload_n 0, 1) := by decide +kernel
theorem d_R_strengthsOf_24 : decode prog_8_method_85_code 24 = .ok (.getfield 34, 3) := by decide +kernel
theorem d_R_strengthsOf_27 : decode prog_8_method_85_code 27 = .ok (.iconst 3, 1) := by decide +kernel
theorem d_R_strengthsOf_28 : decode prog_8_method_85_code 28 = .ok (.iload_n 1, 1) := by decide +kernel
theorem d_R_strengthsOf_29 : decode prog_8_method_85_code 29 = .ok (.imul, 1) := by decide +kernel
theorem d_R_strengthsOf_30 : decode prog_8_method_85_code 30 = .ok (.iconst 1, 1) := by decide +kernel
theorem d_R_strengthsOf_31 : decode prog_8_method_85_code 31 = .ok (.iadd, 1) := by decide +kernel
theorem d_R_strengthsOf_32 : decode prog_8_method_85_code 32 = .ok (.iload 4, 2) := by decide +kernel
theorem d_R_strengthsOf_34 : decode prog_8_method_85_code 34 = .ok (.iastore, 1) := by decide +kernel
theorem d_R_strengthsOf_35 : decode prog_8_method_85_code 35 = .ok (.iload_n 3, 1) := by decide +kernel
theorem d_R_strengthsOf_36 : decode prog_8_method_85_code 36 = .ok (.aload_n 0, 1) := by decide +kernel
theorem d_R_strengthsOf_37 : decode prog_8_method_85_code 37 = .ok (.invokevirtual 284, 3) := by decide +kernel
theorem d_R_strengthsOf_40 : decode prog_8_method_85_code 40 = .ok (.ifCond .eq (10), 3) := by decide +kernel
theorem d_R_strengthsOf_43 : decode prog_8_method_85_code 43 = .ok (.iconst 1, 1) := by decide +kernel
theorem d_R_strengthsOf_44 : decode prog_8_method_85_code 44 = .ok (.iload 4, 2) := by decide +kernel
theorem d_R_strengthsOf_46 : decode prog_8_method_85_code 46 = .ok (.ishl, 1) := by decide +kernel
theorem d_R_strengthsOf_47 : decode prog_8_method_85_code 47 = .ok (.goto (4), 3) := by decide +kernel
theorem d_R_strengthsOf_50 : decode prog_8_method_85_code 50 = .ok (.iconst 0, 1) := by decide +kernel
theorem d_R_strengthsOf_51 : decode prog_8_method_85_code 51 = .ok (.ior, 1) := by decide +kernel
theorem d_R_strengthsOf_52 : decode prog_8_method_85_code 52 = .ok (.istore_n 3, 1) := by decide +kernel
theorem d_R_strengthsOf_53 : decode prog_8_method_85_code 53 = .ok (.iconst 0, 1) := by decide +kernel
theorem d_R_strengthsOf_54 : decode prog_8_method_85_code 54 = .ok (.istore 5, 2) := by decide +kernel
theorem d_R_strengthsOf_56 : decode prog_8_method_85_code 56 = .ok (.iload 5, 2) := by decide +kernel
theorem d_R_strengthsOf_58 : decode prog_8_method_85_code 58 = .ok (.sipush 288, 3) := by decide +kernel
theorem d_R_strengthsOf_61 : decode prog_8_method_85_code 61 = .ok (.if_icmp .ge (30), 3) := by decide +kernel
theorem d_R_strengthsOf_64 : decode prog_8_method_85_code 64 = .ok (.aload_n 0, 1) := by decide +kernel
theorem d_R_strengthsOf_65 : decode prog_8_method_85_code 65 = .ok (.getfield 88, 3) := by decide +kernel
theorem d_R_strengthsOf_68 : decode prog_8_method_85_code 68 = .ok (.sipush 288, 3) := by decide +kernel
theorem d_R_strengthsOf_71 : decode prog_8_method_85_code 71 = .ok (.iload 4, 2) := by decide +kernel
theorem d_R_strengthsOf_73 : decode prog_8_method_85_code 73 = .ok (.imul, 1) := by decide +kernel
theorem d_R_strengthsOf_74 : decode prog_8_method_85_code 74 = .ok (.iload 5, 2) := by decide +kernel
theorem d_R_strengthsOf_76 : decode prog_8_method_85_code 76 = .ok (.iadd, 1) := by decide +kernel
theorem d_R_strengthsOf_77 : decode prog_8_method_85_code 77 = .ok (.aload_n 0, 1) := by decide +kernel
theorem d_R_strengthsOf_78 : decode prog_8_method_85_code 78 = .ok (.getfield 70, 3) := by decide +kernel
theorem d_R_strengthsOf_81 : decode prog_8_method_85_code 81 = .ok (.iload 5, 2) := by decide +kernel
theorem d_R_strengthsOf_83 : decode prog_8_method_85_code 83 = .ok (.iaload, 1) := by decide +kernel
theorem d_R_strengthsOf_84 : decode prog_8_method_85_code 84 = .ok (.iastore, 1) := by decide +kernel
theorem d_R_strengthsOf_85 : decode prog_8_method_85_code 85 = .ok (.iinc 5 1, 3) := by decide +kernel
theorem d_R_strengthsOf_88 : decode prog_8_method_85_code 88 = .ok (.goto (-32), 3) := by decide +kernel
theorem d_R_strengthsOf_91 : decode prog_8_method_85_code 91 = .ok (.iinc 4 1, 3) := by decide +kernel
theorem d_R_strengthsOf_94 : decode prog_8_method_85_code 94 = .ok (.goto (-78), 3) := by decide +kernel
theorem d_R_strengthsOf_97 : decode prog_8_method_85_code 97 = .ok (.aload_n 0, 1) := by decide +kernel
theorem d_R_strengthsOf_98 : decode prog_8_method_85_code 98 = .ok (.getfield 34, 3) := by decide +kernel
theorem d_R_strengthsOf_101 : decode prog_8_method_85_code 101 = .ok (.iconst 3, 1) := by decide +kernel
theorem d_R_strengthsOf_102 : decode prog_8_method_85_code 102 = .ok (.iload_n 1, 1) := by decide +kernel
theorem d_R_strengthsOf_103 : decode prog_8_method_85_code 103 = .ok (.imul, 1) := by decide +kernel
theorem d_R_strengthsOf_104 : decode prog_8_method_85_code 104 = .ok (.iconst 1, 1) := by decide +kernel
theorem d_R_strengthsOf_105 : decode prog_8_method_85_code 105 = .ok (.iadd, 1) := by decide +kernel
theorem d_R_strengthsOf_106 : decode prog_8_method_85_code 106 = .ok (.iload_n 2, 1) := by decide +kernel
theorem d_R_strengthsOf_107 : decode prog_8_method_85_code 107 = .ok (.iastore, 1) := by decide +kernel
theorem d_R_strengthsOf_108 : decode prog_8_method_85_code 108 = .ok (.iload_n 3, 1) := by decide +kernel
theorem d_R_strengthsOf_109 : decode prog_8_method_85_code 109 = .ok (.ireturn, 1) := by decide +kernel
def wp_R_strengthsOf (a1 : Int32) (M : Mem) (post : Int32 → Mem → Prop) : Prop :=
  vp_in ((3 * a1) + 1) 12 ∧ ∀ x2 : Int32, x2 = (M 9 (tn ((3 * a1) + 1))) → (it3 (fun rec3 (i5 : Int32) (i6 : Int32) (M7 : Mem) => (((10 ≤ i6) → ∀ M9 : Mem, M9 = upm M7 9 (tn ((3 * a1) + 1)) x2 → post i5 M9) ∧ (¬ (10 ≤ i6) → ∀ M10 : Mem, M10 = upm M7 9 (tn ((3 * a1) + 1)) i6 → wp_R_isSeen M10 (fun r12 M11 => ∀ u14 : Int32, u14 = (if r12 = 0 then 0 else ((1 : Int32) <<< (i6 &&& 31))) → (it2 (fun rec15 (i17 : Int32) (M18 : Mem) => (((288 ≤ i17) → rec3 (i5 ||| u14) (i6 + 1) M18) ∧ (¬ (288 ≤ i17) → vp_in i17 288 ∧ vp_in ((288 * i6) + i17) 2880 ∧ ∀ M21 : Mem, M21 = upm M18 27 (tn ((288 * i6) + i17)) (M18 21 (tn i17)) → rec15 (i17 + 1) M21))) 4096 0 M11))))) 4096 0 1 M)
set_option maxHeartbeats 4000000 in
set_option maxRecDepth 100000 in
theorem c_R_strengthsOf (g : GX) {a1 : Int32} {M : Mem} {post : Int32 → Mem → Prop} (hw : wp_R_strengthsOf a1 M post) : CtI (oR g) y_R_strengthsOf prog_8_method_85_code 6 (some .int) (rl 6) [.ref (ax g 0), .int a1] M post := by
  refine z_metI (oR_ok g) (by decide) rfl (fun X C hr => ?_)
  show Zj X 6 (oR g) M 0 [(0, .ref (ax g 0)), (1, .int a1)] []
  unfold wp_R_strengthsOf at hw
  refine z_aload_n C d_R_strengthsOf_0 rfl 0 rfl ?_
  refine gf_R_34 C d_R_strengthsOf_1 ?_
  refine z_iconst (v := 3) C d_R_strengthsOf_4 (by decide) ?_
  refine z_iload_n C d_R_strengthsOf_5 rfl 1 rfl ?_
  refine z_imul C d_R_strengthsOf_6 ?_
  refine z_iconst (v := 1) C d_R_strengthsOf_7 (by decide) ?_
  refine z_iadd C d_R_strengthsOf_8 ?_
  have hv1 := hw.1
  replace hw := hw.2
  refine z_al (zar_r9) C hv1 d_R_strengthsOf_9 ?_
  obtain ⟨x2, hx2⟩ : ∃ z : Int32, z = (M 9 (tn ((3 * a1) + 1))) := ⟨_, rfl⟩
  rw [← hx2]
  replace hw := hw x2 hx2
  refine z_istore_n (lv' := [(2, .int x2), (0, .ref (ax g 0)), (1, .int a1)]) C d_R_strengthsOf_10 rfl rfl rfl ?_
  refine z_iconst (v := 0) C d_R_strengthsOf_11 (by decide) ?_
  refine z_istore_n (lv' := [(3, .int 0), (2, .int x2), (0, .ref (ax g 0)), (1, .int a1)]) C d_R_strengthsOf_12 rfl rfl rfl ?_
  refine z_iconst (v := 1) C d_R_strengthsOf_13 (by decide) ?_
  refine z_istore (lv' := [(4, .int 1), (3, .int 0), (2, .int x2), (0, .ref (ax g 0)), (1, .int a1)]) C d_R_strengthsOf_14 rfl rfl ?_
  refine z_sub [3, 4, 2, 1, 0] rfl ?_
  refine it3_Z (Z := fun (i5 : Int32) (i6 : Int32) (M7 : Mem) => Zj X 6 (oR g) M7 16 [(0, .ref (ax g 0)), (1, .int a1), (2, .int x2), (3, .int i5), (4, .int i6)] []) (fun rec3 ih4 i5 i6 M7 hw => ?_) _ _ _ _ hw
  refine z_iload C d_R_strengthsOf_16 4 rfl ?_
  refine z_bipush (v := 10) C d_R_strengthsOf_18 (by decide) ?_
  refine z_ic_ge C 97 d_R_strengthsOf_20 (by decide) (fun h8 => ?_) (fun h8 => ?_)
  · replace hw := hw.1 h8
    refine z_aload_n C d_R_strengthsOf_97 rfl 0 rfl ?_
    refine gf_R_34 C d_R_strengthsOf_98 ?_
    refine z_iconst (v := 3) C d_R_strengthsOf_101 (by decide) ?_
    refine z_iload_n C d_R_strengthsOf_102 rfl 1 rfl ?_
    refine z_imul C d_R_strengthsOf_103 ?_
    refine z_iconst (v := 1) C d_R_strengthsOf_104 (by decide) ?_
    refine z_iadd C d_R_strengthsOf_105 ?_
    refine z_iload_n C d_R_strengthsOf_106 rfl 2 rfl ?_
    refine z_as (zar_r9) C hv1 d_R_strengthsOf_107 (fun M9 hM9 => ?_)
    replace hw := hw M9 hM9
    refine z_iload_n C d_R_strengthsOf_108 rfl 3 rfl ?_
    exact z_iret C hr hw d_R_strengthsOf_109
  · replace hw := hw.2 h8
    refine z_aload_n C d_R_strengthsOf_23 rfl 0 rfl ?_
    refine gf_R_34 C d_R_strengthsOf_24 ?_
    refine z_iconst (v := 3) C d_R_strengthsOf_27 (by decide) ?_
    refine z_iload_n C d_R_strengthsOf_28 rfl 1 rfl ?_
    refine z_imul C d_R_strengthsOf_29 ?_
    refine z_iconst (v := 1) C d_R_strengthsOf_30 (by decide) ?_
    refine z_iadd C d_R_strengthsOf_31 ?_
    refine z_iload C d_R_strengthsOf_32 4 rfl ?_
    refine z_as (zar_r9) C hv1 d_R_strengthsOf_34 (fun M10 hM10 => ?_)
    replace hw := hw M10 hM10
    refine z_iload_n C d_R_strengthsOf_35 rfl 3 rfl ?_
    refine z_aload_n C d_R_strengthsOf_36 rfl 0 rfl ?_
    refine z_callVi C (As := []) (rest := [.int i5]) m_R_isSeen tw_1094 0 (le_R) rfl ⟨rfl, rfl⟩ (c_R_isSeen g hw) rfl rfl rfl d_R_strengthsOf_37 (fun r12 M11 hw => ?_)
    have hj23 : ∀ u14 : Int32, u14 = (if r12 = 0 then 0 else ((1 : Int32) <<< (i6 &&& 31))) → Zj X 6 (oR g) M11 51 [(0, .ref (ax g 0)), (1, .int a1), (2, .int x2), (4, .int i6)] [.int u14, .int i5] := by
      intro u14 hu14
      replace hw := hw u14 hu14
      refine z_ior C d_R_strengthsOf_51 ?_
      refine z_istore_n (lv' := [(3, .int (i5 ||| u14)), (0, .ref (ax g 0)), (1, .int a1), (2, .int x2), (4, .int i6)]) C d_R_strengthsOf_52 rfl rfl rfl ?_
      refine z_iconst (v := 0) C d_R_strengthsOf_53 (by decide) ?_
      refine z_istore (lv' := [(5, .int 0), (3, .int (i5 ||| u14)), (0, .ref (ax g 0)), (1, .int a1), (2, .int x2), (4, .int i6)]) C d_R_strengthsOf_54 rfl rfl ?_
      refine z_sub [2, 3, 4, 1, 5, 0] rfl ?_
      refine it2_Z (Z := fun (i17 : Int32) (M18 : Mem) => Zj X 6 (oR g) M18 56 [(0, .ref (ax g 0)), (1, .int a1), (2, .int x2), (3, .int (i5 ||| u14)), (4, .int i6), (5, .int i17)] []) (fun rec15 ih16 i17 M18 hw => ?_) _ _ _ hw
      refine z_iload C d_R_strengthsOf_56 5 rfl ?_
      refine z_sipush (v := 288) C d_R_strengthsOf_58 (by decide) ?_
      refine z_ic_ge C 91 d_R_strengthsOf_61 (by decide) (fun h19 => ?_) (fun h19 => ?_)
      · replace hw := hw.1 h19
        refine z_iinc (v := (i6 + 1)) (lv' := [(4, .int (i6 + 1)), (0, .ref (ax g 0)), (1, .int a1), (2, .int x2), (3, .int (i5 ||| u14)), (5, .int i17)]) C d_R_strengthsOf_91 4 rfl rfl rfl rfl ?_
        refine z_goto C 16 d_R_strengthsOf_94 (by decide) ?_
        refine z_sub [1, 2, 3, 4, 0] rfl ?_
        exact ih4 _ _ _ hw
      · replace hw := hw.2 h19
        refine z_aload_n C d_R_strengthsOf_64 rfl 0 rfl ?_
        refine gf_R_88 C d_R_strengthsOf_65 ?_
        refine z_sipush (v := 288) C d_R_strengthsOf_68 (by decide) ?_
        refine z_iload C d_R_strengthsOf_71 4 rfl ?_
        refine z_imul C d_R_strengthsOf_73 ?_
        refine z_iload C d_R_strengthsOf_74 5 rfl ?_
        refine z_iadd C d_R_strengthsOf_76 ?_
        refine z_aload_n C d_R_strengthsOf_77 rfl 0 rfl ?_
        refine gf_R_70 C d_R_strengthsOf_78 ?_
        refine z_iload C d_R_strengthsOf_81 5 rfl ?_
        have hv20 := hw.1
        replace hw := hw.2
        refine z_al (zar_r21) C hv20 d_R_strengthsOf_83 ?_
        have hv22 := hw.1
        refine z_as (zar_r27) C hv22 d_R_strengthsOf_84 (fun M21 hM21 => ?_)
        replace hw := hw.2 M21 hM21
        refine z_iinc (v := (i17 + 1)) (lv' := [(5, .int (i17 + 1)), (0, .ref (ax g 0)), (1, .int a1), (2, .int x2), (3, .int (i5 ||| u14)), (4, .int i6)]) C d_R_strengthsOf_85 5 rfl rfl rfl rfl ?_
        refine z_goto C 56 d_R_strengthsOf_88 (by decide) ?_
        refine z_sub [1, 2, 3, 4, 5, 0] rfl ?_
        exact ih16 _ _ hw
    refine z_if_eq C 50 d_R_strengthsOf_40 (by decide) (fun h13 => ?_) (fun h13 => ?_)
    · refine z_iconst (v := 0) C d_R_strengthsOf_50 (by decide) ?_
      refine z_sub [0, 1, 2, 4] rfl ?_
      exact hj23 _ ((if_pos h13)).symm
    · refine z_iconst (v := 1) C d_R_strengthsOf_43 (by decide) ?_
      refine z_iload C d_R_strengthsOf_44 4 rfl ?_
      refine z_ishl C d_R_strengthsOf_46 ?_
      refine z_goto C 51 d_R_strengthsOf_47 (by decide) ?_
      refine z_sub [0, 1, 2, 4] rfl ?_
      exact hj23 _ ((if_neg h13)).symm
theorem d_R_lieOf_0 : decode prog_8_method_87_code 0 = .ok (.aload_n 0, 1) := by decide +kernel
theorem d_R_lieOf_1 : decode prog_8_method_87_code 1 = .ok (.getfield 28, 3) := by decide +kernel
theorem d_R_lieOf_4 : decode prog_8_method_87_code 4 = .ok (.iload_n 1, 1) := by decide +kernel
theorem d_R_lieOf_5 : decode prog_8_method_87_code 5 = .ok (.iaload, 1) := by decide +kernel
theorem d_R_lieOf_6 : decode prog_8_method_87_code 6 = .ok (.istore_n 2, 1) := by decide +kernel
theorem d_R_lieOf_7 : decode prog_8_method_87_code 7 = .ok (.iconst 0, 1) := by decide +kernel
theorem d_R_lieOf_8 : decode prog_8_method_87_code 8 = .ok (.istore_n 3, 1) := by decide +kernel
theorem d_R_lieOf_9 : decode prog_8_method_87_code 9 = .ok (.iconst 0, 1) := by decide +kernel
theorem d_R_lieOf_10 : decode prog_8_method_87_code 10 = .ok (.istore 4, 2) := by decide +kernel
theorem d_R_lieOf_12 : decode prog_8_method_87_code 12 = .ok (.iload 4, 2) := by decide +kernel
theorem d_R_lieOf_14 : decode prog_8_method_87_code 14 = .ok (.iconst 3, 1) := by decide +kernel
theorem d_R_lieOf_15 : decode prog_8_method_87_code 15 = .ok (.if_icmp .ge (35), 3) := by decide +kernel
theorem d_R_lieOf_18 : decode prog_8_method_87_code 18 = .ok (.aload_n 0, 1) := by decide +kernel
theorem d_R_lieOf_19 : decode prog_8_method_87_code 19 = .ok (.getfield 28, 3) := by decide +kernel
theorem d_R_lieOf_22 : decode prog_8_method_87_code 22 = .ok (.iload_n 1, 1) := by decide +kernel
theorem d_R_lieOf_23 : decode prog_8_method_87_code 23 = .ok (.iload 4, 2) := by decide +kernel
theorem d_R_lieOf_25 : decode prog_8_method_87_code 25 = .ok (.iastore, 1) := by decide +kernel
theorem d_R_lieOf_26 : decode prog_8_method_87_code 26 = .ok (.iload_n 3, 1) := by decide +kernel
theorem d_R_lieOf_27 : decode prog_8_method_87_code 27 = .ok (.aload_n 0, 1) := by decide +kernel
theorem d_R_lieOf_28 : decode prog_8_method_87_code 28 = .ok (.invokevirtual 284, 3) := by decide +kernel
theorem d_R_lieOf_31 : decode prog_8_method_87_code 31 = .ok (.ifCond .eq (10), 3) := by decide +kernel
theorem d_R_lieOf_34 : decode prog_8_method_87_code 34 = .ok (.iconst 1, 1) := by decide +kernel
theorem d_R_lieOf_35 : decode prog_8_method_87_code 35 = .ok (.iload 4, 2) := by decide +kernel
theorem d_R_lieOf_37 : decode prog_8_method_87_code 37 = .ok (.ishl, 1) := by decide +kernel
theorem d_R_lieOf_38 : decode prog_8_method_87_code 38 = .ok (.goto (4), 3) := by decide +kernel
theorem d_R_lieOf_41 : decode prog_8_method_87_code 41 = .ok (.iconst 0, 1) := by decide +kernel
theorem d_R_lieOf_42 : decode prog_8_method_87_code 42 = .ok (.ior, 1) := by decide +kernel
theorem d_R_lieOf_43 : decode prog_8_method_87_code 43 = .ok (.istore_n 3, 1) := by decide +kernel
theorem d_R_lieOf_44 : decode prog_8_method_87_code 44 = .ok (.iinc 4 1, 3) := by decide +kernel
theorem d_R_lieOf_47 : decode prog_8_method_87_code 47 = .ok (.goto (-35), 3) := by decide +kernel
theorem d_R_lieOf_50 : decode prog_8_method_87_code 50 = .ok (.aload_n 0, 1) := by decide +kernel
theorem d_R_lieOf_51 : decode prog_8_method_87_code 51 = .ok (.getfield 28, 3) := by decide +kernel
theorem d_R_lieOf_54 : decode prog_8_method_87_code 54 = .ok (.iload_n 1, 1) := by decide +kernel
theorem d_R_lieOf_55 : decode prog_8_method_87_code 55 = .ok (.iload_n 2, 1) := by decide +kernel
theorem d_R_lieOf_56 : decode prog_8_method_87_code 56 = .ok (.iastore, 1) := by decide +kernel
theorem d_R_lieOf_57 : decode prog_8_method_87_code 57 = .ok (.iload_n 3, 1) := by decide +kernel
theorem d_R_lieOf_58 : decode prog_8_method_87_code 58 = .ok (.ireturn, 1) := by decide +kernel
def wp_R_lieOf (a1 : Int32) (M : Mem) (post : Int32 → Mem → Prop) : Prop :=
  vp_in a1 12 ∧ (it3 (fun rec2 (i4 : Int32) (i5 : Int32) (M6 : Mem) => (((3 ≤ i5) → ∀ M8 : Mem, M8 = upm M6 7 (tn a1) (M 7 (tn a1)) → post i4 M8) ∧ (¬ (3 ≤ i5) → ∀ M9 : Mem, M9 = upm M6 7 (tn a1) i5 → wp_R_isSeen M9 (fun r11 M10 => ∀ u13 : Int32, u13 = (if r11 = 0 then 0 else ((1 : Int32) <<< (i5 &&& 31))) → rec2 (i4 ||| u13) (i5 + 1) M10)))) 4096 0 0 M)
set_option maxHeartbeats 4000000 in
set_option maxRecDepth 100000 in
theorem c_R_lieOf (g : GX) {a1 : Int32} {M : Mem} {post : Int32 → Mem → Prop} (hw : wp_R_lieOf a1 M post) : CtI (oR g) y_R_lieOf prog_8_method_87_code 5 (some .int) (rl 6) [.ref (ax g 0), .int a1] M post := by
  refine z_metI (oR_ok g) (by decide) rfl (fun X C hr => ?_)
  show Zj X 5 (oR g) M 0 [(0, .ref (ax g 0)), (1, .int a1)] []
  unfold wp_R_lieOf at hw
  refine z_aload_n C d_R_lieOf_0 rfl 0 rfl ?_
  refine gf_R_28 C d_R_lieOf_1 ?_
  refine z_iload_n C d_R_lieOf_4 rfl 1 rfl ?_
  have hv1 := hw.1
  replace hw := hw.2
  refine z_al (zar_r7) C hv1 d_R_lieOf_5 ?_
  refine z_istore_n (lv' := [(2, .int (M 7 (tn a1))), (0, .ref (ax g 0)), (1, .int a1)]) C d_R_lieOf_6 rfl rfl rfl ?_
  refine z_iconst (v := 0) C d_R_lieOf_7 (by decide) ?_
  refine z_istore_n (lv' := [(3, .int 0), (2, .int (M 7 (tn a1))), (0, .ref (ax g 0)), (1, .int a1)]) C d_R_lieOf_8 rfl rfl rfl ?_
  refine z_iconst (v := 0) C d_R_lieOf_9 (by decide) ?_
  refine z_istore (lv' := [(4, .int 0), (3, .int 0), (2, .int (M 7 (tn a1))), (0, .ref (ax g 0)), (1, .int a1)]) C d_R_lieOf_10 rfl rfl ?_
  refine z_sub [3, 4, 2, 1, 0] rfl ?_
  refine it3_Z (Z := fun (i4 : Int32) (i5 : Int32) (M6 : Mem) => Zj X 5 (oR g) M6 12 [(0, .ref (ax g 0)), (1, .int a1), (2, .int (M 7 (tn a1))), (3, .int i4), (4, .int i5)] []) (fun rec2 ih3 i4 i5 M6 hw => ?_) _ _ _ _ hw
  refine z_iload C d_R_lieOf_12 4 rfl ?_
  refine z_iconst (v := 3) C d_R_lieOf_14 (by decide) ?_
  refine z_ic_ge C 50 d_R_lieOf_15 (by decide) (fun h7 => ?_) (fun h7 => ?_)
  · replace hw := hw.1 h7
    refine z_aload_n C d_R_lieOf_50 rfl 0 rfl ?_
    refine gf_R_28 C d_R_lieOf_51 ?_
    refine z_iload_n C d_R_lieOf_54 rfl 1 rfl ?_
    refine z_iload_n C d_R_lieOf_55 rfl 2 rfl ?_
    refine z_as (zar_r7) C hv1 d_R_lieOf_56 (fun M8 hM8 => ?_)
    replace hw := hw M8 hM8
    refine z_iload_n C d_R_lieOf_57 rfl 3 rfl ?_
    exact z_iret C hr hw d_R_lieOf_58
  · replace hw := hw.2 h7
    refine z_aload_n C d_R_lieOf_18 rfl 0 rfl ?_
    refine gf_R_28 C d_R_lieOf_19 ?_
    refine z_iload_n C d_R_lieOf_22 rfl 1 rfl ?_
    refine z_iload C d_R_lieOf_23 4 rfl ?_
    refine z_as (zar_r7) C hv1 d_R_lieOf_25 (fun M9 hM9 => ?_)
    replace hw := hw M9 hM9
    refine z_iload_n C d_R_lieOf_26 rfl 3 rfl ?_
    refine z_aload_n C d_R_lieOf_27 rfl 0 rfl ?_
    refine z_callVi C (As := []) (rest := [.int i4]) m_R_isSeen tw_1094 0 (le_R) rfl ⟨rfl, rfl⟩ (c_R_isSeen g hw) rfl rfl rfl d_R_lieOf_28 (fun r11 M10 hw => ?_)
    have hj14 : ∀ u13 : Int32, u13 = (if r11 = 0 then 0 else ((1 : Int32) <<< (i5 &&& 31))) → Zj X 5 (oR g) M10 42 [(0, .ref (ax g 0)), (1, .int a1), (2, .int (M 7 (tn a1))), (4, .int i5)] [.int u13, .int i4] := by
      intro u13 hu13
      replace hw := hw u13 hu13
      refine z_ior C d_R_lieOf_42 ?_
      refine z_istore_n (lv' := [(3, .int (i4 ||| u13)), (0, .ref (ax g 0)), (1, .int a1), (2, .int (M 7 (tn a1))), (4, .int i5)]) C d_R_lieOf_43 rfl rfl rfl ?_
      refine z_iinc (v := (i5 + 1)) (lv' := [(4, .int (i5 + 1)), (3, .int (i4 ||| u13)), (0, .ref (ax g 0)), (1, .int a1), (2, .int (M 7 (tn a1)))]) C d_R_lieOf_44 4 rfl rfl rfl rfl ?_
      refine z_goto C 12 d_R_lieOf_47 (by decide) ?_
      refine z_sub [2, 3, 4, 1, 0] rfl ?_
      exact ih3 _ _ _ hw
    refine z_if_eq C 41 d_R_lieOf_31 (by decide) (fun h12 => ?_) (fun h12 => ?_)
    · refine z_iconst (v := 0) C d_R_lieOf_41 (by decide) ?_
      refine z_sub [0, 1, 2, 4] rfl ?_
      exact hj14 _ ((if_pos h12)).symm
    · refine z_iconst (v := 1) C d_R_lieOf_34 (by decide) ?_
      refine z_iload C d_R_lieOf_35 4 rfl ?_
      refine z_ishl C d_R_lieOf_37 ?_
      refine z_goto C 42 d_R_lieOf_38 (by decide) ?_
      refine z_sub [0, 1, 2, 4] rfl ?_
      exact hj14 _ ((if_neg h12)).symm
theorem d_R_chance_0 : decode prog_8_method_94_code 0 = .ok (.aload_n 0, 1) := by decide +kernel
theorem d_R_chance_1 : decode prog_8_method_94_code 1 = .ok (.invokevirtual 228, 3) := by decide +kernel
theorem d_R_chance_4 : decode prog_8_method_94_code 4 = .ok (.iload_n 1, 1) := by decide +kernel
theorem d_R_chance_5 : decode prog_8_method_94_code 5 = .ok (.i2l, 1) := by decide +kernel
theorem d_R_chance_6 : decode prog_8_method_94_code 6 = .ok (.lconst 0, 1) := by decide +kernel
theorem d_R_chance_7 : decode prog_8_method_94_code 7 = .ok (.ldc2_w 310, 3) := by decide +kernel
theorem d_R_chance_10 : decode prog_8_method_94_code 10 = .ok (.invokestatic 97, 3) := by decide +kernel
theorem d_R_chance_13 : decode prog_8_method_94_code 13 = .ok (.ifCond .eq (28), 3) := by decide +kernel
theorem d_R_chance_16 : decode prog_8_method_94_code 16 = .ok (.aload_n 0, 1) := by decide +kernel
theorem d_R_chance_17 : decode prog_8_method_94_code 17 = .ok (.iload_n 2, 1) := by decide +kernel
theorem d_R_chance_18 : decode prog_8_method_94_code 18 = .ok (.invokevirtual 184, 3) := by decide +kernel
theorem d_R_chance_21 : decode prog_8_method_94_code 21 = .ok (.ifCond .eq (20), 3) := by decide +kernel
theorem d_R_chance_24 : decode prog_8_method_94_code 24 = .ok (.iload_n 3, 1) := by decide +kernel
theorem d_R_chance_25 : decode prog_8_method_94_code 25 = .ok (.invokestatic 234, 3) := by decide +kernel
theorem d_R_chance_28 : decode prog_8_method_94_code 28 = .ok (.ifCond .eq (13), 3) := by decide +kernel
theorem d_R_chance_31 : decode prog_8_method_94_code 31 = .ok (.aload_n 0, 1) := by decide +kernel
theorem d_R_chance_32 : decode prog_8_method_94_code 32 = .ok (.iload_n 1, 1) := by decide +kernel
theorem d_R_chance_33 : decode prog_8_method_94_code 33 = .ok (.iload_n 2, 1) := by decide +kernel
theorem d_R_chance_34 : decode prog_8_method_94_code 34 = .ok (.iload_n 3, 1) := by decide +kernel
theorem d_R_chance_35 : decode prog_8_method_94_code 35 = .ok (.invokevirtual 312, 3) := by decide +kernel
theorem d_R_chance_38 : decode prog_8_method_94_code 38 = .ok (.goto (8), 3) := by decide +kernel
theorem d_R_chance_41 : decode prog_8_method_94_code 41 = .ok (.bipush (-2), 2) := by decide +kernel
theorem d_R_chance_43 : decode prog_8_method_94_code 43 = .ok (.invokestatic 316, 3) := by decide +kernel
theorem d_R_chance_46 : decode prog_8_method_94_code 46 = .ok (.lreturn, 1) := by decide +kernel
def wp_R_chance (a1 : Int32) (a2 : Int32) (a3 : Int32) (M : Mem) (post : Int64 → Mem → Prop) : Prop :=
  wp_R_find M (fun M1 => ((((pf_R_in (Int32.toInt64 a1) 0 (16)) = 0) → post (pf_R_no (-2)) M1) ∧ (¬ ((pf_R_in (Int32.toInt64 a1) 0 (16)) = 0) → wp_R_isBus a2 M1 (fun r6 => (((r6 = 0) → post (pf_R_no (-2)) M1) ∧ (¬ (r6 = 0) → ((((pf_R_isTwo a3) = 0) → post (pf_R_no (-2)) M1) ∧ (¬ ((pf_R_isTwo a3) = 0) → wp_R_chanceOf a1 a2 a3 M1 (fun r13 M12 => post r13 M12)))))))))
set_option maxHeartbeats 4000000 in
set_option maxRecDepth 100000 in
theorem c_R_chance (g : GX) {a1 : Int32} {a2 : Int32} {a3 : Int32} {M : Mem} {post : Int64 → Mem → Prop} (hw : wp_R_chance a1 a2 a3 M post) : CtL (oR g) y_R_chance prog_8_method_94_code 4 (some .long) (rl 6) [.ref (ax g 0), .int a1, .int a2, .int a3] M post := by
  refine z_metL (oR_ok g) (by decide) rfl (fun X C hr => ?_)
  show Zj X 4 (oR g) M 0 [(0, .ref (ax g 0)), (1, .int a1), (2, .int a2), (3, .int a3)] []
  unfold wp_R_chance at hw
  refine z_aload_n C d_R_chance_0 rfl 0 rfl ?_
  refine z_callVv C (As := []) (rest := []) m_R_find tw_931 0 (le_R) rfl ⟨rfl, rfl⟩ (c_R_find g hw) rfl rfl rfl d_R_chance_1 (fun M1 hw => ?_)
  refine z_iload_n C d_R_chance_4 rfl 1 rfl ?_
  refine z_i2l C d_R_chance_5 ?_
  refine z_lconst (v := 0) C d_R_chance_6 (by decide) ?_
  refine z_ldc2 C d_R_chance_7 tw_1134 ?_
  refine z_callSi C (As := [.long (Int32.toInt64 a1), .long 0, .long (16)]) (rest := []) m_R_in tw_786 ⟨rfl, rfl⟩ (c_R_in (oR_ok g) _ _ _ _) rfl rfl rfl d_R_chance_10 (fun r M2 hq => ?_)
  obtain ⟨rfl, rfl⟩ := hq
  refine z_if_eq C 41 d_R_chance_13 (by decide) (fun h4 => ?_) (fun h4 => ?_)
  · replace hw := hw.1 h4
    refine z_bipush (v := (-2)) C d_R_chance_41 (by decide) ?_
    refine z_callSl C (As := [.int (-2)]) (rest := []) m_R_no tw_1142 ⟨rfl, rfl⟩ (c_R_no (oR_ok g) _ _) rfl rfl rfl d_R_chance_43 (fun r M2 hq => ?_)
    obtain ⟨rfl, rfl⟩ := hq
    exact z_lret C hr hw d_R_chance_46
  · replace hw := hw.2 h4
    refine z_aload_n C d_R_chance_16 rfl 0 rfl ?_
    refine z_iload_n C d_R_chance_17 rfl 2 rfl ?_
    refine z_callVi C (As := [.int a2]) (rest := []) m_R_isBus tw_905 0 (le_R) rfl ⟨rfl, rfl⟩ (c_R_isBus g hw) rfl rfl rfl d_R_chance_18 (fun r6 M2 hq => ?_)
    obtain ⟨rfl, hw⟩ := hq
    refine z_if_eq C 41 d_R_chance_21 (by decide) (fun h7 => ?_) (fun h7 => ?_)
    · replace hw := hw.1 h7
      refine z_bipush (v := (-2)) C d_R_chance_41 (by decide) ?_
      refine z_callSl C (As := [.int (-2)]) (rest := []) m_R_no tw_1142 ⟨rfl, rfl⟩ (c_R_no (oR_ok g) _ _) rfl rfl rfl d_R_chance_43 (fun r M2 hq => ?_)
      obtain ⟨rfl, rfl⟩ := hq
      exact z_lret C hr hw d_R_chance_46
    · replace hw := hw.2 h7
      refine z_iload_n C d_R_chance_24 rfl 3 rfl ?_
      refine z_callSi C (As := [.int a3]) (rest := []) m_R_isTwo tw_985 ⟨rfl, rfl⟩ (c_R_isTwo (oR_ok g) _ _) rfl rfl rfl d_R_chance_25 (fun r M2 hq => ?_)
      obtain ⟨rfl, rfl⟩ := hq
      refine z_if_eq C 41 d_R_chance_28 (by decide) (fun h10 => ?_) (fun h10 => ?_)
      · replace hw := hw.1 h10
        refine z_bipush (v := (-2)) C d_R_chance_41 (by decide) ?_
        refine z_callSl C (As := [.int (-2)]) (rest := []) m_R_no tw_1142 ⟨rfl, rfl⟩ (c_R_no (oR_ok g) _ _) rfl rfl rfl d_R_chance_43 (fun r M2 hq => ?_)
        obtain ⟨rfl, rfl⟩ := hq
        exact z_lret C hr hw d_R_chance_46
      · replace hw := hw.2 h10
        refine z_aload_n C d_R_chance_31 rfl 0 rfl ?_
        refine z_iload_n C d_R_chance_32 rfl 1 rfl ?_
        refine z_iload_n C d_R_chance_33 rfl 2 rfl ?_
        refine z_iload_n C d_R_chance_34 rfl 3 rfl ?_
        refine z_callVl C (As := [.int a1, .int a2, .int a3]) (rest := []) m_R_chanceOf tw_1135 0 (le_R) rfl ⟨rfl, rfl⟩ (c_R_chanceOf g hw) rfl rfl rfl d_R_chance_35 (fun r13 M12 hw => ?_)
        refine z_goto C 46 d_R_chance_38 (by decide) ?_
        exact z_lret C hr hw d_R_chance_46
theorem d_R_winters_0 : decode prog_8_method_97_code 0 = .ok (.aload_n 0, 1) := by decide +kernel
theorem d_R_winters_1 : decode prog_8_method_97_code 1 = .ok (.invokevirtual 228, 3) := by decide +kernel
theorem d_R_winters_4 : decode prog_8_method_97_code 4 = .ok (.iload_n 2, 1) := by decide +kernel
theorem d_R_winters_5 : decode prog_8_method_97_code 5 = .ok (.i2l, 1) := by decide +kernel
theorem d_R_winters_6 : decode prog_8_method_97_code 6 = .ok (.lconst 0, 1) := by decide +kernel
theorem d_R_winters_7 : decode prog_8_method_97_code 7 = .ok (.ldc2_w 327, 3) := by decide +kernel
theorem d_R_winters_10 : decode prog_8_method_97_code 10 = .ok (.invokestatic 97, 3) := by decide +kernel
theorem d_R_winters_13 : decode prog_8_method_97_code 13 = .ok (.ifCond .eq (20), 3) := by decide +kernel
theorem d_R_winters_16 : decode prog_8_method_97_code 16 = .ok (.iload_n 3, 1) := by decide +kernel
theorem d_R_winters_17 : decode prog_8_method_97_code 17 = .ok (.invokestatic 234, 3) := by decide +kernel
theorem d_R_winters_20 : decode prog_8_method_97_code 20 = .ok (.ifCond .eq (13), 3) := by decide +kernel
theorem d_R_winters_23 : decode prog_8_method_97_code 23 = .ok (.aload_n 0, 1) := by decide +kernel
theorem d_R_winters_24 : decode prog_8_method_97_code 24 = .ok (.iload_n 1, 1) := by decide +kernel
theorem d_R_winters_25 : decode prog_8_method_97_code 25 = .ok (.iload_n 2, 1) := by decide +kernel
theorem d_R_winters_26 : decode prog_8_method_97_code 26 = .ok (.iload_n 3, 1) := by decide +kernel
theorem d_R_winters_27 : decode prog_8_method_97_code 27 = .ok (.invokevirtual 329, 3) := by decide +kernel
theorem d_R_winters_30 : decode prog_8_method_97_code 30 = .ok (.goto (5), 3) := by decide +kernel
theorem d_R_winters_33 : decode prog_8_method_97_code 33 = .ok (.bipush (-2), 2) := by decide +kernel
theorem d_R_winters_35 : decode prog_8_method_97_code 35 = .ok (.ireturn, 1) := by decide +kernel
def wp_R_winters (a1 : Int32) (a2 : Int32) (a3 : Int32) (M : Mem) (post : Int32 → Mem → Prop) : Prop :=
  wp_R_find M (fun M1 => ((((pf_R_in (Int32.toInt64 a2) 0 (24)) = 0) → post (-2) M1) ∧ (¬ ((pf_R_in (Int32.toInt64 a2) 0 (24)) = 0) → ((((pf_R_isTwo a3) = 0) → post (-2) M1) ∧ (¬ ((pf_R_isTwo a3) = 0) → wp_R_wintersOf a1 a2 a3 M1 (fun r8 M7 => post r8 M7))))))
set_option maxHeartbeats 4000000 in
set_option maxRecDepth 100000 in
theorem c_R_winters (g : GX) {a1 : Int32} {a2 : Int32} {a3 : Int32} {M : Mem} {post : Int32 → Mem → Prop} (hw : wp_R_winters a1 a2 a3 M post) : CtI (oR g) y_R_winters prog_8_method_97_code 4 (some .int) (rl 6) [.ref (ax g 0), .int a1, .int a2, .int a3] M post := by
  refine z_metI (oR_ok g) (by decide) rfl (fun X C hr => ?_)
  show Zj X 4 (oR g) M 0 [(0, .ref (ax g 0)), (1, .int a1), (2, .int a2), (3, .int a3)] []
  unfold wp_R_winters at hw
  refine z_aload_n C d_R_winters_0 rfl 0 rfl ?_
  refine z_callVv C (As := []) (rest := []) m_R_find tw_931 0 (le_R) rfl ⟨rfl, rfl⟩ (c_R_find g hw) rfl rfl rfl d_R_winters_1 (fun M1 hw => ?_)
  refine z_iload_n C d_R_winters_4 rfl 2 rfl ?_
  refine z_i2l C d_R_winters_5 ?_
  refine z_lconst (v := 0) C d_R_winters_6 (by decide) ?_
  refine z_ldc2 C d_R_winters_7 tw_1150 ?_
  refine z_callSi C (As := [.long (Int32.toInt64 a2), .long 0, .long (24)]) (rest := []) m_R_in tw_786 ⟨rfl, rfl⟩ (c_R_in (oR_ok g) _ _ _ _) rfl rfl rfl d_R_winters_10 (fun r M2 hq => ?_)
  obtain ⟨rfl, rfl⟩ := hq
  refine z_if_eq C 33 d_R_winters_13 (by decide) (fun h4 => ?_) (fun h4 => ?_)
  · replace hw := hw.1 h4
    refine z_bipush (v := (-2)) C d_R_winters_33 (by decide) ?_
    exact z_iret C hr hw d_R_winters_35
  · replace hw := hw.2 h4
    refine z_iload_n C d_R_winters_16 rfl 3 rfl ?_
    refine z_callSi C (As := [.int a3]) (rest := []) m_R_isTwo tw_985 ⟨rfl, rfl⟩ (c_R_isTwo (oR_ok g) _ _) rfl rfl rfl d_R_winters_17 (fun r M2 hq => ?_)
    obtain ⟨rfl, rfl⟩ := hq
    refine z_if_eq C 33 d_R_winters_20 (by decide) (fun h6 => ?_) (fun h6 => ?_)
    · replace hw := hw.1 h6
      refine z_bipush (v := (-2)) C d_R_winters_33 (by decide) ?_
      exact z_iret C hr hw d_R_winters_35
    · replace hw := hw.2 h6
      refine z_aload_n C d_R_winters_23 rfl 0 rfl ?_
      refine z_iload_n C d_R_winters_24 rfl 1 rfl ?_
      refine z_iload_n C d_R_winters_25 rfl 2 rfl ?_
      refine z_iload_n C d_R_winters_26 rfl 3 rfl ?_
      refine z_callVi C (As := [.int a1, .int a2, .int a3]) (rest := []) m_R_wintersOf tw_1151 0 (le_R) rfl ⟨rfl, rfl⟩ (c_R_wintersOf g hw) rfl rfl rfl d_R_winters_27 (fun r8 M7 hw => ?_)
      refine z_goto C 35 d_R_winters_30 (by decide) ?_
      exact z_iret C hr hw d_R_winters_35
theorem d_R_write_0 : decode prog_8_method_98_code 0 = .ok (.iload_n 1, 1) := by decide +kernel
theorem d_R_write_1 : decode prog_8_method_98_code 1 = .ok (.invokestatic 175, 3) := by decide +kernel
theorem d_R_write_4 : decode prog_8_method_98_code 4 = .ok (.ifCond .eq (10), 3) := by decide +kernel
theorem d_R_write_7 : decode prog_8_method_98_code 7 = .ok (.iload_n 2, 1) := by decide +kernel
theorem d_R_write_8 : decode prog_8_method_98_code 8 = .ok (.invokestatic 106, 3) := by decide +kernel
theorem d_R_write_11 : decode prog_8_method_98_code 11 = .ok (.ifCond .ne (6), 3) := by decide +kernel
theorem d_R_write_14 : decode prog_8_method_98_code 14 = .ok (.bipush (-2), 2) := by decide +kernel
theorem d_R_write_16 : decode prog_8_method_98_code 16 = .ok (.ireturn, 1) := by decide +kernel
theorem d_R_write_17 : decode prog_8_method_98_code 17 = .ok (.aload_n 0, 1) := by decide +kernel
theorem d_R_write_18 : decode prog_8_method_98_code 18 = .ok (.getfield 7, 3) := by decide +kernel
theorem d_R_write_21 : decode prog_8_method_98_code 21 = .ok (.iload_n 2, 1) := by decide +kernel
theorem d_R_write_22 : decode prog_8_method_98_code 22 = .ok (.iaload, 1) := by decide +kernel
theorem d_R_write_23 : decode prog_8_method_98_code 23 = .ok (.ifCond .ge (9), 3) := by decide +kernel
theorem d_R_write_26 : decode prog_8_method_98_code 26 = .ok (.aload_n 0, 1) := by decide +kernel
theorem d_R_write_27 : decode prog_8_method_98_code 27 = .ok (.iconst 1, 1) := by decide +kernel
theorem d_R_write_28 : decode prog_8_method_98_code 28 = .ok (.invokevirtual 112, 3) := by decide +kernel
theorem d_R_write_31 : decode prog_8_method_98_code 31 = .ok (.ireturn, 1) := by decide +kernel
theorem d_R_write_32 : decode prog_8_method_98_code 32 = .ok (.aload_n 0, 1) := by decide +kernel
theorem d_R_write_33 : decode prog_8_method_98_code 33 = .ok (.invokevirtual 228, 3) := by decide +kernel
theorem d_R_write_36 : decode prog_8_method_98_code 36 = .ok (.aload_n 0, 1) := by decide +kernel
theorem d_R_write_37 : decode prog_8_method_98_code 37 = .ok (.getfield 13, 3) := by decide +kernel
theorem d_R_write_40 : decode prog_8_method_98_code 40 = .ok (.iload_n 2, 1) := by decide +kernel
theorem d_R_write_41 : decode prog_8_method_98_code 41 = .ok (.iaload, 1) := by decide +kernel
theorem d_R_write_42 : decode prog_8_method_98_code 42 = .ok (.bipush 24, 2) := by decide +kernel
theorem d_R_write_44 : decode prog_8_method_98_code 44 = .ok (.invokestatic 205, 3) := by decide +kernel
theorem d_R_write_47 : decode prog_8_method_98_code 47 = .ok (.istore_n 3, 1) := by decide +kernel
theorem d_R_write_48 : decode prog_8_method_98_code 48 = .ok (.iconst 0, 1) := by decide +kernel
theorem d_R_write_49 : decode prog_8_method_98_code 49 = .ok (.istore 4, 2) := by decide +kernel
theorem d_R_write_51 : decode prog_8_method_98_code 51 = .ok (.iload 4, 2) := by decide +kernel
theorem d_R_write_53 : decode prog_8_method_98_code 53 = .ok (.iload_n 3, 1) := by decide +kernel
theorem d_R_write_54 : decode prog_8_method_98_code 54 = .ok (.if_icmp .ge (42), 3) := by decide +kernel
theorem d_R_write_57 : decode prog_8_method_98_code 57 = .ok (.aload_n 0, 1) := by decide +kernel
theorem d_R_write_58 : decode prog_8_method_98_code 58 = .ok (.getfield 16, 3) := by decide +kernel
theorem d_R_write_61 : decode prog_8_method_98_code 61 = .ok (.bipush 60, 2) := by decide +kernel
theorem d_R_write_63 : decode prog_8_method_98_code 63 = .ok (.iload_n 2, 1) := by decide +kernel
theorem d_R_write_64 : decode prog_8_method_98_code 64 = .ok (.imul, 1) := by decide +kernel
theorem d_R_write_65 : decode prog_8_method_98_code 65 = .ok (.iload 4, 2) := by decide +kernel
theorem d_R_write_67 : decode prog_8_method_98_code 67 = .ok (.iadd, 1) := by decide +kernel
theorem d_R_write_68 : decode prog_8_method_98_code 68 = .ok (.aload_n 0, 1) := by decide +kernel
theorem d_R_write_69 : decode prog_8_method_98_code 69 = .ok (.getfield 7, 3) := by decide +kernel
theorem d_R_write_72 : decode prog_8_method_98_code 72 = .ok (.iload_n 2, 1) := by decide +kernel
theorem d_R_write_73 : decode prog_8_method_98_code 73 = .ok (.iaload, 1) := by decide +kernel
theorem d_R_write_74 : decode prog_8_method_98_code 74 = .ok (.aload_n 0, 1) := by decide +kernel
theorem d_R_write_75 : decode prog_8_method_98_code 75 = .ok (.getfield 70, 3) := by decide +kernel
theorem d_R_write_78 : decode prog_8_method_98_code 78 = .ok (.bipush 12, 2) := by decide +kernel
theorem d_R_write_80 : decode prog_8_method_98_code 80 = .ok (.iload 4, 2) := by decide +kernel
theorem d_R_write_82 : decode prog_8_method_98_code 82 = .ok (.imul, 1) := by decide +kernel
theorem d_R_write_83 : decode prog_8_method_98_code 83 = .ok (.iload_n 1, 1) := by decide +kernel
theorem d_R_write_84 : decode prog_8_method_98_code 84 = .ok (.iadd, 1) := by decide +kernel
theorem d_R_write_85 : decode prog_8_method_98_code 85 = .ok (.iaload, 1) := by decide +kernel
theorem d_R_write_86 : decode prog_8_method_98_code 86 = .ok (.invokestatic 120, 3) := by decide +kernel
theorem d_R_write_89 : decode prog_8_method_98_code 89 = .ok (.iastore, 1) := by decide +kernel
theorem d_R_write_90 : decode prog_8_method_98_code 90 = .ok (.iinc 4 1, 3) := by decide +kernel
theorem d_R_write_93 : decode prog_8_method_98_code 93 = .ok (.goto (-42), 3) := by decide +kernel
theorem d_R_write_96 : decode prog_8_method_98_code 96 = .ok (.iload_n 3, 1) := by decide +kernel
theorem d_R_write_97 : decode prog_8_method_98_code 97 = .ok (.ireturn, 1) := by decide +kernel
def wp_R_write (a1 : Int32) (a2 : Int32) (M : Mem) (post : Int32 → Mem → Prop) : Prop :=
  ((((pf_R_isMile a1) = 0) → post (-2) M) ∧ (¬ ((pf_R_isMile a1) = 0) → ((((pf_R_isSheet a2) = 0) → post (-2) M) ∧ (¬ ((pf_R_isSheet a2) = 0) → vp_in a2 4 ∧ (((0 ≤ (M 1 (tn a2))) → wp_R_find M (fun M7 => ∀ x10 : Int32, x10 = (pf_R_lesser (M7 2 (tn a2)) 24) → (it2 (fun rec11 (i13 : Int32) (M14 : Mem) => (((x10 ≤ i13) → post x10 M14) ∧ (¬ (x10 ≤ i13) → vp_in ((12 * i13) + a1) 288 ∧ vp_in ((60 * a2) + i13) 240 ∧ ∀ M18 : Mem, M18 = upm M14 3 (tn ((60 * a2) + i13)) (pf_R_cut (M14 1 (tn a2)) (M14 21 (tn ((12 * i13) + a1)))) → rec11 (i13 + 1) M18))) 4096 0 M7))) ∧ (¬ (0 ≤ (M 1 (tn a2))) → wp_R_finds 1 M (fun r21 M20 => post r21 M20)))))))
set_option maxHeartbeats 4000000 in
set_option maxRecDepth 100000 in
theorem c_R_write (g : GX) {a1 : Int32} {a2 : Int32} {M : Mem} {post : Int32 → Mem → Prop} (hw : wp_R_write a1 a2 M post) : CtI (oR g) y_R_write prog_8_method_98_code 5 (some .int) (rl 6) [.ref (ax g 0), .int a1, .int a2] M post := by
  refine z_metI (oR_ok g) (by decide) rfl (fun X C hr => ?_)
  show Zj X 5 (oR g) M 0 [(0, .ref (ax g 0)), (1, .int a1), (2, .int a2)] []
  unfold wp_R_write at hw
  refine z_iload_n C d_R_write_0 rfl 1 rfl ?_
  refine z_callSi C (As := [.int a1]) (rest := []) m_R_isMile tw_881 ⟨rfl, rfl⟩ (c_R_isMile (oR_ok g) _ _) rfl rfl rfl d_R_write_1 (fun r M2 hq => ?_)
  obtain ⟨rfl, rfl⟩ := hq
  refine z_if_eq C 14 d_R_write_4 (by decide) (fun h2 => ?_) (fun h2 => ?_)
  · replace hw := hw.1 h2
    refine z_bipush (v := (-2)) C d_R_write_14 (by decide) ?_
    exact z_iret C hr hw d_R_write_16
  · replace hw := hw.2 h2
    refine z_iload_n C d_R_write_7 rfl 2 rfl ?_
    refine z_callSi C (As := [.int a2]) (rest := []) m_R_isSheet tw_782 ⟨rfl, rfl⟩ (c_R_isSheet (oR_ok g) _ _) rfl rfl rfl d_R_write_8 (fun r M2 hq => ?_)
    obtain ⟨rfl, rfl⟩ := hq
    refine z_if_ne C 17 d_R_write_11 (by decide) (fun h4 => ?_) (fun h4 => ?_)
    · replace hw := hw.2 h4
      refine z_aload_n C d_R_write_17 rfl 0 rfl ?_
      refine gf_R_7 C d_R_write_18 ?_
      refine z_iload_n C d_R_write_21 rfl 2 rfl ?_
      have hv5 := hw.1
      replace hw := hw.2
      refine z_al (zar_r1) C hv5 d_R_write_22 ?_
      refine z_if_ge C 32 d_R_write_23 (by decide) (fun h6 => ?_) (fun h6 => ?_)
      · replace hw := hw.1 h6
        refine z_aload_n C d_R_write_32 rfl 0 rfl ?_
        refine z_callVv C (As := []) (rest := []) m_R_find tw_931 0 (le_R) rfl ⟨rfl, rfl⟩ (c_R_find g hw) rfl rfl rfl d_R_write_33 (fun M7 hw => ?_)
        refine z_aload_n C d_R_write_36 rfl 0 rfl ?_
        refine gf_R_13 C d_R_write_37 ?_
        refine z_iload_n C d_R_write_40 rfl 2 rfl ?_
        refine z_al (zar_r2) C hv5 d_R_write_41 ?_
        refine z_bipush (v := 24) C d_R_write_42 (by decide) ?_
        refine z_callSi C (As := [.int (M7 2 (tn a2)), .int 24]) (rest := []) m_R_lesser tw_954 ⟨rfl, rfl⟩ (c_R_lesser (oR_ok g) _ _ _) rfl rfl rfl d_R_write_44 (fun r M2 hq => ?_)
        obtain ⟨rfl, rfl⟩ := hq
        obtain ⟨x10, hx10⟩ : ∃ z : Int32, z = (pf_R_lesser (M7 2 (tn a2)) 24) := ⟨_, rfl⟩
        rw [← hx10]
        replace hw := hw x10 hx10
        refine z_istore_n (lv' := [(3, .int x10), (0, .ref (ax g 0)), (1, .int a1), (2, .int a2)]) C d_R_write_47 rfl rfl rfl ?_
        refine z_iconst (v := 0) C d_R_write_48 (by decide) ?_
        refine z_istore (lv' := [(4, .int 0), (3, .int x10), (0, .ref (ax g 0)), (1, .int a1), (2, .int a2)]) C d_R_write_49 rfl rfl ?_
        refine z_sub [2, 3, 4, 1, 0] rfl ?_
        refine it2_Z (Z := fun (i13 : Int32) (M14 : Mem) => Zj X 5 (oR g) M14 51 [(0, .ref (ax g 0)), (1, .int a1), (2, .int a2), (3, .int x10), (4, .int i13)] []) (fun rec11 ih12 i13 M14 hw => ?_) _ _ _ hw
        refine z_iload C d_R_write_51 4 rfl ?_
        refine z_iload_n C d_R_write_53 rfl 3 rfl ?_
        refine z_ic_ge C 96 d_R_write_54 (by decide) (fun h15 => ?_) (fun h15 => ?_)
        · replace hw := hw.1 h15
          refine z_iload_n C d_R_write_96 rfl 3 rfl ?_
          exact z_iret C hr hw d_R_write_97
        · replace hw := hw.2 h15
          refine z_aload_n C d_R_write_57 rfl 0 rfl ?_
          refine gf_R_16 C d_R_write_58 ?_
          refine z_bipush (v := 60) C d_R_write_61 (by decide) ?_
          refine z_iload_n C d_R_write_63 rfl 2 rfl ?_
          refine z_imul C d_R_write_64 ?_
          refine z_iload C d_R_write_65 4 rfl ?_
          refine z_iadd C d_R_write_67 ?_
          refine z_aload_n C d_R_write_68 rfl 0 rfl ?_
          refine gf_R_7 C d_R_write_69 ?_
          refine z_iload_n C d_R_write_72 rfl 2 rfl ?_
          refine z_al (zar_r1) C hv5 d_R_write_73 ?_
          refine z_aload_n C d_R_write_74 rfl 0 rfl ?_
          refine gf_R_70 C d_R_write_75 ?_
          refine z_bipush (v := 12) C d_R_write_78 (by decide) ?_
          refine z_iload C d_R_write_80 4 rfl ?_
          refine z_imul C d_R_write_82 ?_
          refine z_iload_n C d_R_write_83 rfl 1 rfl ?_
          refine z_iadd C d_R_write_84 ?_
          have hv16 := hw.1
          replace hw := hw.2
          refine z_al (zar_r21) C hv16 d_R_write_85 ?_
          refine z_callSi C (As := [.int (M14 1 (tn a2)), .int (M14 21 (tn ((12 * i13) + a1)))]) (rest := [.int ((60 * a2) + i13), .ref (ax g 3)]) m_R_cut tw_806 ⟨rfl, rfl⟩ (c_R_cut (oR_ok g) _ _ _) rfl rfl rfl d_R_write_86 (fun r M2 hq => ?_)
          obtain ⟨rfl, rfl⟩ := hq
          have hv19 := hw.1
          refine z_as (zar_r3) C hv19 d_R_write_89 (fun M18 hM18 => ?_)
          replace hw := hw.2 M18 hM18
          refine z_iinc (v := (i13 + 1)) (lv' := [(4, .int (i13 + 1)), (0, .ref (ax g 0)), (1, .int a1), (2, .int a2), (3, .int x10)]) C d_R_write_90 4 rfl rfl rfl rfl ?_
          refine z_goto C 51 d_R_write_93 (by decide) ?_
          refine z_sub [1, 2, 3, 4, 0] rfl ?_
          exact ih12 _ _ hw
      · replace hw := hw.2 h6
        refine z_aload_n C d_R_write_26 rfl 0 rfl ?_
        refine z_iconst (v := 1) C d_R_write_27 (by decide) ?_
        refine z_callVi C (As := [.int 1]) (rest := []) m_R_finds tw_790 0 (le_R) rfl ⟨rfl, rfl⟩ (c_R_finds g hw) rfl rfl rfl d_R_write_28 (fun r21 M20 hw => ?_)
        exact z_iret C hr hw d_R_write_31
    · replace hw := hw.1 h4
      refine z_bipush (v := (-2)) C d_R_write_14 (by decide) ?_
      exact z_iret C hr hw d_R_write_16
theorem d_R_count_0 : decode prog_8_method_99_code 0 = .ok (.aload_n 0, 1) := by decide +kernel
theorem d_R_count_1 : decode prog_8_method_99_code 1 = .ok (.invokevirtual 228, 3) := by decide +kernel
theorem d_R_count_4 : decode prog_8_method_99_code 4 = .ok (.iload_n 1, 1) := by decide +kernel
theorem d_R_count_5 : decode prog_8_method_99_code 5 = .ok (.tableswitch 122 0 8 #[51, 56, 61, 89, 94, 99, 107, 112, 117], 51) := by decide +kernel
theorem d_R_count_56 : decode prog_8_method_99_code 56 = .ok (.aload_n 0, 1) := by decide +kernel
theorem d_R_count_57 : decode prog_8_method_99_code 57 = .ok (.getfield 146, 3) := by decide +kernel
theorem d_R_count_60 : decode prog_8_method_99_code 60 = .ok (.ireturn, 1) := by decide +kernel
theorem d_R_count_61 : decode prog_8_method_99_code 61 = .ok (.aload_n 0, 1) := by decide +kernel
theorem d_R_count_62 : decode prog_8_method_99_code 62 = .ok (.getfield 152, 3) := by decide +kernel
theorem d_R_count_65 : decode prog_8_method_99_code 65 = .ok (.ireturn, 1) := by decide +kernel
theorem d_R_count_66 : decode prog_8_method_99_code 66 = .ok (.aload_n 0, 1) := by decide +kernel
theorem d_R_count_67 : decode prog_8_method_99_code 67 = .ok (.getfield 25, 3) := by decide +kernel
theorem d_R_count_70 : decode prog_8_method_99_code 70 = .ok (.iconst 0, 1) := by decide +kernel
theorem d_R_count_71 : decode prog_8_method_99_code 71 = .ok (.iaload, 1) := by decide +kernel
theorem d_R_count_72 : decode prog_8_method_99_code 72 = .ok (.aload_n 0, 1) := by decide +kernel
theorem d_R_count_73 : decode prog_8_method_99_code 73 = .ok (.getfield 25, 3) := by decide +kernel
theorem d_R_count_76 : decode prog_8_method_99_code 76 = .ok (.iconst 1, 1) := by decide +kernel
theorem d_R_count_77 : decode prog_8_method_99_code 77 = .ok (.iaload, 1) := by decide +kernel
theorem d_R_count_78 : decode prog_8_method_99_code 78 = .ok (.iadd, 1) := by decide +kernel
theorem d_R_count_79 : decode prog_8_method_99_code 79 = .ok (.aload_n 0, 1) := by decide +kernel
theorem d_R_count_80 : decode prog_8_method_99_code 80 = .ok (.getfield 25, 3) := by decide +kernel
theorem d_R_count_83 : decode prog_8_method_99_code 83 = .ok (.iconst 2, 1) := by decide +kernel
theorem d_R_count_84 : decode prog_8_method_99_code 84 = .ok (.iaload, 1) := by decide +kernel
theorem d_R_count_85 : decode prog_8_method_99_code 85 = .ok (.iadd, 1) := by decide +kernel
theorem d_R_count_86 : decode prog_8_method_99_code 86 = .ok (.aload_n 0, 1) := by decide +kernel
theorem d_R_count_87 : decode prog_8_method_99_code 87 = .ok (.getfield 25, 3) := by decide +kernel
theorem d_R_count_90 : decode prog_8_method_99_code 90 = .ok (.iconst 3, 1) := by decide +kernel
theorem d_R_count_91 : decode prog_8_method_99_code 91 = .ok (.iaload, 1) := by decide +kernel
theorem d_R_count_92 : decode prog_8_method_99_code 92 = .ok (.iadd, 1) := by decide +kernel
theorem d_R_count_93 : decode prog_8_method_99_code 93 = .ok (.ireturn, 1) := by decide +kernel
theorem d_R_count_94 : decode prog_8_method_99_code 94 = .ok (.aload_n 0, 1) := by decide +kernel
theorem d_R_count_95 : decode prog_8_method_99_code 95 = .ok (.getfield 91, 3) := by decide +kernel
theorem d_R_count_98 : decode prog_8_method_99_code 98 = .ok (.ireturn, 1) := by decide +kernel
theorem d_R_count_99 : decode prog_8_method_99_code 99 = .ok (.aload_n 0, 1) := by decide +kernel
theorem d_R_count_100 : decode prog_8_method_99_code 100 = .ok (.getfield 189, 3) := by decide +kernel
theorem d_R_count_103 : decode prog_8_method_99_code 103 = .ok (.ireturn, 1) := by decide +kernel
theorem d_R_count_104 : decode prog_8_method_99_code 104 = .ok (.aload_n 0, 1) := by decide +kernel
theorem d_R_count_105 : decode prog_8_method_99_code 105 = .ok (.bipush 23, 2) := by decide +kernel
theorem d_R_count_107 : decode prog_8_method_99_code 107 = .ok (.iconst 0, 1) := by decide +kernel
theorem d_R_count_108 : decode prog_8_method_99_code 108 = .ok (.invokevirtual 237, 3) := by decide +kernel
theorem d_R_count_111 : decode prog_8_method_99_code 111 = .ok (.ireturn, 1) := by decide +kernel
theorem d_R_count_112 : decode prog_8_method_99_code 112 = .ok (.aload_n 0, 1) := by decide +kernel
theorem d_R_count_113 : decode prog_8_method_99_code 113 = .ok (.invokevirtual 258, 3) := by decide +kernel
theorem d_R_count_116 : decode prog_8_method_99_code 116 = .ok (.ireturn, 1) := by decide +kernel
theorem d_R_count_117 : decode prog_8_method_99_code 117 = .ok (.aload_n 0, 1) := by decide +kernel
theorem d_R_count_118 : decode prog_8_method_99_code 118 = .ok (.getfield 281, 3) := by decide +kernel
theorem d_R_count_121 : decode prog_8_method_99_code 121 = .ok (.ireturn, 1) := by decide +kernel
theorem d_R_count_122 : decode prog_8_method_99_code 122 = .ok (.aload_n 0, 1) := by decide +kernel
theorem d_R_count_123 : decode prog_8_method_99_code 123 = .ok (.getfield 101, 3) := by decide +kernel
theorem d_R_count_126 : decode prog_8_method_99_code 126 = .ok (.ireturn, 1) := by decide +kernel
theorem d_R_count_127 : decode prog_8_method_99_code 127 = .ok (.bipush (-2), 2) := by decide +kernel
theorem d_R_count_129 : decode prog_8_method_99_code 129 = .ok (.ireturn, 1) := by decide +kernel
def wp_R_count (a1 : Int32) (M : Mem) (post : Int32 → Mem → Prop) : Prop :=
  wp_R_find M (fun M1 => (((a1 = 0) → post (M1 0 9) M1) ∧ ((a1 = 1) → post (M1 0 11) M1) ∧ ((a1 = 2) → vp_in 0 4 ∧ vp_in 1 4 ∧ vp_in 2 4 ∧ vp_in 3 4 ∧ post ((((M1 6 (tn 0)) + (M1 6 (tn 1))) + (M1 6 (tn 2))) + (M1 6 (tn 3))) M1) ∧ ((a1 = 3) → post (M1 0 13) M1) ∧ ((a1 = 4) → post (M1 0 14) M1) ∧ ((a1 = 5) → wp_R_snowBy 23 0 M1 (fun r7 => post r7 M1)) ∧ ((a1 = 6) → wp_R_manyOver M1 (fun r8 => post r8 M1)) ∧ ((a1 = 7) → post (M1 0 31) M1) ∧ ((a1 = 8) → post (M1 0 4) M1) ∧ ((¬ a1 = 0) → (¬ a1 = 1) → (¬ a1 = 2) → (¬ a1 = 3) → (¬ a1 = 4) → (¬ a1 = 5) → (¬ a1 = 6) → (¬ a1 = 7) → (¬ a1 = 8) → post (-2) M1)))
set_option maxHeartbeats 4000000 in
set_option maxRecDepth 100000 in
theorem c_R_count (g : GX) {a1 : Int32} {M : Mem} {post : Int32 → Mem → Prop} (hw : wp_R_count a1 M post) : CtI (oR g) y_R_count prog_8_method_99_code 2 (some .int) (rl 6) [.ref (ax g 0), .int a1] M post := by
  refine z_metI (oR_ok g) (by decide) rfl (fun X C hr => ?_)
  show Zj X 2 (oR g) M 0 [(0, .ref (ax g 0)), (1, .int a1)] []
  unfold wp_R_count at hw
  refine z_aload_n C d_R_count_0 rfl 0 rfl ?_
  refine z_callVv C (As := []) (rest := []) m_R_find tw_931 0 (le_R) rfl ⟨rfl, rfl⟩ (c_R_find g hw) rfl rfl rfl d_R_count_1 (fun M1 hw => ?_)
  refine z_iload_n C d_R_count_4 rfl 1 rfl ?_
  refine z_table C [56, 61, 66, 94, 99, 104, 112, 117, 122] 127 d_R_count_5 rfl rfl rfl (by decide) (fun k t hk hx => ?_) (fun hx => ?_)
  · rcases k with _ | _ | _ | _ | _ | _ | _ | _ | _ | k
    · cases hk
      replace hw := hw.1 hx
      refine z_aload_n C d_R_count_56 rfl 0 rfl ?_
      refine gf_R_146 C d_R_count_57 ?_
      exact z_iret C hr hw d_R_count_60
    · cases hk
      replace hw := hw.2.1 hx
      refine z_aload_n C d_R_count_61 rfl 0 rfl ?_
      refine gf_R_152 C d_R_count_62 ?_
      exact z_iret C hr hw d_R_count_65
    · cases hk
      replace hw := hw.2.2.1 hx
      refine z_aload_n C d_R_count_66 rfl 0 rfl ?_
      refine gf_R_25 C d_R_count_67 ?_
      refine z_iconst (v := 0) C d_R_count_70 (by decide) ?_
      have hv3 := hw.1
      replace hw := hw.2
      refine z_al (zar_r6) C hv3 d_R_count_71 ?_
      refine z_aload_n C d_R_count_72 rfl 0 rfl ?_
      refine gf_R_25 C d_R_count_73 ?_
      refine z_iconst (v := 1) C d_R_count_76 (by decide) ?_
      have hv4 := hw.1
      replace hw := hw.2
      refine z_al (zar_r6) C hv4 d_R_count_77 ?_
      refine z_iadd C d_R_count_78 ?_
      refine z_aload_n C d_R_count_79 rfl 0 rfl ?_
      refine gf_R_25 C d_R_count_80 ?_
      refine z_iconst (v := 2) C d_R_count_83 (by decide) ?_
      have hv5 := hw.1
      replace hw := hw.2
      refine z_al (zar_r6) C hv5 d_R_count_84 ?_
      refine z_iadd C d_R_count_85 ?_
      refine z_aload_n C d_R_count_86 rfl 0 rfl ?_
      refine gf_R_25 C d_R_count_87 ?_
      refine z_iconst (v := 3) C d_R_count_90 (by decide) ?_
      have hv6 := hw.1
      replace hw := hw.2
      refine z_al (zar_r6) C hv6 d_R_count_91 ?_
      refine z_iadd C d_R_count_92 ?_
      exact z_iret C hr hw d_R_count_93
    · cases hk
      replace hw := hw.2.2.2.1 hx
      refine z_aload_n C d_R_count_94 rfl 0 rfl ?_
      refine gf_R_91 C d_R_count_95 ?_
      exact z_iret C hr hw d_R_count_98
    · cases hk
      replace hw := hw.2.2.2.2.1 hx
      refine z_aload_n C d_R_count_99 rfl 0 rfl ?_
      refine gf_R_189 C d_R_count_100 ?_
      exact z_iret C hr hw d_R_count_103
    · cases hk
      replace hw := hw.2.2.2.2.2.1 hx
      refine z_aload_n C d_R_count_104 rfl 0 rfl ?_
      refine z_bipush (v := 23) C d_R_count_105 (by decide) ?_
      refine z_iconst (v := 0) C d_R_count_107 (by decide) ?_
      refine z_callVi C (As := [.int 23, .int 0]) (rest := []) m_R_snowBy tw_988 0 (le_R) rfl ⟨rfl, rfl⟩ (c_R_snowBy g hw) rfl rfl rfl d_R_count_108 (fun r7 M2 hq => ?_)
      obtain ⟨rfl, hw⟩ := hq
      exact z_iret C hr hw d_R_count_111
    · cases hk
      replace hw := hw.2.2.2.2.2.2.1 hx
      refine z_aload_n C d_R_count_112 rfl 0 rfl ?_
      refine z_callVi C (As := []) (rest := []) m_R_manyOver tw_1043 0 (le_R) rfl ⟨rfl, rfl⟩ (c_R_manyOver g hw) rfl rfl rfl d_R_count_113 (fun r8 M2 hq => ?_)
      obtain ⟨rfl, hw⟩ := hq
      exact z_iret C hr hw d_R_count_116
    · cases hk
      replace hw := hw.2.2.2.2.2.2.2.1 hx
      refine z_aload_n C d_R_count_117 rfl 0 rfl ?_
      refine gf_R_281 C d_R_count_118 ?_
      exact z_iret C hr hw d_R_count_121
    · cases hk
      replace hw := hw.2.2.2.2.2.2.2.2.1 hx
      refine z_aload_n C d_R_count_122 rfl 0 rfl ?_
      refine gf_R_101 C d_R_count_123 ?_
      exact z_iret C hr hw d_R_count_126
    · simp at hk
  · replace hw := hw.2.2.2.2.2.2.2.2.2 (hx 0 (by decide)) (hx 1 (by decide)) (hx 2 (by decide)) (hx 3 (by decide)) (hx 4 (by decide)) (hx 5 (by decide)) (hx 6 (by decide)) (hx 7 (by decide)) (hx 8 (by decide))
    refine z_bipush (v := (-2)) C d_R_count_127 (by decide) ?_
    exact z_iret C hr hw d_R_count_129
