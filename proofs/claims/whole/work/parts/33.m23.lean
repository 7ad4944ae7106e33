theorem d_R_chanceOf_0 : decode prog_8_method_93_code 0 = .ok (.lconst 0, 1) := by decide +kernel
theorem d_R_chanceOf_1 : decode prog_8_method_93_code 1 = .ok (.lstore 4, 2) := by decide +kernel
theorem d_R_chanceOf_3 : decode prog_8_method_93_code 3 = .ok (.iconst 0, 1) := by decide +kernel
theorem d_R_chanceOf_4 : decode prog_8_method_93_code 4 = .ok (.istore 6, 2) := by decide +kernel
theorem d_R_chanceOf_6 : decode prog_8_method_93_code 6 = .ok (.iload 6, 2) := by decide +kernel
theorem d_R_chanceOf_8 : decode prog_8_method_93_code 8 = .ok (.iconst 1, 1) := by decide +kernel
theorem d_R_chanceOf_9 : decode prog_8_method_93_code 9 = .ok (.aload_n 0, 1) := by decide +kernel
theorem d_R_chanceOf_10 : decode prog_8_method_93_code 10 = .ok (.getfield 189, 3) := by decide +kernel
theorem d_R_chanceOf_13 : decode prog_8_method_93_code 13 = .ok (.ishl, 1) := by decide +kernel
theorem d_R_chanceOf_14 : decode prog_8_method_93_code 14 = .ok (.if_icmp .ge (86), 3) := by decide +kernel
theorem d_R_chanceOf_17 : decode prog_8_method_93_code 17 = .ok (.aload_n 0, 1) := by decide +kernel
theorem d_R_chanceOf_18 : decode prog_8_method_93_code 18 = .ok (.iload 6, 2) := by decide +kernel
theorem d_R_chanceOf_20 : decode prog_8_method_93_code 20 = .ok (.putfield 194, 3) := by decide +kernel
theorem d_R_chanceOf_23 : decode prog_8_method_93_code 23 = .ok (.aload_n 0, 1) := by decide +kernel
theorem d_R_chanceOf_24 : decode prog_8_method_93_code 24 = .ok (.invokevirtual 225, 3) := by decide +kernel
theorem d_R_chanceOf_27 : decode prog_8_method_93_code 27 = .ok (.aload_n 0, 1) := by decide +kernel
theorem d_R_chanceOf_28 : decode prog_8_method_93_code 28 = .ok (.getfield 64, 3) := by decide +kernel
theorem d_R_chanceOf_31 : decode prog_8_method_93_code 31 = .ok (.iload_n 2, 1) := by decide +kernel
theorem d_R_chanceOf_32 : decode prog_8_method_93_code 32 = .ok (.iaload, 1) := by decide +kernel
theorem d_R_chanceOf_33 : decode prog_8_method_93_code 33 = .ok (.iconst (-1), 1) := by decide +kernel
theorem d_R_chanceOf_34 : decode prog_8_method_93_code 34 = .ok (.if_icmp .eq (7), 3) := by decide +kernel
theorem d_R_chanceOf_37 : decode prog_8_method_93_code 37 = .ok (.lconst 1, 1) := by decide +kernel
theorem d_R_chanceOf_38 : decode prog_8_method_93_code 38 = .ok (.goto (4), 3) := by decide +kernel
theorem d_R_chanceOf_41 : decode prog_8_method_93_code 41 = .ok (.lconst 0, 1) := by decide +kernel
theorem d_R_chanceOf_42 : decode prog_8_method_93_code 42 = .ok (.lstore 7, 2) := by decide +kernel
theorem d_R_chanceOf_44 : decode prog_8_method_93_code 44 = .ok (.iconst 0, 1) := by decide +kernel
theorem d_R_chanceOf_45 : decode prog_8_method_93_code 45 = .ok (.istore 9, 2) := by decide +kernel
theorem d_R_chanceOf_47 : decode prog_8_method_93_code 47 = .ok (.iload 9, 2) := by decide +kernel
theorem d_R_chanceOf_49 : decode prog_8_method_93_code 49 = .ok (.aload_n 0, 1) := by decide +kernel
theorem d_R_chanceOf_50 : decode prog_8_method_93_code 50 = .ok (.getfield 189, 3) := by decide +kernel
theorem d_R_chanceOf_53 : decode prog_8_method_93_code 53 = .ok (.if_icmp .ge (34), 3) := by decide +kernel
theorem d_R_chanceOf_56 : decode prog_8_method_93_code 56 = .ok (.lload 7, 2) := by decide +kernel
theorem d_R_chanceOf_58 : decode prog_8_method_93_code 58 = .ok (.iload 6, 2) := by decide +kernel
theorem d_R_chanceOf_60 : decode prog_8_method_93_code 60 = .ok (.iload 9, 2) := by decide +kernel
theorem d_R_chanceOf_62 : decode prog_8_method_93_code 62 = .ok (.invokestatic 197, 3) := by decide +kernel
theorem d_R_chanceOf_65 : decode prog_8_method_93_code 65 = .ok (.ifCond .eq (11), 3) := by decide +kernel
theorem d_R_chanceOf_68 : decode prog_8_method_93_code 68 = .ok (.bipush 16, 2) := by decide +kernel
theorem d_R_chanceOf_70 : decode prog_8_method_93_code 70 = .ok (.iload_n 1, 1) := by decide +kernel
theorem d_R_chanceOf_71 : decode prog_8_method_93_code 71 = .ok (.isub, 1) := by decide +kernel
theorem d_R_chanceOf_72 : decode prog_8_method_93_code 72 = .ok (.i2l, 1) := by decide +kernel
theorem d_R_chanceOf_73 : decode prog_8_method_93_code 73 = .ok (.goto (5), 3) := by decide +kernel
theorem d_R_chanceOf_76 : decode prog_8_method_93_code 76 = .ok (.iload_n 1, 1) := by decide +kernel
theorem d_R_chanceOf_77 : decode prog_8_method_93_code 77 = .ok (.i2l, 1) := by decide +kernel
theorem d_R_chanceOf_78 : decode prog_8_method_93_code 78 = .ok (.lmul, 1) := by decide +kernel
theorem d_R_chanceOf_79 : decode prog_8_method_93_code 79 = .ok (.lstore 7, 2) := by decide +kernel
theorem d_R_chanceOf_81 : decode prog_8_method_93_code 81 = .ok (.iinc 9 1, 3) := by decide +kernel
theorem d_R_chanceOf_84 : decode prog_8_method_93_code 84 = .ok (.goto (-37), 3) := by decide +kernel
theorem d_R_chanceOf_87 : decode prog_8_method_93_code 87 = .ok (.lload 4, 2) := by decide +kernel
theorem d_R_chanceOf_89 : decode prog_8_method_93_code 89 = .ok (.lload 7, 2) := by decide +kernel
theorem d_R_chanceOf_91 : decode prog_8_method_93_code 91 = .ok (.ladd, 1) := by decide +kernel
theorem d_R_chanceOf_92 : decode prog_8_method_93_code 92 = .ok (.lstore 4, 2) := by decide +kernel
theorem d_R_chanceOf_94 : decode prog_8_method_93_code 94 = .ok (.iinc 6 1, 3) := by decide +kernel
theorem d_R_chanceOf_97 : decode prog_8_method_93_code 97 = .ok (.goto (-91), 3) := by decide +kernel
theorem d_R_chanceOf_100 : decode prog_8_method_93_code 100 = .ok (.aload_n 0, 1) := by decide +kernel
theorem d_R_chanceOf_101 : decode prog_8_method_93_code 101 = .ok (.iconst 0, 1) := by decide +kernel
theorem d_R_chanceOf_102 : decode prog_8_method_93_code 102 = .ok (.putfield 194, 3) := by decide +kernel
theorem d_R_chanceOf_105 : decode prog_8_method_93_code 105 = .ok (.lload 4, 2) := by decide +kernel
theorem d_R_chanceOf_107 : decode prog_8_method_93_code 107 = .ok (.lconst 1, 1) := by decide +kernel
theorem d_R_chanceOf_108 : decode prog_8_method_93_code 108 = .ok (.iconst 4, 1) := by decide +kernel
theorem d_R_chanceOf_109 : decode prog_8_method_93_code 109 = .ok (.aload_n 0, 1) := by decide +kernel
theorem d_R_chanceOf_110 : decode prog_8_method_93_code 110 = .ok (.getfield 189, 3) := by decide +kernel
theorem d_R_chanceOf_113 : decode prog_8_method_93_code 113 = .ok (.imul, 1) := by decide +kernel
theorem d_R_chanceOf_114 : decode prog_8_method_93_code 114 = .ok (.lshl, 1) := by decide +kernel
theorem d_R_chanceOf_115 : decode prog_8_method_93_code 115 = .ok (.iload_n 3, 1) := by decide +kernel
theorem d_R_chanceOf_116 : decode prog_8_method_93_code 116 = .ok (.invokestatic 306, 3) := by decide +kernel
theorem d_R_chanceOf_119 : decode prog_8_method_93_code 119 = .ok (.lreturn, 1) := by decide +kernel
def wp_R_chanceOf (a1 : Int32) (a2 : Int32) (a3 : Int32) (M : Mem) (post : Int64 → Mem → Prop) : Prop :=
  (it3 (fun rec1 (l3 : Int64) (i4 : Int32) (M5 : Mem) => (((((1 : Int32) <<< ((M5 0 14) &&& 31)) ≤ i4) → ∀ M7 : Mem, M7 = upm M5 0 16 0 → wp_R_part l3 ((1 : Int64) <<< (Int32.toInt64 (4 * (M7 0 14)) &&& 63)) a3 M7 (fun r8 => post r8 M7)) ∧ (¬ (((1 : Int32) <<< ((M5 0 14) &&& 31)) ≤ i4) → ∀ M9 : Mem, M9 = upm M5 0 16 i4 → wp_R_lives M9 (fun M10 => vp_in a2 8 ∧ ∀ u14 : Int64, u14 = (if (M10 19 (tn a2)) = (-1) then 0 else 1) → (it2 (fun rec15 (l17 : Int64) (i18 : Int32) => ((((M10 0 14) ≤ i18) → rec1 (l3 + l17) (i4 + 1) M10) ∧ (¬ ((M10 0 14) ≤ i18) → ∀ u22 : Int64, u22 = (if (pf_R_isIn i4 i18) = 0 then (Int32.toInt64 a1) else (Int32.toInt64 (16 - a1))) → rec15 (l17 * u22) (i18 + 1)))) 4096 u14 0))))) 4096 0 0 M)
set_option maxHeartbeats 4000000 in
set_option maxRecDepth 100000 in
theorem c_R_chanceOf (g : GX) {a1 : Int32} {a2 : Int32} {a3 : Int32} {M : Mem} {post : Int64 → Mem → Prop} (hw : wp_R_chanceOf a1 a2 a3 M post) : CtL (oR g) y_R_chanceOf prog_8_method_93_code 10 (some .long) (rl 5) [.ref (ax g 0), .int a1, .int a2, .int a3] M post := by
  refine z_metL (oR_ok g) (by decide) rfl (fun X C hr => ?_)
  show Zj X 10 (oR g) M 0 [(0, .ref (ax g 0)), (1, .int a1), (2, .int a2), (3, .int a3)] []
  unfold wp_R_chanceOf at hw
  refine z_lconst (v := 0) C d_R_chanceOf_0 (by decide) ?_
  refine z_lstore (lv' := [(4, .long 0), (0, .ref (ax g 0)), (1, .int a1), (2, .int a2), (3, .int a3)]) C d_R_chanceOf_1 rfl rfl ?_
  refine z_iconst (v := 0) C d_R_chanceOf_3 (by decide) ?_
  refine z_istore (lv' := [(6, .int 0), (4, .long 0), (0, .ref (ax g 0)), (1, .int a1), (2, .int a2), (3, .int a3)]) C d_R_chanceOf_4 rfl rfl ?_
  refine z_sub [2, 3, 4, 5, 1, 0] rfl ?_
  refine it3_Z (Z := fun (l3 : Int64) (i4 : Int32) (M5 : Mem) => Zj X 10 (oR g) M5 6 [(0, .ref (ax g 0)), (1, .int a1), (2, .int a2), (3, .int a3), (4, .long l3), (6, .int i4)] []) (fun rec1 ih2 l3 i4 M5 hw => ?_) _ _ _ _ hw
  refine z_iload C d_R_chanceOf_6 5 rfl ?_
  refine z_iconst (v := 1) C d_R_chanceOf_8 (by decide) ?_
  refine z_aload_n C d_R_chanceOf_9 rfl 0 rfl ?_
  refine gf_R_189 C d_R_chanceOf_10 ?_
  refine z_ishl C d_R_chanceOf_13 ?_
  refine z_ic_ge C 100 d_R_chanceOf_14 (by decide) (fun h6 => ?_) (fun h6 => ?_)
  · replace hw := hw.1 h6
    refine z_aload_n C d_R_chanceOf_100 rfl 0 rfl ?_
    refine z_iconst (v := 0) C d_R_chanceOf_101 (by decide) ?_
    refine pp_R_194 C d_R_chanceOf_102 (fun M7 hM7 => ?_)
    replace hw := hw M7 hM7
    refine z_lload C d_R_chanceOf_105 4 rfl ?_
    refine z_lconst (v := 1) C d_R_chanceOf_107 (by decide) ?_
    refine z_iconst (v := 4) C d_R_chanceOf_108 (by decide) ?_
    refine z_aload_n C d_R_chanceOf_109 rfl 0 rfl ?_
    refine gf_R_189 C d_R_chanceOf_110 ?_
    refine z_imul C d_R_chanceOf_113 ?_
    refine z_lshl C d_R_chanceOf_114 ?_
    refine z_iload_n C d_R_chanceOf_115 rfl 3 rfl ?_
    refine z_callSl C (As := [.long l3, .long ((1 : Int64) <<< (Int32.toInt64 (4 * (M7 0 14)) &&& 63)), .int a3]) (rest := []) m_R_part tw_1139 ⟨rfl, rfl⟩ (c_R_part g hw) rfl rfl rfl d_R_chanceOf_116 (fun r8 M2 hq => ?_)
    obtain ⟨rfl, hw⟩ := hq
    exact z_lret C hr hw d_R_chanceOf_119
  · replace hw := hw.2 h6
    refine z_aload_n C d_R_chanceOf_17 rfl 0 rfl ?_
    refine z_iload C d_R_chanceOf_18 5 rfl ?_
    refine pp_R_194 C d_R_chanceOf_20 (fun M9 hM9 => ?_)
    replace hw := hw M9 hM9
    refine z_aload_n C d_R_chanceOf_23 rfl 0 rfl ?_
    refine z_callVv C (As := []) (rest := []) m_R_lives tw_935 0 (le_R) rfl ⟨rfl, rfl⟩ (c_R_lives g hw) rfl rfl rfl d_R_chanceOf_24 (fun M10 hw => ?_)
    refine z_aload_n C d_R_chanceOf_27 rfl 0 rfl ?_
    refine gf_R_64 C d_R_chanceOf_28 ?_
    refine z_iload_n C d_R_chanceOf_31 rfl 2 rfl ?_
    have hv12 := hw.1
    replace hw := hw.2
    refine z_al (zar_r19) C hv12 d_R_chanceOf_32 ?_
    refine z_iconst (v := (-1)) C d_R_chanceOf_33 (by decide) ?_
    have hj24 : ∀ u14 : Int64, u14 = (if (M10 19 (tn a2)) = (-1) then 0 else 1) → Zj X 10 (oR g) M10 42 [(0, .ref (ax g 0)), (1, .int a1), (2, .int a2), (3, .int a3), (4, .long l3), (6, .int i4)] [.long u14] := by
      intro u14 hu14
      replace hw := hw u14 hu14
      refine z_lstore (lv' := [(7, .long u14), (0, .ref (ax g 0)), (1, .int a1), (2, .int a2), (3, .int a3), (4, .long l3), (6, .int i4)]) C d_R_chanceOf_42 rfl rfl ?_
      refine z_iconst (v := 0) C d_R_chanceOf_44 (by decide) ?_
      refine z_istore (lv' := [(9, .int 0), (7, .long u14), (0, .ref (ax g 0)), (1, .int a1), (2, .int a2), (3, .int a3), (4, .long l3), (6, .int i4)]) C d_R_chanceOf_45 rfl rfl ?_
      refine z_sub [2, 3, 4, 5, 6, 7, 1, 0] rfl ?_
      refine it2_Z (Z := fun (l17 : Int64) (i18 : Int32) => Zj X 10 (oR g) M10 47 [(0, .ref (ax g 0)), (1, .int a1), (2, .int a2), (3, .int a3), (4, .long l3), (6, .int i4), (7, .long l17), (9, .int i18)] []) (fun rec15 ih16 l17 i18 hw => ?_) _ _ _ hw
      refine z_iload C d_R_chanceOf_47 7 rfl ?_
      refine z_aload_n C d_R_chanceOf_49 rfl 0 rfl ?_
      refine gf_R_189 C d_R_chanceOf_50 ?_
      refine z_ic_ge C 87 d_R_chanceOf_53 (by decide) (fun h19 => ?_) (fun h19 => ?_)
      · replace hw := hw.1 h19
        refine z_lload C d_R_chanceOf_87 4 rfl ?_
        refine z_lload C d_R_chanceOf_89 6 rfl ?_
        refine z_ladd C d_R_chanceOf_91 ?_
        refine z_lstore (lv' := [(4, .long (l3 + l17)), (0, .ref (ax g 0)), (1, .int a1), (2, .int a2), (3, .int a3), (6, .int i4), (7, .long l17), (9, .int i18)]) C d_R_chanceOf_92 rfl rfl ?_
        refine z_iinc (v := (i4 + 1)) (lv' := [(6, .int (i4 + 1)), (4, .long (l3 + l17)), (0, .ref (ax g 0)), (1, .int a1), (2, .int a2), (3, .int a3), (7, .long l17), (9, .int i18)]) C d_R_chanceOf_94 5 rfl rfl rfl rfl ?_
        refine z_goto C 6 d_R_chanceOf_97 (by decide) ?_
        refine z_sub [2, 3, 4, 5, 1, 0] rfl ?_
        exact ih2 _ _ _ hw
      · replace hw := hw.2 h19
        refine z_lload C d_R_chanceOf_56 6 rfl ?_
        refine z_iload C d_R_chanceOf_58 5 rfl ?_
        refine z_iload C d_R_chanceOf_60 7 rfl ?_
        refine z_callSi C (As := [.int i4, .int i18]) (rest := [.long l17]) m_R_isIn tw_951 ⟨rfl, rfl⟩ (c_R_isIn (oR_ok g) _ _ _) rfl rfl rfl d_R_chanceOf_62 (fun r M2 hq => ?_)
        obtain ⟨rfl, rfl⟩ := hq
        have hj23 : ∀ u22 : Int64, u22 = (if (pf_R_isIn i4 i18) = 0 then (Int32.toInt64 a1) else (Int32.toInt64 (16 - a1))) → Zj X 10 (oR g) M10 78 [(0, .ref (ax g 0)), (1, .int a1), (2, .int a2), (3, .int a3), (4, .long l3), (6, .int i4), (9, .int i18)] [.long u22, .long l17] := by
          intro u22 hu22
          replace hw := hw u22 hu22
          refine z_lmul C d_R_chanceOf_78 ?_
          refine z_lstore (lv' := [(7, .long (l17 * u22)), (0, .ref (ax g 0)), (1, .int a1), (2, .int a2), (3, .int a3), (4, .long l3), (6, .int i4), (9, .int i18)]) C d_R_chanceOf_79 rfl rfl ?_
          refine z_iinc (v := (i18 + 1)) (lv' := [(9, .int (i18 + 1)), (7, .long (l17 * u22)), (0, .ref (ax g 0)), (1, .int a1), (2, .int a2), (3, .int a3), (4, .long l3), (6, .int i4)]) C d_R_chanceOf_81 7 rfl rfl rfl rfl ?_
          refine z_goto C 47 d_R_chanceOf_84 (by decide) ?_
          refine z_sub [2, 3, 4, 5, 6, 7, 1, 0] rfl ?_
          exact ih16 _ _ hw
        refine z_if_eq C 76 d_R_chanceOf_65 (by decide) (fun h21 => ?_) (fun h21 => ?_)
        · refine z_iload_n C d_R_chanceOf_76 rfl 1 rfl ?_
          refine z_i2l C d_R_chanceOf_77 ?_
          refine z_sub [0, 1, 2, 3, 4, 5, 7] rfl ?_
          exact hj23 _ ((if_pos h21)).symm
        · refine z_bipush (v := 16) C d_R_chanceOf_68 (by decide) ?_
          refine z_iload_n C d_R_chanceOf_70 rfl 1 rfl ?_
          refine z_isub C d_R_chanceOf_71 ?_
          refine z_i2l C d_R_chanceOf_72 ?_
          refine z_goto C 78 d_R_chanceOf_73 (by decide) ?_
          refine z_sub [0, 1, 2, 3, 4, 5, 7] rfl ?_
          exact hj23 _ ((if_neg h21)).symm
    refine z_ic_eq C 41 d_R_chanceOf_34 (by decide) (fun h13 => ?_) (fun h13 => ?_)
    · refine z_lconst (v := 0) C d_R_chanceOf_41 (by decide) ?_
      refine z_sub [0, 1, 2, 3, 4, 5] rfl ?_
      exact hj24 _ ((if_pos h13)).symm
    · refine z_lconst (v := 1) C d_R_chanceOf_37 (by decide) ?_
      refine z_goto C 42 d_R_chanceOf_38 (by decide) ?_
      refine z_sub [0, 1, 2, 3, 4, 5] rfl ?_
      exact hj24 _ ((if_neg h13)).symm
theorem d_R_wintersOf_0 : decode prog_8_method_96_code 0 = .ok (.aload_n 0, 1) := by decide +kernel
theorem d_R_wintersOf_1 : decode prog_8_method_96_code 1 = .ok (.iload_n 1, 1) := by decide +kernel
theorem d_R_wintersOf_2 : decode prog_8_method_96_code 2 = .ok (.putfield 321, 3) := by decide +kernel
theorem d_R_wintersOf_5 : decode prog_8_method_96_code 5 = .ok (.iconst 0, 1) := by decide +kernel
theorem d_R_wintersOf_6 : decode prog_8_method_96_code 6 = .ok (.istore 4, 2) := by decide +kernel
theorem d_R_wintersOf_8 : decode prog_8_method_96_code 8 = .ok (.iload 4, 2) := by decide +kernel
theorem d_R_wintersOf_10 : decode prog_8_method_96_code 10 = .ok (.bipush 24, 2) := by decide +kernel
theorem d_R_wintersOf_12 : decode prog_8_method_96_code 12 = .ok (.if_icmp .ge (31), 3) := by decide +kernel
theorem d_R_wintersOf_15 : decode prog_8_method_96_code 15 = .ok (.aload_n 0, 1) := by decide +kernel
theorem d_R_wintersOf_16 : decode prog_8_method_96_code 16 = .ok (.getfield 31, 3) := by decide +kernel
theorem d_R_wintersOf_19 : decode prog_8_method_96_code 19 = .ok (.iload 4, 2) := by decide +kernel
theorem d_R_wintersOf_21 : decode prog_8_method_96_code 21 = .ok (.iload 4, 2) := by decide +kernel
theorem d_R_wintersOf_23 : decode prog_8_method_96_code 23 = .ok (.iload_n 2, 1) := by decide +kernel
theorem d_R_wintersOf_24 : decode prog_8_method_96_code 24 = .ok (.if_icmp .ge (11), 3) := by decide +kernel
theorem d_R_wintersOf_27 : decode prog_8_method_96_code 27 = .ok (.aload_n 0, 1) := by decide +kernel
theorem d_R_wintersOf_28 : decode prog_8_method_96_code 28 = .ok (.iconst 5, 1) := by decide +kernel
theorem d_R_wintersOf_29 : decode prog_8_method_96_code 29 = .ok (.invokevirtual 324, 3) := by decide +kernel
theorem d_R_wintersOf_32 : decode prog_8_method_96_code 32 = .ok (.goto (4), 3) := by decide +kernel
theorem d_R_wintersOf_35 : decode prog_8_method_96_code 35 = .ok (.iconst 0, 1) := by decide +kernel
theorem d_R_wintersOf_36 : decode prog_8_method_96_code 36 = .ok (.iastore, 1) := by decide +kernel
theorem d_R_wintersOf_37 : decode prog_8_method_96_code 37 = .ok (.iinc 4 1, 3) := by decide +kernel
theorem d_R_wintersOf_40 : decode prog_8_method_96_code 40 = .ok (.goto (-32), 3) := by decide +kernel
theorem d_R_wintersOf_43 : decode prog_8_method_96_code 43 = .ok (.aload_n 0, 1) := by decide +kernel
theorem d_R_wintersOf_44 : decode prog_8_method_96_code 44 = .ok (.invokevirtual 225, 3) := by decide +kernel
theorem d_R_wintersOf_47 : decode prog_8_method_96_code 47 = .ok (.iload_n 3, 1) := by decide +kernel
theorem d_R_wintersOf_48 : decode prog_8_method_96_code 48 = .ok (.ifCond .ne (13), 3) := by decide +kernel
theorem d_R_wintersOf_51 : decode prog_8_method_96_code 51 = .ok (.aload_n 0, 1) := by decide +kernel
theorem d_R_wintersOf_52 : decode prog_8_method_96_code 52 = .ok (.bipush 23, 2) := by decide +kernel
theorem d_R_wintersOf_54 : decode prog_8_method_96_code 54 = .ok (.iconst 0, 1) := by decide +kernel
theorem d_R_wintersOf_55 : decode prog_8_method_96_code 55 = .ok (.invokevirtual 237, 3) := by decide +kernel
theorem d_R_wintersOf_58 : decode prog_8_method_96_code 58 = .ok (.goto (7), 3) := by decide +kernel
theorem d_R_wintersOf_61 : decode prog_8_method_96_code 61 = .ok (.aload_n 0, 1) := by decide +kernel
theorem d_R_wintersOf_62 : decode prog_8_method_96_code 62 = .ok (.invokevirtual 258, 3) := by decide +kernel
theorem d_R_wintersOf_65 : decode prog_8_method_96_code 65 = .ok (.istore 4, 2) := by decide +kernel
theorem d_R_wintersOf_67 : decode prog_8_method_96_code 67 = .ok (.aload_n 0, 1) := by decide +kernel
theorem d_R_wintersOf_68 : decode prog_8_method_96_code 68 = .ok (.invokevirtual 159, 3) := by decide +kernel
theorem d_R_wintersOf_71 : decode prog_8_method_96_code 71 = .ok (.pop, 1) := by decide +kernel
theorem d_R_wintersOf_72 : decode prog_8_method_96_code 72 = .ok (.iload 4, 2) := by decide +kernel
theorem d_R_wintersOf_74 : decode prog_8_method_96_code 74 = .ok (.ireturn, 1) := by decide +kernel
def wp_R_wintersOf (a1 : Int32) (a2 : Int32) (a3 : Int32) (M : Mem) (post : Int32 → Mem → Prop) : Prop :=
  ∀ M1 : Mem, M1 = upm M 0 34 a1 → (it2 (fun rec2 (i4 : Int32) (M5 : Mem) => (((24 ≤ i4) → wp_R_lives M5 (fun M7 => (((a3 = 0) → wp_R_snowBy 23 0 M7 (fun r13 => wp_R_readsFall M7 (fun r15 M14 => post r13 M14))) ∧ (¬ (a3 = 0) → wp_R_manyOver M7 (fun r10 => wp_R_readsFall M7 (fun r12 M11 => post r10 M11)))))) ∧ (¬ (24 ≤ i4) → (((a2 ≤ i4) → vp_in i4 24 ∧ ∀ M17 : Mem, M17 = upm M5 8 (tn i4) 0 → rec2 (i4 + 1) M17) ∧ (¬ (a2 ≤ i4) → wp_R_lot 5 M5 (fun r20 M19 => vp_in i4 24 ∧ ∀ M21 : Mem, M21 = upm M19 8 (tn i4) r20 → rec2 (i4 + 1) M21)))))) 4096 0 M1)
set_option maxHeartbeats 4000000 in
set_option maxRecDepth 100000 in
theorem c_R_wintersOf (g : GX) {a1 : Int32} {a2 : Int32} {a3 : Int32} {M : Mem} {post : Int32 → Mem → Prop} (hw : wp_R_wintersOf a1 a2 a3 M post) : CtI (oR g) y_R_wintersOf prog_8_method_96_code 5 (some .int) (rl 5) [.ref (ax g 0), .int a1, .int a2, .int a3] M post := by
  refine z_metI (oR_ok g) (by decide) rfl (fun X C hr => ?_)
  show Zj X 5 (oR g) M 0 [(0, .ref (ax g 0)), (1, .int a1), (2, .int a2), (3, .int a3)] []
  unfold wp_R_wintersOf at hw
  refine z_aload_n C d_R_wintersOf_0 rfl 0 rfl ?_
  refine z_iload_n C d_R_wintersOf_1 rfl 1 rfl ?_
  refine pp_R_321 C d_R_wintersOf_2 (fun M1 hM1 => ?_)
  replace hw := hw M1 hM1
  refine z_iconst (v := 0) C d_R_wintersOf_5 (by decide) ?_
  refine z_istore (lv' := [(4, .int 0), (0, .ref (ax g 0)), (1, .int a1), (2, .int a2), (3, .int a3)]) C d_R_wintersOf_6 rfl rfl ?_
  refine z_sub [1, 3, 4, 0] rfl ?_
  refine it2_Z (Z := fun (i4 : Int32) (M5 : Mem) => Zj X 5 (oR g) M5 8 [(0, .ref (ax g 0)), (2, .int a2), (3, .int a3), (4, .int i4)] []) (fun rec2 ih3 i4 M5 hw => ?_) _ _ _ hw
  refine z_iload C d_R_wintersOf_8 3 rfl ?_
  refine z_bipush (v := 24) C d_R_wintersOf_10 (by decide) ?_
  refine z_ic_ge C 43 d_R_wintersOf_12 (by decide) (fun h6 => ?_) (fun h6 => ?_)
  · replace hw := hw.1 h6
    refine z_aload_n C d_R_wintersOf_43 rfl 0 rfl ?_
    refine z_callVv C (As := []) (rest := []) m_R_lives tw_935 0 (le_R) rfl ⟨rfl, rfl⟩ (c_R_lives g hw) rfl rfl rfl d_R_wintersOf_44 (fun M7 hw => ?_)
    refine z_iload_n C d_R_wintersOf_47 rfl 2 rfl ?_
    refine z_if_ne C 61 d_R_wintersOf_48 (by decide) (fun h9 => ?_) (fun h9 => ?_)
    · replace hw := hw.2 h9
      refine z_aload_n C d_R_wintersOf_61 rfl 0 rfl ?_
      refine z_callVi C (As := []) (rest := []) m_R_manyOver tw_1043 0 (le_R) rfl ⟨rfl, rfl⟩ (c_R_manyOver g hw) rfl rfl rfl d_R_wintersOf_62 (fun r10 M2 hq => ?_)
      obtain ⟨rfl, hw⟩ := hq
      refine z_istore (lv' := [(4, .int r10), (0, .ref (ax g 0)), (2, .int a2), (3, .int a3)]) C d_R_wintersOf_65 rfl rfl ?_
      refine z_aload_n C d_R_wintersOf_67 rfl 1 rfl ?_
      refine z_callVi C (As := []) (rest := []) m_R_readsFall tw_850 0 (le_R) rfl ⟨rfl, rfl⟩ (c_R_readsFall g hw) rfl rfl rfl d_R_wintersOf_68 (fun r12 M11 hw => ?_)
      refine z_pop C d_R_wintersOf_71 rfl ?_
      refine z_iload C d_R_wintersOf_72 0 rfl ?_
      exact z_iret C hr hw d_R_wintersOf_74
    · replace hw := hw.1 h9
      refine z_aload_n C d_R_wintersOf_51 rfl 0 rfl ?_
      refine z_bipush (v := 23) C d_R_wintersOf_52 (by decide) ?_
      refine z_iconst (v := 0) C d_R_wintersOf_54 (by decide) ?_
      refine z_callVi C (As := [.int 23, .int 0]) (rest := []) m_R_snowBy tw_988 0 (le_R) rfl ⟨rfl, rfl⟩ (c_R_snowBy g hw) rfl rfl rfl d_R_wintersOf_55 (fun r13 M2 hq => ?_)
      obtain ⟨rfl, hw⟩ := hq
      refine z_goto C 65 d_R_wintersOf_58 (by decide) ?_
      refine z_istore (lv' := [(4, .int r13), (0, .ref (ax g 0)), (2, .int a2), (3, .int a3)]) C d_R_wintersOf_65 rfl rfl ?_
      refine z_aload_n C d_R_wintersOf_67 rfl 1 rfl ?_
      refine z_callVi C (As := []) (rest := []) m_R_readsFall tw_850 0 (le_R) rfl ⟨rfl, rfl⟩ (c_R_readsFall g hw) rfl rfl rfl d_R_wintersOf_68 (fun r15 M14 hw => ?_)
      refine z_pop C d_R_wintersOf_71 rfl ?_
      refine z_iload C d_R_wintersOf_72 0 rfl ?_
      exact z_iret C hr hw d_R_wintersOf_74
  · replace hw := hw.2 h6
    refine z_aload_n C d_R_wintersOf_15 rfl 0 rfl ?_
    refine gf_R_31 C d_R_wintersOf_16 ?_
    refine z_iload C d_R_wintersOf_19 3 rfl ?_
    refine z_iload C d_R_wintersOf_21 3 rfl ?_
    refine z_iload_n C d_R_wintersOf_23 rfl 1 rfl ?_
    refine z_ic_ge C 35 d_R_wintersOf_24 (by decide) (fun h16 => ?_) (fun h16 => ?_)
    · replace hw := hw.1 h16
      refine z_iconst (v := 0) C d_R_wintersOf_35 (by decide) ?_
      have hv18 := hw.1
      refine z_as (zar_r8) C hv18 d_R_wintersOf_36 (fun M17 hM17 => ?_)
      replace hw := hw.2 M17 hM17
      refine z_iinc (v := (i4 + 1)) (lv' := [(4, .int (i4 + 1)), (0, .ref (ax g 0)), (2, .int a2), (3, .int a3)]) C d_R_wintersOf_37 3 rfl rfl rfl rfl ?_
      refine z_goto C 8 d_R_wintersOf_40 (by decide) ?_
      refine z_sub [1, 2, 3, 0] rfl ?_
      exact ih3 _ _ hw
    · replace hw := hw.2 h16
      refine z_aload_n C d_R_wintersOf_27 rfl 0 rfl ?_
      refine z_iconst (v := 5) C d_R_wintersOf_28 (by decide) ?_
      refine z_callVi C (As := [.int 5]) (rest := [.int i4, .ref (ax g 8)]) m_R_lot tw_1155 0 (le_R) rfl ⟨rfl, rfl⟩ (c_R_lot g hw) rfl rfl rfl d_R_wintersOf_29 (fun r20 M19 hw => ?_)
      refine z_goto C 36 d_R_wintersOf_32 (by decide) ?_
      have hv22 := hw.1
      refine z_as (zar_r8) C hv22 d_R_wintersOf_36 (fun M21 hM21 => ?_)
      replace hw := hw.2 M21 hM21
      refine z_iinc (v := (i4 + 1)) (lv' := [(4, .int (i4 + 1)), (0, .ref (ax g 0)), (2, .int a2), (3, .int a3)]) C d_R_wintersOf_37 3 rfl rfl rfl rfl ?_
      refine z_goto C 8 d_R_wintersOf_40 (by decide) ?_
      refine z_sub [1, 2, 3, 0] rfl ?_
      exact ih3 _ _ hw
theorem d_X_type_0 : decode prog_1_method_2_code 0 = .ok (.iload_n 1, 1) := by decide +kernel
theorem d_X_type_1 : decode prog_1_method_2_code 1 = .ok (.iconst 4, 1) := by decide +kernel
theorem d_X_type_2 : decode prog_1_method_2_code 2 = .ok (.invokestatic 70, 3) := by decide +kernel
theorem d_X_type_5 : decode prog_1_method_2_code 5 = .ok (.ifCond .ne (13), 3) := by decide +kernel
theorem d_X_type_8 : decode prog_1_method_2_code 8 = .ok (.iload_n 2, 1) := by decide +kernel
theorem d_X_type_9 : decode prog_1_method_2_code 9 = .ok (.sipush 256, 3) := by decide +kernel
theorem d_X_type_12 : decode prog_1_method_2_code 12 = .ok (.invokestatic 70, 3) := by decide +kernel
theorem d_X_type_15 : decode prog_1_method_2_code 15 = .ok (.ifCond .eq (6), 3) := by decide +kernel
theorem d_X_type_18 : decode prog_1_method_2_code 18 = .ok (.bipush (-2), 2) := by decide +kernel
theorem d_X_type_20 : decode prog_1_method_2_code 20 = .ok (.ireturn, 1) := by decide +kernel
theorem d_X_type_21 : decode prog_1_method_2_code 21 = .ok (.aload_n 0, 1) := by decide +kernel
theorem d_X_type_22 : decode prog_1_method_2_code 22 = .ok (.getfield 11, 3) := by decide +kernel
theorem d_X_type_25 : decode prog_1_method_2_code 25 = .ok (.iload_n 1, 1) := by decide +kernel
theorem d_X_type_26 : decode prog_1_method_2_code 26 = .ok (.aaload, 1) := by decide +kernel
theorem d_X_type_27 : decode prog_1_method_2_code 27 = .ok (.iload_n 2, 1) := by decide +kernel
theorem d_X_type_28 : decode prog_1_method_2_code 28 = .ok (.invokevirtual 74, 3) := by decide +kernel
theorem d_X_type_31 : decode prog_1_method_2_code 31 = .ok (.ifCond .ne (6), 3) := by decide +kernel
theorem d_X_type_34 : decode prog_1_method_2_code 34 = .ok (.bipush (-4), 2) := by decide +kernel
theorem d_X_type_36 : decode prog_1_method_2_code 36 = .ok (.ireturn, 1) := by decide +kernel
theorem d_X_type_37 : decode prog_1_method_2_code 37 = .ok (.aload_n 0, 1) := by decide +kernel
theorem d_X_type_38 : decode prog_1_method_2_code 38 = .ok (.iload_n 1, 1) := by decide +kernel
theorem d_X_type_39 : decode prog_1_method_2_code 39 = .ok (.invokevirtual 78, 3) := by decide +kernel
theorem d_X_type_42 : decode prog_1_method_2_code 42 = .ok (.aload_n 0, 1) := by decide +kernel
theorem d_X_type_43 : decode prog_1_method_2_code 43 = .ok (.getfield 11, 3) := by decide +kernel
theorem d_X_type_46 : decode prog_1_method_2_code 46 = .ok (.iload_n 1, 1) := by decide +kernel
theorem d_X_type_47 : decode prog_1_method_2_code 47 = .ok (.aaload, 1) := by decide +kernel
theorem d_X_type_48 : decode prog_1_method_2_code 48 = .ok (.getfield 81, 3) := by decide +kernel
theorem d_X_type_51 : decode prog_1_method_2_code 51 = .ok (.ireturn, 1) := by decide +kernel
def wp_X_type (a1 : Int32) (a2 : Int32) (M : Mem) (post : Int32 → Mem → Prop) : Prop :=
  ((((pf_X_outside a1 4) = 0) → ((((pf_X_outside a2 256) = 0) → vp_in a1 4 ∧ wp_XT_append (tn a1) a2 M (fun r8 M7 => (((r8 = 0) → post (-4) M7) ∧ (¬ (r8 = 0) → wp_X_takeText a1 M7 (fun M10 => post (M10 (2 + 2 * (tn a1)) 2) M10))))) ∧ (¬ ((pf_X_outside a2 256) = 0) → post (-2) M))) ∧ (¬ ((pf_X_outside a1 4) = 0) → post (-2) M))
set_option maxHeartbeats 4000000 in
set_option maxRecDepth 100000 in
theorem c_X_type (g : GX) {a1 : Int32} {a2 : Int32} {M : Mem} {post : Int32 → Mem → Prop} (hw : wp_X_type a1 a2 M post) : CtI (oX g) y_X_type prog_1_method_2_code 3 (some .int) (rl 6) [.ref (ax g 0), .int a1, .int a2] M post := by
  refine z_metI (oX_ok g) (by decide) rfl (fun X C hr => ?_)
  show Zj X 3 (oX g) M 0 [(0, .ref (ax g 0)), (1, .int a1), (2, .int a2)] []
  unfold wp_X_type at hw
  refine z_iload_n C d_X_type_0 rfl 1 rfl ?_
  refine z_iconst (v := 4) C d_X_type_1 (by decide) ?_
  refine z_callSi C (As := [.int a1, .int 4]) (rest := []) m_X_outside tw_251 ⟨rfl, rfl⟩ (c_X_outside (oX_ok g) _ _ _) rfl rfl rfl d_X_type_2 (fun r M2 hq => ?_)
  obtain ⟨rfl, rfl⟩ := hq
  refine z_if_ne C 18 d_X_type_5 (by decide) (fun h2 => ?_) (fun h2 => ?_)
  · replace hw := hw.2 h2
    refine z_bipush (v := (-2)) C d_X_type_18 (by decide) ?_
    exact z_iret C hr hw d_X_type_20
  · replace hw := hw.1 h2
    refine z_iload_n C d_X_type_8 rfl 2 rfl ?_
    refine z_sipush (v := 256) C d_X_type_9 (by decide) ?_
    refine z_callSi C (As := [.int a2, .int 256]) (rest := []) m_X_outside tw_251 ⟨rfl, rfl⟩ (c_X_outside (oX_ok g) _ _ _) rfl rfl rfl d_X_type_12 (fun r M2 hq => ?_)
    obtain ⟨rfl, rfl⟩ := hq
    refine z_if_eq C 21 d_X_type_15 (by decide) (fun h4 => ?_) (fun h4 => ?_)
    · replace hw := hw.1 h4
      refine z_aload_n C d_X_type_21 rfl 0 rfl ?_
      refine gf_X_11 C d_X_type_22 ?_
      refine z_iload_n C d_X_type_25 rfl 1 rfl ?_
      have hv6 := hw.1
      replace hw := hw.2
      have ht5 := vp_lt hv6
      refine z_aaldText C hv6 d_X_type_26 ?_
      refine z_iload_n C d_X_type_27 rfl 2 rfl ?_
      refine z_callVi C (As := [.int a2]) (rest := []) m_XT_append tw_254 (2 + 2 * (tn a1)) (le_XT ht5) rfl ⟨rfl, rfl⟩ (c_XT_append g ht5 hw) rfl rfl rfl d_X_type_28 (fun r8 M7 hw => ?_)
      refine z_if_ne C 37 d_X_type_31 (by decide) (fun h9 => ?_) (fun h9 => ?_)
      · replace hw := hw.2 h9
        refine z_aload_n C d_X_type_37 rfl 0 rfl ?_
        refine z_iload_n C d_X_type_38 rfl 1 rfl ?_
        refine z_callVv C (As := [.int a1]) (rest := []) m_X_takeText tw_258 0 (le_X) rfl ⟨rfl, rfl⟩ (c_X_takeText g hw) rfl rfl rfl d_X_type_39 (fun M10 hw => ?_)
        refine z_aload_n C d_X_type_42 rfl 0 rfl ?_
        refine gf_X_11 C d_X_type_43 ?_
        refine z_iload_n C d_X_type_46 rfl 1 rfl ?_
        have ht12 := vp_lt hv6
        refine z_aaldText C hv6 d_X_type_47 ?_
        refine gf_X_81 ht12 C d_X_type_48 ?_
        exact z_iret C hr hw d_X_type_51
      · replace hw := hw.1 h9
        refine z_bipush (v := (-4)) C d_X_type_34 (by decide) ?_
        exact z_iret C hr hw d_X_type_36
    · replace hw := hw.2 h4
      refine z_bipush (v := (-2)) C d_X_type_18 (by decide) ?_
      exact z_iret C hr hw d_X_type_20
theorem d_X_wipe_0 : decode prog_1_method_3_code 0 = .ok (.iload_n 1, 1) := by decide +kernel
theorem d_X_wipe_1 : decode prog_1_method_3_code 1 = .ok (.iconst 4, 1) := by decide +kernel
theorem d_X_wipe_2 : decode prog_1_method_3_code 2 = .ok (.invokestatic 70, 3) := by decide +kernel
theorem d_X_wipe_5 : decode prog_1_method_3_code 5 = .ok (.ifCond .eq (6), 3) := by decide +kernel
theorem d_X_wipe_8 : decode prog_1_method_3_code 8 = .ok (.bipush (-2), 2) := by decide +kernel
theorem d_X_wipe_10 : decode prog_1_method_3_code 10 = .ok (.ireturn, 1) := by decide +kernel
theorem d_X_wipe_11 : decode prog_1_method_3_code 11 = .ok (.aload_n 0, 1) := by decide +kernel
theorem d_X_wipe_12 : decode prog_1_method_3_code 12 = .ok (.getfield 11, 3) := by decide +kernel
theorem d_X_wipe_15 : decode prog_1_method_3_code 15 = .ok (.iload_n 1, 1) := by decide +kernel
theorem d_X_wipe_16 : decode prog_1_method_3_code 16 = .ok (.aaload, 1) := by decide +kernel
theorem d_X_wipe_17 : decode prog_1_method_3_code 17 = .ok (.getfield 81, 3) := by decide +kernel
theorem d_X_wipe_20 : decode prog_1_method_3_code 20 = .ok (.istore_n 2, 1) := by decide +kernel
theorem d_X_wipe_21 : decode prog_1_method_3_code 21 = .ok (.aload_n 0, 1) := by decide +kernel
theorem d_X_wipe_22 : decode prog_1_method_3_code 22 = .ok (.getfield 11, 3) := by decide +kernel
theorem d_X_wipe_25 : decode prog_1_method_3_code 25 = .ok (.iload_n 1, 1) := by decide +kernel
theorem d_X_wipe_26 : decode prog_1_method_3_code 26 = .ok (.aaload, 1) := by decide +kernel
theorem d_X_wipe_27 : decode prog_1_method_3_code 27 = .ok (.iconst 0, 1) := by decide +kernel
theorem d_X_wipe_28 : decode prog_1_method_3_code 28 = .ok (.putfield 81, 3) := by decide +kernel
theorem d_X_wipe_31 : decode prog_1_method_3_code 31 = .ok (.aload_n 0, 1) := by decide +kernel
theorem d_X_wipe_32 : decode prog_1_method_3_code 32 = .ok (.iload_n 1, 1) := by decide +kernel
theorem d_X_wipe_33 : decode prog_1_method_3_code 33 = .ok (.invokevirtual 78, 3) := by decide +kernel
theorem d_X_wipe_36 : decode prog_1_method_3_code 36 = .ok (.iload_n 2, 1) := by decide +kernel
theorem d_X_wipe_37 : decode prog_1_method_3_code 37 = .ok (.ireturn, 1) := by decide +kernel
def wp_X_wipe (a1 : Int32) (M : Mem) (post : Int32 → Mem → Prop) : Prop :=
  ((((pf_X_outside a1 4) = 0) → vp_in a1 4 ∧ ∀ x5 : Int32, x5 = (M (2 + 2 * (tn a1)) 2) → ∀ M7 : Mem, M7 = upm M (2 + 2 * (tn a1)) 2 0 → wp_X_takeText a1 M7 (fun M8 => post x5 M8)) ∧ (¬ ((pf_X_outside a1 4) = 0) → post (-2) M))
set_option maxHeartbeats 4000000 in
set_option maxRecDepth 100000 in
theorem c_X_wipe (g : GX) {a1 : Int32} {M : Mem} {post : Int32 → Mem → Prop} (hw : wp_X_wipe a1 M post) : CtI (oX g) y_X_wipe prog_1_method_3_code 3 (some .int) (rl 6) [.ref (ax g 0), .int a1] M post := by
  refine z_metI (oX_ok g) (by decide) rfl (fun X C hr => ?_)
  show Zj X 3 (oX g) M 0 [(0, .ref (ax g 0)), (1, .int a1)] []
  unfold wp_X_wipe at hw
  refine z_iload_n C d_X_wipe_0 rfl 1 rfl ?_
  refine z_iconst (v := 4) C d_X_wipe_1 (by decide) ?_
  refine z_callSi C (As := [.int a1, .int 4]) (rest := []) m_X_outside tw_251 ⟨rfl, rfl⟩ (c_X_outside (oX_ok g) _ _ _) rfl rfl rfl d_X_wipe_2 (fun r M2 hq => ?_)
  obtain ⟨rfl, rfl⟩ := hq
  refine z_if_eq C 11 d_X_wipe_5 (by decide) (fun h2 => ?_) (fun h2 => ?_)
  · replace hw := hw.1 h2
    refine z_aload_n C d_X_wipe_11 rfl 0 rfl ?_
    refine gf_X_11 C d_X_wipe_12 ?_
    refine z_iload_n C d_X_wipe_15 rfl 1 rfl ?_
    have hv4 := hw.1
    replace hw := hw.2
    have ht3 := vp_lt hv4
    refine z_aaldText C hv4 d_X_wipe_16 ?_
    refine gf_X_81 ht3 C d_X_wipe_17 ?_
    obtain ⟨x5, hx5⟩ : ∃ z : Int32, z = (M (2 + 2 * (tn a1)) 2) := ⟨_, rfl⟩
    rw [← hx5]
    replace hw := hw x5 hx5
    refine z_istore_n (lv' := [(2, .int x5), (0, .ref (ax g 0)), (1, .int a1)]) C d_X_wipe_20 rfl rfl rfl ?_
    refine z_aload_n C d_X_wipe_21 rfl 1 rfl ?_
    refine gf_X_11 C d_X_wipe_22 ?_
    refine z_iload_n C d_X_wipe_25 rfl 2 rfl ?_
    have ht6 := vp_lt hv4
    refine z_aaldText C hv4 d_X_wipe_26 ?_
    refine z_iconst (v := 0) C d_X_wipe_27 (by decide) ?_
    refine pp_X_81 ht6 C d_X_wipe_28 (fun M7 hM7 => ?_)
    replace hw := hw M7 hM7
    refine z_aload_n C d_X_wipe_31 rfl 1 rfl ?_
    refine z_iload_n C d_X_wipe_32 rfl 2 rfl ?_
    refine z_callVv C (As := [.int a1]) (rest := []) m_X_takeText tw_258 0 (le_X) rfl ⟨rfl, rfl⟩ (c_X_takeText g hw) rfl rfl rfl d_X_wipe_33 (fun M8 hw => ?_)
    refine z_iload_n C d_X_wipe_36 rfl 0 rfl ?_
    exact z_iret C hr hw d_X_wipe_37
  · replace hw := hw.2 h2
    refine z_bipush (v := (-2)) C d_X_wipe_8 (by decide) ?_
    exact z_iret C hr hw d_X_wipe_10
theorem d_X_undo_0 : decode prog_1_method_4_code 0 = .ok (.iload_n 1, 1) := by decide +kernel
theorem d_X_undo_1 : decode prog_1_method_4_code 1 = .ok (.iconst 4, 1) := by decide +kernel
theorem d_X_undo_2 : decode prog_1_method_4_code 2 = .ok (.invokestatic 70, 3) := by decide +kernel
theorem d_X_undo_5 : decode prog_1_method_4_code 5 = .ok (.ifCond .eq (6), 3) := by decide +kernel
theorem d_X_undo_8 : decode prog_1_method_4_code 8 = .ok (.bipush (-2), 2) := by decide +kernel
theorem d_X_undo_10 : decode prog_1_method_4_code 10 = .ok (.ireturn, 1) := by decide +kernel
theorem d_X_undo_11 : decode prog_1_method_4_code 11 = .ok (.aload_n 0, 1) := by decide +kernel
theorem d_X_undo_12 : decode prog_1_method_4_code 12 = .ok (.getfield 11, 3) := by decide +kernel
theorem d_X_undo_15 : decode prog_1_method_4_code 15 = .ok (.iload_n 1, 1) := by decide +kernel
theorem d_X_undo_16 : decode prog_1_method_4_code 16 = .ok (.aaload, 1) := by decide +kernel
theorem d_X_undo_17 : decode prog_1_method_4_code 17 = .ok (.getfield 81, 3) := by decide +kernel
theorem d_X_undo_20 : decode prog_1_method_4_code 20 = .ok (.ifCond .ne (6), 3) := by decide +kernel
theorem d_X_undo_23 : decode prog_1_method_4_code 23 = .ok (.bipush (-3), 2) := by decide +kernel
theorem d_X_undo_25 : decode prog_1_method_4_code 25 = .ok (.ireturn, 1) := by decide +kernel
theorem d_X_undo_26 : decode prog_1_method_4_code 26 = .ok (.aload_n 0, 1) := by decide +kernel
theorem d_X_undo_27 : decode prog_1_method_4_code 27 = .ok (.getfield 11, 3) := by decide +kernel
theorem d_X_undo_30 : decode prog_1_method_4_code 30 = .ok (.iload_n 1, 1) := by decide +kernel
theorem d_X_undo_31 : decode prog_1_method_4_code 31 = .ok (.aaload, 1) := by decide +kernel
theorem d_X_undo_32 : decode prog_1_method_4_code 32 = .ok (.dup, 1) := by decide +kernel
theorem d_X_undo_33 : decode prog_1_method_4_code 33 = .ok (.getfield 81, 3) := by decide +kernel
theorem d_X_undo_36 : decode prog_1_method_4_code 36 = .ok (.iconst 1, 1) := by decide +kernel
theorem d_X_undo_37 : decode prog_1_method_4_code 37 = .ok (.isub, 1) := by decide +kernel
theorem d_X_undo_38 : decode prog_1_method_4_code 38 = .ok (.putfield 81, 3) := by decide +kernel
theorem d_X_undo_41 : decode prog_1_method_4_code 41 = .ok (.aload_n 0, 1) := by decide +kernel
theorem d_X_undo_42 : decode prog_1_method_4_code 42 = .ok (.iload_n 1, 1) := by decide +kernel
theorem d_X_undo_43 : decode prog_1_method_4_code 43 = .ok (.invokevirtual 78, 3) := by decide +kernel
theorem d_X_undo_46 : decode prog_1_method_4_code 46 = .ok (.aload_n 0, 1) := by decide +kernel
theorem d_X_undo_47 : decode prog_1_method_4_code 47 = .ok (.getfield 11, 3) := by decide +kernel
theorem d_X_undo_50 : decode prog_1_method_4_code 50 = .ok (.iload_n 1, 1) := by decide +kernel
theorem d_X_undo_51 : decode prog_1_method_4_code 51 = .ok (.aaload, 1) := by decide +kernel
theorem d_X_undo_52 : decode prog_1_method_4_code 52 = .ok (.getfield 81, 3) := by decide +kernel
theorem d_X_undo_55 : decode prog_1_method_4_code 55 = .ok (.ireturn, 1) := by decide +kernel
def wp_X_undo (a1 : Int32) (M : Mem) (post : Int32 → Mem → Prop) : Prop :=
  ((((pf_X_outside a1 4) = 0) → vp_in a1 4 ∧ ((((M (2 + 2 * (tn a1)) 2) = 0) → post (-3) M) ∧ (¬ ((M (2 + 2 * (tn a1)) 2) = 0) → ∀ M7 : Mem, M7 = upm M (2 + 2 * (tn a1)) 2 ((M (2 + 2 * (tn a1)) 2) - 1) → wp_X_takeText a1 M7 (fun M8 => post (M8 (2 + 2 * (tn a1)) 2) M8)))) ∧ (¬ ((pf_X_outside a1 4) = 0) → post (-2) M))
set_option maxHeartbeats 4000000 in
set_option maxRecDepth 100000 in
theorem c_X_undo (g : GX) {a1 : Int32} {M : Mem} {post : Int32 → Mem → Prop} (hw : wp_X_undo a1 M post) : CtI (oX g) y_X_undo prog_1_method_4_code 2 (some .int) (rl 6) [.ref (ax g 0), .int a1] M post := by
  refine z_metI (oX_ok g) (by decide) rfl (fun X C hr => ?_)
  show Zj X 2 (oX g) M 0 [(0, .ref (ax g 0)), (1, .int a1)] []
  unfold wp_X_undo at hw
  refine z_iload_n C d_X_undo_0 rfl 1 rfl ?_
  refine z_iconst (v := 4) C d_X_undo_1 (by decide) ?_
  refine z_callSi C (As := [.int a1, .int 4]) (rest := []) m_X_outside tw_251 ⟨rfl, rfl⟩ (c_X_outside (oX_ok g) _ _ _) rfl rfl rfl d_X_undo_2 (fun r M2 hq => ?_)
  obtain ⟨rfl, rfl⟩ := hq
  refine z_if_eq C 11 d_X_undo_5 (by decide) (fun h2 => ?_) (fun h2 => ?_)
  · replace hw := hw.1 h2
    refine z_aload_n C d_X_undo_11 rfl 0 rfl ?_
    refine gf_X_11 C d_X_undo_12 ?_
    refine z_iload_n C d_X_undo_15 rfl 1 rfl ?_
    have hv4 := hw.1
    replace hw := hw.2
    have ht3 := vp_lt hv4
    refine z_aaldText C hv4 d_X_undo_16 ?_
    refine gf_X_81 ht3 C d_X_undo_17 ?_
    refine z_if_ne C 26 d_X_undo_20 (by decide) (fun h5 => ?_) (fun h5 => ?_)
    · replace hw := hw.2 h5
      refine z_aload_n C d_X_undo_26 rfl 0 rfl ?_
      refine gf_X_11 C d_X_undo_27 ?_
      refine z_iload_n C d_X_undo_30 rfl 1 rfl ?_
      have ht6 := vp_lt hv4
      refine z_aaldText C hv4 d_X_undo_31 ?_
      refine z_dup C d_X_undo_32 rfl ?_
      refine gf_X_81 ht6 C d_X_undo_33 ?_
      refine z_iconst (v := 1) C d_X_undo_36 (by decide) ?_
      refine z_isub C d_X_undo_37 ?_
      refine pp_X_81 ht6 C d_X_undo_38 (fun M7 hM7 => ?_)
      replace hw := hw M7 hM7
      refine z_aload_n C d_X_undo_41 rfl 0 rfl ?_
      refine z_iload_n C d_X_undo_42 rfl 1 rfl ?_
      refine z_callVv C (As := [.int a1]) (rest := []) m_X_takeText tw_258 0 (le_X) rfl ⟨rfl, rfl⟩ (c_X_takeText g hw) rfl rfl rfl d_X_undo_43 (fun M8 hw => ?_)
      refine z_aload_n C d_X_undo_46 rfl 0 rfl ?_
      refine gf_X_11 C d_X_undo_47 ?_
      refine z_iload_n C d_X_undo_50 rfl 1 rfl ?_
      have ht10 := vp_lt hv4
      refine z_aaldText C hv4 d_X_undo_51 ?_
      refine gf_X_81 ht10 C d_X_undo_52 ?_
      exact z_iret C hr hw d_X_undo_55
    · replace hw := hw.1 h5
      refine z_bipush (v := (-3)) C d_X_undo_23 (by decide) ?_
      exact z_iret C hr hw d_X_undo_25
  · replace hw := hw.2 h2
    refine z_bipush (v := (-2)) C d_X_undo_8 (by decide) ?_
    exact z_iret C hr hw d_X_undo_10
