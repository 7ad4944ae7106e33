theorem d_XT_firstFault_0 : decode prog_4_method_3_code 0 = .ok (.iconst 0, 1) := by decide +kernel
theorem d_XT_firstFault_1 : decode prog_4_method_3_code 1 = .ok (.istore_n 1, 1) := by decide +kernel
theorem d_XT_firstFault_2 : decode prog_4_method_3_code 2 = .ok (.iload_n 1, 1) := by decide +kernel
theorem d_XT_firstFault_3 : decode prog_4_method_3_code 3 = .ok (.aload_n 0, 1) := by decide +kernel
theorem d_XT_firstFault_4 : decode prog_4_method_3_code 4 = .ok (.getfield 9, 3) := by decide +kernel
theorem d_XT_firstFault_7 : decode prog_4_method_3_code 7 = .ok (.if_icmp .ge (25), 3) := by decide +kernel
theorem d_XT_firstFault_10 : decode prog_4_method_3_code 10 = .ok (.aload_n 0, 1) := by decide +kernel
theorem d_XT_firstFault_11 : decode prog_4_method_3_code 11 = .ok (.iload_n 1, 1) := by decide +kernel
theorem d_XT_firstFault_12 : decode prog_4_method_3_code 12 = .ok (.aload_n 0, 1) := by decide +kernel
theorem d_XT_firstFault_13 : decode prog_4_method_3_code 13 = .ok (.getfield 22, 3) := by decide +kernel
theorem d_XT_firstFault_16 : decode prog_4_method_3_code 16 = .ok (.iload_n 1, 1) := by decide +kernel
theorem d_XT_firstFault_17 : decode prog_4_method_3_code 17 = .ok (.iaload, 1) := by decide +kernel
theorem d_XT_firstFault_18 : decode prog_4_method_3_code 18 = .ok (.invokevirtual 25, 3) := by decide +kernel
theorem d_XT_firstFault_21 : decode prog_4_method_3_code 21 = .ok (.ifCond .ne (5), 3) := by decide +kernel
theorem d_XT_firstFault_24 : decode prog_4_method_3_code 24 = .ok (.iload_n 1, 1) := by decide +kernel
theorem d_XT_firstFault_25 : decode prog_4_method_3_code 25 = .ok (.ireturn, 1) := by decide +kernel
theorem d_XT_firstFault_26 : decode prog_4_method_3_code 26 = .ok (.iinc 1 1, 3) := by decide +kernel
theorem d_XT_firstFault_29 : decode prog_4_method_3_code 29 = .ok (.goto (-27), 3) := by decide +kernel
theorem d_XT_firstFault_32 : decode prog_4_method_3_code 32 = .ok (.aload_n 0, 1) := by decide +kernel
theorem d_XT_firstFault_33 : decode prog_4_method_3_code 33 = .ok (.getfield 15, 3) := by decide +kernel
theorem d_XT_firstFault_36 : decode prog_4_method_3_code 36 = .ok (.iconst 2, 1) := by decide +kernel
theorem d_XT_firstFault_37 : decode prog_4_method_3_code 37 = .ok (.if_icmp .ne (20), 3) := by decide +kernel
theorem d_XT_firstFault_40 : decode prog_4_method_3_code 40 = .ok (.aload_n 0, 1) := by decide +kernel
theorem d_XT_firstFault_41 : decode prog_4_method_3_code 41 = .ok (.getfield 9, 3) := by decide +kernel
theorem d_XT_firstFault_44 : decode prog_4_method_3_code 44 = .ok (.ifCond .eq (13), 3) := by decide +kernel
theorem d_XT_firstFault_47 : decode prog_4_method_3_code 47 = .ok (.aload_n 0, 1) := by decide +kernel
theorem d_XT_firstFault_48 : decode prog_4_method_3_code 48 = .ok (.getfield 9, 3) := by decide +kernel
theorem d_XT_firstFault_51 : decode prog_4_method_3_code 51 = .ok (.iconst 4, 1) := by decide +kernel
theorem d_XT_firstFault_52 : decode prog_4_method_3_code 52 = .ok (.irem, 1) := by decide +kernel
theorem d_XT_firstFault_53 : decode prog_4_method_3_code 53 = .ok (.iconst 3, 1) := by decide +kernel
theorem d_XT_firstFault_54 : decode prog_4_method_3_code 54 = .ok (.if_icmp .ne (7), 3) := by decide +kernel
theorem d_XT_firstFault_57 : decode prog_4_method_3_code 57 = .ok (.iconst 1, 1) := by decide +kernel
theorem d_XT_firstFault_58 : decode prog_4_method_3_code 58 = .ok (.goto (4), 3) := by decide +kernel
theorem d_XT_firstFault_61 : decode prog_4_method_3_code 61 = .ok (.iconst 0, 1) := by decide +kernel
theorem d_XT_firstFault_62 : decode prog_4_method_3_code 62 = .ok (.istore_n 1, 1) := by decide +kernel
theorem d_XT_firstFault_63 : decode prog_4_method_3_code 63 = .ok (.iload_n 1, 1) := by decide +kernel
theorem d_XT_firstFault_64 : decode prog_4_method_3_code 64 = .ok (.ifCond .eq (7), 3) := by decide +kernel
theorem d_XT_firstFault_67 : decode prog_4_method_3_code 67 = .ok (.iconst (-1), 1) := by decide +kernel
theorem d_XT_firstFault_68 : decode prog_4_method_3_code 68 = .ok (.goto (7), 3) := by decide +kernel
theorem d_XT_firstFault_71 : decode prog_4_method_3_code 71 = .ok (.aload_n 0, 1) := by decide +kernel
theorem d_XT_firstFault_72 : decode prog_4_method_3_code 72 = .ok (.getfield 9, 3) := by decide +kernel
theorem d_XT_firstFault_75 : decode prog_4_method_3_code 75 = .ok (.ireturn, 1) := by decide +kernel
def wp_XT_firstFault (c1 : Nat) (M : Mem) (post : Int32 → Prop) : Prop :=
  (it1 (fun rec1 (i3 : Int32) => ((((M (2 + 2 * c1) 2) ≤ i3) → ∀ u8 : Int32, u8 = (if (M (2 + 2 * c1) 0) = 2 then (if (M (2 + 2 * c1) 2) = 0 then 1 else (if ((M (2 + 2 * c1) 2) - (M (2 + 2 * c1) 2) / 4 * 4) = 3 then 1 else 0)) else 1) → ∀ u10 : Int32, u10 = (if u8 = 0 then (M (2 + 2 * c1) 2) else (-1)) → post u10) ∧ (¬ ((M (2 + 2 * c1) 2) ≤ i3) → vp_in i3 (tlen c1) ∧ wp_XT_mayStand c1 i3 (M (3 + 2 * c1) (tn i3)) M (fun r14 => (((r14 = 0) → post i3) ∧ (¬ (r14 = 0) → rec1 (i3 + 1))))))) 4096 0)
set_option maxHeartbeats 4000000 in
set_option maxRecDepth 100000 in
theorem c_XT_firstFault (g : GX) {c1 : Nat} {M : Mem} {post : Int32 → Prop} (hc1 : c1 < 4) (hw : wp_XT_firstFault c1 M post) : CtI (oX g) y_XT_firstFault prog_4_method_3_code 2 (some .int) (rl 2) [.ref (ax g (2 + 2 * c1))] M (fun r M2 => M = M2 ∧ post r) := by
  refine z_metI (oX_ok g) (by decide) rfl (fun X C hr => ?_)
  show Zj X 2 (oX g) M 0 [(0, .ref (ax g (2 + 2 * c1)))] []
  unfold wp_XT_firstFault at hw
  refine z_iconst (v := 0) C d_XT_firstFault_0 (by decide) ?_
  refine z_istore_n (lv' := [(1, .int 0), (0, .ref (ax g (2 + 2 * c1)))]) C d_XT_firstFault_1 rfl rfl rfl ?_
  refine z_sub [1, 0] rfl ?_
  refine it1_Z (Z := fun (i3 : Int32) => Zj X 2 (oX g) M 2 [(0, .ref (ax g (2 + 2 * c1))), (1, .int i3)] []) (fun rec1 ih2 i3 hw => ?_) _ _ hw
  refine z_iload_n C d_XT_firstFault_2 rfl 1 rfl ?_
  refine z_aload_n C d_XT_firstFault_3 rfl 0 rfl ?_
  refine gf_XT_9 hc1 C d_XT_firstFault_4 ?_
  refine z_ic_ge C 32 d_XT_firstFault_7 (by decide) (fun h4 => ?_) (fun h4 => ?_)
  · replace hw := hw.1 h4
    refine z_aload_n C d_XT_firstFault_32 rfl 0 rfl ?_
    refine gf_XT_15 hc1 C d_XT_firstFault_33 ?_
    refine z_iconst (v := 2) C d_XT_firstFault_36 (by decide) ?_
    have hj12 : ∀ u8 : Int32, u8 = (if (M (2 + 2 * c1) 0) = 2 then (if (M (2 + 2 * c1) 2) = 0 then 1 else (if ((M (2 + 2 * c1) 2) - (M (2 + 2 * c1) 2) / 4 * 4) = 3 then 1 else 0)) else 1) → Zj X 2 (oX g) M 62 [(0, .ref (ax g (2 + 2 * c1)))] [.int u8] := by
      intro u8 hu8
      replace hw := hw u8 hu8
      refine z_istore_n (lv' := [(1, .int u8), (0, .ref (ax g (2 + 2 * c1)))]) C d_XT_firstFault_62 rfl rfl rfl ?_
      refine z_iload_n C d_XT_firstFault_63 rfl 0 rfl ?_
      have hj11 : ∀ u10 : Int32, u10 = (if u8 = 0 then (M (2 + 2 * c1) 2) else (-1)) → Zj X 2 (oX g) M 75 [] [.int u10] := by
        intro u10 hu10
        replace hw := hw u10 hu10
        exact z_iret C hr ⟨rfl, hw⟩ d_XT_firstFault_75
      refine z_if_eq C 71 d_XT_firstFault_64 (by decide) (fun h9 => ?_) (fun h9 => ?_)
      · refine z_aload_n C d_XT_firstFault_71 rfl 1 rfl ?_
        refine gf_XT_9 hc1 C d_XT_firstFault_72 ?_
        refine z_sub [] rfl ?_
        exact hj11 _ ((if_pos h9)).symm
      · refine z_iconst (v := (-1)) C d_XT_firstFault_67 (by decide) ?_
        refine z_goto C 75 d_XT_firstFault_68 (by decide) ?_
        refine z_sub [] rfl ?_
        exact hj11 _ ((if_neg h9)).symm
    refine z_ic_ne C 57 d_XT_firstFault_37 (by decide) (fun h5 => ?_) (fun h5 => ?_)
    · refine z_iconst (v := 1) C d_XT_firstFault_57 (by decide) ?_
      refine z_goto C 62 d_XT_firstFault_58 (by decide) ?_
      refine z_sub [0] rfl ?_
      exact hj12 _ ((if_neg h5)).symm
    · refine z_aload_n C d_XT_firstFault_40 rfl 0 rfl ?_
      refine gf_XT_9 hc1 C d_XT_firstFault_41 ?_
      refine z_if_eq C 57 d_XT_firstFault_44 (by decide) (fun h6 => ?_) (fun h6 => ?_)
      · refine z_iconst (v := 1) C d_XT_firstFault_57 (by decide) ?_
        refine z_goto C 62 d_XT_firstFault_58 (by decide) ?_
        refine z_sub [0] rfl ?_
        exact hj12 _ (((if_pos h5).trans (if_pos h6))).symm
      · refine z_aload_n C d_XT_firstFault_47 rfl 0 rfl ?_
        refine gf_XT_9 hc1 C d_XT_firstFault_48 ?_
        refine z_iconst (v := 4) C d_XT_firstFault_51 (by decide) ?_
        refine z_irem C d_XT_firstFault_52 (by decide) ?_
        refine z_iconst (v := 3) C d_XT_firstFault_53 (by decide) ?_
        refine z_ic_ne C 61 d_XT_firstFault_54 (by decide) (fun h7 => ?_) (fun h7 => ?_)
        · refine z_iconst (v := 0) C d_XT_firstFault_61 (by decide) ?_
          refine z_sub [0] rfl ?_
          exact hj12 _ (((if_pos h5).trans ((if_neg h6).trans (if_neg h7)))).symm
        · refine z_iconst (v := 1) C d_XT_firstFault_57 (by decide) ?_
          refine z_goto C 62 d_XT_firstFault_58 (by decide) ?_
          refine z_sub [0] rfl ?_
          exact hj12 _ (((if_pos h5).trans ((if_neg h6).trans (if_pos h7)))).symm
  · replace hw := hw.2 h4
    refine z_aload_n C d_XT_firstFault_10 rfl 0 rfl ?_
    refine z_iload_n C d_XT_firstFault_11 rfl 1 rfl ?_
    refine z_aload_n C d_XT_firstFault_12 rfl 0 rfl ?_
    refine gf_XT_22 hc1 C d_XT_firstFault_13 ?_
    refine z_iload_n C d_XT_firstFault_16 rfl 1 rfl ?_
    have hv13 := hw.1
    replace hw := hw.2
    refine z_al (zar_xTB hc1) C hv13 d_XT_firstFault_17 ?_
    refine z_callVi C (As := [.int i3, .int (M (3 + 2 * c1) (tn i3))]) (rest := []) m_XT_mayStand tw_274 (2 + 2 * c1) (le_XT hc1) rfl ⟨rfl, rfl⟩ (c_XT_mayStand g hc1 hw) rfl rfl rfl d_XT_firstFault_18 (fun r14 M2 hq => ?_)
    obtain ⟨rfl, hw⟩ := hq
    refine z_if_ne C 26 d_XT_firstFault_21 (by decide) (fun h15 => ?_) (fun h15 => ?_)
    · replace hw := hw.2 h15
      refine z_iinc (v := (i3 + 1)) (lv' := [(1, .int (i3 + 1)), (0, .ref (ax g (2 + 2 * c1)))]) C d_XT_firstFault_26 1 rfl rfl rfl rfl ?_
      refine z_goto C 2 d_XT_firstFault_29 (by decide) ?_
      refine z_sub [1, 0] rfl ?_
      exact ih2 _ hw
    · replace hw := hw.1 h15
      refine z_iload_n C d_XT_firstFault_24 rfl 1 rfl ?_
      exact z_iret C hr ⟨rfl, hw⟩ d_XT_firstFault_25
theorem d_XW_run_0 : decode prog_6_method_2_code 0 = .ok (.aload_n 0, 1) := by decide +kernel
theorem d_XW_run_1 : decode prog_6_method_2_code 1 = .ok (.getfield 40, 3) := by decide +kernel
theorem d_XW_run_4 : decode prog_6_method_2_code 4 = .ok (.iconst 0, 1) := by decide +kernel
theorem d_XW_run_5 : decode prog_6_method_2_code 5 = .ok (.invokestatic 58, 3) := by decide +kernel
theorem d_XW_run_8 : decode prog_6_method_2_code 8 = .ok (.iconst 0, 1) := by decide +kernel
theorem d_XW_run_9 : decode prog_6_method_2_code 9 = .ok (.istore_n 3, 1) := by decide +kernel
theorem d_XW_run_10 : decode prog_6_method_2_code 10 = .ok (.iload_n 3, 1) := by decide +kernel
theorem d_XW_run_11 : decode prog_6_method_2_code 11 = .ok (.aload_n 1, 1) := by decide +kernel
theorem d_XW_run_12 : decode prog_6_method_2_code 12 = .ok (.getfield 64, 3) := by decide +kernel
theorem d_XW_run_15 : decode prog_6_method_2_code 15 = .ok (.if_icmp .ge (47), 3) := by decide +kernel
theorem d_XW_run_18 : decode prog_6_method_2_code 18 = .ok (.aload_n 0, 1) := by decide +kernel
theorem d_XW_run_19 : decode prog_6_method_2_code 19 = .ok (.getfield 43, 3) := by decide +kernel
theorem d_XW_run_22 : decode prog_6_method_2_code 22 = .ok (.iload_n 3, 1) := by decide +kernel
theorem d_XW_run_23 : decode prog_6_method_2_code 23 = .ok (.aload_n 1, 1) := by decide +kernel
theorem d_XW_run_24 : decode prog_6_method_2_code 24 = .ok (.getfield 69, 3) := by decide +kernel
theorem d_XW_run_27 : decode prog_6_method_2_code 27 = .ok (.iload_n 3, 1) := by decide +kernel
theorem d_XW_run_28 : decode prog_6_method_2_code 28 = .ok (.iaload, 1) := by decide +kernel
theorem d_XW_run_29 : decode prog_6_method_2_code 29 = .ok (.iastore, 1) := by decide +kernel
theorem d_XW_run_30 : decode prog_6_method_2_code 30 = .ok (.aload_n 0, 1) := by decide +kernel
theorem d_XW_run_31 : decode prog_6_method_2_code 31 = .ok (.getfield 46, 3) := by decide +kernel
theorem d_XW_run_34 : decode prog_6_method_2_code 34 = .ok (.iload_n 3, 1) := by decide +kernel
theorem d_XW_run_35 : decode prog_6_method_2_code 35 = .ok (.aload_n 1, 1) := by decide +kernel
theorem d_XW_run_36 : decode prog_6_method_2_code 36 = .ok (.getfield 72, 3) := by decide +kernel
theorem d_XW_run_39 : decode prog_6_method_2_code 39 = .ok (.iload_n 3, 1) := by decide +kernel
theorem d_XW_run_40 : decode prog_6_method_2_code 40 = .ok (.iaload, 1) := by decide +kernel
theorem d_XW_run_41 : decode prog_6_method_2_code 41 = .ok (.iastore, 1) := by decide +kernel
theorem d_XW_run_42 : decode prog_6_method_2_code 42 = .ok (.aload_n 0, 1) := by decide +kernel
theorem d_XW_run_43 : decode prog_6_method_2_code 43 = .ok (.getfield 24, 3) := by decide +kernel
theorem d_XW_run_46 : decode prog_6_method_2_code 46 = .ok (.iload_n 3, 1) := by decide +kernel
theorem d_XW_run_47 : decode prog_6_method_2_code 47 = .ok (.iconst 0, 1) := by decide +kernel
theorem d_XW_run_48 : decode prog_6_method_2_code 48 = .ok (.iastore, 1) := by decide +kernel
theorem d_XW_run_49 : decode prog_6_method_2_code 49 = .ok (.aload_n 0, 1) := by decide +kernel
theorem d_XW_run_50 : decode prog_6_method_2_code 50 = .ok (.getfield 27, 3) := by decide +kernel
theorem d_XW_run_53 : decode prog_6_method_2_code 53 = .ok (.iload_n 3, 1) := by decide +kernel
theorem d_XW_run_54 : decode prog_6_method_2_code 54 = .ok (.iconst 0, 1) := by decide +kernel
theorem d_XW_run_55 : decode prog_6_method_2_code 55 = .ok (.iastore, 1) := by decide +kernel
theorem d_XW_run_56 : decode prog_6_method_2_code 56 = .ok (.iinc 3 1, 3) := by decide +kernel
theorem d_XW_run_59 : decode prog_6_method_2_code 59 = .ok (.goto (-49), 3) := by decide +kernel
theorem d_XW_run_62 : decode prog_6_method_2_code 62 = .ok (.aload_n 0, 1) := by decide +kernel
theorem d_XW_run_63 : decode prog_6_method_2_code 63 = .ok (.aload_n 1, 1) := by decide +kernel
theorem d_XW_run_64 : decode prog_6_method_2_code 64 = .ok (.iload_n 2, 1) := by decide +kernel
theorem d_XW_run_65 : decode prog_6_method_2_code 65 = .ok (.invokevirtual 75, 3) := by decide +kernel
theorem d_XW_run_68 : decode prog_6_method_2_code 68 = .ok (.iconst 0, 1) := by decide +kernel
theorem d_XW_run_69 : decode prog_6_method_2_code 69 = .ok (.istore_n 3, 1) := by decide +kernel
theorem d_XW_run_70 : decode prog_6_method_2_code 70 = .ok (.iload_n 3, 1) := by decide +kernel
theorem d_XW_run_71 : decode prog_6_method_2_code 71 = .ok (.bipush 24, 2) := by decide +kernel
theorem d_XW_run_73 : decode prog_6_method_2_code 73 = .ok (.if_icmp .ge (80), 3) := by decide +kernel
theorem d_XW_run_76 : decode prog_6_method_2_code 76 = .ok (.aload_n 0, 1) := by decide +kernel
theorem d_XW_run_77 : decode prog_6_method_2_code 77 = .ok (.aload_n 1, 1) := by decide +kernel
theorem d_XW_run_78 : decode prog_6_method_2_code 78 = .ok (.getfield 79, 3) := by decide +kernel
theorem d_XW_run_81 : decode prog_6_method_2_code 81 = .ok (.aload_n 1, 1) := by decide +kernel
theorem d_XW_run_82 : decode prog_6_method_2_code 82 = .ok (.getfield 82, 3) := by decide +kernel
theorem d_XW_run_85 : decode prog_6_method_2_code 85 = .ok (.iload_n 3, 1) := by decide +kernel
theorem d_XW_run_86 : decode prog_6_method_2_code 86 = .ok (.iaload, 1) := by decide +kernel
theorem d_XW_run_87 : decode prog_6_method_2_code 87 = .ok (.invokevirtual 85, 3) := by decide +kernel
theorem d_XW_run_90 : decode prog_6_method_2_code 90 = .ok (.aload_n 0, 1) := by decide +kernel
theorem d_XW_run_91 : decode prog_6_method_2_code 91 = .ok (.aload_n 1, 1) := by decide +kernel
theorem d_XW_run_92 : decode prog_6_method_2_code 92 = .ok (.getfield 79, 3) := by decide +kernel
theorem d_XW_run_95 : decode prog_6_method_2_code 95 = .ok (.aload_n 0, 1) := by decide +kernel
theorem d_XW_run_96 : decode prog_6_method_2_code 96 = .ok (.getfield 30, 3) := by decide +kernel
theorem d_XW_run_99 : decode prog_6_method_2_code 99 = .ok (.iload_n 3, 1) := by decide +kernel
theorem d_XW_run_100 : decode prog_6_method_2_code 100 = .ok (.iaload, 1) := by decide +kernel
theorem d_XW_run_101 : decode prog_6_method_2_code 101 = .ok (.invokevirtual 88, 3) := by decide +kernel
theorem d_XW_run_104 : decode prog_6_method_2_code 104 = .ok (.aload_n 0, 1) := by decide +kernel
theorem d_XW_run_105 : decode prog_6_method_2_code 105 = .ok (.getfield 36, 3) := by decide +kernel
theorem d_XW_run_108 : decode prog_6_method_2_code 108 = .ok (.iload_n 3, 1) := by decide +kernel
theorem d_XW_run_109 : decode prog_6_method_2_code 109 = .ok (.ishr, 1) := by decide +kernel
theorem d_XW_run_110 : decode prog_6_method_2_code 110 = .ok (.iconst 1, 1) := by decide +kernel
theorem d_XW_run_111 : decode prog_6_method_2_code 111 = .ok (.iand, 1) := by decide +kernel
theorem d_XW_run_112 : decode prog_6_method_2_code 112 = .ok (.iconst 1, 1) := by decide +kernel
theorem d_XW_run_113 : decode prog_6_method_2_code 113 = .ok (.if_icmp .ne (10), 3) := by decide +kernel
theorem d_XW_run_116 : decode prog_6_method_2_code 116 = .ok (.aload_n 0, 1) := by decide +kernel
theorem d_XW_run_117 : decode prog_6_method_2_code 117 = .ok (.aload_n 1, 1) := by decide +kernel
theorem d_XW_run_118 : decode prog_6_method_2_code 118 = .ok (.iload_n 3, 1) := by decide +kernel
theorem d_XW_run_119 : decode prog_6_method_2_code 119 = .ok (.iload_n 2, 1) := by decide +kernel
theorem d_XW_run_120 : decode prog_6_method_2_code 120 = .ok (.invokevirtual 91, 3) := by decide +kernel
theorem d_XW_run_123 : decode prog_6_method_2_code 123 = .ok (.aload_n 0, 1) := by decide +kernel
theorem d_XW_run_124 : decode prog_6_method_2_code 124 = .ok (.aload_n 1, 1) := by decide +kernel
theorem d_XW_run_125 : decode prog_6_method_2_code 125 = .ok (.iload_n 3, 1) := by decide +kernel
theorem d_XW_run_126 : decode prog_6_method_2_code 126 = .ok (.invokevirtual 95, 3) := by decide +kernel
theorem d_XW_run_129 : decode prog_6_method_2_code 129 = .ok (.aload_n 0, 1) := by decide +kernel
theorem d_XW_run_130 : decode prog_6_method_2_code 130 = .ok (.getfield 40, 3) := by decide +kernel
theorem d_XW_run_133 : decode prog_6_method_2_code 133 = .ok (.iconst 0, 1) := by decide +kernel
theorem d_XW_run_134 : decode prog_6_method_2_code 134 = .ok (.aload_n 0, 1) := by decide +kernel
theorem d_XW_run_135 : decode prog_6_method_2_code 135 = .ok (.getfield 9, 3) := by decide +kernel
theorem d_XW_run_138 : decode prog_6_method_2_code 138 = .ok (.iload_n 3, 1) := by decide +kernel
theorem d_XW_run_139 : decode prog_6_method_2_code 139 = .ok (.bipush 12, 2) := by decide +kernel
theorem d_XW_run_141 : decode prog_6_method_2_code 141 = .ok (.imul, 1) := by decide +kernel
theorem d_XW_run_142 : decode prog_6_method_2_code 142 = .ok (.bipush 12, 2) := by decide +kernel
theorem d_XW_run_144 : decode prog_6_method_2_code 144 = .ok (.invokestatic 98, 3) := by decide +kernel
theorem d_XW_run_147 : decode prog_6_method_2_code 147 = .ok (.iinc 3 1, 3) := by decide +kernel
theorem d_XW_run_150 : decode prog_6_method_2_code 150 = .ok (.goto (-80), 3) := by decide +kernel
theorem d_XW_run_153 : decode prog_6_method_2_code 153 = .ok (.return_, 1) := by decide +kernel
def wp_XW_run (c1 : Nat) (a2 : Int32) (M : Mem) (post : Mem → Prop) : Prop :=
  ∀ M1 : Mem, M1 = upr M (c1 + 9) (zfill 12 0 (M (c1 + 9))) → (it2 (fun rec2 (i4 : Int32) (M5 : Mem) => ((((M5 10 2) ≤ i4) → wp_XW_sortEvents c1 a2 M5 (fun M7 => (it2 (fun rec9 (i11 : Int32) (M12 : Mem) => (((24 ≤ i11) → post M12) ∧ (¬ (24 ≤ i11) → vp_in i11 24 ∧ wp_XW_snowFalls c1 (M12 (fz M12) (tn i11)) M12 (fun M15 => wp_XW_windCarries c1 (M15 (c1 + 7) (tn i11)) M15 (fun M17 => ((((((M17 c1 8) >>> (i11 &&& 31)) &&& 1) = 1) → wp_XW_snowThaws c1 i11 a2 M17 (fun M23 => wp_XW_ploughsGo c1 i11 M23 (fun M25 => (¬ (0 : Int32) < 0 ∧ ¬ ((i11 * 12) : Int32) < 0 ∧ ¬ (12 : Int32) < 0 ∧ tn 0 + tn 12 ≤ 12 ∧ tn (i11 * 12) + tn 12 ≤ 288) ∧ ∀ M27 : Mem, M27 = upr M25 (c1 + 1) (va_cpy (M25 (c1 + 9)) (M25 (c1 + 1)) (tn 0) (tn (i11 * 12)) (tn 12)) → rec9 (i11 + 1) M27))) ∧ (¬ ((((M17 c1 8) >>> (i11 &&& 31)) &&& 1) = 1) → wp_XW_ploughsGo c1 i11 M17 (fun M20 => (¬ (0 : Int32) < 0 ∧ ¬ ((i11 * 12) : Int32) < 0 ∧ ¬ (12 : Int32) < 0 ∧ tn 0 + tn 12 ≤ 12 ∧ tn (i11 * 12) + tn 12 ≤ 288) ∧ ∀ M22 : Mem, M22 = upr M20 (c1 + 1) (va_cpy (M20 (c1 + 9)) (M20 (c1 + 1)) (tn 0) (tn (i11 * 12)) (tn 12)) → rec9 (i11 + 1) M22)))))))) 4096 0 M7))) ∧ (¬ ((M5 10 2) ≤ i4) → vp_in i4 4 ∧ ∀ M29 : Mem, M29 = upm M5 (c1 + 10) (tn i4) (M5 13 (tn i4)) → ∀ M30 : Mem, M30 = upm M29 (c1 + 11) (tn i4) (M29 15 (tn i4)) → ∀ M31 : Mem, M31 = upm M30 (c1 + 5) (tn i4) 0 → ∀ M32 : Mem, M32 = upm M31 (c1 + 6) (tn i4) 0 → rec2 (i4 + 1) M32))) 4096 0 M1)
set_option maxHeartbeats 4000000 in
set_option maxRecDepth 100000 in
theorem c_XW_run (g : GX) {c1 : Nat} {a2 : Int32} {M : Mem} {post : Mem → Prop} (hc1 : c1 = 32 ∨ c1 = 44) (hw : wp_XW_run c1 a2 M post) : CtV (oX g) y_XW_run prog_6_method_2_code 4 none (rl 2) [.ref (ax g c1), .ref (ax g 10), .int a2] M post := by
  refine z_metV (oX_ok g) (by decide) rfl (fun X C hr => ?_)
  show Zj X 4 (oX g) M 0 [(0, .ref (ax g c1)), (1, .ref (ax g 10)), (2, .int a2)] []
  unfold wp_XW_run at hw
  refine z_aload_n C d_XW_run_0 rfl 0 rfl ?_
  refine gf_XW_40 hc1 C d_XW_run_1 ?_
  refine z_iconst (v := 0) C d_XW_run_4 (by decide) ?_
  refine z_fill C tw_370 (zar_xW9 hc1) rfl rfl d_XW_run_5 (fun M1 hM1 => ?_)
  replace hw := hw M1 hM1
  refine z_iconst (v := 0) C d_XW_run_8 (by decide) ?_
  refine z_istore_n (lv' := [(3, .int 0), (0, .ref (ax g c1)), (1, .ref (ax g 10)), (2, .int a2)]) C d_XW_run_9 rfl rfl rfl ?_
  refine z_sub [1, 2, 3, 0] rfl ?_
  refine it2_Z (Z := fun (i4 : Int32) (M5 : Mem) => Zj X 4 (oX g) M5 10 [(0, .ref (ax g c1)), (1, .ref (ax g 10)), (2, .int a2), (3, .int i4)] []) (fun rec2 ih3 i4 M5 hw => ?_) _ _ _ hw
  refine z_iload_n C d_XW_run_10 rfl 3 rfl ?_
  refine z_aload_n C d_XW_run_11 rfl 1 rfl ?_
  refine gf_XW_64 C d_XW_run_12 ?_
  refine z_ic_ge C 62 d_XW_run_15 (by decide) (fun h6 => ?_) (fun h6 => ?_)
  · replace hw := hw.1 h6
    refine z_aload_n C d_XW_run_62 rfl 0 rfl ?_
    refine z_aload_n C d_XW_run_63 rfl 1 rfl ?_
    refine z_iload_n C d_XW_run_64 rfl 2 rfl ?_
    refine z_callVv C (As := [.ref (ax g 10), .int a2]) (rest := []) m_XW_sortEvents tw_373 c1 (le_XW hc1) rfl ⟨rfl, rfl⟩ (c_XW_sortEvents g hc1 hw) rfl rfl rfl d_XW_run_65 (fun M7 hw => ?_)
    refine z_iconst (v := 0) C d_XW_run_68 (by decide) ?_
    refine z_istore_n (lv' := [(3, .int 0), (0, .ref (ax g c1)), (1, .ref (ax g 10)), (2, .int a2)]) C d_XW_run_69 rfl rfl rfl ?_
    refine z_sub [1, 2, 3, 0] rfl ?_
    refine it2_Z (Z := fun (i11 : Int32) (M12 : Mem) => Zj X 4 (oX g) M12 70 [(0, .ref (ax g c1)), (1, .ref (ax g 10)), (2, .int a2), (3, .int i11)] []) (fun rec9 ih10 i11 M12 hw => ?_) _ _ _ hw
    refine z_iload_n C d_XW_run_70 rfl 3 rfl ?_
    refine z_bipush (v := 24) C d_XW_run_71 (by decide) ?_
    refine z_ic_ge C 153 d_XW_run_73 (by decide) (fun h13 => ?_) (fun h13 => ?_)
    · replace hw := hw.1 h13
      exact z_vret C hr hw d_XW_run_153
    · replace hw := hw.2 h13
      refine z_aload_n C d_XW_run_76 rfl 0 rfl ?_
      refine z_aload_n C d_XW_run_77 rfl 1 rfl ?_
      refine gf_XW_79 C d_XW_run_78 ?_
      refine z_aload_n C d_XW_run_81 rfl 1 rfl ?_
      refine gf_XW_82 C d_XW_run_82 ?_
      refine z_iload_n C d_XW_run_85 rfl 3 rfl ?_
      have hv14 := hw.1
      replace hw := hw.2
      refine z_al (zar_xF) C hv14 d_XW_run_86 ?_
      refine z_callVv C (As := [.ref (ax g 11), .int (M12 (fz M12) (tn i11))]) (rest := []) m_XW_snowFalls tw_381 c1 (le_XW hc1) rfl ⟨rfl, rfl⟩ (c_XW_snowFalls g hc1 hw) rfl rfl rfl d_XW_run_87 (fun M15 hw => ?_)
      refine z_aload_n C d_XW_run_90 rfl 0 rfl ?_
      refine z_aload_n C d_XW_run_91 rfl 1 rfl ?_
      refine gf_XW_79 C d_XW_run_92 ?_
      refine z_aload_n C d_XW_run_95 rfl 0 rfl ?_
      refine gf_XW_30 hc1 C d_XW_run_96 ?_
      refine z_iload_n C d_XW_run_99 rfl 3 rfl ?_
      refine z_al (zar_xW7 hc1) C hv14 d_XW_run_100 ?_
      refine z_callVv C (As := [.ref (ax g 11), .int (M15 (c1 + 7) (tn i11))]) (rest := []) m_XW_windCarries tw_385 c1 (le_XW hc1) rfl ⟨rfl, rfl⟩ (c_XW_windCarries g hc1 hw) rfl rfl rfl d_XW_run_101 (fun M17 hw => ?_)
      refine z_aload_n C d_XW_run_104 rfl 0 rfl ?_
      refine gf_XW_36 hc1 C d_XW_run_105 ?_
      refine z_iload_n C d_XW_run_108 rfl 3 rfl ?_
      refine z_ishr C d_XW_run_109 ?_
      refine z_iconst (v := 1) C d_XW_run_110 (by decide) ?_
      refine z_iand C d_XW_run_111 ?_
      refine z_iconst (v := 1) C d_XW_run_112 (by decide) ?_
      refine z_ic_ne C 123 d_XW_run_113 (by decide) (fun h19 => ?_) (fun h19 => ?_)
      · replace hw := hw.2 h19
        refine z_aload_n C d_XW_run_123 rfl 0 rfl ?_
        refine z_aload_n C d_XW_run_124 rfl 1 rfl ?_
        refine z_iload_n C d_XW_run_125 rfl 3 rfl ?_
        refine z_callVv C (As := [.ref (ax g 10), .int i11]) (rest := []) m_XW_ploughsGo tw_393 c1 (le_XW hc1) rfl ⟨rfl, rfl⟩ (c_XW_ploughsGo g hc1 hw) rfl rfl rfl d_XW_run_126 (fun M20 hw => ?_)
        refine z_aload_n C d_XW_run_129 rfl 0 rfl ?_
        refine gf_XW_40 hc1 C d_XW_run_130 ?_
        refine z_iconst (v := 0) C d_XW_run_133 (by decide) ?_
        refine z_aload_n C d_XW_run_134 rfl 0 rfl ?_
        refine gf_XW_9 hc1 C d_XW_run_135 ?_
        refine z_iload_n C d_XW_run_138 rfl 3 rfl ?_
        refine z_bipush (v := 12) C d_XW_run_139 (by decide) ?_
        refine z_imul C d_XW_run_141 ?_
        refine z_bipush (v := 12) C d_XW_run_142 (by decide) ?_
        refine z_acopy C tw_401 (zar_xW9 hc1) (zar_xW1 hc1) hw.1 (by decide) (by decide) d_XW_run_144 (fun M22 hM22 => ?_)
        replace hw := hw.2 M22 hM22
        refine z_iinc (v := (i11 + 1)) (lv' := [(3, .int (i11 + 1)), (0, .ref (ax g c1)), (1, .ref (ax g 10)), (2, .int a2)]) C d_XW_run_147 3 rfl rfl rfl rfl ?_
        refine z_goto C 70 d_XW_run_150 (by decide) ?_
        refine z_sub [1, 2, 3, 0] rfl ?_
        exact ih10 _ _ hw
      · replace hw := hw.1 h19
        refine z_aload_n C d_XW_run_116 rfl 0 rfl ?_
        refine z_aload_n C d_XW_run_117 rfl 1 rfl ?_
        refine z_iload_n C d_XW_run_118 rfl 3 rfl ?_
        refine z_iload_n C d_XW_run_119 rfl 2 rfl ?_
        refine z_callVv C (As := [.ref (ax g 10), .int i11, .int a2]) (rest := []) m_XW_snowThaws tw_389 c1 (le_XW hc1) rfl ⟨rfl, rfl⟩ (c_XW_snowThaws g hc1 hw) rfl rfl rfl d_XW_run_120 (fun M23 hw => ?_)
        refine z_aload_n C d_XW_run_123 rfl 0 rfl ?_
        refine z_aload_n C d_XW_run_124 rfl 1 rfl ?_
        refine z_iload_n C d_XW_run_125 rfl 3 rfl ?_
        refine z_callVv C (As := [.ref (ax g 10), .int i11]) (rest := []) m_XW_ploughsGo tw_393 c1 (le_XW hc1) rfl ⟨rfl, rfl⟩ (c_XW_ploughsGo g hc1 hw) rfl rfl rfl d_XW_run_126 (fun M25 hw => ?_)
        refine z_aload_n C d_XW_run_129 rfl 0 rfl ?_
        refine gf_XW_40 hc1 C d_XW_run_130 ?_
        refine z_iconst (v := 0) C d_XW_run_133 (by decide) ?_
        refine z_aload_n C d_XW_run_134 rfl 0 rfl ?_
        refine gf_XW_9 hc1 C d_XW_run_135 ?_
        refine z_iload_n C d_XW_run_138 rfl 3 rfl ?_
        refine z_bipush (v := 12) C d_XW_run_139 (by decide) ?_
        refine z_imul C d_XW_run_141 ?_
        refine z_bipush (v := 12) C d_XW_run_142 (by decide) ?_
        refine z_acopy C tw_401 (zar_xW9 hc1) (zar_xW1 hc1) hw.1 (by decide) (by decide) d_XW_run_144 (fun M27 hM27 => ?_)
        replace hw := hw.2 M27 hM27
        refine z_iinc (v := (i11 + 1)) (lv' := [(3, .int (i11 + 1)), (0, .ref (ax g c1)), (1, .ref (ax g 10)), (2, .int a2)]) C d_XW_run_147 3 rfl rfl rfl rfl ?_
        refine z_goto C 70 d_XW_run_150 (by decide) ?_
        refine z_sub [1, 2, 3, 0] rfl ?_
        exact ih10 _ _ hw
  · replace hw := hw.2 h6
    refine z_aload_n C d_XW_run_18 rfl 0 rfl ?_
    refine gf_XW_43 hc1 C d_XW_run_19 ?_
    refine z_iload_n C d_XW_run_22 rfl 3 rfl ?_
    refine z_aload_n C d_XW_run_23 rfl 1 rfl ?_
    refine gf_XW_69 C d_XW_run_24 ?_
    refine z_iload_n C d_XW_run_27 rfl 3 rfl ?_
    have hv28 := hw.1
    replace hw := hw.2
    refine z_al (zar_x13) C hv28 d_XW_run_28 ?_
    refine z_as (zar_xW10 hc1) C hv28 d_XW_run_29 (fun M29 hM29 => ?_)
    replace hw := hw M29 hM29
    refine z_aload_n C d_XW_run_30 rfl 0 rfl ?_
    refine gf_XW_46 hc1 C d_XW_run_31 ?_
    refine z_iload_n C d_XW_run_34 rfl 3 rfl ?_
    refine z_aload_n C d_XW_run_35 rfl 1 rfl ?_
    refine gf_XW_72 C d_XW_run_36 ?_
    refine z_iload_n C d_XW_run_39 rfl 3 rfl ?_
    refine z_al (zar_x15) C hv28 d_XW_run_40 ?_
    refine z_as (zar_xW11 hc1) C hv28 d_XW_run_41 (fun M30 hM30 => ?_)
    replace hw := hw M30 hM30
    refine z_aload_n C d_XW_run_42 rfl 0 rfl ?_
    refine gf_XW_24 hc1 C d_XW_run_43 ?_
    refine z_iload_n C d_XW_run_46 rfl 3 rfl ?_
    refine z_iconst (v := 0) C d_XW_run_47 (by decide) ?_
    refine z_as (zar_xW5 hc1) C hv28 d_XW_run_48 (fun M31 hM31 => ?_)
    replace hw := hw M31 hM31
    refine z_aload_n C d_XW_run_49 rfl 0 rfl ?_
    refine gf_XW_27 hc1 C d_XW_run_50 ?_
    refine z_iload_n C d_XW_run_53 rfl 3 rfl ?_
    refine z_iconst (v := 0) C d_XW_run_54 (by decide) ?_
    refine z_as (zar_xW6 hc1) C hv28 d_XW_run_55 (fun M32 hM32 => ?_)
    replace hw := hw M32 hM32
    refine z_iinc (v := (i4 + 1)) (lv' := [(3, .int (i4 + 1)), (0, .ref (ax g c1)), (1, .ref (ax g 10)), (2, .int a2)]) C d_XW_run_56 3 rfl rfl rfl rfl ?_
    refine z_goto C 10 d_XW_run_59 (by decide) ?_
    refine z_sub [1, 2, 3, 0] rfl ?_
    exact ih3 _ _ hw
theorem d_XW_busesOver_0 : decode prog_6_method_12_code 0 = .ok (.iconst 0, 1) := by decide +kernel
theorem d_XW_busesOver_1 : decode prog_6_method_12_code 1 = .ok (.istore_n 2, 1) := by decide +kernel
theorem d_XW_busesOver_2 : decode prog_6_method_12_code 2 = .ok (.iconst 0, 1) := by decide +kernel
theorem d_XW_busesOver_3 : decode prog_6_method_12_code 3 = .ok (.istore_n 3, 1) := by decide +kernel
theorem d_XW_busesOver_4 : decode prog_6_method_12_code 4 = .ok (.iload_n 3, 1) := by decide +kernel
theorem d_XW_busesOver_5 : decode prog_6_method_12_code 5 = .ok (.aload_n 1, 1) := by decide +kernel
theorem d_XW_busesOver_6 : decode prog_6_method_12_code 6 = .ok (.getfield 133, 3) := by decide +kernel
theorem d_XW_busesOver_9 : decode prog_6_method_12_code 9 = .ok (.if_icmp .ge (32), 3) := by decide +kernel
theorem d_XW_busesOver_12 : decode prog_6_method_12_code 12 = .ok (.aload_n 0, 1) := by decide +kernel
theorem d_XW_busesOver_13 : decode prog_6_method_12_code 13 = .ok (.aload_n 1, 1) := by decide +kernel
theorem d_XW_busesOver_14 : decode prog_6_method_12_code 14 = .ok (.getfield 136, 3) := by decide +kernel
theorem d_XW_busesOver_17 : decode prog_6_method_12_code 17 = .ok (.iload_n 3, 1) := by decide +kernel
theorem d_XW_busesOver_18 : decode prog_6_method_12_code 18 = .ok (.iaload, 1) := by decide +kernel
theorem d_XW_busesOver_19 : decode prog_6_method_12_code 19 = .ok (.bipush 23, 2) := by decide +kernel
theorem d_XW_busesOver_21 : decode prog_6_method_12_code 21 = .ok (.invokevirtual 139, 3) := by decide +kernel
theorem d_XW_busesOver_24 : decode prog_6_method_12_code 24 = .ok (.aload_n 0, 1) := by decide +kernel
theorem d_XW_busesOver_25 : decode prog_6_method_12_code 25 = .ok (.getfield 52, 3) := by decide +kernel
theorem d_XW_busesOver_28 : decode prog_6_method_12_code 28 = .ok (.iconst (-1), 1) := by decide +kernel
theorem d_XW_busesOver_29 : decode prog_6_method_12_code 29 = .ok (.if_icmp .eq (6), 3) := by decide +kernel
theorem d_XW_busesOver_32 : decode prog_6_method_12_code 32 = .ok (.iinc 2 1, 3) := by decide +kernel
theorem d_XW_busesOver_35 : decode prog_6_method_12_code 35 = .ok (.iinc 3 1, 3) := by decide +kernel
theorem d_XW_busesOver_38 : decode prog_6_method_12_code 38 = .ok (.goto (-34), 3) := by decide +kernel
theorem d_XW_busesOver_41 : decode prog_6_method_12_code 41 = .ok (.iload_n 2, 1) := by decide +kernel
theorem d_XW_busesOver_42 : decode prog_6_method_12_code 42 = .ok (.ireturn, 1) := by decide +kernel
def wp_XW_busesOver (c1 : Nat) (M : Mem) (post : Int32 → Mem → Prop) : Prop :=
  (it3 (fun rec1 (i3 : Int32) (i4 : Int32) (M5 : Mem) => ((((M5 10 6) ≤ i4) → post i3 M5) ∧ (¬ ((M5 10 6) ≤ i4) → vp_in i4 8 ∧ wp_XW_ride c1 (M5 16 (tn i4)) 23 M5 (fun M8 => ∀ u11 : Int32, u11 = (if (M8 c1 13) = (-1) then i3 else (i3 + 1)) → rec1 u11 (i4 + 1) M8)))) 4096 0 0 M)
set_option maxHeartbeats 4000000 in
set_option maxRecDepth 100000 in
theorem c_XW_busesOver (g : GX) {c1 : Nat} {M : Mem} {post : Int32 → Mem → Prop} (hc1 : c1 = 32 ∨ c1 = 44) (hw : wp_XW_busesOver c1 M post) : CtI (oX g) y_XW_busesOver prog_6_method_12_code 4 (some .int) (rl 2) [.ref (ax g c1), .ref (ax g 10)] M post := by
  refine z_metI (oX_ok g) (by decide) rfl (fun X C hr => ?_)
  show Zj X 4 (oX g) M 0 [(0, .ref (ax g c1)), (1, .ref (ax g 10))] []
  unfold wp_XW_busesOver at hw
  refine z_iconst (v := 0) C d_XW_busesOver_0 (by decide) ?_
  refine z_istore_n (lv' := [(2, .int 0), (0, .ref (ax g c1)), (1, .ref (ax g 10))]) C d_XW_busesOver_1 rfl rfl rfl ?_
  refine z_iconst (v := 0) C d_XW_busesOver_2 (by decide) ?_
  refine z_istore_n (lv' := [(3, .int 0), (2, .int 0), (0, .ref (ax g c1)), (1, .ref (ax g 10))]) C d_XW_busesOver_3 rfl rfl rfl ?_
  refine z_sub [2, 3, 1, 0] rfl ?_
  refine it3_Z (Z := fun (i3 : Int32) (i4 : Int32) (M5 : Mem) => Zj X 4 (oX g) M5 4 [(0, .ref (ax g c1)), (1, .ref (ax g 10)), (2, .int i3), (3, .int i4)] []) (fun rec1 ih2 i3 i4 M5 hw => ?_) _ _ _ _ hw
  refine z_iload_n C d_XW_busesOver_4 rfl 3 rfl ?_
  refine z_aload_n C d_XW_busesOver_5 rfl 1 rfl ?_
  refine gf_XW_133 C d_XW_busesOver_6 ?_
  refine z_ic_ge C 41 d_XW_busesOver_9 (by decide) (fun h6 => ?_) (fun h6 => ?_)
  · replace hw := hw.1 h6
    refine z_iload_n C d_XW_busesOver_41 rfl 2 rfl ?_
    exact z_iret C hr hw d_XW_busesOver_42
  · replace hw := hw.2 h6
    refine z_aload_n C d_XW_busesOver_12 rfl 0 rfl ?_
    refine z_aload_n C d_XW_busesOver_13 rfl 1 rfl ?_
    refine gf_XW_136 C d_XW_busesOver_14 ?_
    refine z_iload_n C d_XW_busesOver_17 rfl 3 rfl ?_
    have hv7 := hw.1
    replace hw := hw.2
    refine z_al (zar_x16) C hv7 d_XW_busesOver_18 ?_
    refine z_bipush (v := 23) C d_XW_busesOver_19 (by decide) ?_
    refine z_callVv C (As := [.int (M5 16 (tn i4)), .int 23]) (rest := []) m_XW_ride tw_464 c1 (le_XW hc1) rfl ⟨rfl, rfl⟩ (c_XW_ride g hc1 hw) rfl rfl rfl d_XW_busesOver_21 (fun M8 hw => ?_)
    refine z_aload_n C d_XW_busesOver_24 rfl 0 rfl ?_
    refine gf_XW_52 hc1 C d_XW_busesOver_25 ?_
    refine z_iconst (v := (-1)) C d_XW_busesOver_28 (by decide) ?_
    have hj12 : ∀ u11 : Int32, u11 = (if (M8 c1 13) = (-1) then i3 else (i3 + 1)) → Zj X 4 (oX g) M8 35 [(0, .ref (ax g c1)), (1, .ref (ax g 10)), (2, .int u11), (3, .int i4)] [] := by
      intro u11 hu11
      replace hw := hw u11 hu11
      refine z_iinc (v := (i4 + 1)) (lv' := [(3, .int (i4 + 1)), (0, .ref (ax g c1)), (1, .ref (ax g 10)), (2, .int u11)]) C d_XW_busesOver_35 3 rfl rfl rfl rfl ?_
      refine z_goto C 4 d_XW_busesOver_38 (by decide) ?_
      refine z_sub [1, 2, 3, 0] rfl ?_
      exact ih2 _ _ _ hw
    refine z_ic_eq C 35 d_XW_busesOver_29 (by decide) (fun h10 => ?_) (fun h10 => ?_)
    · refine z_sub [0, 1, 2, 3] rfl ?_
      exact hj12 _ ((if_pos h10)).symm
    · refine z_iinc (v := (i3 + 1)) (lv' := [(2, .int (i3 + 1)), (0, .ref (ax g c1)), (1, .ref (ax g 10)), (3, .int i4)]) C d_XW_busesOver_32 2 rfl rfl rfl rfl ?_
      refine z_sub [1, 2, 0, 3] rfl ?_
      exact hj12 _ ((if_neg h10)).symm
theorem d_X_fault_0 : decode prog_1_method_5_code 0 = .ok (.iload_n 1, 1) := by decide +kernel
theorem d_X_fault_1 : decode prog_1_method_5_code 1 = .ok (.iconst 4, 1) := by decide +kernel
theorem d_X_fault_2 : decode prog_1_method_5_code 2 = .ok (.invokestatic 70, 3) := by decide +kernel
theorem d_X_fault_5 : decode prog_1_method_5_code 5 = .ok (.ifCond .eq (8), 3) := by decide +kernel
theorem d_X_fault_8 : decode prog_1_method_5_code 8 = .ok (.bipush (-2), 2) := by decide +kernel
theorem d_X_fault_10 : decode prog_1_method_5_code 10 = .ok (.goto (12), 3) := by decide +kernel
theorem d_X_fault_13 : decode prog_1_method_5_code 13 = .ok (.aload_n 0, 1) := by decide +kernel
theorem d_X_fault_14 : decode prog_1_method_5_code 14 = .ok (.getfield 11, 3) := by decide +kernel
theorem d_X_fault_17 : decode prog_1_method_5_code 17 = .ok (.iload_n 1, 1) := by decide +kernel
theorem d_X_fault_18 : decode prog_1_method_5_code 18 = .ok (.aaload, 1) := by decide +kernel
theorem d_X_fault_19 : decode prog_1_method_5_code 19 = .ok (.invokevirtual 84, 3) := by decide +kernel
theorem d_X_fault_22 : decode prog_1_method_5_code 22 = .ok (.ireturn, 1) := by decide +kernel
def wp_X_fault (a1 : Int32) (M : Mem) (post : Int32 → Prop) : Prop :=
  ((((pf_X_outside a1 4) = 0) → vp_in a1 4 ∧ wp_XT_firstFault (tn a1) M (fun r5 => post r5)) ∧ (¬ ((pf_X_outside a1 4) = 0) → post (-2)))
set_option maxHeartbeats 4000000 in
set_option maxRecDepth 100000 in
theorem c_X_fault (g : GX) {a1 : Int32} {M : Mem} {post : Int32 → Prop} (hw : wp_X_fault a1 M post) : CtI (oX g) y_X_fault prog_1_method_5_code 2 (some .int) (rl 3) [.ref (ax g 0), .int a1] M (fun r M2 => M = M2 ∧ post r) := by
  refine z_metI (oX_ok g) (by decide) rfl (fun X C hr => ?_)
  show Zj X 2 (oX g) M 0 [(0, .ref (ax g 0)), (1, .int a1)] []
  unfold wp_X_fault at hw
  refine z_iload_n C d_X_fault_0 rfl 1 rfl ?_
  refine z_iconst (v := 4) C d_X_fault_1 (by decide) ?_
  refine z_callSi C (As := [.int a1, .int 4]) (rest := []) m_X_outside tw_251 ⟨rfl, rfl⟩ (c_X_outside (oX_ok g) _ _ _) rfl rfl rfl d_X_fault_2 (fun r M2 hq => ?_)
  obtain ⟨rfl, rfl⟩ := hq
  refine z_if_eq C 13 d_X_fault_5 (by decide) (fun h2 => ?_) (fun h2 => ?_)
  · replace hw := hw.1 h2
    refine z_aload_n C d_X_fault_13 rfl 0 rfl ?_
    refine gf_X_11 C d_X_fault_14 ?_
    refine z_iload_n C d_X_fault_17 rfl 1 rfl ?_
    have hv4 := hw.1
    replace hw := hw.2
    have ht3 := vp_lt hv4
    refine z_aaldText C hv4 d_X_fault_18 ?_
    refine z_callVi C (As := []) (rest := []) m_XT_firstFault tw_309 (2 + 2 * (tn a1)) (le_XT ht3) rfl ⟨rfl, rfl⟩ (c_XT_firstFault g ht3 hw) rfl rfl rfl d_X_fault_19 (fun r5 M2 hq => ?_)
    obtain ⟨rfl, hw⟩ := hq
    exact z_iret C hr ⟨rfl, hw⟩ d_X_fault_22
  · replace hw := hw.2 h2
    refine z_bipush (v := (-2)) C d_X_fault_8 (by decide) ?_
    refine z_goto C 22 d_X_fault_10 (by decide) ?_
    exact z_iret C hr ⟨rfl, hw⟩ d_X_fault_22
theorem d_X_read_0 : decode prog_1_method_13_code 0 = .ok (.iload_n 1, 1) := by decide +kernel
theorem d_X_read_1 : decode prog_1_method_13_code 1 = .ok (.iconst 4, 1) := by decide +kernel
theorem d_X_read_2 : decode prog_1_method_13_code 2 = .ok (.invokestatic 70, 3) := by decide +kernel
theorem d_X_read_5 : decode prog_1_method_13_code 5 = .ok (.ifCond .eq (6), 3) := by decide +kernel
theorem d_X_read_8 : decode prog_1_method_13_code 8 = .ok (.bipush (-2), 2) := by decide +kernel
theorem d_X_read_10 : decode prog_1_method_13_code 10 = .ok (.ireturn, 1) := by decide +kernel
theorem d_X_read_11 : decode prog_1_method_13_code 11 = .ok (.aload_n 0, 1) := by decide +kernel
theorem d_X_read_12 : decode prog_1_method_13_code 12 = .ok (.getfield 31, 3) := by decide +kernel
theorem d_X_read_15 : decode prog_1_method_13_code 15 = .ok (.iload_n 1, 1) := by decide +kernel
theorem d_X_read_16 : decode prog_1_method_13_code 16 = .ok (.aaload, 1) := by decide +kernel
theorem d_X_read_17 : decode prog_1_method_13_code 17 = .ok (.astore_n 2, 1) := by decide +kernel
theorem d_X_read_18 : decode prog_1_method_13_code 18 = .ok (.aload_n 2, 1) := by decide +kernel
theorem d_X_read_19 : decode prog_1_method_13_code 19 = .ok (.getfield 128, 3) := by decide +kernel
theorem d_X_read_22 : decode prog_1_method_13_code 22 = .ok (.iconst (-1), 1) := by decide +kernel
theorem d_X_read_23 : decode prog_1_method_13_code 23 = .ok (.if_icmp .ne (9), 3) := by decide +kernel
theorem d_X_read_26 : decode prog_1_method_13_code 26 = .ok (.aload_n 0, 1) := by decide +kernel
theorem d_X_read_27 : decode prog_1_method_13_code 27 = .ok (.iconst 1, 1) := by decide +kernel
theorem d_X_read_28 : decode prog_1_method_13_code 28 = .ok (.invokevirtual 131, 3) := by decide +kernel
theorem d_X_read_31 : decode prog_1_method_13_code 31 = .ok (.ireturn, 1) := by decide +kernel
theorem d_X_read_32 : decode prog_1_method_13_code 32 = .ok (.iconst 0, 1) := by decide +kernel
theorem d_X_read_33 : decode prog_1_method_13_code 33 = .ok (.istore_n 3, 1) := by decide +kernel
theorem d_X_read_34 : decode prog_1_method_13_code 34 = .ok (.iconst 0, 1) := by decide +kernel
theorem d_X_read_35 : decode prog_1_method_13_code 35 = .ok (.istore 4, 2) := by decide +kernel
theorem d_X_read_37 : decode prog_1_method_13_code 37 = .ok (.iload 4, 2) := by decide +kernel
theorem d_X_read_39 : decode prog_1_method_13_code 39 = .ok (.iconst 2, 1) := by decide +kernel
theorem d_X_read_40 : decode prog_1_method_13_code 40 = .ok (.iadd, 1) := by decide +kernel
theorem d_X_read_41 : decode prog_1_method_13_code 41 = .ok (.aload_n 2, 1) := by decide +kernel
theorem d_X_read_42 : decode prog_1_method_13_code 42 = .ok (.getfield 135, 3) := by decide +kernel
theorem d_X_read_45 : decode prog_1_method_13_code 45 = .ok (.if_icmp .ge (47), 3) := by decide +kernel
theorem d_X_read_48 : decode prog_1_method_13_code 48 = .ok (.aload_n 0, 1) := by decide +kernel
theorem d_X_read_49 : decode prog_1_method_13_code 49 = .ok (.aload_n 2, 1) := by decide +kernel
theorem d_X_read_50 : decode prog_1_method_13_code 50 = .ok (.getfield 138, 3) := by decide +kernel
theorem d_X_read_53 : decode prog_1_method_13_code 53 = .ok (.iload 4, 2) := by decide +kernel
theorem d_X_read_55 : decode prog_1_method_13_code 55 = .ok (.iaload, 1) := by decide +kernel
theorem d_X_read_56 : decode prog_1_method_13_code 56 = .ok (.aload_n 2, 1) := by decide +kernel
theorem d_X_read_57 : decode prog_1_method_13_code 57 = .ok (.getfield 138, 3) := by decide +kernel
theorem d_X_read_60 : decode prog_1_method_13_code 60 = .ok (.iload 4, 2) := by decide +kernel
theorem d_X_read_62 : decode prog_1_method_13_code 62 = .ok (.iconst 1, 1) := by decide +kernel
theorem d_X_read_63 : decode prog_1_method_13_code 63 = .ok (.iadd, 1) := by decide +kernel
theorem d_X_read_64 : decode prog_1_method_13_code 64 = .ok (.iaload, 1) := by decide +kernel
theorem d_X_read_65 : decode prog_1_method_13_code 65 = .ok (.aload_n 2, 1) := by decide +kernel
theorem d_X_read_66 : decode prog_1_method_13_code 66 = .ok (.getfield 138, 3) := by decide +kernel
theorem d_X_read_69 : decode prog_1_method_13_code 69 = .ok (.iload 4, 2) := by decide +kernel
theorem d_X_read_71 : decode prog_1_method_13_code 71 = .ok (.iconst 2, 1) := by decide +kernel
theorem d_X_read_72 : decode prog_1_method_13_code 72 = .ok (.iadd, 1) := by decide +kernel
theorem d_X_read_73 : decode prog_1_method_13_code 73 = .ok (.iaload, 1) := by decide +kernel
theorem d_X_read_74 : decode prog_1_method_13_code 74 = .ok (.invokevirtual 141, 3) := by decide +kernel
theorem d_X_read_77 : decode prog_1_method_13_code 77 = .ok (.ifCond .ge (6), 3) := by decide +kernel
theorem d_X_read_80 : decode prog_1_method_13_code 80 = .ok (.goto (12), 3) := by decide +kernel
theorem d_X_read_83 : decode prog_1_method_13_code 83 = .ok (.iinc 3 1, 3) := by decide +kernel
theorem d_X_read_86 : decode prog_1_method_13_code 86 = .ok (.iinc 4 3, 3) := by decide +kernel
theorem d_X_read_89 : decode prog_1_method_13_code 89 = .ok (.goto (-52), 3) := by decide +kernel
theorem d_X_read_92 : decode prog_1_method_13_code 92 = .ok (.iload_n 3, 1) := by decide +kernel
theorem d_X_read_93 : decode prog_1_method_13_code 93 = .ok (.ireturn, 1) := by decide +kernel
def wp_X_read (a1 : Int32) (M : Mem) (post : Int32 → Mem → Prop) : Prop :=
  ((((pf_X_outside a1 4) = 0) → vp_in a1 4 ∧ ((((M (24 + 2 * (tn a1)) 1) = (-1)) → wp_X_found 1 M (fun r19 M18 => post r19 M18)) ∧ (¬ ((M (24 + 2 * (tn a1)) 1) = (-1)) → (it3 (fun rec6 (i8 : Int32) (i9 : Int32) (M10 : Mem) => ((((M10 (24 + 2 * (tn a1)) 2) ≤ (i9 + 2)) → post i8 M10) ∧ (¬ ((M10 (24 + 2 * (tn a1)) 2) ≤ (i9 + 2)) → vp_in i9 60 ∧ vp_in (i9 + 1) 60 ∧ vp_in (i9 + 2) 60 ∧ wp_X_event (M10 (25 + 2 * (tn a1)) (tn i9)) (M10 (25 + 2 * (tn a1)) (tn (i9 + 1))) (M10 (25 + 2 * (tn a1)) (tn (i9 + 2))) M10 (fun r16 M15 => (((0 ≤ r16) → rec6 (i8 + 1) (i9 + 3) M15) ∧ (¬ (0 ≤ r16) → post i8 M15)))))) 4096 0 0 M)))) ∧ (¬ ((pf_X_outside a1 4) = 0) → post (-2) M))
set_option maxHeartbeats 4000000 in
set_option maxRecDepth 100000 in
theorem c_X_read (g : GX) {a1 : Int32} {M : Mem} {post : Int32 → Mem → Prop} (hw : wp_X_read a1 M post) : CtI (oX g) y_X_read prog_1_method_13_code 5 (some .int) (rl 3) [.ref (ax g 0), .int a1] M post := by
  refine z_metI (oX_ok g) (by decide) rfl (fun X C hr => ?_)
  show Zj X 5 (oX g) M 0 [(0, .ref (ax g 0)), (1, .int a1)] []
  unfold wp_X_read at hw
  refine z_iload_n C d_X_read_0 rfl 1 rfl ?_
  refine z_iconst (v := 4) C d_X_read_1 (by decide) ?_
  refine z_callSi C (As := [.int a1, .int 4]) (rest := []) m_X_outside tw_251 ⟨rfl, rfl⟩ (c_X_outside (oX_ok g) _ _ _) rfl rfl rfl d_X_read_2 (fun r M2 hq => ?_)
  obtain ⟨rfl, rfl⟩ := hq
  refine z_if_eq C 11 d_X_read_5 (by decide) (fun h2 => ?_) (fun h2 => ?_)
  · replace hw := hw.1 h2
    refine z_aload_n C d_X_read_11 rfl 0 rfl ?_
    refine gf_X_31 C d_X_read_12 ?_
    refine z_iload_n C d_X_read_15 rfl 1 rfl ?_
    have hv4 := hw.1
    replace hw := hw.2
    have ht3 := vp_lt hv4
    refine z_aaldSheet C hv4 d_X_read_16 ?_
    refine z_astore_n (lv' := [(2, .ref (ax g (24 + 2 * (tn a1)))), (0, .ref (ax g 0)), (1, .int a1)]) C d_X_read_17 rfl rfl rfl ?_
    refine z_aload_n C d_X_read_18 rfl 0 rfl ?_
    refine gf_X_128 ht3 C d_X_read_19 ?_
    refine z_iconst (v := (-1)) C d_X_read_22 (by decide) ?_
    refine z_ic_ne C 32 d_X_read_23 (by decide) (fun h5 => ?_) (fun h5 => ?_)
    · replace hw := hw.2 h5
      refine z_iconst (v := 0) C d_X_read_32 (by decide) ?_
      refine z_istore_n (lv' := [(3, .int 0), (2, .ref (ax g (24 + 2 * (tn a1)))), (0, .ref (ax g 0)), (1, .int a1)]) C d_X_read_33 rfl rfl rfl ?_
      refine z_iconst (v := 0) C d_X_read_34 (by decide) ?_
      refine z_istore (lv' := [(4, .int 0), (3, .int 0), (2, .ref (ax g (24 + 2 * (tn a1)))), (0, .ref (ax g 0)), (1, .int a1)]) C d_X_read_35 rfl rfl ?_
      refine z_sub [3, 2, 1, 0] rfl ?_
      refine it3_Z (Z := fun (i8 : Int32) (i9 : Int32) (M10 : Mem) => Zj X 5 (oX g) M10 37 [(0, .ref (ax g 0)), (2, .ref (ax g (24 + 2 * (tn a1)))), (3, .int i8), (4, .int i9)] []) (fun rec6 ih7 i8 i9 M10 hw => ?_) _ _ _ _ hw
      refine z_iload C d_X_read_37 3 rfl ?_
      refine z_iconst (v := 2) C d_X_read_39 (by decide) ?_
      refine z_iadd C d_X_read_40 ?_
      refine z_aload_n C d_X_read_41 rfl 1 rfl ?_
      refine gf_X_135 ht3 C d_X_read_42 ?_
      refine z_ic_ge C 92 d_X_read_45 (by decide) (fun h11 => ?_) (fun h11 => ?_)
      · replace hw := hw.1 h11
        refine z_iload_n C d_X_read_92 rfl 2 rfl ?_
        exact z_iret C hr hw d_X_read_93
      · replace hw := hw.2 h11
        refine z_aload_n C d_X_read_48 rfl 0 rfl ?_
        refine z_aload_n C d_X_read_49 rfl 1 rfl ?_
        refine gf_X_138 ht3 C d_X_read_50 ?_
        refine z_iload C d_X_read_53 3 rfl ?_
        have hv12 := hw.1
        replace hw := hw.2
        refine z_al (zar_xSI ht3) C hv12 d_X_read_55 ?_
        refine z_aload_n C d_X_read_56 rfl 1 rfl ?_
        refine gf_X_138 ht3 C d_X_read_57 ?_
        refine z_iload C d_X_read_60 3 rfl ?_
        refine z_iconst (v := 1) C d_X_read_62 (by decide) ?_
        refine z_iadd C d_X_read_63 ?_
        have hv13 := hw.1
        replace hw := hw.2
        refine z_al (zar_xSI ht3) C hv13 d_X_read_64 ?_
        refine z_aload_n C d_X_read_65 rfl 1 rfl ?_
        refine gf_X_138 ht3 C d_X_read_66 ?_
        refine z_iload C d_X_read_69 3 rfl ?_
        refine z_iconst (v := 2) C d_X_read_71 (by decide) ?_
        refine z_iadd C d_X_read_72 ?_
        have hv14 := hw.1
        replace hw := hw.2
        refine z_al (zar_xSI ht3) C hv14 d_X_read_73 ?_
        refine z_callVi C (As := [.int (M10 (25 + 2 * (tn a1)) (tn i9)), .int (M10 (25 + 2 * (tn a1)) (tn (i9 + 1))), .int (M10 (25 + 2 * (tn a1)) (tn (i9 + 2)))]) (rest := []) m_X_event tw_353 0 (le_X) rfl ⟨rfl, rfl⟩ (c_X_event g hw) rfl rfl rfl d_X_read_74 (fun r16 M15 hw => ?_)
        refine z_if_ge C 83 d_X_read_77 (by decide) (fun h17 => ?_) (fun h17 => ?_)
        · replace hw := hw.1 h17
          refine z_iinc (v := (i8 + 1)) (lv' := [(3, .int (i8 + 1)), (0, .ref (ax g 0)), (2, .ref (ax g (24 + 2 * (tn a1)))), (4, .int i9)]) C d_X_read_83 2 rfl rfl rfl rfl ?_
          refine z_iinc (v := (i9 + 3)) (lv' := [(4, .int (i9 + 3)), (3, .int (i8 + 1)), (0, .ref (ax g 0)), (2, .ref (ax g (24 + 2 * (tn a1))))]) C d_X_read_86 3 rfl rfl rfl rfl ?_
          refine z_goto C 37 d_X_read_89 (by decide) ?_
          refine z_sub [2, 3, 1, 0] rfl ?_
          exact ih7 _ _ _ hw
        · replace hw := hw.2 h17
          refine z_goto C 92 d_X_read_80 (by decide) ?_
          refine z_iload_n C d_X_read_92 rfl 2 rfl ?_
          exact z_iret C hr hw d_X_read_93
    · replace hw := hw.1 h5
      refine z_aload_n C d_X_read_26 rfl 1 rfl ?_
      refine z_iconst (v := 1) C d_X_read_27 (by decide) ?_
      refine z_callVi C (As := [.int 1]) (rest := []) m_X_found tw_349 0 (le_X) rfl ⟨rfl, rfl⟩ (c_X_found g hw) rfl rfl rfl d_X_read_28 (fun r19 M18 hw => ?_)
      exact z_iret C hr hw d_X_read_31
  · replace hw := hw.2 h2
    refine z_bipush (v := (-2)) C d_X_read_8 (by decide) ?_
    exact z_iret C hr hw d_X_read_10
