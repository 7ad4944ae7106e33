theorem d_X_countChoices_0 : decode prog_1_method_61_code 0 = .ok (.aload_n 0, 1) := by decide +kernel
theorem d_X_countChoices_1 : decode prog_1_method_61_code 1 = .ok (.getfield 57, 3) := by decide +kernel
theorem d_X_countChoices_4 : decode prog_1_method_61_code 4 = .ok (.ifCond .ne (4), 3) := by decide +kernel
theorem d_X_countChoices_7 : decode prog_1_method_61_code 7 = .ok (.return_, 1) := by decide +kernel
theorem d_X_countChoices_8 : decode prog_1_method_61_code 8 = .ok (.aload_n 0, 1) := by decide +kernel
theorem d_X_countChoices_9 : decode prog_1_method_61_code 9 = .ok (.getfield 53, 3) := by decide +kernel
theorem d_X_countChoices_12 : decode prog_1_method_61_code 12 = .ok (.iconst 0, 1) := by decide +kernel
theorem d_X_countChoices_13 : decode prog_1_method_61_code 13 = .ok (.invokestatic 387, 3) := by decide +kernel
theorem d_X_countChoices_16 : decode prog_1_method_61_code 16 = .ok (.aload_n 0, 1) := by decide +kernel
theorem d_X_countChoices_17 : decode prog_1_method_61_code 17 = .ok (.invokevirtual 189, 3) := by decide +kernel
theorem d_X_countChoices_20 : decode prog_1_method_61_code 20 = .ok (.istore_n 1, 1) := by decide +kernel
theorem d_X_countChoices_21 : decode prog_1_method_61_code 21 = .ok (.iconst 0, 1) := by decide +kernel
theorem d_X_countChoices_22 : decode prog_1_method_61_code 22 = .ok (.istore_n 2, 1) := by decide +kernel
theorem d_X_countChoices_23 : decode prog_1_method_61_code 23 = .ok (.iload_n 2, 1) := by decide +kernel
theorem d_X_countChoices_24 : decode prog_1_method_61_code 24 = .ok (.iload_n 1, 1) := by decide +kernel
theorem d_X_countChoices_25 : decode prog_1_method_61_code 25 = .ok (.if_icmp .gt (87), 3) := by decide +kernel
theorem d_X_countChoices_28 : decode prog_1_method_61_code 28 = .ok (.aload_n 0, 1) := by decide +kernel
theorem d_X_countChoices_29 : decode prog_1_method_61_code 29 = .ok (.getfield 46, 3) := by decide +kernel
theorem d_X_countChoices_32 : decode prog_1_method_61_code 32 = .ok (.aload_n 0, 1) := by decide +kernel
theorem d_X_countChoices_33 : decode prog_1_method_61_code 33 = .ok (.getfield 18, 3) := by decide +kernel
theorem d_X_countChoices_36 : decode prog_1_method_61_code 36 = .ok (.iload_n 2, 1) := by decide +kernel
theorem d_X_countChoices_37 : decode prog_1_method_61_code 37 = .ok (.invokevirtual 192, 3) := by decide +kernel
theorem d_X_countChoices_40 : decode prog_1_method_61_code 40 = .ok (.iconst 0, 1) := by decide +kernel
theorem d_X_countChoices_41 : decode prog_1_method_61_code 41 = .ok (.istore_n 3, 1) := by decide +kernel
theorem d_X_countChoices_42 : decode prog_1_method_61_code 42 = .ok (.iload_n 3, 1) := by decide +kernel
theorem d_X_countChoices_43 : decode prog_1_method_61_code 43 = .ok (.aload_n 0, 1) := by decide +kernel
theorem d_X_countChoices_44 : decode prog_1_method_61_code 44 = .ok (.getfield 18, 3) := by decide +kernel
theorem d_X_countChoices_47 : decode prog_1_method_61_code 47 = .ok (.getfield 106, 3) := by decide +kernel
theorem d_X_countChoices_50 : decode prog_1_method_61_code 50 = .ok (.if_icmp .ge (56), 3) := by decide +kernel
theorem d_X_countChoices_53 : decode prog_1_method_61_code 53 = .ok (.aload_n 0, 1) := by decide +kernel
theorem d_X_countChoices_54 : decode prog_1_method_61_code 54 = .ok (.getfield 46, 3) := by decide +kernel
theorem d_X_countChoices_57 : decode prog_1_method_61_code 57 = .ok (.aload_n 0, 1) := by decide +kernel
theorem d_X_countChoices_58 : decode prog_1_method_61_code 58 = .ok (.getfield 18, 3) := by decide +kernel
theorem d_X_countChoices_61 : decode prog_1_method_61_code 61 = .ok (.getfield 109, 3) := by decide +kernel
theorem d_X_countChoices_64 : decode prog_1_method_61_code 64 = .ok (.iload_n 3, 1) := by decide +kernel
theorem d_X_countChoices_65 : decode prog_1_method_61_code 65 = .ok (.iaload, 1) := by decide +kernel
theorem d_X_countChoices_66 : decode prog_1_method_61_code 66 = .ok (.bipush 23, 2) := by decide +kernel
theorem d_X_countChoices_68 : decode prog_1_method_61_code 68 = .ok (.invokevirtual 161, 3) := by decide +kernel
theorem d_X_countChoices_71 : decode prog_1_method_61_code 71 = .ok (.aload_n 0, 1) := by decide +kernel
theorem d_X_countChoices_72 : decode prog_1_method_61_code 72 = .ok (.getfield 46, 3) := by decide +kernel
theorem d_X_countChoices_75 : decode prog_1_method_61_code 75 = .ok (.getfield 174, 3) := by decide +kernel
theorem d_X_countChoices_78 : decode prog_1_method_61_code 78 = .ok (.iconst (-1), 1) := by decide +kernel
theorem d_X_countChoices_79 : decode prog_1_method_61_code 79 = .ok (.if_icmp .eq (21), 3) := by decide +kernel
theorem d_X_countChoices_82 : decode prog_1_method_61_code 82 = .ok (.aload_n 0, 1) := by decide +kernel
theorem d_X_countChoices_83 : decode prog_1_method_61_code 83 = .ok (.getfield 53, 3) := by decide +kernel
theorem d_X_countChoices_86 : decode prog_1_method_61_code 86 = .ok (.iload_n 3, 1) := by decide +kernel
theorem d_X_countChoices_87 : decode prog_1_method_61_code 87 = .ok (.bipush 9, 2) := by decide +kernel
theorem d_X_countChoices_89 : decode prog_1_method_61_code 89 = .ok (.imul, 1) := by decide +kernel
theorem d_X_countChoices_90 : decode prog_1_method_61_code 90 = .ok (.iload_n 2, 1) := by decide +kernel
theorem d_X_countChoices_91 : decode prog_1_method_61_code 91 = .ok (.invokestatic 206, 3) := by decide +kernel
theorem d_X_countChoices_94 : decode prog_1_method_61_code 94 = .ok (.iadd, 1) := by decide +kernel
theorem d_X_countChoices_95 : decode prog_1_method_61_code 95 = .ok (.dup2, 1) := by decide +kernel
theorem d_X_countChoices_96 : decode prog_1_method_61_code 96 = .ok (.iaload, 1) := by decide +kernel
theorem d_X_countChoices_97 : decode prog_1_method_61_code 97 = .ok (.iconst 1, 1) := by decide +kernel
theorem d_X_countChoices_98 : decode prog_1_method_61_code 98 = .ok (.iadd, 1) := by decide +kernel
theorem d_X_countChoices_99 : decode prog_1_method_61_code 99 = .ok (.iastore, 1) := by decide +kernel
theorem d_X_countChoices_100 : decode prog_1_method_61_code 100 = .ok (.iinc 3 1, 3) := by decide +kernel
theorem d_X_countChoices_103 : decode prog_1_method_61_code 103 = .ok (.goto (-61), 3) := by decide +kernel
theorem d_X_countChoices_106 : decode prog_1_method_61_code 106 = .ok (.iinc 2 1, 3) := by decide +kernel
theorem d_X_countChoices_109 : decode prog_1_method_61_code 109 = .ok (.goto (-86), 3) := by decide +kernel
theorem d_X_countChoices_112 : decode prog_1_method_61_code 112 = .ok (.aload_n 0, 1) := by decide +kernel
theorem d_X_countChoices_113 : decode prog_1_method_61_code 113 = .ok (.iconst 0, 1) := by decide +kernel
theorem d_X_countChoices_114 : decode prog_1_method_61_code 114 = .ok (.putfield 57, 3) := by decide +kernel
theorem d_X_countChoices_117 : decode prog_1_method_61_code 117 = .ok (.return_, 1) := by decide +kernel
def wp_X_countChoices (M : Mem) (post : Mem → Prop) : Prop :=
  ((((M 0 9) = 0) → post M) ∧ (¬ ((M 0 9) = 0) → ∀ M2 : Mem, M2 = upr M 56 (zfill 72 0 (M 56)) → wp_X_allEvents M2 (fun r3 => (it2 (fun rec4 (i6 : Int32) (M7 : Mem) => (((r3 < i6) → ∀ M9 : Mem, M9 = upm M7 0 9 0 → post M9) ∧ (¬ (r3 < i6) → wp_XW_run 44 i6 M7 (fun M10 => (it2 (fun rec12 (i14 : Int32) (M15 : Mem) => ((((M15 10 6) ≤ i14) → rec4 (i6 + 1) M15) ∧ (¬ ((M15 10 6) ≤ i14) → vp_in i14 8 ∧ wp_XW_ride 44 (M15 16 (tn i14)) 23 M15 (fun M18 => ((((M18 44 13) = (-1)) → rec12 (i14 + 1) M18) ∧ (¬ ((M18 44 13) = (-1)) → vp_in ((i14 * 9) + (pf_J_bitCount i6)) 72 ∧ ∀ M23 : Mem, M23 = upm M18 56 (tn ((i14 * 9) + (pf_J_bitCount i6))) ((M18 56 (tn ((i14 * 9) + (pf_J_bitCount i6)))) + 1) → rec12 (i14 + 1) M23)))))) 4096 0 M10))))) 4096 0 M2))))
set_option maxHeartbeats 4000000 in
set_option maxRecDepth 100000 in
theorem c_X_countChoices (g : GX) {M : Mem} {post : Mem → Prop} (hw : wp_X_countChoices M post) : CtV (oX g) y_X_countChoices prog_1_method_61_code 4 none (rl 3) [.ref (ax g 0)] M post := by
  refine z_metV (oX_ok g) (by decide) rfl (fun X C hr => ?_)
  show Zj X 4 (oX g) M 0 [(0, .ref (ax g 0))] []
  unfold wp_X_countChoices at hw
  refine z_aload_n C d_X_countChoices_0 rfl 0 rfl ?_
  refine gf_X_57 C d_X_countChoices_1 ?_
  refine z_if_ne C 8 d_X_countChoices_4 (by decide) (fun h1 => ?_) (fun h1 => ?_)
  · replace hw := hw.2 h1
    refine z_aload_n C d_X_countChoices_8 rfl 0 rfl ?_
    refine gf_X_53 C d_X_countChoices_9 ?_
    refine z_iconst (v := 0) C d_X_countChoices_12 (by decide) ?_
    refine z_fill C tw_556 (zar_x56) rfl rfl d_X_countChoices_13 (fun M2 hM2 => ?_)
    replace hw := hw M2 hM2
    refine z_aload_n C d_X_countChoices_16 rfl 0 rfl ?_
    refine z_callVi C (As := []) (rest := []) m_X_allEvents tw_362 0 (le_X) rfl ⟨rfl, rfl⟩ (c_X_allEvents g hw) rfl rfl rfl d_X_countChoices_17 (fun r3 M2 hq => ?_)
    obtain ⟨rfl, hw⟩ := hq
    refine z_istore_n (lv' := [(1, .int r3), (0, .ref (ax g 0))]) C d_X_countChoices_20 rfl rfl rfl ?_
    refine z_iconst (v := 0) C d_X_countChoices_21 (by decide) ?_
    refine z_istore_n (lv' := [(2, .int 0), (1, .int r3), (0, .ref (ax g 0))]) C d_X_countChoices_22 rfl rfl rfl ?_
    refine z_sub [2, 1, 0] rfl ?_
    refine it2_Z (Z := fun (i6 : Int32) (M7 : Mem) => Zj X 4 (oX g) M7 23 [(0, .ref (ax g 0)), (1, .int r3), (2, .int i6)] []) (fun rec4 ih5 i6 M7 hw => ?_) _ _ _ hw
    refine z_iload_n C d_X_countChoices_23 rfl 2 rfl ?_
    refine z_iload_n C d_X_countChoices_24 rfl 1 rfl ?_
    refine z_ic_gt C 112 d_X_countChoices_25 (by decide) (fun h8 => ?_) (fun h8 => ?_)
    · replace hw := hw.1 h8
      refine z_aload_n C d_X_countChoices_112 rfl 0 rfl ?_
      refine z_iconst (v := 0) C d_X_countChoices_113 (by decide) ?_
      refine pp_X_57 (Or.inl rfl) C d_X_countChoices_114 (fun M9 hM9 => ?_)
      replace hw := hw M9 hM9
      exact z_vret C hr hw d_X_countChoices_117
    · replace hw := hw.2 h8
      refine z_aload_n C d_X_countChoices_28 rfl 0 rfl ?_
      refine gf_X_46 C d_X_countChoices_29 ?_
      refine z_aload_n C d_X_countChoices_32 rfl 0 rfl ?_
      refine gf_X_18 C d_X_countChoices_33 ?_
      refine z_iload_n C d_X_countChoices_36 rfl 2 rfl ?_
      refine z_callVv C (As := [.ref (ax g 10), .int i6]) (rest := []) m_XW_run tw_366 44 (le_XW (Or.inr rfl)) rfl ⟨rfl, rfl⟩ (c_XW_run g (Or.inr rfl) hw) rfl rfl rfl d_X_countChoices_37 (fun M10 hw => ?_)
      refine z_iconst (v := 0) C d_X_countChoices_40 (by decide) ?_
      refine z_istore_n (lv' := [(3, .int 0), (0, .ref (ax g 0)), (1, .int r3), (2, .int i6)]) C d_X_countChoices_41 rfl rfl rfl ?_
      refine z_sub [1, 2, 3, 0] rfl ?_
      refine it2_Z (Z := fun (i14 : Int32) (M15 : Mem) => Zj X 4 (oX g) M15 42 [(0, .ref (ax g 0)), (1, .int r3), (2, .int i6), (3, .int i14)] []) (fun rec12 ih13 i14 M15 hw => ?_) _ _ _ hw
      refine z_iload_n C d_X_countChoices_42 rfl 3 rfl ?_
      refine z_aload_n C d_X_countChoices_43 rfl 0 rfl ?_
      refine gf_X_18 C d_X_countChoices_44 ?_
      refine gf_X_106 C d_X_countChoices_47 ?_
      refine z_ic_ge C 106 d_X_countChoices_50 (by decide) (fun h16 => ?_) (fun h16 => ?_)
      · replace hw := hw.1 h16
        refine z_iinc (v := (i6 + 1)) (lv' := [(2, .int (i6 + 1)), (0, .ref (ax g 0)), (1, .int r3), (3, .int i14)]) C d_X_countChoices_106 2 rfl rfl rfl rfl ?_
        refine z_goto C 23 d_X_countChoices_109 (by decide) ?_
        refine z_sub [1, 2, 0] rfl ?_
        exact ih5 _ _ hw
      · replace hw := hw.2 h16
        refine z_aload_n C d_X_countChoices_53 rfl 0 rfl ?_
        refine gf_X_46 C d_X_countChoices_54 ?_
        refine z_aload_n C d_X_countChoices_57 rfl 0 rfl ?_
        refine gf_X_18 C d_X_countChoices_58 ?_
        refine gf_X_109 C d_X_countChoices_61 ?_
        refine z_iload_n C d_X_countChoices_64 rfl 3 rfl ?_
        have hv17 := hw.1
        replace hw := hw.2
        refine z_al (zar_x16) C hv17 d_X_countChoices_65 ?_
        refine z_bipush (v := 23) C d_X_countChoices_66 (by decide) ?_
        refine z_callVv C (As := [.int (M15 16 (tn i14)), .int 23]) (rest := []) m_XW_ride tw_412 44 (le_XW (Or.inr rfl)) rfl ⟨rfl, rfl⟩ (c_XW_ride g (Or.inr rfl) hw) rfl rfl rfl d_X_countChoices_68 (fun M18 hw => ?_)
        refine z_aload_n C d_X_countChoices_71 rfl 0 rfl ?_
        refine gf_X_46 C d_X_countChoices_72 ?_
        refine gf_X_174 (Or.inr rfl) C d_X_countChoices_75 ?_
        refine z_iconst (v := (-1)) C d_X_countChoices_78 (by decide) ?_
        refine z_ic_eq C 100 d_X_countChoices_79 (by decide) (fun h20 => ?_) (fun h20 => ?_)
        · replace hw := hw.1 h20
          refine z_iinc (v := (i14 + 1)) (lv' := [(3, .int (i14 + 1)), (0, .ref (ax g 0)), (1, .int r3), (2, .int i6)]) C d_X_countChoices_100 3 rfl rfl rfl rfl ?_
          refine z_goto C 42 d_X_countChoices_103 (by decide) ?_
          refine z_sub [1, 2, 3, 0] rfl ?_
          exact ih13 _ _ hw
        · replace hw := hw.2 h20
          refine z_aload_n C d_X_countChoices_82 rfl 0 rfl ?_
          refine gf_X_53 C d_X_countChoices_83 ?_
          refine z_iload_n C d_X_countChoices_86 rfl 3 rfl ?_
          refine z_bipush (v := 9) C d_X_countChoices_87 (by decide) ?_
          refine z_imul C d_X_countChoices_89 ?_
          refine z_iload_n C d_X_countChoices_90 rfl 2 rfl ?_
          refine z_callSi C (As := [.int i6]) (rest := [.int (i14 * 9), .ref (ax g 56)]) m_J_bitCount tw_489 ⟨rfl, rfl⟩ (c_J_bitCount (oX_ok g) _ _) rfl rfl rfl d_X_countChoices_91 (fun r M2 hq => ?_)
          obtain ⟨rfl, rfl⟩ := hq
          refine z_iadd C d_X_countChoices_94 ?_
          refine z_dup2 C d_X_countChoices_95 rfl rfl ?_
          have hv22 := hw.1
          replace hw := hw.2
          refine z_al (zar_x56) C hv22 d_X_countChoices_96 ?_
          refine z_iconst (v := 1) C d_X_countChoices_97 (by decide) ?_
          refine z_iadd C d_X_countChoices_98 ?_
          refine z_as (zar_x56) C hv22 d_X_countChoices_99 (fun M23 hM23 => ?_)
          replace hw := hw M23 hM23
          refine z_iinc (v := (i14 + 1)) (lv' := [(3, .int (i14 + 1)), (0, .ref (ax g 0)), (1, .int r3), (2, .int i6)]) C d_X_countChoices_100 3 rfl rfl rfl rfl ?_
          refine z_goto C 42 d_X_countChoices_103 (by decide) ?_
          refine z_sub [1, 2, 3, 0] rfl ?_
          exact ih13 _ _ hw
  · replace hw := hw.1 h1
    exact z_vret C hr hw d_X_countChoices_7
theorem d_R_readsPloughs_0 : decode prog_8_method_30_code 0 = .ok (.aload_n 0, 1) := by decide +kernel
theorem d_R_readsPloughs_1 : decode prog_8_method_30_code 1 = .ok (.iconst 0, 1) := by decide +kernel
theorem d_R_readsPloughs_2 : decode prog_8_method_30_code 2 = .ok (.putfield 146, 3) := by decide +kernel
theorem d_R_readsPloughs_5 : decode prog_8_method_30_code 5 = .ok (.aload_n 0, 1) := by decide +kernel
theorem d_R_readsPloughs_6 : decode prog_8_method_30_code 6 = .ok (.getfield 25, 3) := by decide +kernel
theorem d_R_readsPloughs_9 : decode prog_8_method_30_code 9 = .ok (.iconst 2, 1) := by decide +kernel
theorem d_R_readsPloughs_10 : decode prog_8_method_30_code 10 = .ok (.iaload, 1) := by decide +kernel
theorem d_R_readsPloughs_11 : decode prog_8_method_30_code 11 = .ok (.istore_n 1, 1) := by decide +kernel
theorem d_R_readsPloughs_12 : decode prog_8_method_30_code 12 = .ok (.iconst 0, 1) := by decide +kernel
theorem d_R_readsPloughs_13 : decode prog_8_method_30_code 13 = .ok (.istore_n 2, 1) := by decide +kernel
theorem d_R_readsPloughs_14 : decode prog_8_method_30_code 14 = .ok (.iload_n 2, 1) := by decide +kernel
theorem d_R_readsPloughs_15 : decode prog_8_method_30_code 15 = .ok (.iload_n 1, 1) := by decide +kernel
theorem d_R_readsPloughs_16 : decode prog_8_method_30_code 16 = .ok (.if_icmp .ge (80), 3) := by decide +kernel
theorem d_R_readsPloughs_19 : decode prog_8_method_30_code 19 = .ok (.iload_n 2, 1) := by decide +kernel
theorem d_R_readsPloughs_20 : decode prog_8_method_30_code 20 = .ok (.iconst 4, 1) := by decide +kernel
theorem d_R_readsPloughs_21 : decode prog_8_method_30_code 21 = .ok (.irem, 1) := by decide +kernel
theorem d_R_readsPloughs_22 : decode prog_8_method_30_code 22 = .ok (.istore_n 3, 1) := by decide +kernel
theorem d_R_readsPloughs_23 : decode prog_8_method_30_code 23 = .ok (.iload_n 3, 1) := by decide +kernel
theorem d_R_readsPloughs_24 : decode prog_8_method_30_code 24 = .ok (.aload_n 0, 1) := by decide +kernel
theorem d_R_readsPloughs_25 : decode prog_8_method_30_code 25 = .ok (.getfield 22, 3) := by decide +kernel
theorem d_R_readsPloughs_28 : decode prog_8_method_30_code 28 = .ok (.bipush 48, 2) := by decide +kernel
theorem d_R_readsPloughs_30 : decode prog_8_method_30_code 30 = .ok (.iload_n 2, 1) := by decide +kernel
theorem d_R_readsPloughs_31 : decode prog_8_method_30_code 31 = .ok (.iadd, 1) := by decide +kernel
theorem d_R_readsPloughs_32 : decode prog_8_method_30_code 32 = .ok (.iaload, 1) := by decide +kernel
theorem d_R_readsPloughs_33 : decode prog_8_method_30_code 33 = .ok (.invokestatic 149, 3) := by decide +kernel
theorem d_R_readsPloughs_36 : decode prog_8_method_30_code 36 = .ok (.istore 4, 2) := by decide +kernel
theorem d_R_readsPloughs_38 : decode prog_8_method_30_code 38 = .ok (.iload 4, 2) := by decide +kernel
theorem d_R_readsPloughs_40 : decode prog_8_method_30_code 40 = .ok (.bipush (-9), 2) := by decide +kernel
theorem d_R_readsPloughs_42 : decode prog_8_method_30_code 42 = .ok (.if_icmp .ne (10), 3) := by decide +kernel
theorem d_R_readsPloughs_45 : decode prog_8_method_30_code 45 = .ok (.aload_n 0, 1) := by decide +kernel
theorem d_R_readsPloughs_46 : decode prog_8_method_30_code 46 = .ok (.iconst 0, 1) := by decide +kernel
theorem d_R_readsPloughs_47 : decode prog_8_method_30_code 47 = .ok (.putfield 146, 3) := by decide +kernel
theorem d_R_readsPloughs_50 : decode prog_8_method_30_code 50 = .ok (.iload_n 2, 1) := by decide +kernel
theorem d_R_readsPloughs_51 : decode prog_8_method_30_code 51 = .ok (.ireturn, 1) := by decide +kernel
theorem d_R_readsPloughs_52 : decode prog_8_method_30_code 52 = .ok (.iload_n 3, 1) := by decide +kernel
theorem d_R_readsPloughs_53 : decode prog_8_method_30_code 53 = .ok (.iconst 3, 1) := by decide +kernel
theorem d_R_readsPloughs_54 : decode prog_8_method_30_code 54 = .ok (.if_icmp .ge (17), 3) := by decide +kernel
theorem d_R_readsPloughs_57 : decode prog_8_method_30_code 57 = .ok (.aload_n 0, 1) := by decide +kernel
theorem d_R_readsPloughs_58 : decode prog_8_method_30_code 58 = .ok (.getfield 34, 3) := by decide +kernel
theorem d_R_readsPloughs_61 : decode prog_8_method_30_code 61 = .ok (.iconst 3, 1) := by decide +kernel
theorem d_R_readsPloughs_62 : decode prog_8_method_30_code 62 = .ok (.iload_n 2, 1) := by decide +kernel
theorem d_R_readsPloughs_63 : decode prog_8_method_30_code 63 = .ok (.iconst 4, 1) := by decide +kernel
theorem d_R_readsPloughs_64 : decode prog_8_method_30_code 64 = .ok (.idiv, 1) := by decide +kernel
theorem d_R_readsPloughs_65 : decode prog_8_method_30_code 65 = .ok (.imul, 1) := by decide +kernel
theorem d_R_readsPloughs_66 : decode prog_8_method_30_code 66 = .ok (.iload_n 3, 1) := by decide +kernel
theorem d_R_readsPloughs_67 : decode prog_8_method_30_code 67 = .ok (.iadd, 1) := by decide +kernel
theorem d_R_readsPloughs_68 : decode prog_8_method_30_code 68 = .ok (.iload 4, 2) := by decide +kernel
theorem d_R_readsPloughs_70 : decode prog_8_method_30_code 70 = .ok (.iastore, 1) := by decide +kernel
theorem d_R_readsPloughs_71 : decode prog_8_method_30_code 71 = .ok (.aload_n 0, 1) := by decide +kernel
theorem d_R_readsPloughs_72 : decode prog_8_method_30_code 72 = .ok (.dup, 1) := by decide +kernel
theorem d_R_readsPloughs_73 : decode prog_8_method_30_code 73 = .ok (.getfield 146, 3) := by decide +kernel
theorem d_R_readsPloughs_76 : decode prog_8_method_30_code 76 = .ok (.iload_n 3, 1) := by decide +kernel
theorem d_R_readsPloughs_77 : decode prog_8_method_30_code 77 = .ok (.iconst 2, 1) := by decide +kernel
theorem d_R_readsPloughs_78 : decode prog_8_method_30_code 78 = .ok (.if_icmp .ne (7), 3) := by decide +kernel
theorem d_R_readsPloughs_81 : decode prog_8_method_30_code 81 = .ok (.iconst 1, 1) := by decide +kernel
theorem d_R_readsPloughs_82 : decode prog_8_method_30_code 82 = .ok (.goto (4), 3) := by decide +kernel
theorem d_R_readsPloughs_85 : decode prog_8_method_30_code 85 = .ok (.iconst 0, 1) := by decide +kernel
theorem d_R_readsPloughs_86 : decode prog_8_method_30_code 86 = .ok (.iadd, 1) := by decide +kernel
theorem d_R_readsPloughs_87 : decode prog_8_method_30_code 87 = .ok (.putfield 146, 3) := by decide +kernel
theorem d_R_readsPloughs_90 : decode prog_8_method_30_code 90 = .ok (.iinc 2 1, 3) := by decide +kernel
theorem d_R_readsPloughs_93 : decode prog_8_method_30_code 93 = .ok (.goto (-79), 3) := by decide +kernel
theorem d_R_readsPloughs_96 : decode prog_8_method_30_code 96 = .ok (.iload_n 1, 1) := by decide +kernel
theorem d_R_readsPloughs_97 : decode prog_8_method_30_code 97 = .ok (.ifCond .le (17), 3) := by decide +kernel
theorem d_R_readsPloughs_100 : decode prog_8_method_30_code 100 = .ok (.iload_n 1, 1) := by decide +kernel
theorem d_R_readsPloughs_101 : decode prog_8_method_30_code 101 = .ok (.iconst 4, 1) := by decide +kernel
theorem d_R_readsPloughs_102 : decode prog_8_method_30_code 102 = .ok (.irem, 1) := by decide +kernel
theorem d_R_readsPloughs_103 : decode prog_8_method_30_code 103 = .ok (.iconst 3, 1) := by decide +kernel
theorem d_R_readsPloughs_104 : decode prog_8_method_30_code 104 = .ok (.if_icmp .eq (10), 3) := by decide +kernel
theorem d_R_readsPloughs_107 : decode prog_8_method_30_code 107 = .ok (.aload_n 0, 1) := by decide +kernel
theorem d_R_readsPloughs_108 : decode prog_8_method_30_code 108 = .ok (.iconst 0, 1) := by decide +kernel
theorem d_R_readsPloughs_109 : decode prog_8_method_30_code 109 = .ok (.putfield 146, 3) := by decide +kernel
theorem d_R_readsPloughs_112 : decode prog_8_method_30_code 112 = .ok (.iload_n 1, 1) := by decide +kernel
theorem d_R_readsPloughs_113 : decode prog_8_method_30_code 113 = .ok (.ireturn, 1) := by decide +kernel
theorem d_R_readsPloughs_114 : decode prog_8_method_30_code 114 = .ok (.iconst (-1), 1) := by decide +kernel
theorem d_R_readsPloughs_115 : decode prog_8_method_30_code 115 = .ok (.ireturn, 1) := by decide +kernel
def wp_R_readsPloughs (M : Mem) (post : Int32 → Mem → Prop) : Prop :=
  ∀ M1 : Mem, M1 = upm M 0 9 0 → vp_in 2 4 ∧ (it2 (fun rec3 (i5 : Int32) (M6 : Mem) => ((((M1 6 (tn 2)) ≤ i5) → ((((M1 6 (tn 2)) ≤ 0) → post (-1) M6) ∧ (¬ ((M1 6 (tn 2)) ≤ 0) → (((((M1 6 (tn 2)) - (M1 6 (tn 2)) / 4 * 4) = 3) → post (-1) M6) ∧ (¬ (((M1 6 (tn 2)) - (M1 6 (tn 2)) / 4 * 4) = 3) → ∀ M10 : Mem, M10 = upm M6 0 9 0 → post (M1 6 (tn 2)) M10))))) ∧ (¬ ((M1 6 (tn 2)) ≤ i5) → ∀ x11 : Int32, x11 = (i5 - i5 / 4 * 4) → vp_in (48 + i5) 96 ∧ ∀ x14 : Int32, x14 = (pf_R_ploughOf x11 (M6 5 (tn (48 + i5)))) → (((x14 = (-9)) → ∀ M27 : Mem, M27 = upm M6 0 9 0 → post i5 M27) ∧ (¬ (x14 = (-9)) → (((3 ≤ x11) → ∀ u18 : Int32, u18 = (if x11 = 2 then 1 else 0) → ∀ M19 : Mem, M19 = upm M6 0 9 ((M6 0 9) + u18) → rec3 (i5 + 1) M19) ∧ (¬ (3 ≤ x11) → vp_in ((3 * (i5 / 4)) + x11) 12 ∧ ∀ M21 : Mem, M21 = upm M6 9 (tn ((3 * (i5 / 4)) + x11)) x14 → ∀ u24 : Int32, u24 = (if x11 = 2 then 1 else 0) → ∀ M25 : Mem, M25 = upm M21 0 9 ((M21 0 9) + u24) → rec3 (i5 + 1) M25))))))) 4096 0 M1)
set_option maxHeartbeats 4000000 in
set_option maxRecDepth 100000 in
theorem c_R_readsPloughs (g : GX) {M : Mem} {post : Int32 → Mem → Prop} (hw : wp_R_readsPloughs M post) : CtI (oR g) y_R_readsPloughs prog_8_method_30_code 5 (some .int) (rl 3) [.ref (ax g 0)] M post := by
  refine z_metI (oR_ok g) (by decide) rfl (fun X C hr => ?_)
  show Zj X 5 (oR g) M 0 [(0, .ref (ax g 0))] []
  unfold wp_R_readsPloughs at hw
  refine z_aload_n C d_R_readsPloughs_0 rfl 0 rfl ?_
  refine z_iconst (v := 0) C d_R_readsPloughs_1 (by decide) ?_
  refine pp_R_146 C d_R_readsPloughs_2 (fun M1 hM1 => ?_)
  replace hw := hw M1 hM1
  refine z_aload_n C d_R_readsPloughs_5 rfl 0 rfl ?_
  refine gf_R_25 C d_R_readsPloughs_6 ?_
  refine z_iconst (v := 2) C d_R_readsPloughs_9 (by decide) ?_
  have hv2 := hw.1
  replace hw := hw.2
  refine z_al (zar_r6) C hv2 d_R_readsPloughs_10 ?_
  refine z_istore_n (lv' := [(1, .int (M1 6 (tn 2))), (0, .ref (ax g 0))]) C d_R_readsPloughs_11 rfl rfl rfl ?_
  refine z_iconst (v := 0) C d_R_readsPloughs_12 (by decide) ?_
  refine z_istore_n (lv' := [(2, .int 0), (1, .int (M1 6 (tn 2))), (0, .ref (ax g 0))]) C d_R_readsPloughs_13 rfl rfl rfl ?_
  refine z_sub [2, 1, 0] rfl ?_
  refine it2_Z (Z := fun (i5 : Int32) (M6 : Mem) => Zj X 5 (oR g) M6 14 [(0, .ref (ax g 0)), (1, .int (M1 6 (tn 2))), (2, .int i5)] []) (fun rec3 ih4 i5 M6 hw => ?_) _ _ _ hw
  refine z_iload_n C d_R_readsPloughs_14 rfl 2 rfl ?_
  refine z_iload_n C d_R_readsPloughs_15 rfl 1 rfl ?_
  refine z_ic_ge C 96 d_R_readsPloughs_16 (by decide) (fun h7 => ?_) (fun h7 => ?_)
  · replace hw := hw.1 h7
    refine z_iload_n C d_R_readsPloughs_96 rfl 1 rfl ?_
    refine z_if_le C 114 d_R_readsPloughs_97 (by decide) (fun h8 => ?_) (fun h8 => ?_)
    · replace hw := hw.1 h8
      refine z_iconst (v := (-1)) C d_R_readsPloughs_114 (by decide) ?_
      exact z_iret C hr hw d_R_readsPloughs_115
    · replace hw := hw.2 h8
      refine z_iload_n C d_R_readsPloughs_100 rfl 1 rfl ?_
      refine z_iconst (v := 4) C d_R_readsPloughs_101 (by decide) ?_
      refine z_irem C d_R_readsPloughs_102 (by decide) ?_
      refine z_iconst (v := 3) C d_R_readsPloughs_103 (by decide) ?_
      refine z_ic_eq C 114 d_R_readsPloughs_104 (by decide) (fun h9 => ?_) (fun h9 => ?_)
      · replace hw := hw.1 h9
        refine z_iconst (v := (-1)) C d_R_readsPloughs_114 (by decide) ?_
        exact z_iret C hr hw d_R_readsPloughs_115
      · replace hw := hw.2 h9
        refine z_aload_n C d_R_readsPloughs_107 rfl 0 rfl ?_
        refine z_iconst (v := 0) C d_R_readsPloughs_108 (by decide) ?_
        refine pp_R_146 C d_R_readsPloughs_109 (fun M10 hM10 => ?_)
        replace hw := hw M10 hM10
        refine z_iload_n C d_R_readsPloughs_112 rfl 1 rfl ?_
        exact z_iret C hr hw d_R_readsPloughs_113
  · replace hw := hw.2 h7
    refine z_iload_n C d_R_readsPloughs_19 rfl 2 rfl ?_
    refine z_iconst (v := 4) C d_R_readsPloughs_20 (by decide) ?_
    refine z_irem C d_R_readsPloughs_21 (by decide) ?_
    obtain ⟨x11, hx11⟩ : ∃ z : Int32, z = (i5 - i5 / 4 * 4) := ⟨_, rfl⟩
    rw [← hx11]
    replace hw := hw x11 hx11
    refine z_istore_n (lv' := [(3, .int x11), (0, .ref (ax g 0)), (1, .int (M1 6 (tn 2))), (2, .int i5)]) C d_R_readsPloughs_22 rfl rfl rfl ?_
    refine z_iload_n C d_R_readsPloughs_23 rfl 0 rfl ?_
    refine z_aload_n C d_R_readsPloughs_24 rfl 1 rfl ?_
    refine gf_R_22 C d_R_readsPloughs_25 ?_
    refine z_bipush (v := 48) C d_R_readsPloughs_28 (by decide) ?_
    refine z_iload_n C d_R_readsPloughs_30 rfl 3 rfl ?_
    refine z_iadd C d_R_readsPloughs_31 ?_
    have hv12 := hw.1
    replace hw := hw.2
    refine z_al (zar_r5) C hv12 d_R_readsPloughs_32 ?_
    refine z_callSi C (As := [.int x11, .int (M6 5 (tn (48 + i5)))]) (rest := []) m_R_ploughOf tw_866 ⟨rfl, rfl⟩ (c_R_ploughOf (oR_ok g) _ _ _) rfl rfl rfl d_R_readsPloughs_33 (fun r M2 hq => ?_)
    obtain ⟨rfl, rfl⟩ := hq
    obtain ⟨x14, hx14⟩ : ∃ z : Int32, z = (pf_R_ploughOf x11 (M6 5 (tn (48 + i5)))) := ⟨_, rfl⟩
    rw [← hx14]
    replace hw := hw x14 hx14
    refine z_istore (lv' := [(4, .int x14), (3, .int x11), (0, .ref (ax g 0)), (1, .int (M1 6 (tn 2))), (2, .int i5)]) C d_R_readsPloughs_36 rfl rfl ?_
    refine z_iload C d_R_readsPloughs_38 0 rfl ?_
    refine z_bipush (v := (-9)) C d_R_readsPloughs_40 (by decide) ?_
    refine z_ic_ne C 52 d_R_readsPloughs_42 (by decide) (fun h15 => ?_) (fun h15 => ?_)
    · replace hw := hw.2 h15
      refine z_iload_n C d_R_readsPloughs_52 rfl 1 rfl ?_
      refine z_iconst (v := 3) C d_R_readsPloughs_53 (by decide) ?_
      refine z_ic_ge C 71 d_R_readsPloughs_54 (by decide) (fun h16 => ?_) (fun h16 => ?_)
      · replace hw := hw.1 h16
        refine z_aload_n C d_R_readsPloughs_71 rfl 2 rfl ?_
        refine z_dup C d_R_readsPloughs_72 rfl ?_
        refine gf_R_146 C d_R_readsPloughs_73 ?_
        refine z_iload_n C d_R_readsPloughs_76 rfl 1 rfl ?_
        refine z_iconst (v := 2) C d_R_readsPloughs_77 (by decide) ?_
        have hj20 : ∀ u18 : Int32, u18 = (if x11 = 2 then 1 else 0) → Zj X 5 (oR g) M6 86 [(0, .ref (ax g 0)), (1, .int (M1 6 (tn 2))), (2, .int i5)] [.int u18, .int (M6 0 9), .ref (ax g 0)] := by
          intro u18 hu18
          replace hw := hw u18 hu18
          refine z_iadd C d_R_readsPloughs_86 ?_
          refine pp_R_146 C d_R_readsPloughs_87 (fun M19 hM19 => ?_)
          replace hw := hw M19 hM19
          refine z_iinc (v := (i5 + 1)) (lv' := [(2, .int (i5 + 1)), (0, .ref (ax g 0)), (1, .int (M1 6 (tn 2)))]) C d_R_readsPloughs_90 2 rfl rfl rfl rfl ?_
          refine z_goto C 14 d_R_readsPloughs_93 (by decide) ?_
          refine z_sub [1, 2, 0] rfl ?_
          exact ih4 _ _ hw
        refine z_ic_ne C 85 d_R_readsPloughs_78 (by decide) (fun h17 => ?_) (fun h17 => ?_)
        · refine z_iconst (v := 0) C d_R_readsPloughs_85 (by decide) ?_
          refine z_sub [2, 3, 4] rfl ?_
          exact hj20 _ ((if_neg h17)).symm
        · refine z_iconst (v := 1) C d_R_readsPloughs_81 (by decide) ?_
          refine z_goto C 86 d_R_readsPloughs_82 (by decide) ?_
          refine z_sub [2, 3, 4] rfl ?_
          exact hj20 _ ((if_pos h17)).symm
      · replace hw := hw.2 h16
        refine z_aload_n C d_R_readsPloughs_57 rfl 2 rfl ?_
        refine gf_R_34 C d_R_readsPloughs_58 ?_
        refine z_iconst (v := 3) C d_R_readsPloughs_61 (by decide) ?_
        refine z_iload_n C d_R_readsPloughs_62 rfl 4 rfl ?_
        refine z_iconst (v := 4) C d_R_readsPloughs_63 (by decide) ?_
        refine z_idiv C d_R_readsPloughs_64 (by decide) ?_
        refine z_imul C d_R_readsPloughs_65 ?_
        refine z_iload_n C d_R_readsPloughs_66 rfl 1 rfl ?_
        refine z_iadd C d_R_readsPloughs_67 ?_
        refine z_iload C d_R_readsPloughs_68 0 rfl ?_
        have hv22 := hw.1
        refine z_as (zar_r9) C hv22 d_R_readsPloughs_70 (fun M21 hM21 => ?_)
        replace hw := hw.2 M21 hM21
        refine z_aload_n C d_R_readsPloughs_71 rfl 2 rfl ?_
        refine z_dup C d_R_readsPloughs_72 rfl ?_
        refine gf_R_146 C d_R_readsPloughs_73 ?_
        refine z_iload_n C d_R_readsPloughs_76 rfl 1 rfl ?_
        refine z_iconst (v := 2) C d_R_readsPloughs_77 (by decide) ?_
        have hj26 : ∀ u24 : Int32, u24 = (if x11 = 2 then 1 else 0) → Zj X 5 (oR g) M21 86 [(0, .ref (ax g 0)), (1, .int (M1 6 (tn 2))), (2, .int i5)] [.int u24, .int (M21 0 9), .ref (ax g 0)] := by
          intro u24 hu24
          replace hw := hw u24 hu24
          refine z_iadd C d_R_readsPloughs_86 ?_
          refine pp_R_146 C d_R_readsPloughs_87 (fun M25 hM25 => ?_)
          replace hw := hw M25 hM25
          refine z_iinc (v := (i5 + 1)) (lv' := [(2, .int (i5 + 1)), (0, .ref (ax g 0)), (1, .int (M1 6 (tn 2)))]) C d_R_readsPloughs_90 2 rfl rfl rfl rfl ?_
          refine z_goto C 14 d_R_readsPloughs_93 (by decide) ?_
          refine z_sub [1, 2, 0] rfl ?_
          exact ih4 _ _ hw
        refine z_ic_ne C 85 d_R_readsPloughs_78 (by decide) (fun h23 => ?_) (fun h23 => ?_)
        · refine z_iconst (v := 0) C d_R_readsPloughs_85 (by decide) ?_
          refine z_sub [2, 3, 4] rfl ?_
          exact hj26 _ ((if_neg h23)).symm
        · refine z_iconst (v := 1) C d_R_readsPloughs_81 (by decide) ?_
          refine z_goto C 86 d_R_readsPloughs_82 (by decide) ?_
          refine z_sub [2, 3, 4] rfl ?_
          exact hj26 _ ((if_pos h23)).symm
    · replace hw := hw.1 h15
      refine z_aload_n C d_R_readsPloughs_45 rfl 2 rfl ?_
      refine z_iconst (v := 0) C d_R_readsPloughs_46 (by decide) ?_
      refine pp_R_146 C d_R_readsPloughs_47 (fun M27 hM27 => ?_)
      replace hw := hw M27 hM27
      refine z_iload_n C d_R_readsPloughs_50 rfl 4 rfl ?_
      exact z_iret C hr hw d_R_readsPloughs_51
theorem d_R_fall_0 : decode prog_8_method_39_code 0 = .ok (.aload_n 0, 1) := by decide +kernel
theorem d_R_fall_1 : decode prog_8_method_39_code 1 = .ok (.invokevirtual 159, 3) := by decide +kernel
theorem d_R_fall_4 : decode prog_8_method_39_code 4 = .ok (.pop, 1) := by decide +kernel
theorem d_R_fall_5 : decode prog_8_method_39_code 5 = .ok (.iload_n 1, 1) := by decide +kernel
theorem d_R_fall_6 : decode prog_8_method_39_code 6 = .ok (.invokestatic 178, 3) := by decide +kernel
theorem d_R_fall_9 : decode prog_8_method_39_code 9 = .ok (.ifCond .eq (12), 3) := by decide +kernel
theorem d_R_fall_12 : decode prog_8_method_39_code 12 = .ok (.aload_n 0, 1) := by decide +kernel
theorem d_R_fall_13 : decode prog_8_method_39_code 13 = .ok (.getfield 31, 3) := by decide +kernel
theorem d_R_fall_16 : decode prog_8_method_39_code 16 = .ok (.iload_n 1, 1) := by decide +kernel
theorem d_R_fall_17 : decode prog_8_method_39_code 17 = .ok (.iaload, 1) := by decide +kernel
theorem d_R_fall_18 : decode prog_8_method_39_code 18 = .ok (.goto (5), 3) := by decide +kernel
theorem d_R_fall_21 : decode prog_8_method_39_code 21 = .ok (.bipush (-2), 2) := by decide +kernel
theorem d_R_fall_23 : decode prog_8_method_39_code 23 = .ok (.ireturn, 1) := by decide +kernel
def wp_R_fall (a1 : Int32) (M : Mem) (post : Int32 → Mem → Prop) : Prop :=
  wp_R_readsFall M (fun r2 M1 => ((((pf_R_isHour a1) = 0) → True) ∧ (¬ ((pf_R_isHour a1) = 0) → (vp_in a1 24))) ∧ (∀ u6 : Int32, u6 = (if (pf_R_isHour a1) = 0 then (-2) else (M1 8 (tn a1))) → post u6 M1))
set_option maxHeartbeats 4000000 in
set_option maxRecDepth 100000 in
theorem c_R_fall (g : GX) {a1 : Int32} {M : Mem} {post : Int32 → Mem → Prop} (hw : wp_R_fall a1 M post) : CtI (oR g) y_R_fall prog_8_method_39_code 2 (some .int) (rl 3) [.ref (ax g 0), .int a1] M post := by
  refine z_metI (oR_ok g) (by decide) rfl (fun X C hr => ?_)
  show Zj X 2 (oR g) M 0 [(0, .ref (ax g 0)), (1, .int a1)] []
  unfold wp_R_fall at hw
  refine z_aload_n C d_R_fall_0 rfl 0 rfl ?_
  refine z_callVi C (As := []) (rest := []) m_R_readsFall tw_850 0 (le_R) rfl ⟨rfl, rfl⟩ (c_R_readsFall g hw) rfl rfl rfl d_R_fall_1 (fun r2 M1 hw => ?_)
  refine z_pop C d_R_fall_4 rfl ?_
  refine z_iload_n C d_R_fall_5 rfl 1 rfl ?_
  refine z_callSi C (As := [.int a1]) (rest := []) m_R_isHour tw_889 ⟨rfl, rfl⟩ (c_R_isHour (oR_ok g) _ _) rfl rfl rfl d_R_fall_6 (fun r M2 hq => ?_)
  obtain ⟨rfl, rfl⟩ := hq
  have hj7 : ∀ u6 : Int32, u6 = (if (pf_R_isHour a1) = 0 then (-2) else (M1 8 (tn a1))) → Zj X 2 (oR g) M1 23 [] [.int u6] := by
    intro u6 hu6
    replace hw := hw.2 u6 hu6
    exact z_iret C hr hw d_R_fall_23
  have ha0 := hw.1
  refine z_if_eq C 21 d_R_fall_9 (by decide) (fun h4 => ?_) (fun h4 => ?_)
  · refine z_bipush (v := (-2)) C d_R_fall_21 (by decide) ?_
    refine z_sub [] rfl ?_
    exact hj7 _ ((if_pos h4)).symm
  · have ha8 := ha0.2 h4
    refine z_aload_n C d_R_fall_12 rfl 0 rfl ?_
    refine gf_R_31 C d_R_fall_13 ?_
    refine z_iload_n C d_R_fall_16 rfl 1 rfl ?_
    have hv5 := ha8
    refine z_al (zar_r8) C hv5 d_R_fall_17 ?_
    refine z_goto C 23 d_R_fall_18 (by decide) ?_
    refine z_sub [] rfl ?_
    exact hj7 _ ((if_neg h4)).symm
theorem d_R_bus_0 : decode prog_8_method_41_code 0 = .ok (.aload_n 0, 1) := by decide +kernel
theorem d_R_bus_1 : decode prog_8_method_41_code 1 = .ok (.invokevirtual 165, 3) := by decide +kernel
theorem d_R_bus_4 : decode prog_8_method_41_code 4 = .ok (.pop, 1) := by decide +kernel
theorem d_R_bus_5 : decode prog_8_method_41_code 5 = .ok (.aload_n 0, 1) := by decide +kernel
theorem d_R_bus_6 : decode prog_8_method_41_code 6 = .ok (.iload_n 1, 1) := by decide +kernel
theorem d_R_bus_7 : decode prog_8_method_41_code 7 = .ok (.invokevirtual 184, 3) := by decide +kernel
theorem d_R_bus_10 : decode prog_8_method_41_code 10 = .ok (.ifCond .eq (12), 3) := by decide +kernel
theorem d_R_bus_13 : decode prog_8_method_41_code 13 = .ok (.aload_n 0, 1) := by decide +kernel
theorem d_R_bus_14 : decode prog_8_method_41_code 14 = .ok (.getfield 37, 3) := by decide +kernel
theorem d_R_bus_17 : decode prog_8_method_41_code 17 = .ok (.iload_n 1, 1) := by decide +kernel
theorem d_R_bus_18 : decode prog_8_method_41_code 18 = .ok (.iaload, 1) := by decide +kernel
theorem d_R_bus_19 : decode prog_8_method_41_code 19 = .ok (.goto (5), 3) := by decide +kernel
theorem d_R_bus_22 : decode prog_8_method_41_code 22 = .ok (.bipush (-2), 2) := by decide +kernel
theorem d_R_bus_24 : decode prog_8_method_41_code 24 = .ok (.ireturn, 1) := by decide +kernel
def wp_R_bus (a1 : Int32) (M : Mem) (post : Int32 → Mem → Prop) : Prop :=
  wp_R_readsBuses M (fun r2 M1 => wp_R_isBus a1 M1 (fun r3 => (((r3 = 0) → True) ∧ (¬ (r3 = 0) → (vp_in a1 8))) ∧ (∀ u6 : Int32, u6 = (if r3 = 0 then (-2) else (M1 10 (tn a1))) → post u6 M1)))
set_option maxHeartbeats 4000000 in
set_option maxRecDepth 100000 in
theorem c_R_bus (g : GX) {a1 : Int32} {M : Mem} {post : Int32 → Mem → Prop} (hw : wp_R_bus a1 M post) : CtI (oR g) y_R_bus prog_8_method_41_code 2 (some .int) (rl 3) [.ref (ax g 0), .int a1] M post := by
  refine z_metI (oR_ok g) (by decide) rfl (fun X C hr => ?_)
  show Zj X 2 (oR g) M 0 [(0, .ref (ax g 0)), (1, .int a1)] []
  unfold wp_R_bus at hw
  refine z_aload_n C d_R_bus_0 rfl 0 rfl ?_
  refine z_callVi C (As := []) (rest := []) m_R_readsBuses tw_873 0 (le_R) rfl ⟨rfl, rfl⟩ (c_R_readsBuses g hw) rfl rfl rfl d_R_bus_1 (fun r2 M1 hw => ?_)
  refine z_pop C d_R_bus_4 rfl ?_
  refine z_aload_n C d_R_bus_5 rfl 0 rfl ?_
  refine z_iload_n C d_R_bus_6 rfl 1 rfl ?_
  refine z_callVi C (As := [.int a1]) (rest := []) m_R_isBus tw_905 0 (le_R) rfl ⟨rfl, rfl⟩ (c_R_isBus g hw) rfl rfl rfl d_R_bus_7 (fun r3 M2 hq => ?_)
  obtain ⟨rfl, hw⟩ := hq
  have hj7 : ∀ u6 : Int32, u6 = (if r3 = 0 then (-2) else (M1 10 (tn a1))) → Zj X 2 (oR g) M1 24 [] [.int u6] := by
    intro u6 hu6
    replace hw := hw.2 u6 hu6
    exact z_iret C hr hw d_R_bus_24
  have ha0 := hw.1
  refine z_if_eq C 22 d_R_bus_10 (by decide) (fun h4 => ?_) (fun h4 => ?_)
  · refine z_bipush (v := (-2)) C d_R_bus_22 (by decide) ?_
    refine z_sub [] rfl ?_
    exact hj7 _ ((if_pos h4)).symm
  · have ha8 := ha0.2 h4
    refine z_aload_n C d_R_bus_13 rfl 0 rfl ?_
    refine gf_R_37 C d_R_bus_14 ?_
    refine z_iload_n C d_R_bus_17 rfl 1 rfl ?_
    have hv5 := ha8
    refine z_al (zar_r10) C hv5 d_R_bus_18 ?_
    refine z_goto C 24 d_R_bus_19 (by decide) ?_
    refine z_sub [] rfl ?_
    exact hj7 _ ((if_neg h4)).symm
theorem d_R_read_0 : decode prog_8_method_45_code 0 = .ok (.iload_n 1, 1) := by decide +kernel
theorem d_R_read_1 : decode prog_8_method_45_code 1 = .ok (.invokestatic 106, 3) := by decide +kernel
theorem d_R_read_4 : decode prog_8_method_45_code 4 = .ok (.ifCond .ne (6), 3) := by decide +kernel
theorem d_R_read_7 : decode prog_8_method_45_code 7 = .ok (.bipush (-2), 2) := by decide +kernel
theorem d_R_read_9 : decode prog_8_method_45_code 9 = .ok (.ireturn, 1) := by decide +kernel
theorem d_R_read_10 : decode prog_8_method_45_code 10 = .ok (.aload_n 0, 1) := by decide +kernel
theorem d_R_read_11 : decode prog_8_method_45_code 11 = .ok (.getfield 7, 3) := by decide +kernel
theorem d_R_read_14 : decode prog_8_method_45_code 14 = .ok (.iload_n 1, 1) := by decide +kernel
theorem d_R_read_15 : decode prog_8_method_45_code 15 = .ok (.iaload, 1) := by decide +kernel
theorem d_R_read_16 : decode prog_8_method_45_code 16 = .ok (.ifCond .ge (9), 3) := by decide +kernel
theorem d_R_read_19 : decode prog_8_method_45_code 19 = .ok (.aload_n 0, 1) := by decide +kernel
theorem d_R_read_20 : decode prog_8_method_45_code 20 = .ok (.iconst 1, 1) := by decide +kernel
theorem d_R_read_21 : decode prog_8_method_45_code 21 = .ok (.invokevirtual 112, 3) := by decide +kernel
theorem d_R_read_24 : decode prog_8_method_45_code 24 = .ok (.ireturn, 1) := by decide +kernel
theorem d_R_read_25 : decode prog_8_method_45_code 25 = .ok (.iconst 0, 1) := by decide +kernel
theorem d_R_read_26 : decode prog_8_method_45_code 26 = .ok (.istore_n 2, 1) := by decide +kernel
theorem d_R_read_27 : decode prog_8_method_45_code 27 = .ok (.iconst 1, 1) := by decide +kernel
theorem d_R_read_28 : decode prog_8_method_45_code 28 = .ok (.istore_n 3, 1) := by decide +kernel
theorem d_R_read_29 : decode prog_8_method_45_code 29 = .ok (.iload_n 3, 1) := by decide +kernel
theorem d_R_read_30 : decode prog_8_method_45_code 30 = .ok (.ifCond .eq (80), 3) := by decide +kernel
theorem d_R_read_33 : decode prog_8_method_45_code 33 = .ok (.iconst 3, 1) := by decide +kernel
theorem d_R_read_34 : decode prog_8_method_45_code 34 = .ok (.iload_n 2, 1) := by decide +kernel
theorem d_R_read_35 : decode prog_8_method_45_code 35 = .ok (.imul, 1) := by decide +kernel
theorem d_R_read_36 : decode prog_8_method_45_code 36 = .ok (.iconst 3, 1) := by decide +kernel
theorem d_R_read_37 : decode prog_8_method_45_code 37 = .ok (.iadd, 1) := by decide +kernel
theorem d_R_read_38 : decode prog_8_method_45_code 38 = .ok (.aload_n 0, 1) := by decide +kernel
theorem d_R_read_39 : decode prog_8_method_45_code 39 = .ok (.getfield 13, 3) := by decide +kernel
theorem d_R_read_42 : decode prog_8_method_45_code 42 = .ok (.iload_n 1, 1) := by decide +kernel
theorem d_R_read_43 : decode prog_8_method_45_code 43 = .ok (.iaload, 1) := by decide +kernel
theorem d_R_read_44 : decode prog_8_method_45_code 44 = .ok (.if_icmp .gt (66), 3) := by decide +kernel
theorem d_R_read_47 : decode prog_8_method_45_code 47 = .ok (.bipush 60, 2) := by decide +kernel
theorem d_R_read_49 : decode prog_8_method_45_code 49 = .ok (.iload_n 1, 1) := by decide +kernel
theorem d_R_read_50 : decode prog_8_method_45_code 50 = .ok (.imul, 1) := by decide +kernel
theorem d_R_read_51 : decode prog_8_method_45_code 51 = .ok (.iconst 3, 1) := by decide +kernel
theorem d_R_read_52 : decode prog_8_method_45_code 52 = .ok (.iload_n 2, 1) := by decide +kernel
theorem d_R_read_53 : decode prog_8_method_45_code 53 = .ok (.imul, 1) := by decide +kernel
theorem d_R_read_54 : decode prog_8_method_45_code 54 = .ok (.iadd, 1) := by decide +kernel
theorem d_R_read_55 : decode prog_8_method_45_code 55 = .ok (.istore 4, 2) := by decide +kernel
theorem d_R_read_57 : decode prog_8_method_45_code 57 = .ok (.aload_n 0, 1) := by decide +kernel
theorem d_R_read_58 : decode prog_8_method_45_code 58 = .ok (.aload_n 0, 1) := by decide +kernel
theorem d_R_read_59 : decode prog_8_method_45_code 59 = .ok (.getfield 16, 3) := by decide +kernel
theorem d_R_read_62 : decode prog_8_method_45_code 62 = .ok (.iload 4, 2) := by decide +kernel
theorem d_R_read_64 : decode prog_8_method_45_code 64 = .ok (.iaload, 1) := by decide +kernel
theorem d_R_read_65 : decode prog_8_method_45_code 65 = .ok (.aload_n 0, 1) := by decide +kernel
theorem d_R_read_66 : decode prog_8_method_45_code 66 = .ok (.getfield 16, 3) := by decide +kernel
theorem d_R_read_69 : decode prog_8_method_45_code 69 = .ok (.iload 4, 2) := by decide +kernel
theorem d_R_read_71 : decode prog_8_method_45_code 71 = .ok (.iconst 1, 1) := by decide +kernel
theorem d_R_read_72 : decode prog_8_method_45_code 72 = .ok (.iadd, 1) := by decide +kernel
theorem d_R_read_73 : decode prog_8_method_45_code 73 = .ok (.iaload, 1) := by decide +kernel
theorem d_R_read_74 : decode prog_8_method_45_code 74 = .ok (.aload_n 0, 1) := by decide +kernel
theorem d_R_read_75 : decode prog_8_method_45_code 75 = .ok (.getfield 16, 3) := by decide +kernel
theorem d_R_read_78 : decode prog_8_method_45_code 78 = .ok (.iload 4, 2) := by decide +kernel
theorem d_R_read_80 : decode prog_8_method_45_code 80 = .ok (.iconst 2, 1) := by decide +kernel
theorem d_R_read_81 : decode prog_8_method_45_code 81 = .ok (.iadd, 1) := by decide +kernel
theorem d_R_read_82 : decode prog_8_method_45_code 82 = .ok (.iaload, 1) := by decide +kernel
theorem d_R_read_83 : decode prog_8_method_45_code 83 = .ok (.invokevirtual 192, 3) := by decide +kernel
theorem d_R_read_86 : decode prog_8_method_45_code 86 = .ok (.ifCond .lt (7), 3) := by decide +kernel
theorem d_R_read_89 : decode prog_8_method_45_code 89 = .ok (.iconst 1, 1) := by decide +kernel
theorem d_R_read_90 : decode prog_8_method_45_code 90 = .ok (.goto (4), 3) := by decide +kernel
theorem d_R_read_93 : decode prog_8_method_45_code 93 = .ok (.iconst 0, 1) := by decide +kernel
theorem d_R_read_94 : decode prog_8_method_45_code 94 = .ok (.istore_n 3, 1) := by decide +kernel
theorem d_R_read_95 : decode prog_8_method_45_code 95 = .ok (.iload_n 2, 1) := by decide +kernel
theorem d_R_read_96 : decode prog_8_method_45_code 96 = .ok (.iload_n 3, 1) := by decide +kernel
theorem d_R_read_97 : decode prog_8_method_45_code 97 = .ok (.ifCond .eq (7), 3) := by decide +kernel
theorem d_R_read_100 : decode prog_8_method_45_code 100 = .ok (.iconst 1, 1) := by decide +kernel
theorem d_R_read_101 : decode prog_8_method_45_code 101 = .ok (.goto (4), 3) := by decide +kernel
theorem d_R_read_104 : decode prog_8_method_45_code 104 = .ok (.iconst 0, 1) := by decide +kernel
theorem d_R_read_105 : decode prog_8_method_45_code 105 = .ok (.iadd, 1) := by decide +kernel
theorem d_R_read_106 : decode prog_8_method_45_code 106 = .ok (.istore_n 2, 1) := by decide +kernel
theorem d_R_read_107 : decode prog_8_method_45_code 107 = .ok (.goto (-78), 3) := by decide +kernel
theorem d_R_read_110 : decode prog_8_method_45_code 110 = .ok (.iload_n 2, 1) := by decide +kernel
theorem d_R_read_111 : decode prog_8_method_45_code 111 = .ok (.ireturn, 1) := by decide +kernel
def wp_R_read (a1 : Int32) (M : Mem) (post : Int32 → Mem → Prop) : Prop :=
  ((((pf_R_isSheet a1) = 0) → post (-2) M) ∧ (¬ ((pf_R_isSheet a1) = 0) → vp_in a1 4 ∧ (((0 ≤ (M 1 (tn a1))) → (it3 (fun rec5 (i7 : Int32) (i8 : Int32) (M9 : Mem) => (((i8 = 0) → post i7 M9) ∧ (¬ (i8 = 0) → ((((M9 2 (tn a1)) < ((3 * i7) + 3)) → post i7 M9) ∧ (¬ ((M9 2 (tn a1)) < ((3 * i7) + 3)) → ∀ x12 : Int32, x12 = ((60 * a1) + (3 * i7)) → vp_in x12 240 ∧ vp_in (x12 + 1) 240 ∧ vp_in (x12 + 2) 240 ∧ wp_R_event (M9 3 (tn x12)) (M9 3 (tn (x12 + 1))) (M9 3 (tn (x12 + 2))) M9 (fun r17 M16 => ∀ u19 : Int32, u19 = (if r17 < 0 then 0 else 1) → ∀ u21 : Int32, u21 = (if u19 = 0 then 0 else 1) → rec5 (i7 + u21) u19 M16)))))) 4096 0 1 M)) ∧ (¬ (0 ≤ (M 1 (tn a1))) → wp_R_finds 1 M (fun r25 M24 => post r25 M24)))))
set_option maxHeartbeats 4000000 in
set_option maxRecDepth 100000 in
theorem c_R_read (g : GX) {a1 : Int32} {M : Mem} {post : Int32 → Mem → Prop} (hw : wp_R_read a1 M post) : CtI (oR g) y_R_read prog_8_method_45_code 5 (some .int) (rl 3) [.ref (ax g 0), .int a1] M post := by
  refine z_metI (oR_ok g) (by decide) rfl (fun X C hr => ?_)
  show Zj X 5 (oR g) M 0 [(0, .ref (ax g 0)), (1, .int a1)] []
  unfold wp_R_read at hw
  refine z_iload_n C d_R_read_0 rfl 1 rfl ?_
  refine z_callSi C (As := [.int a1]) (rest := []) m_R_isSheet tw_782 ⟨rfl, rfl⟩ (c_R_isSheet (oR_ok g) _ _) rfl rfl rfl d_R_read_1 (fun r M2 hq => ?_)
  obtain ⟨rfl, rfl⟩ := hq
  refine z_if_ne C 10 d_R_read_4 (by decide) (fun h2 => ?_) (fun h2 => ?_)
  · replace hw := hw.2 h2
    refine z_aload_n C d_R_read_10 rfl 0 rfl ?_
    refine gf_R_7 C d_R_read_11 ?_
    refine z_iload_n C d_R_read_14 rfl 1 rfl ?_
    have hv3 := hw.1
    replace hw := hw.2
    refine z_al (zar_r1) C hv3 d_R_read_15 ?_
    refine z_if_ge C 25 d_R_read_16 (by decide) (fun h4 => ?_) (fun h4 => ?_)
    · replace hw := hw.1 h4
      refine z_iconst (v := 0) C d_R_read_25 (by decide) ?_
      refine z_istore_n (lv' := [(2, .int 0), (0, .ref (ax g 0)), (1, .int a1)]) C d_R_read_26 rfl rfl rfl ?_
      refine z_iconst (v := 1) C d_R_read_27 (by decide) ?_
      refine z_istore_n (lv' := [(3, .int 1), (2, .int 0), (0, .ref (ax g 0)), (1, .int a1)]) C d_R_read_28 rfl rfl rfl ?_
      refine z_sub [2, 3, 1, 0] rfl ?_
      refine it3_Z (Z := fun (i7 : Int32) (i8 : Int32) (M9 : Mem) => Zj X 5 (oR g) M9 29 [(0, .ref (ax g 0)), (1, .int a1), (2, .int i7), (3, .int i8)] []) (fun rec5 ih6 i7 i8 M9 hw => ?_) _ _ _ _ hw
      refine z_iload_n C d_R_read_29 rfl 3 rfl ?_
      refine z_if_eq C 110 d_R_read_30 (by decide) (fun h10 => ?_) (fun h10 => ?_)
      · replace hw := hw.1 h10
        refine z_iload_n C d_R_read_110 rfl 2 rfl ?_
        exact z_iret C hr hw d_R_read_111
      · replace hw := hw.2 h10
        refine z_iconst (v := 3) C d_R_read_33 (by decide) ?_
        refine z_iload_n C d_R_read_34 rfl 2 rfl ?_
        refine z_imul C d_R_read_35 ?_
        refine z_iconst (v := 3) C d_R_read_36 (by decide) ?_
        refine z_iadd C d_R_read_37 ?_
        refine z_aload_n C d_R_read_38 rfl 0 rfl ?_
        refine gf_R_13 C d_R_read_39 ?_
        refine z_iload_n C d_R_read_42 rfl 1 rfl ?_
        refine z_al (zar_r2) C hv3 d_R_read_43 ?_
        refine z_ic_gt C 110 d_R_read_44 (by decide) (fun h11 => ?_) (fun h11 => ?_)
        · replace hw := hw.1 h11
          refine z_iload_n C d_R_read_110 rfl 2 rfl ?_
          exact z_iret C hr hw d_R_read_111
        · replace hw := hw.2 h11
          refine z_bipush (v := 60) C d_R_read_47 (by decide) ?_
          refine z_iload_n C d_R_read_49 rfl 1 rfl ?_
          refine z_imul C d_R_read_50 ?_
          refine z_iconst (v := 3) C d_R_read_51 (by decide) ?_
          refine z_iload_n C d_R_read_52 rfl 2 rfl ?_
          refine z_imul C d_R_read_53 ?_
          refine z_iadd C d_R_read_54 ?_
          obtain ⟨x12, hx12⟩ : ∃ z : Int32, z = ((60 * a1) + (3 * i7)) := ⟨_, rfl⟩
          rw [← hx12]
          replace hw := hw x12 hx12
          refine z_istore (lv' := [(4, .int x12), (0, .ref (ax g 0)), (1, .int a1), (2, .int i7), (3, .int i8)]) C d_R_read_55 rfl rfl ?_
          refine z_aload_n C d_R_read_57 rfl 1 rfl ?_
          refine z_aload_n C d_R_read_58 rfl 1 rfl ?_
          refine gf_R_16 C d_R_read_59 ?_
          refine z_iload C d_R_read_62 0 rfl ?_
          have hv13 := hw.1
          replace hw := hw.2
          refine z_al (zar_r3) C hv13 d_R_read_64 ?_
          refine z_aload_n C d_R_read_65 rfl 1 rfl ?_
          refine gf_R_16 C d_R_read_66 ?_
          refine z_iload C d_R_read_69 0 rfl ?_
          refine z_iconst (v := 1) C d_R_read_71 (by decide) ?_
          refine z_iadd C d_R_read_72 ?_
          have hv14 := hw.1
          replace hw := hw.2
          refine z_al (zar_r3) C hv14 d_R_read_73 ?_
          refine z_aload_n C d_R_read_74 rfl 1 rfl ?_
          refine gf_R_16 C d_R_read_75 ?_
          refine z_iload C d_R_read_78 0 rfl ?_
          refine z_iconst (v := 2) C d_R_read_80 (by decide) ?_
          refine z_iadd C d_R_read_81 ?_
          have hv15 := hw.1
          replace hw := hw.2
          refine z_al (zar_r3) C hv15 d_R_read_82 ?_
          refine z_callVi C (As := [.int (M9 3 (tn x12)), .int (M9 3 (tn (x12 + 1))), .int (M9 3 (tn (x12 + 2)))]) (rest := []) m_R_event tw_926 0 (le_R) rfl ⟨rfl, rfl⟩ (c_R_event g hw) rfl rfl rfl d_R_read_83 (fun r17 M16 hw => ?_)
          have hj23 : ∀ u19 : Int32, u19 = (if r17 < 0 then 0 else 1) → Zj X 5 (oR g) M16 94 [(0, .ref (ax g 0)), (1, .int a1), (2, .int i7)] [.int u19] := by
            intro u19 hu19
            replace hw := hw u19 hu19
            refine z_istore_n (lv' := [(3, .int u19), (0, .ref (ax g 0)), (1, .int a1), (2, .int i7)]) C d_R_read_94 rfl rfl rfl ?_
            refine z_iload_n C d_R_read_95 rfl 3 rfl ?_
            refine z_iload_n C d_R_read_96 rfl 0 rfl ?_
            have hj22 : ∀ u21 : Int32, u21 = (if u19 = 0 then 0 else 1) → Zj X 5 (oR g) M16 105 [(0, .ref (ax g 0)), (1, .int a1), (3, .int u19)] [.int u21, .int i7] := by
              intro u21 hu21
              replace hw := hw u21 hu21
              refine z_iadd C d_R_read_105 ?_
              refine z_istore_n (lv' := [(2, .int (i7 + u21)), (0, .ref (ax g 0)), (1, .int a1), (3, .int u19)]) C d_R_read_106 rfl rfl rfl ?_
              refine z_goto C 29 d_R_read_107 (by decide) ?_
              refine z_sub [1, 2, 0, 3] rfl ?_
              exact ih6 _ _ _ hw
            refine z_if_eq C 104 d_R_read_97 (by decide) (fun h20 => ?_) (fun h20 => ?_)
            · refine z_iconst (v := 0) C d_R_read_104 (by decide) ?_
              refine z_sub [1, 2, 0] rfl ?_
              exact hj22 _ ((if_pos h20)).symm
            · refine z_iconst (v := 1) C d_R_read_100 (by decide) ?_
              refine z_goto C 105 d_R_read_101 (by decide) ?_
              refine z_sub [1, 2, 0] rfl ?_
              exact hj22 _ ((if_neg h20)).symm
          refine z_if_lt C 93 d_R_read_86 (by decide) (fun h18 => ?_) (fun h18 => ?_)
          · refine z_iconst (v := 0) C d_R_read_93 (by decide) ?_
            refine z_sub [1, 2, 3] rfl ?_
            exact hj23 _ ((if_pos h18)).symm
          · refine z_iconst (v := 1) C d_R_read_89 (by decide) ?_
            refine z_goto C 94 d_R_read_90 (by decide) ?_
            refine z_sub [1, 2, 3] rfl ?_
            exact hj23 _ ((if_neg h18)).symm
    · replace hw := hw.2 h4
      refine z_aload_n C d_R_read_19 rfl 0 rfl ?_
      refine z_iconst (v := 1) C d_R_read_20 (by decide) ?_
      refine z_callVi C (As := [.int 1]) (rest := []) m_R_finds tw_790 0 (le_R) rfl ⟨rfl, rfl⟩ (c_R_finds g hw) rfl rfl rfl d_R_read_21 (fun r25 M24 hw => ?_)
      exact z_iret C hr hw d_R_read_24
  · replace hw := hw.1 h2
    refine z_bipush (v := (-2)) C d_R_read_7 (by decide) ?_
    exact z_iret C hr hw d_R_read_9
