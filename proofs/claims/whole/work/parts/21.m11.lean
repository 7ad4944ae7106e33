theorem d_R_type_0 : decode prog_8_method_20_code 0 = .ok (.iload_n 1, 1) := by decide +kernel
theorem d_R_type_1 : decode prog_8_method_20_code 1 = .ok (.invokestatic 125, 3) := by decide +kernel
theorem d_R_type_4 : decode prog_8_method_20_code 4 = .ok (.ifCond .eq (15), 3) := by decide +kernel
theorem d_R_type_7 : decode prog_8_method_20_code 7 = .ok (.iload_n 2, 1) := by decide +kernel
theorem d_R_type_8 : decode prog_8_method_20_code 8 = .ok (.i2l, 1) := by decide +kernel
theorem d_R_type_9 : decode prog_8_method_20_code 9 = .ok (.lconst 0, 1) := by decide +kernel
theorem d_R_type_10 : decode prog_8_method_20_code 10 = .ok (.ldc2_w 128, 3) := by decide +kernel
theorem d_R_type_13 : decode prog_8_method_20_code 13 = .ok (.invokestatic 97, 3) := by decide +kernel
theorem d_R_type_16 : decode prog_8_method_20_code 16 = .ok (.ifCond .ne (6), 3) := by decide +kernel
theorem d_R_type_19 : decode prog_8_method_20_code 19 = .ok (.bipush (-2), 2) := by decide +kernel
theorem d_R_type_21 : decode prog_8_method_20_code 21 = .ok (.ireturn, 1) := by decide +kernel
theorem d_R_type_22 : decode prog_8_method_20_code 22 = .ok (.aload_n 0, 1) := by decide +kernel
theorem d_R_type_23 : decode prog_8_method_20_code 23 = .ok (.getfield 25, 3) := by decide +kernel
theorem d_R_type_26 : decode prog_8_method_20_code 26 = .ok (.iload_n 1, 1) := by decide +kernel
theorem d_R_type_27 : decode prog_8_method_20_code 27 = .ok (.iaload, 1) := by decide +kernel
theorem d_R_type_28 : decode prog_8_method_20_code 28 = .ok (.iload_n 1, 1) := by decide +kernel
theorem d_R_type_29 : decode prog_8_method_20_code 29 = .ok (.ifCond .ne (8), 3) := by decide +kernel
theorem d_R_type_32 : decode prog_8_method_20_code 32 = .ok (.bipush 12, 2) := by decide +kernel
theorem d_R_type_34 : decode prog_8_method_20_code 34 = .ok (.goto (25), 3) := by decide +kernel
theorem d_R_type_37 : decode prog_8_method_20_code 37 = .ok (.iload_n 1, 1) := by decide +kernel
theorem d_R_type_38 : decode prog_8_method_20_code 38 = .ok (.iconst 1, 1) := by decide +kernel
theorem d_R_type_39 : decode prog_8_method_20_code 39 = .ok (.if_icmp .ne (8), 3) := by decide +kernel
theorem d_R_type_42 : decode prog_8_method_20_code 42 = .ok (.bipush 24, 2) := by decide +kernel
theorem d_R_type_44 : decode prog_8_method_20_code 44 = .ok (.goto (15), 3) := by decide +kernel
theorem d_R_type_47 : decode prog_8_method_20_code 47 = .ok (.iload_n 1, 1) := by decide +kernel
theorem d_R_type_48 : decode prog_8_method_20_code 48 = .ok (.iconst 2, 1) := by decide +kernel
theorem d_R_type_49 : decode prog_8_method_20_code 49 = .ok (.if_icmp .ne (8), 3) := by decide +kernel
theorem d_R_type_52 : decode prog_8_method_20_code 52 = .ok (.bipush 15, 2) := by decide +kernel
theorem d_R_type_54 : decode prog_8_method_20_code 54 = .ok (.goto (5), 3) := by decide +kernel
theorem d_R_type_57 : decode prog_8_method_20_code 57 = .ok (.bipush 8, 2) := by decide +kernel
theorem d_R_type_59 : decode prog_8_method_20_code 59 = .ok (.if_icmp .ne (6), 3) := by decide +kernel
theorem d_R_type_62 : decode prog_8_method_20_code 62 = .ok (.bipush (-4), 2) := by decide +kernel
theorem d_R_type_64 : decode prog_8_method_20_code 64 = .ok (.ireturn, 1) := by decide +kernel
theorem d_R_type_65 : decode prog_8_method_20_code 65 = .ok (.aload_n 0, 1) := by decide +kernel
theorem d_R_type_66 : decode prog_8_method_20_code 66 = .ok (.getfield 22, 3) := by decide +kernel
theorem d_R_type_69 : decode prog_8_method_20_code 69 = .ok (.bipush 24, 2) := by decide +kernel
theorem d_R_type_71 : decode prog_8_method_20_code 71 = .ok (.iload_n 1, 1) := by decide +kernel
theorem d_R_type_72 : decode prog_8_method_20_code 72 = .ok (.imul, 1) := by decide +kernel
theorem d_R_type_73 : decode prog_8_method_20_code 73 = .ok (.aload_n 0, 1) := by decide +kernel
theorem d_R_type_74 : decode prog_8_method_20_code 74 = .ok (.getfield 25, 3) := by decide +kernel
theorem d_R_type_77 : decode prog_8_method_20_code 77 = .ok (.iload_n 1, 1) := by decide +kernel
theorem d_R_type_78 : decode prog_8_method_20_code 78 = .ok (.iaload, 1) := by decide +kernel
theorem d_R_type_79 : decode prog_8_method_20_code 79 = .ok (.iadd, 1) := by decide +kernel
theorem d_R_type_80 : decode prog_8_method_20_code 80 = .ok (.iload_n 2, 1) := by decide +kernel
theorem d_R_type_81 : decode prog_8_method_20_code 81 = .ok (.iastore, 1) := by decide +kernel
theorem d_R_type_82 : decode prog_8_method_20_code 82 = .ok (.aload_n 0, 1) := by decide +kernel
theorem d_R_type_83 : decode prog_8_method_20_code 83 = .ok (.getfield 25, 3) := by decide +kernel
theorem d_R_type_86 : decode prog_8_method_20_code 86 = .ok (.iload_n 1, 1) := by decide +kernel
theorem d_R_type_87 : decode prog_8_method_20_code 87 = .ok (.dup2, 1) := by decide +kernel
theorem d_R_type_88 : decode prog_8_method_20_code 88 = .ok (.iaload, 1) := by decide +kernel
theorem d_R_type_89 : decode prog_8_method_20_code 89 = .ok (.iconst 1, 1) := by decide +kernel
theorem d_R_type_90 : decode prog_8_method_20_code 90 = .ok (.iadd, 1) := by decide +kernel
theorem d_R_type_91 : decode prog_8_method_20_code 91 = .ok (.iastore, 1) := by decide +kernel
theorem d_R_type_92 : decode prog_8_method_20_code 92 = .ok (.aload_n 0, 1) := by decide +kernel
theorem d_R_type_93 : decode prog_8_method_20_code 93 = .ok (.getfield 25, 3) := by decide +kernel
theorem d_R_type_96 : decode prog_8_method_20_code 96 = .ok (.iload_n 1, 1) := by decide +kernel
theorem d_R_type_97 : decode prog_8_method_20_code 97 = .ok (.iaload, 1) := by decide +kernel
theorem d_R_type_98 : decode prog_8_method_20_code 98 = .ok (.ireturn, 1) := by decide +kernel
def wp_R_type (a1 : Int32) (a2 : Int32) (M : Mem) (post : Int32 → Mem → Prop) : Prop :=
  ((((pf_R_isText a1) = 0) → post (-2) M) ∧ (¬ ((pf_R_isText a1) = 0) → ((((pf_R_in (Int32.toInt64 a2) 0 (255)) = 0) → post (-2) M) ∧ (¬ ((pf_R_in (Int32.toInt64 a2) 0 (255)) = 0) → vp_in a1 4 ∧ ∀ u9 : Int32, u9 = (if a1 = 0 then 12 else (if a1 = 1 then 24 else (if a1 = 2 then 15 else 8))) → ((((M 6 (tn a1)) = u9) → post (-4) M) ∧ (¬ ((M 6 (tn a1)) = u9) → vp_in ((24 * a1) + (M 6 (tn a1))) 96 ∧ ∀ M11 : Mem, M11 = upm M 5 (tn ((24 * a1) + (M 6 (tn a1)))) a2 → ∀ M13 : Mem, M13 = upm M11 6 (tn a1) ((M11 6 (tn a1)) + 1) → post (M13 6 (tn a1)) M13))))))
set_option maxHeartbeats 4000000 in
set_option maxRecDepth 100000 in
theorem c_R_type (g : GX) {a1 : Int32} {a2 : Int32} {M : Mem} {post : Int32 → Mem → Prop} (hw : wp_R_type a1 a2 M post) : CtI (oR g) y_R_type prog_8_method_20_code 3 (some .int) (rl 2) [.ref (ax g 0), .int a1, .int a2] M post := by
  refine z_metI (oR_ok g) (by decide) rfl (fun X C hr => ?_)
  show Zj X 3 (oR g) M 0 [(0, .ref (ax g 0)), (1, .int a1), (2, .int a2)] []
  unfold wp_R_type at hw
  refine z_iload_n C d_R_type_0 rfl 1 rfl ?_
  refine z_callSi C (As := [.int a1]) (rest := []) m_R_isText tw_822 ⟨rfl, rfl⟩ (c_R_isText (oR_ok g) _ _) rfl rfl rfl d_R_type_1 (fun r M2 hq => ?_)
  obtain ⟨rfl, rfl⟩ := hq
  refine z_if_eq C 19 d_R_type_4 (by decide) (fun h2 => ?_) (fun h2 => ?_)
  · replace hw := hw.1 h2
    refine z_bipush (v := (-2)) C d_R_type_19 (by decide) ?_
    exact z_iret C hr hw d_R_type_21
  · replace hw := hw.2 h2
    refine z_iload_n C d_R_type_7 rfl 2 rfl ?_
    refine z_i2l C d_R_type_8 ?_
    refine z_lconst (v := 0) C d_R_type_9 (by decide) ?_
    refine z_ldc2 C d_R_type_10 tw_825 ?_
    refine z_callSi C (As := [.long (Int32.toInt64 a2), .long 0, .long (255)]) (rest := []) m_R_in tw_786 ⟨rfl, rfl⟩ (c_R_in (oR_ok g) _ _ _ _) rfl rfl rfl d_R_type_13 (fun r M2 hq => ?_)
    obtain ⟨rfl, rfl⟩ := hq
    refine z_if_ne C 22 d_R_type_16 (by decide) (fun h4 => ?_) (fun h4 => ?_)
    · replace hw := hw.2 h4
      refine z_aload_n C d_R_type_22 rfl 0 rfl ?_
      refine gf_R_25 C d_R_type_23 ?_
      refine z_iload_n C d_R_type_26 rfl 1 rfl ?_
      have hv5 := hw.1
      replace hw := hw.2
      refine z_al (zar_r6) C hv5 d_R_type_27 ?_
      refine z_iload_n C d_R_type_28 rfl 1 rfl ?_
      have hj14 : ∀ u9 : Int32, u9 = (if a1 = 0 then 12 else (if a1 = 1 then 24 else (if a1 = 2 then 15 else 8))) → Zj X 3 (oR g) M 59 [(0, .ref (ax g 0)), (1, .int a1), (2, .int a2)] [.int u9, .int (M 6 (tn a1))] := by
        intro u9 hu9
        replace hw := hw u9 hu9
        refine z_ic_ne C 65 d_R_type_59 (by decide) (fun h10 => ?_) (fun h10 => ?_)
        · replace hw := hw.2 h10
          refine z_aload_n C d_R_type_65 rfl 0 rfl ?_
          refine gf_R_22 C d_R_type_66 ?_
          refine z_bipush (v := 24) C d_R_type_69 (by decide) ?_
          refine z_iload_n C d_R_type_71 rfl 1 rfl ?_
          refine z_imul C d_R_type_72 ?_
          refine z_aload_n C d_R_type_73 rfl 0 rfl ?_
          refine gf_R_25 C d_R_type_74 ?_
          refine z_iload_n C d_R_type_77 rfl 1 rfl ?_
          refine z_al (zar_r6) C hv5 d_R_type_78 ?_
          refine z_iadd C d_R_type_79 ?_
          refine z_iload_n C d_R_type_80 rfl 2 rfl ?_
          have hv12 := hw.1
          refine z_as (zar_r5) C hv12 d_R_type_81 (fun M11 hM11 => ?_)
          replace hw := hw.2 M11 hM11
          refine z_aload_n C d_R_type_82 rfl 0 rfl ?_
          refine gf_R_25 C d_R_type_83 ?_
          refine z_iload_n C d_R_type_86 rfl 1 rfl ?_
          refine z_dup2 C d_R_type_87 rfl rfl ?_
          refine z_al (zar_r6) C hv5 d_R_type_88 ?_
          refine z_iconst (v := 1) C d_R_type_89 (by decide) ?_
          refine z_iadd C d_R_type_90 ?_
          refine z_as (zar_r6) C hv5 d_R_type_91 (fun M13 hM13 => ?_)
          replace hw := hw M13 hM13
          refine z_aload_n C d_R_type_92 rfl 0 rfl ?_
          refine gf_R_25 C d_R_type_93 ?_
          refine z_iload_n C d_R_type_96 rfl 1 rfl ?_
          refine z_al (zar_r6) C hv5 d_R_type_97 ?_
          exact z_iret C hr hw d_R_type_98
        · replace hw := hw.1 h10
          refine z_bipush (v := (-4)) C d_R_type_62 (by decide) ?_
          exact z_iret C hr hw d_R_type_64
      refine z_if_ne C 37 d_R_type_29 (by decide) (fun h6 => ?_) (fun h6 => ?_)
      · refine z_iload_n C d_R_type_37 rfl 1 rfl ?_
        refine z_iconst (v := 1) C d_R_type_38 (by decide) ?_
        refine z_ic_ne C 47 d_R_type_39 (by decide) (fun h7 => ?_) (fun h7 => ?_)
        · refine z_iload_n C d_R_type_47 rfl 1 rfl ?_
          refine z_iconst (v := 2) C d_R_type_48 (by decide) ?_
          refine z_ic_ne C 57 d_R_type_49 (by decide) (fun h8 => ?_) (fun h8 => ?_)
          · refine z_bipush (v := 8) C d_R_type_57 (by decide) ?_
            refine z_sub [0, 1, 2] rfl ?_
            exact hj14 _ (((if_neg h6).trans ((if_neg h7).trans (if_neg h8)))).symm
          · refine z_bipush (v := 15) C d_R_type_52 (by decide) ?_
            refine z_goto C 59 d_R_type_54 (by decide) ?_
            refine z_sub [0, 1, 2] rfl ?_
            exact hj14 _ (((if_neg h6).trans ((if_neg h7).trans (if_pos h8)))).symm
        · refine z_bipush (v := 24) C d_R_type_42 (by decide) ?_
          refine z_goto C 59 d_R_type_44 (by decide) ?_
          refine z_sub [0, 1, 2] rfl ?_
          exact hj14 _ (((if_neg h6).trans (if_pos h7))).symm
      · refine z_bipush (v := 12) C d_R_type_32 (by decide) ?_
        refine z_goto C 59 d_R_type_34 (by decide) ?_
        refine z_sub [0, 1, 2] rfl ?_
        exact hj14 _ ((if_pos h6)).symm
    · replace hw := hw.1 h4
      refine z_bipush (v := (-2)) C d_R_type_19 (by decide) ?_
      exact z_iret C hr hw d_R_type_21
theorem d_R_wipe_0 : decode prog_8_method_21_code 0 = .ok (.iload_n 1, 1) := by decide +kernel
theorem d_R_wipe_1 : decode prog_8_method_21_code 1 = .ok (.invokestatic 125, 3) := by decide +kernel
theorem d_R_wipe_4 : decode prog_8_method_21_code 4 = .ok (.ifCond .ne (6), 3) := by decide +kernel
theorem d_R_wipe_7 : decode prog_8_method_21_code 7 = .ok (.bipush (-2), 2) := by decide +kernel
theorem d_R_wipe_9 : decode prog_8_method_21_code 9 = .ok (.ireturn, 1) := by decide +kernel
theorem d_R_wipe_10 : decode prog_8_method_21_code 10 = .ok (.aload_n 0, 1) := by decide +kernel
theorem d_R_wipe_11 : decode prog_8_method_21_code 11 = .ok (.getfield 25, 3) := by decide +kernel
theorem d_R_wipe_14 : decode prog_8_method_21_code 14 = .ok (.iload_n 1, 1) := by decide +kernel
theorem d_R_wipe_15 : decode prog_8_method_21_code 15 = .ok (.iaload, 1) := by decide +kernel
theorem d_R_wipe_16 : decode prog_8_method_21_code 16 = .ok (.istore_n 2, 1) := by decide +kernel
theorem d_R_wipe_17 : decode prog_8_method_21_code 17 = .ok (.aload_n 0, 1) := by decide +kernel
theorem d_R_wipe_18 : decode prog_8_method_21_code 18 = .ok (.getfield 25, 3) := by decide +kernel
theorem d_R_wipe_21 : decode prog_8_method_21_code 21 = .ok (.iload_n 1, 1) := by decide +kernel
theorem d_R_wipe_22 : decode prog_8_method_21_code 22 = .ok (.iconst 0, 1) := by decide +kernel
theorem d_R_wipe_23 : decode prog_8_method_21_code 23 = .ok (.iastore, 1) := by decide +kernel
theorem d_R_wipe_24 : decode prog_8_method_21_code 24 = .ok (.iload_n 2, 1) := by decide +kernel
theorem d_R_wipe_25 : decode prog_8_method_21_code 25 = .ok (.ireturn, 1) := by decide +kernel
def wp_R_wipe (a1 : Int32) (M : Mem) (post : Int32 → Mem → Prop) : Prop :=
  ((((pf_R_isText a1) = 0) → post (-2) M) ∧ (¬ ((pf_R_isText a1) = 0) → vp_in a1 4 ∧ ∀ M4 : Mem, M4 = upm M 6 (tn a1) 0 → post (M 6 (tn a1)) M4))
set_option maxHeartbeats 4000000 in
set_option maxRecDepth 100000 in
theorem c_R_wipe (g : GX) {a1 : Int32} {M : Mem} {post : Int32 → Mem → Prop} (hw : wp_R_wipe a1 M post) : CtI (oR g) y_R_wipe prog_8_method_21_code 3 (some .int) (rl 2) [.ref (ax g 0), .int a1] M post := by
  refine z_metI (oR_ok g) (by decide) rfl (fun X C hr => ?_)
  show Zj X 3 (oR g) M 0 [(0, .ref (ax g 0)), (1, .int a1)] []
  unfold wp_R_wipe at hw
  refine z_iload_n C d_R_wipe_0 rfl 1 rfl ?_
  refine z_callSi C (As := [.int a1]) (rest := []) m_R_isText tw_822 ⟨rfl, rfl⟩ (c_R_isText (oR_ok g) _ _) rfl rfl rfl d_R_wipe_1 (fun r M2 hq => ?_)
  obtain ⟨rfl, rfl⟩ := hq
  refine z_if_ne C 10 d_R_wipe_4 (by decide) (fun h2 => ?_) (fun h2 => ?_)
  · replace hw := hw.2 h2
    refine z_aload_n C d_R_wipe_10 rfl 0 rfl ?_
    refine gf_R_25 C d_R_wipe_11 ?_
    refine z_iload_n C d_R_wipe_14 rfl 1 rfl ?_
    have hv3 := hw.1
    replace hw := hw.2
    refine z_al (zar_r6) C hv3 d_R_wipe_15 ?_
    refine z_istore_n (lv' := [(2, .int (M 6 (tn a1))), (0, .ref (ax g 0)), (1, .int a1)]) C d_R_wipe_16 rfl rfl rfl ?_
    refine z_aload_n C d_R_wipe_17 rfl 1 rfl ?_
    refine gf_R_25 C d_R_wipe_18 ?_
    refine z_iload_n C d_R_wipe_21 rfl 2 rfl ?_
    refine z_iconst (v := 0) C d_R_wipe_22 (by decide) ?_
    refine z_as (zar_r6) C hv3 d_R_wipe_23 (fun M4 hM4 => ?_)
    replace hw := hw M4 hM4
    refine z_iload_n C d_R_wipe_24 rfl 0 rfl ?_
    exact z_iret C hr hw d_R_wipe_25
  · replace hw := hw.1 h2
    refine z_bipush (v := (-2)) C d_R_wipe_7 (by decide) ?_
    exact z_iret C hr hw d_R_wipe_9
theorem d_R_undo_0 : decode prog_8_method_22_code 0 = .ok (.iload_n 1, 1) := by decide +kernel
theorem d_R_undo_1 : decode prog_8_method_22_code 1 = .ok (.invokestatic 125, 3) := by decide +kernel
theorem d_R_undo_4 : decode prog_8_method_22_code 4 = .ok (.ifCond .ne (6), 3) := by decide +kernel
theorem d_R_undo_7 : decode prog_8_method_22_code 7 = .ok (.bipush (-2), 2) := by decide +kernel
theorem d_R_undo_9 : decode prog_8_method_22_code 9 = .ok (.ireturn, 1) := by decide +kernel
theorem d_R_undo_10 : decode prog_8_method_22_code 10 = .ok (.aload_n 0, 1) := by decide +kernel
theorem d_R_undo_11 : decode prog_8_method_22_code 11 = .ok (.getfield 25, 3) := by decide +kernel
theorem d_R_undo_14 : decode prog_8_method_22_code 14 = .ok (.iload_n 1, 1) := by decide +kernel
theorem d_R_undo_15 : decode prog_8_method_22_code 15 = .ok (.iaload, 1) := by decide +kernel
theorem d_R_undo_16 : decode prog_8_method_22_code 16 = .ok (.ifCond .ne (6), 3) := by decide +kernel
theorem d_R_undo_19 : decode prog_8_method_22_code 19 = .ok (.bipush (-3), 2) := by decide +kernel
theorem d_R_undo_21 : decode prog_8_method_22_code 21 = .ok (.ireturn, 1) := by decide +kernel
theorem d_R_undo_22 : decode prog_8_method_22_code 22 = .ok (.aload_n 0, 1) := by decide +kernel
theorem d_R_undo_23 : decode prog_8_method_22_code 23 = .ok (.getfield 25, 3) := by decide +kernel
theorem d_R_undo_26 : decode prog_8_method_22_code 26 = .ok (.iload_n 1, 1) := by decide +kernel
theorem d_R_undo_27 : decode prog_8_method_22_code 27 = .ok (.dup2, 1) := by decide +kernel
theorem d_R_undo_28 : decode prog_8_method_22_code 28 = .ok (.iaload, 1) := by decide +kernel
theorem d_R_undo_29 : decode prog_8_method_22_code 29 = .ok (.iconst 1, 1) := by decide +kernel
theorem d_R_undo_30 : decode prog_8_method_22_code 30 = .ok (.isub, 1) := by decide +kernel
theorem d_R_undo_31 : decode prog_8_method_22_code 31 = .ok (.iastore, 1) := by decide +kernel
theorem d_R_undo_32 : decode prog_8_method_22_code 32 = .ok (.aload_n 0, 1) := by decide +kernel
theorem d_R_undo_33 : decode prog_8_method_22_code 33 = .ok (.getfield 25, 3) := by decide +kernel
theorem d_R_undo_36 : decode prog_8_method_22_code 36 = .ok (.iload_n 1, 1) := by decide +kernel
theorem d_R_undo_37 : decode prog_8_method_22_code 37 = .ok (.iaload, 1) := by decide +kernel
theorem d_R_undo_38 : decode prog_8_method_22_code 38 = .ok (.ireturn, 1) := by decide +kernel
def wp_R_undo (a1 : Int32) (M : Mem) (post : Int32 → Mem → Prop) : Prop :=
  ((((pf_R_isText a1) = 0) → post (-2) M) ∧ (¬ ((pf_R_isText a1) = 0) → vp_in a1 4 ∧ ((((M 6 (tn a1)) = 0) → post (-3) M) ∧ (¬ ((M 6 (tn a1)) = 0) → ∀ M5 : Mem, M5 = upm M 6 (tn a1) ((M 6 (tn a1)) - 1) → post (M5 6 (tn a1)) M5))))
set_option maxHeartbeats 4000000 in
set_option maxRecDepth 100000 in
theorem c_R_undo (g : GX) {a1 : Int32} {M : Mem} {post : Int32 → Mem → Prop} (hw : wp_R_undo a1 M post) : CtI (oR g) y_R_undo prog_8_method_22_code 2 (some .int) (rl 2) [.ref (ax g 0), .int a1] M post := by
  refine z_metI (oR_ok g) (by decide) rfl (fun X C hr => ?_)
  show Zj X 2 (oR g) M 0 [(0, .ref (ax g 0)), (1, .int a1)] []
  unfold wp_R_undo at hw
  refine z_iload_n C d_R_undo_0 rfl 1 rfl ?_
  refine z_callSi C (As := [.int a1]) (rest := []) m_R_isText tw_822 ⟨rfl, rfl⟩ (c_R_isText (oR_ok g) _ _) rfl rfl rfl d_R_undo_1 (fun r M2 hq => ?_)
  obtain ⟨rfl, rfl⟩ := hq
  refine z_if_ne C 10 d_R_undo_4 (by decide) (fun h2 => ?_) (fun h2 => ?_)
  · replace hw := hw.2 h2
    refine z_aload_n C d_R_undo_10 rfl 0 rfl ?_
    refine gf_R_25 C d_R_undo_11 ?_
    refine z_iload_n C d_R_undo_14 rfl 1 rfl ?_
    have hv3 := hw.1
    replace hw := hw.2
    refine z_al (zar_r6) C hv3 d_R_undo_15 ?_
    refine z_if_ne C 22 d_R_undo_16 (by decide) (fun h4 => ?_) (fun h4 => ?_)
    · replace hw := hw.2 h4
      refine z_aload_n C d_R_undo_22 rfl 0 rfl ?_
      refine gf_R_25 C d_R_undo_23 ?_
      refine z_iload_n C d_R_undo_26 rfl 1 rfl ?_
      refine z_dup2 C d_R_undo_27 rfl rfl ?_
      refine z_al (zar_r6) C hv3 d_R_undo_28 ?_
      refine z_iconst (v := 1) C d_R_undo_29 (by decide) ?_
      refine z_isub C d_R_undo_30 ?_
      refine z_as (zar_r6) C hv3 d_R_undo_31 (fun M5 hM5 => ?_)
      replace hw := hw M5 hM5
      refine z_aload_n C d_R_undo_32 rfl 0 rfl ?_
      refine gf_R_25 C d_R_undo_33 ?_
      refine z_iload_n C d_R_undo_36 rfl 1 rfl ?_
      refine z_al (zar_r6) C hv3 d_R_undo_37 ?_
      exact z_iret C hr hw d_R_undo_38
    · replace hw := hw.1 h4
      refine z_bipush (v := (-3)) C d_R_undo_19 (by decide) ?_
      exact z_iret C hr hw d_R_undo_21
  · replace hw := hw.1 h2
    refine z_bipush (v := (-2)) C d_R_undo_7 (by decide) ?_
    exact z_iret C hr hw d_R_undo_9
theorem d_R_readsFall_0 : decode prog_8_method_28_code 0 = .ok (.aload_n 0, 1) := by decide +kernel
theorem d_R_readsFall_1 : decode prog_8_method_28_code 1 = .ok (.invokevirtual 137, 3) := by decide +kernel
theorem d_R_readsFall_4 : decode prog_8_method_28_code 4 = .ok (.iconst 0, 1) := by decide +kernel
theorem d_R_readsFall_5 : decode prog_8_method_28_code 5 = .ok (.istore_n 1, 1) := by decide +kernel
theorem d_R_readsFall_6 : decode prog_8_method_28_code 6 = .ok (.iload_n 1, 1) := by decide +kernel
theorem d_R_readsFall_7 : decode prog_8_method_28_code 7 = .ok (.aload_n 0, 1) := by decide +kernel
theorem d_R_readsFall_8 : decode prog_8_method_28_code 8 = .ok (.getfield 25, 3) := by decide +kernel
theorem d_R_readsFall_11 : decode prog_8_method_28_code 11 = .ok (.iconst 1, 1) := by decide +kernel
theorem d_R_readsFall_12 : decode prog_8_method_28_code 12 = .ok (.iaload, 1) := by decide +kernel
theorem d_R_readsFall_13 : decode prog_8_method_28_code 13 = .ok (.if_icmp .ge (42), 3) := by decide +kernel
theorem d_R_readsFall_16 : decode prog_8_method_28_code 16 = .ok (.aload_n 0, 1) := by decide +kernel
theorem d_R_readsFall_17 : decode prog_8_method_28_code 17 = .ok (.getfield 22, 3) := by decide +kernel
theorem d_R_readsFall_20 : decode prog_8_method_28_code 20 = .ok (.bipush 24, 2) := by decide +kernel
theorem d_R_readsFall_22 : decode prog_8_method_28_code 22 = .ok (.iload_n 1, 1) := by decide +kernel
theorem d_R_readsFall_23 : decode prog_8_method_28_code 23 = .ok (.iadd, 1) := by decide +kernel
theorem d_R_readsFall_24 : decode prog_8_method_28_code 24 = .ok (.iaload, 1) := by decide +kernel
theorem d_R_readsFall_25 : decode prog_8_method_28_code 25 = .ok (.iconst 0, 1) := by decide +kernel
theorem d_R_readsFall_26 : decode prog_8_method_28_code 26 = .ok (.invokestatic 140, 3) := by decide +kernel
theorem d_R_readsFall_29 : decode prog_8_method_28_code 29 = .ok (.istore_n 2, 1) := by decide +kernel
theorem d_R_readsFall_30 : decode prog_8_method_28_code 30 = .ok (.iload_n 2, 1) := by decide +kernel
theorem d_R_readsFall_31 : decode prog_8_method_28_code 31 = .ok (.bipush (-9), 2) := by decide +kernel
theorem d_R_readsFall_33 : decode prog_8_method_28_code 33 = .ok (.if_icmp .ne (9), 3) := by decide +kernel
theorem d_R_readsFall_36 : decode prog_8_method_28_code 36 = .ok (.aload_n 0, 1) := by decide +kernel
theorem d_R_readsFall_37 : decode prog_8_method_28_code 37 = .ok (.invokevirtual 137, 3) := by decide +kernel
theorem d_R_readsFall_40 : decode prog_8_method_28_code 40 = .ok (.iload_n 1, 1) := by decide +kernel
theorem d_R_readsFall_41 : decode prog_8_method_28_code 41 = .ok (.ireturn, 1) := by decide +kernel
theorem d_R_readsFall_42 : decode prog_8_method_28_code 42 = .ok (.aload_n 0, 1) := by decide +kernel
theorem d_R_readsFall_43 : decode prog_8_method_28_code 43 = .ok (.getfield 31, 3) := by decide +kernel
theorem d_R_readsFall_46 : decode prog_8_method_28_code 46 = .ok (.iload_n 1, 1) := by decide +kernel
theorem d_R_readsFall_47 : decode prog_8_method_28_code 47 = .ok (.iload_n 2, 1) := by decide +kernel
theorem d_R_readsFall_48 : decode prog_8_method_28_code 48 = .ok (.iastore, 1) := by decide +kernel
theorem d_R_readsFall_49 : decode prog_8_method_28_code 49 = .ok (.iinc 1 1, 3) := by decide +kernel
theorem d_R_readsFall_52 : decode prog_8_method_28_code 52 = .ok (.goto (-46), 3) := by decide +kernel
theorem d_R_readsFall_55 : decode prog_8_method_28_code 55 = .ok (.iconst (-1), 1) := by decide +kernel
theorem d_R_readsFall_56 : decode prog_8_method_28_code 56 = .ok (.ireturn, 1) := by decide +kernel
def wp_R_readsFall (M : Mem) (post : Int32 → Mem → Prop) : Prop :=
  wp_R_clears M (fun M1 => (it2 (fun rec3 (i5 : Int32) (M6 : Mem) => vp_in 1 4 ∧ ((((M6 6 (tn 1)) ≤ i5) → post (-1) M6) ∧ (¬ ((M6 6 (tn 1)) ≤ i5) → vp_in (24 + i5) 96 ∧ ∀ x11 : Int32, x11 = (pf_R_figureOf (M6 5 (tn (24 + i5))) 0) → (((x11 = (-9)) → wp_R_clears M6 (fun M15 => post i5 M15)) ∧ (¬ (x11 = (-9)) → vp_in i5 24 ∧ ∀ M13 : Mem, M13 = upm M6 8 (tn i5) x11 → rec3 (i5 + 1) M13))))) 4096 0 M1))
set_option maxHeartbeats 4000000 in
set_option maxRecDepth 100000 in
theorem c_R_readsFall (g : GX) {M : Mem} {post : Int32 → Mem → Prop} (hw : wp_R_readsFall M post) : CtI (oR g) y_R_readsFall prog_8_method_28_code 3 (some .int) (rl 2) [.ref (ax g 0)] M post := by
  refine z_metI (oR_ok g) (by decide) rfl (fun X C hr => ?_)
  show Zj X 3 (oR g) M 0 [(0, .ref (ax g 0))] []
  unfold wp_R_readsFall at hw
  refine z_aload_n C d_R_readsFall_0 rfl 0 rfl ?_
  refine z_callVv C (As := []) (rest := []) m_R_clears tw_854 0 (le_R) rfl ⟨rfl, rfl⟩ (c_R_clears g hw) rfl rfl rfl d_R_readsFall_1 (fun M1 hw => ?_)
  refine z_iconst (v := 0) C d_R_readsFall_4 (by decide) ?_
  refine z_istore_n (lv' := [(1, .int 0), (0, .ref (ax g 0))]) C d_R_readsFall_5 rfl rfl rfl ?_
  refine z_sub [1, 0] rfl ?_
  refine it2_Z (Z := fun (i5 : Int32) (M6 : Mem) => Zj X 3 (oR g) M6 6 [(0, .ref (ax g 0)), (1, .int i5)] []) (fun rec3 ih4 i5 M6 hw => ?_) _ _ _ hw
  refine z_iload_n C d_R_readsFall_6 rfl 1 rfl ?_
  refine z_aload_n C d_R_readsFall_7 rfl 0 rfl ?_
  refine gf_R_25 C d_R_readsFall_8 ?_
  refine z_iconst (v := 1) C d_R_readsFall_11 (by decide) ?_
  have hv7 := hw.1
  replace hw := hw.2
  refine z_al (zar_r6) C hv7 d_R_readsFall_12 ?_
  refine z_ic_ge C 55 d_R_readsFall_13 (by decide) (fun h8 => ?_) (fun h8 => ?_)
  · replace hw := hw.1 h8
    refine z_iconst (v := (-1)) C d_R_readsFall_55 (by decide) ?_
    exact z_iret C hr hw d_R_readsFall_56
  · replace hw := hw.2 h8
    refine z_aload_n C d_R_readsFall_16 rfl 0 rfl ?_
    refine gf_R_22 C d_R_readsFall_17 ?_
    refine z_bipush (v := 24) C d_R_readsFall_20 (by decide) ?_
    refine z_iload_n C d_R_readsFall_22 rfl 1 rfl ?_
    refine z_iadd C d_R_readsFall_23 ?_
    have hv9 := hw.1
    replace hw := hw.2
    refine z_al (zar_r5) C hv9 d_R_readsFall_24 ?_
    refine z_iconst (v := 0) C d_R_readsFall_25 (by decide) ?_
    refine z_callSi C (As := [.int (M6 5 (tn (24 + i5))), .int 0]) (rest := []) m_R_figureOf tw_858 ⟨rfl, rfl⟩ (c_R_figureOf (oR_ok g) _ _ _) rfl rfl rfl d_R_readsFall_26 (fun r M2 hq => ?_)
    obtain ⟨rfl, rfl⟩ := hq
    obtain ⟨x11, hx11⟩ : ∃ z : Int32, z = (pf_R_figureOf (M6 5 (tn (24 + i5))) 0) := ⟨_, rfl⟩
    rw [← hx11]
    replace hw := hw x11 hx11
    refine z_istore_n (lv' := [(2, .int x11), (0, .ref (ax g 0)), (1, .int i5)]) C d_R_readsFall_29 rfl rfl rfl ?_
    refine z_iload_n C d_R_readsFall_30 rfl 0 rfl ?_
    refine z_bipush (v := (-9)) C d_R_readsFall_31 (by decide) ?_
    refine z_ic_ne C 42 d_R_readsFall_33 (by decide) (fun h12 => ?_) (fun h12 => ?_)
    · replace hw := hw.2 h12
      refine z_aload_n C d_R_readsFall_42 rfl 1 rfl ?_
      refine gf_R_31 C d_R_readsFall_43 ?_
      refine z_iload_n C d_R_readsFall_46 rfl 2 rfl ?_
      refine z_iload_n C d_R_readsFall_47 rfl 0 rfl ?_
      have hv14 := hw.1
      refine z_as (zar_r8) C hv14 d_R_readsFall_48 (fun M13 hM13 => ?_)
      replace hw := hw.2 M13 hM13
      refine z_iinc (v := (i5 + 1)) (lv' := [(1, .int (i5 + 1)), (2, .int x11), (0, .ref (ax g 0))]) C d_R_readsFall_49 2 rfl rfl rfl rfl ?_
      refine z_goto C 6 d_R_readsFall_52 (by decide) ?_
      refine z_sub [2, 0] rfl ?_
      exact ih4 _ _ hw
    · replace hw := hw.1 h12
      refine z_aload_n C d_R_readsFall_36 rfl 1 rfl ?_
      refine z_callVv C (As := []) (rest := []) m_R_clears tw_854 0 (le_R) rfl ⟨rfl, rfl⟩ (c_R_clears g hw) rfl rfl rfl d_R_readsFall_37 (fun M15 hw => ?_)
      refine z_iload_n C d_R_readsFall_40 rfl 2 rfl ?_
      exact z_iret C hr hw d_R_readsFall_41
theorem d_R_readsBuses_0 : decode prog_8_method_31_code 0 = .ok (.aload_n 0, 1) := by decide +kernel
theorem d_R_readsBuses_1 : decode prog_8_method_31_code 1 = .ok (.iconst 0, 1) := by decide +kernel
theorem d_R_readsBuses_2 : decode prog_8_method_31_code 2 = .ok (.putfield 152, 3) := by decide +kernel
theorem d_R_readsBuses_5 : decode prog_8_method_31_code 5 = .ok (.iconst 0, 1) := by decide +kernel
theorem d_R_readsBuses_6 : decode prog_8_method_31_code 6 = .ok (.istore_n 1, 1) := by decide +kernel
theorem d_R_readsBuses_7 : decode prog_8_method_31_code 7 = .ok (.iload_n 1, 1) := by decide +kernel
theorem d_R_readsBuses_8 : decode prog_8_method_31_code 8 = .ok (.aload_n 0, 1) := by decide +kernel
theorem d_R_readsBuses_9 : decode prog_8_method_31_code 9 = .ok (.getfield 25, 3) := by decide +kernel
theorem d_R_readsBuses_12 : decode prog_8_method_31_code 12 = .ok (.iconst 3, 1) := by decide +kernel
theorem d_R_readsBuses_13 : decode prog_8_method_31_code 13 = .ok (.iaload, 1) := by decide +kernel
theorem d_R_readsBuses_14 : decode prog_8_method_31_code 14 = .ok (.if_icmp .ge (54), 3) := by decide +kernel
theorem d_R_readsBuses_17 : decode prog_8_method_31_code 17 = .ok (.aload_n 0, 1) := by decide +kernel
theorem d_R_readsBuses_18 : decode prog_8_method_31_code 18 = .ok (.getfield 22, 3) := by decide +kernel
theorem d_R_readsBuses_21 : decode prog_8_method_31_code 21 = .ok (.bipush 72, 2) := by decide +kernel
theorem d_R_readsBuses_23 : decode prog_8_method_31_code 23 = .ok (.iload_n 1, 1) := by decide +kernel
theorem d_R_readsBuses_24 : decode prog_8_method_31_code 24 = .ok (.iadd, 1) := by decide +kernel
theorem d_R_readsBuses_25 : decode prog_8_method_31_code 25 = .ok (.iaload, 1) := by decide +kernel
theorem d_R_readsBuses_26 : decode prog_8_method_31_code 26 = .ok (.bipush 120, 2) := by decide +kernel
theorem d_R_readsBuses_28 : decode prog_8_method_31_code 28 = .ok (.invokestatic 143, 3) := by decide +kernel
theorem d_R_readsBuses_31 : decode prog_8_method_31_code 31 = .ok (.istore_n 2, 1) := by decide +kernel
theorem d_R_readsBuses_32 : decode prog_8_method_31_code 32 = .ok (.iload_n 2, 1) := by decide +kernel
theorem d_R_readsBuses_33 : decode prog_8_method_31_code 33 = .ok (.bipush (-9), 2) := by decide +kernel
theorem d_R_readsBuses_35 : decode prog_8_method_31_code 35 = .ok (.if_icmp .ne (10), 3) := by decide +kernel
theorem d_R_readsBuses_38 : decode prog_8_method_31_code 38 = .ok (.aload_n 0, 1) := by decide +kernel
theorem d_R_readsBuses_39 : decode prog_8_method_31_code 39 = .ok (.iconst 0, 1) := by decide +kernel
theorem d_R_readsBuses_40 : decode prog_8_method_31_code 40 = .ok (.putfield 152, 3) := by decide +kernel
theorem d_R_readsBuses_43 : decode prog_8_method_31_code 43 = .ok (.iload_n 1, 1) := by decide +kernel
theorem d_R_readsBuses_44 : decode prog_8_method_31_code 44 = .ok (.ireturn, 1) := by decide +kernel
theorem d_R_readsBuses_45 : decode prog_8_method_31_code 45 = .ok (.aload_n 0, 1) := by decide +kernel
theorem d_R_readsBuses_46 : decode prog_8_method_31_code 46 = .ok (.getfield 37, 3) := by decide +kernel
theorem d_R_readsBuses_49 : decode prog_8_method_31_code 49 = .ok (.iload_n 1, 1) := by decide +kernel
theorem d_R_readsBuses_50 : decode prog_8_method_31_code 50 = .ok (.iload_n 2, 1) := by decide +kernel
theorem d_R_readsBuses_51 : decode prog_8_method_31_code 51 = .ok (.iastore, 1) := by decide +kernel
theorem d_R_readsBuses_52 : decode prog_8_method_31_code 52 = .ok (.aload_n 0, 1) := by decide +kernel
theorem d_R_readsBuses_53 : decode prog_8_method_31_code 53 = .ok (.dup, 1) := by decide +kernel
theorem d_R_readsBuses_54 : decode prog_8_method_31_code 54 = .ok (.getfield 152, 3) := by decide +kernel
theorem d_R_readsBuses_57 : decode prog_8_method_31_code 57 = .ok (.iconst 1, 1) := by decide +kernel
theorem d_R_readsBuses_58 : decode prog_8_method_31_code 58 = .ok (.iadd, 1) := by decide +kernel
theorem d_R_readsBuses_59 : decode prog_8_method_31_code 59 = .ok (.putfield 152, 3) := by decide +kernel
theorem d_R_readsBuses_62 : decode prog_8_method_31_code 62 = .ok (.iinc 1 1, 3) := by decide +kernel
theorem d_R_readsBuses_65 : decode prog_8_method_31_code 65 = .ok (.goto (-58), 3) := by decide +kernel
theorem d_R_readsBuses_68 : decode prog_8_method_31_code 68 = .ok (.iconst (-1), 1) := by decide +kernel
theorem d_R_readsBuses_69 : decode prog_8_method_31_code 69 = .ok (.ireturn, 1) := by decide +kernel
def wp_R_readsBuses (M : Mem) (post : Int32 → Mem → Prop) : Prop :=
  ∀ M1 : Mem, M1 = upm M 0 11 0 → (it2 (fun rec2 (i4 : Int32) (M5 : Mem) => vp_in 3 4 ∧ ((((M5 6 (tn 3)) ≤ i4) → post (-1) M5) ∧ (¬ ((M5 6 (tn 3)) ≤ i4) → vp_in (72 + i4) 96 ∧ ∀ x10 : Int32, x10 = (pf_R_letterOf (M5 5 (tn (72 + i4))) 120) → (((x10 = (-9)) → ∀ M15 : Mem, M15 = upm M5 0 11 0 → post i4 M15) ∧ (¬ (x10 = (-9)) → vp_in i4 8 ∧ ∀ M12 : Mem, M12 = upm M5 10 (tn i4) x10 → ∀ M14 : Mem, M14 = upm M12 0 11 ((M12 0 11) + 1) → rec2 (i4 + 1) M14))))) 4096 0 M1)
set_option maxHeartbeats 4000000 in
set_option maxRecDepth 100000 in
theorem c_R_readsBuses (g : GX) {M : Mem} {post : Int32 → Mem → Prop} (hw : wp_R_readsBuses M post) : CtI (oR g) y_R_readsBuses prog_8_method_31_code 3 (some .int) (rl 2) [.ref (ax g 0)] M post := by
  refine z_metI (oR_ok g) (by decide) rfl (fun X C hr => ?_)
  show Zj X 3 (oR g) M 0 [(0, .ref (ax g 0))] []
  unfold wp_R_readsBuses at hw
  refine z_aload_n C d_R_readsBuses_0 rfl 0 rfl ?_
  refine z_iconst (v := 0) C d_R_readsBuses_1 (by decide) ?_
  refine pp_R_152 C d_R_readsBuses_2 (fun M1 hM1 => ?_)
  replace hw := hw M1 hM1
  refine z_iconst (v := 0) C d_R_readsBuses_5 (by decide) ?_
  refine z_istore_n (lv' := [(1, .int 0), (0, .ref (ax g 0))]) C d_R_readsBuses_6 rfl rfl rfl ?_
  refine z_sub [1, 0] rfl ?_
  refine it2_Z (Z := fun (i4 : Int32) (M5 : Mem) => Zj X 3 (oR g) M5 7 [(0, .ref (ax g 0)), (1, .int i4)] []) (fun rec2 ih3 i4 M5 hw => ?_) _ _ _ hw
  refine z_iload_n C d_R_readsBuses_7 rfl 1 rfl ?_
  refine z_aload_n C d_R_readsBuses_8 rfl 0 rfl ?_
  refine gf_R_25 C d_R_readsBuses_9 ?_
  refine z_iconst (v := 3) C d_R_readsBuses_12 (by decide) ?_
  have hv6 := hw.1
  replace hw := hw.2
  refine z_al (zar_r6) C hv6 d_R_readsBuses_13 ?_
  refine z_ic_ge C 68 d_R_readsBuses_14 (by decide) (fun h7 => ?_) (fun h7 => ?_)
  · replace hw := hw.1 h7
    refine z_iconst (v := (-1)) C d_R_readsBuses_68 (by decide) ?_
    exact z_iret C hr hw d_R_readsBuses_69
  · replace hw := hw.2 h7
    refine z_aload_n C d_R_readsBuses_17 rfl 0 rfl ?_
    refine gf_R_22 C d_R_readsBuses_18 ?_
    refine z_bipush (v := 72) C d_R_readsBuses_21 (by decide) ?_
    refine z_iload_n C d_R_readsBuses_23 rfl 1 rfl ?_
    refine z_iadd C d_R_readsBuses_24 ?_
    have hv8 := hw.1
    replace hw := hw.2
    refine z_al (zar_r5) C hv8 d_R_readsBuses_25 ?_
    refine z_bipush (v := 120) C d_R_readsBuses_26 (by decide) ?_
    refine z_callSi C (As := [.int (M5 5 (tn (72 + i4))), .int 120]) (rest := []) m_R_letterOf tw_869 ⟨rfl, rfl⟩ (c_R_letterOf (oR_ok g) _ _ _) rfl rfl rfl d_R_readsBuses_28 (fun r M2 hq => ?_)
    obtain ⟨rfl, rfl⟩ := hq
    obtain ⟨x10, hx10⟩ : ∃ z : Int32, z = (pf_R_letterOf (M5 5 (tn (72 + i4))) 120) := ⟨_, rfl⟩
    rw [← hx10]
    replace hw := hw x10 hx10
    refine z_istore_n (lv' := [(2, .int x10), (0, .ref (ax g 0)), (1, .int i4)]) C d_R_readsBuses_31 rfl rfl rfl ?_
    refine z_iload_n C d_R_readsBuses_32 rfl 0 rfl ?_
    refine z_bipush (v := (-9)) C d_R_readsBuses_33 (by decide) ?_
    refine z_ic_ne C 45 d_R_readsBuses_35 (by decide) (fun h11 => ?_) (fun h11 => ?_)
    · replace hw := hw.2 h11
      refine z_aload_n C d_R_readsBuses_45 rfl 1 rfl ?_
      refine gf_R_37 C d_R_readsBuses_46 ?_
      refine z_iload_n C d_R_readsBuses_49 rfl 2 rfl ?_
      refine z_iload_n C d_R_readsBuses_50 rfl 0 rfl ?_
      have hv13 := hw.1
      refine z_as (zar_r10) C hv13 d_R_readsBuses_51 (fun M12 hM12 => ?_)
      replace hw := hw.2 M12 hM12
      refine z_aload_n C d_R_readsBuses_52 rfl 1 rfl ?_
      refine z_dup C d_R_readsBuses_53 rfl ?_
      refine gf_R_152 C d_R_readsBuses_54 ?_
      refine z_iconst (v := 1) C d_R_readsBuses_57 (by decide) ?_
      refine z_iadd C d_R_readsBuses_58 ?_
      refine pp_R_152 C d_R_readsBuses_59 (fun M14 hM14 => ?_)
      replace hw := hw M14 hM14
      refine z_iinc (v := (i4 + 1)) (lv' := [(1, .int (i4 + 1)), (2, .int x10), (0, .ref (ax g 0))]) C d_R_readsBuses_62 2 rfl rfl rfl rfl ?_
      refine z_goto C 7 d_R_readsBuses_65 (by decide) ?_
      refine z_sub [2, 0] rfl ?_
      exact ih3 _ _ hw
    · replace hw := hw.1 h11
      refine z_aload_n C d_R_readsBuses_38 rfl 1 rfl ?_
      refine z_iconst (v := 0) C d_R_readsBuses_39 (by decide) ?_
      refine pp_R_152 C d_R_readsBuses_40 (fun M15 hM15 => ?_)
      replace hw := hw M15 hM15
      refine z_iload_n C d_R_readsBuses_43 rfl 2 rfl ?_
      exact z_iret C hr hw d_R_readsBuses_44
theorem d_R_land_0 : decode prog_8_method_38_code 0 = .ok (.aload_n 0, 1) := by decide +kernel
theorem d_R_land_1 : decode prog_8_method_38_code 1 = .ok (.invokevirtual 155, 3) := by decide +kernel
theorem d_R_land_4 : decode prog_8_method_38_code 4 = .ok (.pop, 1) := by decide +kernel
theorem d_R_land_5 : decode prog_8_method_38_code 5 = .ok (.iload_n 1, 1) := by decide +kernel
theorem d_R_land_6 : decode prog_8_method_38_code 6 = .ok (.invokestatic 175, 3) := by decide +kernel
theorem d_R_land_9 : decode prog_8_method_38_code 9 = .ok (.ifCond .eq (12), 3) := by decide +kernel
theorem d_R_land_12 : decode prog_8_method_38_code 12 = .ok (.aload_n 0, 1) := by decide +kernel
theorem d_R_land_13 : decode prog_8_method_38_code 13 = .ok (.getfield 28, 3) := by decide +kernel
theorem d_R_land_16 : decode prog_8_method_38_code 16 = .ok (.iload_n 1, 1) := by decide +kernel
theorem d_R_land_17 : decode prog_8_method_38_code 17 = .ok (.iaload, 1) := by decide +kernel
theorem d_R_land_18 : decode prog_8_method_38_code 18 = .ok (.goto (5), 3) := by decide +kernel
theorem d_R_land_21 : decode prog_8_method_38_code 21 = .ok (.bipush (-2), 2) := by decide +kernel
theorem d_R_land_23 : decode prog_8_method_38_code 23 = .ok (.ireturn, 1) := by decide +kernel
def wp_R_land (a1 : Int32) (M : Mem) (post : Int32 → Mem → Prop) : Prop :=
  wp_R_readsLand M (fun r2 M1 => ((((pf_R_isMile a1) = 0) → True) ∧ (¬ ((pf_R_isMile a1) = 0) → (vp_in a1 12))) ∧ (∀ u6 : Int32, u6 = (if (pf_R_isMile a1) = 0 then (-2) else (M1 7 (tn a1))) → post u6 M1))
set_option maxHeartbeats 4000000 in
set_option maxRecDepth 100000 in
theorem c_R_land (g : GX) {a1 : Int32} {M : Mem} {post : Int32 → Mem → Prop} (hw : wp_R_land a1 M post) : CtI (oR g) y_R_land prog_8_method_38_code 2 (some .int) (rl 2) [.ref (ax g 0), .int a1] M post := by
  refine z_metI (oR_ok g) (by decide) rfl (fun X C hr => ?_)
  show Zj X 2 (oR g) M 0 [(0, .ref (ax g 0)), (1, .int a1)] []
  unfold wp_R_land at hw
  refine z_aload_n C d_R_land_0 rfl 0 rfl ?_
  refine z_callVi C (As := []) (rest := []) m_R_readsLand tw_842 0 (le_R) rfl ⟨rfl, rfl⟩ (c_R_readsLand g hw) rfl rfl rfl d_R_land_1 (fun r2 M1 hw => ?_)
  refine z_pop C d_R_land_4 rfl ?_
  refine z_iload_n C d_R_land_5 rfl 1 rfl ?_
  refine z_callSi C (As := [.int a1]) (rest := []) m_R_isMile tw_881 ⟨rfl, rfl⟩ (c_R_isMile (oR_ok g) _ _) rfl rfl rfl d_R_land_6 (fun r M2 hq => ?_)
  obtain ⟨rfl, rfl⟩ := hq
  have hj7 : ∀ u6 : Int32, u6 = (if (pf_R_isMile a1) = 0 then (-2) else (M1 7 (tn a1))) → Zj X 2 (oR g) M1 23 [] [.int u6] := by
    intro u6 hu6
    replace hw := hw.2 u6 hu6
    exact z_iret C hr hw d_R_land_23
  have ha0 := hw.1
  refine z_if_eq C 21 d_R_land_9 (by decide) (fun h4 => ?_) (fun h4 => ?_)
  · refine z_bipush (v := (-2)) C d_R_land_21 (by decide) ?_
    refine z_sub [] rfl ?_
    exact hj7 _ ((if_pos h4)).symm
  · have ha8 := ha0.2 h4
    refine z_aload_n C d_R_land_12 rfl 0 rfl ?_
    refine gf_R_28 C d_R_land_13 ?_
    refine z_iload_n C d_R_land_16 rfl 1 rfl ?_
    have hv5 := ha8
    refine z_al (zar_r7) C hv5 d_R_land_17 ?_
    refine z_goto C 23 d_R_land_18 (by decide) ?_
    refine z_sub [] rfl ?_
    exact hj7 _ ((if_neg h4)).symm
theorem d_R_event_0 : decode prog_8_method_43_code 0 = .ok (.iload_n 1, 1) := by decide +kernel
theorem d_R_event_1 : decode prog_8_method_43_code 1 = .ok (.i2l, 1) := by decide +kernel
theorem d_R_event_2 : decode prog_8_method_43_code 2 = .ok (.lconst 0, 1) := by decide +kernel
theorem d_R_event_3 : decode prog_8_method_43_code 3 = .ok (.ldc2_w 110, 3) := by decide +kernel
theorem d_R_event_6 : decode prog_8_method_43_code 6 = .ok (.invokestatic 97, 3) := by decide +kernel
theorem d_R_event_9 : decode prog_8_method_43_code 9 = .ok (.ifCond .eq (17), 3) := by decide +kernel
theorem d_R_event_12 : decode prog_8_method_43_code 12 = .ok (.iload_n 2, 1) := by decide +kernel
theorem d_R_event_13 : decode prog_8_method_43_code 13 = .ok (.invokestatic 178, 3) := by decide +kernel
theorem d_R_event_16 : decode prog_8_method_43_code 16 = .ok (.ifCond .eq (10), 3) := by decide +kernel
theorem d_R_event_19 : decode prog_8_method_43_code 19 = .ok (.iload_n 3, 1) := by decide +kernel
theorem d_R_event_20 : decode prog_8_method_43_code 20 = .ok (.invokestatic 175, 3) := by decide +kernel
theorem d_R_event_23 : decode prog_8_method_43_code 23 = .ok (.ifCond .ne (6), 3) := by decide +kernel
theorem d_R_event_26 : decode prog_8_method_43_code 26 = .ok (.bipush (-2), 2) := by decide +kernel
theorem d_R_event_28 : decode prog_8_method_43_code 28 = .ok (.ireturn, 1) := by decide +kernel
theorem d_R_event_29 : decode prog_8_method_43_code 29 = .ok (.aload_n 0, 1) := by decide +kernel
theorem d_R_event_30 : decode prog_8_method_43_code 30 = .ok (.getfield 189, 3) := by decide +kernel
theorem d_R_event_33 : decode prog_8_method_43_code 33 = .ok (.bipush 8, 2) := by decide +kernel
theorem d_R_event_35 : decode prog_8_method_43_code 35 = .ok (.if_icmp .ne (6), 3) := by decide +kernel
theorem d_R_event_38 : decode prog_8_method_43_code 38 = .ok (.bipush (-4), 2) := by decide +kernel
theorem d_R_event_40 : decode prog_8_method_43_code 40 = .ok (.ireturn, 1) := by decide +kernel
theorem d_R_event_41 : decode prog_8_method_43_code 41 = .ok (.aload_n 0, 1) := by decide +kernel
theorem d_R_event_42 : decode prog_8_method_43_code 42 = .ok (.getfield 40, 3) := by decide +kernel
theorem d_R_event_45 : decode prog_8_method_43_code 45 = .ok (.iconst 3, 1) := by decide +kernel
theorem d_R_event_46 : decode prog_8_method_43_code 46 = .ok (.aload_n 0, 1) := by decide +kernel
theorem d_R_event_47 : decode prog_8_method_43_code 47 = .ok (.getfield 189, 3) := by decide +kernel
theorem d_R_event_50 : decode prog_8_method_43_code 50 = .ok (.imul, 1) := by decide +kernel
theorem d_R_event_51 : decode prog_8_method_43_code 51 = .ok (.iload_n 1, 1) := by decide +kernel
theorem d_R_event_52 : decode prog_8_method_43_code 52 = .ok (.iastore, 1) := by decide +kernel
theorem d_R_event_53 : decode prog_8_method_43_code 53 = .ok (.aload_n 0, 1) := by decide +kernel
theorem d_R_event_54 : decode prog_8_method_43_code 54 = .ok (.getfield 40, 3) := by decide +kernel
theorem d_R_event_57 : decode prog_8_method_43_code 57 = .ok (.iconst 3, 1) := by decide +kernel
theorem d_R_event_58 : decode prog_8_method_43_code 58 = .ok (.aload_n 0, 1) := by decide +kernel
theorem d_R_event_59 : decode prog_8_method_43_code 59 = .ok (.getfield 189, 3) := by decide +kernel
theorem d_R_event_62 : decode prog_8_method_43_code 62 = .ok (.imul, 1) := by decide +kernel
theorem d_R_event_63 : decode prog_8_method_43_code 63 = .ok (.iconst 1, 1) := by decide +kernel
theorem d_R_event_64 : decode prog_8_method_43_code 64 = .ok (.iadd, 1) := by decide +kernel
theorem d_R_event_65 : decode prog_8_method_43_code 65 = .ok (.iload_n 2, 1) := by decide +kernel
theorem d_R_event_66 : decode prog_8_method_43_code 66 = .ok (.iastore, 1) := by decide +kernel
theorem d_R_event_67 : decode prog_8_method_43_code 67 = .ok (.aload_n 0, 1) := by decide +kernel
theorem d_R_event_68 : decode prog_8_method_43_code 68 = .ok (.getfield 40, 3) := by decide +kernel
theorem d_R_event_71 : decode prog_8_method_43_code 71 = .ok (.iconst 3, 1) := by decide +kernel
theorem d_R_event_72 : decode prog_8_method_43_code 72 = .ok (.aload_n 0, 1) := by decide +kernel
theorem d_R_event_73 : decode prog_8_method_43_code 73 = .ok (.getfield 189, 3) := by decide +kernel
theorem d_R_event_76 : decode prog_8_method_43_code 76 = .ok (.imul, 1) := by decide +kernel
theorem d_R_event_77 : decode prog_8_method_43_code 77 = .ok (.iconst 2, 1) := by decide +kernel
theorem d_R_event_78 : decode prog_8_method_43_code 78 = .ok (.iadd, 1) := by decide +kernel
theorem d_R_event_79 : decode prog_8_method_43_code 79 = .ok (.iload_n 3, 1) := by decide +kernel
theorem d_R_event_80 : decode prog_8_method_43_code 80 = .ok (.iastore, 1) := by decide +kernel
theorem d_R_event_81 : decode prog_8_method_43_code 81 = .ok (.aload_n 0, 1) := by decide +kernel
theorem d_R_event_82 : decode prog_8_method_43_code 82 = .ok (.dup, 1) := by decide +kernel
theorem d_R_event_83 : decode prog_8_method_43_code 83 = .ok (.getfield 189, 3) := by decide +kernel
theorem d_R_event_86 : decode prog_8_method_43_code 86 = .ok (.iconst 1, 1) := by decide +kernel
theorem d_R_event_87 : decode prog_8_method_43_code 87 = .ok (.iadd, 1) := by decide +kernel
theorem d_R_event_88 : decode prog_8_method_43_code 88 = .ok (.putfield 189, 3) := by decide +kernel
theorem d_R_event_91 : decode prog_8_method_43_code 91 = .ok (.aload_n 0, 1) := by decide +kernel
theorem d_R_event_92 : decode prog_8_method_43_code 92 = .ok (.getfield 189, 3) := by decide +kernel
theorem d_R_event_95 : decode prog_8_method_43_code 95 = .ok (.ireturn, 1) := by decide +kernel
def wp_R_event (a1 : Int32) (a2 : Int32) (a3 : Int32) (M : Mem) (post : Int32 → Mem → Prop) : Prop :=
  ((((pf_R_in (Int32.toInt64 a1) 0 (2)) = 0) → post (-2) M) ∧ (¬ ((pf_R_in (Int32.toInt64 a1) 0 (2)) = 0) → ((((pf_R_isHour a2) = 0) → post (-2) M) ∧ (¬ ((pf_R_isHour a2) = 0) → ((((pf_R_isMile a3) = 0) → post (-2) M) ∧ (¬ ((pf_R_isMile a3) = 0) → ((((M 0 14) = 8) → post (-4) M) ∧ (¬ ((M 0 14) = 8) → vp_in (3 * (M 0 14)) 24 ∧ ∀ M8 : Mem, M8 = upm M 11 (tn (3 * (M 0 14))) a1 → vp_in ((3 * (M8 0 14)) + 1) 24 ∧ ∀ M10 : Mem, M10 = upm M8 11 (tn ((3 * (M8 0 14)) + 1)) a2 → vp_in ((3 * (M10 0 14)) + 2) 24 ∧ ∀ M12 : Mem, M12 = upm M10 11 (tn ((3 * (M10 0 14)) + 2)) a3 → ∀ M14 : Mem, M14 = upm M12 0 14 ((M12 0 14) + 1) → post (M14 0 14) M14))))))))
set_option maxHeartbeats 4000000 in
set_option maxRecDepth 100000 in
theorem c_R_event (g : GX) {a1 : Int32} {a2 : Int32} {a3 : Int32} {M : Mem} {post : Int32 → Mem → Prop} (hw : wp_R_event a1 a2 a3 M post) : CtI (oR g) y_R_event prog_8_method_43_code 4 (some .int) (rl 2) [.ref (ax g 0), .int a1, .int a2, .int a3] M post := by
  refine z_metI (oR_ok g) (by decide) rfl (fun X C hr => ?_)
  show Zj X 4 (oR g) M 0 [(0, .ref (ax g 0)), (1, .int a1), (2, .int a2), (3, .int a3)] []
  unfold wp_R_event at hw
  refine z_iload_n C d_R_event_0 rfl 1 rfl ?_
  refine z_i2l C d_R_event_1 ?_
  refine z_lconst (v := 0) C d_R_event_2 (by decide) ?_
  refine z_ldc2 C d_R_event_3 tw_789 ?_
  refine z_callSi C (As := [.long (Int32.toInt64 a1), .long 0, .long (2)]) (rest := []) m_R_in tw_786 ⟨rfl, rfl⟩ (c_R_in (oR_ok g) _ _ _ _) rfl rfl rfl d_R_event_6 (fun r M2 hq => ?_)
  obtain ⟨rfl, rfl⟩ := hq
  refine z_if_eq C 26 d_R_event_9 (by decide) (fun h2 => ?_) (fun h2 => ?_)
  · replace hw := hw.1 h2
    refine z_bipush (v := (-2)) C d_R_event_26 (by decide) ?_
    exact z_iret C hr hw d_R_event_28
  · replace hw := hw.2 h2
    refine z_iload_n C d_R_event_12 rfl 2 rfl ?_
    refine z_callSi C (As := [.int a2]) (rest := []) m_R_isHour tw_889 ⟨rfl, rfl⟩ (c_R_isHour (oR_ok g) _ _) rfl rfl rfl d_R_event_13 (fun r M2 hq => ?_)
    obtain ⟨rfl, rfl⟩ := hq
    refine z_if_eq C 26 d_R_event_16 (by decide) (fun h4 => ?_) (fun h4 => ?_)
    · replace hw := hw.1 h4
      refine z_bipush (v := (-2)) C d_R_event_26 (by decide) ?_
      exact z_iret C hr hw d_R_event_28
    · replace hw := hw.2 h4
      refine z_iload_n C d_R_event_19 rfl 3 rfl ?_
      refine z_callSi C (As := [.int a3]) (rest := []) m_R_isMile tw_881 ⟨rfl, rfl⟩ (c_R_isMile (oR_ok g) _ _) rfl rfl rfl d_R_event_20 (fun r M2 hq => ?_)
      obtain ⟨rfl, rfl⟩ := hq
      refine z_if_ne C 29 d_R_event_23 (by decide) (fun h6 => ?_) (fun h6 => ?_)
      · replace hw := hw.2 h6
        refine z_aload_n C d_R_event_29 rfl 0 rfl ?_
        refine gf_R_189 C d_R_event_30 ?_
        refine z_bipush (v := 8) C d_R_event_33 (by decide) ?_
        refine z_ic_ne C 41 d_R_event_35 (by decide) (fun h7 => ?_) (fun h7 => ?_)
        · replace hw := hw.2 h7
          refine z_aload_n C d_R_event_41 rfl 0 rfl ?_
          refine gf_R_40 C d_R_event_42 ?_
          refine z_iconst (v := 3) C d_R_event_45 (by decide) ?_
          refine z_aload_n C d_R_event_46 rfl 0 rfl ?_
          refine gf_R_189 C d_R_event_47 ?_
          refine z_imul C d_R_event_50 ?_
          refine z_iload_n C d_R_event_51 rfl 1 rfl ?_
          have hv9 := hw.1
          refine z_as (zar_r11) C hv9 d_R_event_52 (fun M8 hM8 => ?_)
          replace hw := hw.2 M8 hM8
          refine z_aload_n C d_R_event_53 rfl 0 rfl ?_
          refine gf_R_40 C d_R_event_54 ?_
          refine z_iconst (v := 3) C d_R_event_57 (by decide) ?_
          refine z_aload_n C d_R_event_58 rfl 0 rfl ?_
          refine gf_R_189 C d_R_event_59 ?_
          refine z_imul C d_R_event_62 ?_
          refine z_iconst (v := 1) C d_R_event_63 (by decide) ?_
          refine z_iadd C d_R_event_64 ?_
          refine z_iload_n C d_R_event_65 rfl 2 rfl ?_
          have hv11 := hw.1
          refine z_as (zar_r11) C hv11 d_R_event_66 (fun M10 hM10 => ?_)
          replace hw := hw.2 M10 hM10
          refine z_aload_n C d_R_event_67 rfl 0 rfl ?_
          refine gf_R_40 C d_R_event_68 ?_
          refine z_iconst (v := 3) C d_R_event_71 (by decide) ?_
          refine z_aload_n C d_R_event_72 rfl 0 rfl ?_
          refine gf_R_189 C d_R_event_73 ?_
          refine z_imul C d_R_event_76 ?_
          refine z_iconst (v := 2) C d_R_event_77 (by decide) ?_
          refine z_iadd C d_R_event_78 ?_
          refine z_iload_n C d_R_event_79 rfl 3 rfl ?_
          have hv13 := hw.1
          refine z_as (zar_r11) C hv13 d_R_event_80 (fun M12 hM12 => ?_)
          replace hw := hw.2 M12 hM12
          refine z_aload_n C d_R_event_81 rfl 0 rfl ?_
          refine z_dup C d_R_event_82 rfl ?_
          refine gf_R_189 C d_R_event_83 ?_
          refine z_iconst (v := 1) C d_R_event_86 (by decide) ?_
          refine z_iadd C d_R_event_87 ?_
          refine pp_R_189 C d_R_event_88 (fun M14 hM14 => ?_)
          replace hw := hw M14 hM14
          refine z_aload_n C d_R_event_91 rfl 0 rfl ?_
          refine gf_R_189 C d_R_event_92 ?_
          exact z_iret C hr hw d_R_event_95
        · replace hw := hw.1 h7
          refine z_bipush (v := (-4)) C d_R_event_38 (by decide) ?_
          exact z_iret C hr hw d_R_event_40
      · replace hw := hw.1 h6
        refine z_bipush (v := (-2)) C d_R_event_26 (by decide) ?_
        exact z_iret C hr hw d_R_event_28
