theorem d_R_sheet_0 : decode prog_8_method_12_code 0 = .ok (.iload_n 1, 1) := by decide +kernel
theorem d_R_sheet_1 : decode prog_8_method_12_code 1 = .ok (.invokestatic 106, 3) := by decide +kernel
theorem d_R_sheet_4 : decode prog_8_method_12_code 4 = .ok (.ifCond .eq (21), 3) := by decide +kernel
theorem d_R_sheet_7 : decode prog_8_method_12_code 7 = .ok (.iload_n 2, 1) := by decide +kernel
theorem d_R_sheet_8 : decode prog_8_method_12_code 8 = .ok (.i2l, 1) := by decide +kernel
theorem d_R_sheet_9 : decode prog_8_method_12_code 9 = .ok (.lconst 0, 1) := by decide +kernel
theorem d_R_sheet_10 : decode prog_8_method_12_code 10 = .ok (.ldc2_w 110, 3) := by decide +kernel
theorem d_R_sheet_13 : decode prog_8_method_12_code 13 = .ok (.invokestatic 97, 3) := by decide +kernel
theorem d_R_sheet_16 : decode prog_8_method_12_code 16 = .ok (.ifCond .eq (9), 3) := by decide +kernel
theorem d_R_sheet_19 : decode prog_8_method_12_code 19 = .ok (.iload_n 3, 1) := by decide +kernel
theorem d_R_sheet_20 : decode prog_8_method_12_code 20 = .ok (.bipush 60, 2) := by decide +kernel
theorem d_R_sheet_22 : decode prog_8_method_12_code 22 = .ok (.if_icmp .le (6), 3) := by decide +kernel
theorem d_R_sheet_25 : decode prog_8_method_12_code 25 = .ok (.bipush (-2), 2) := by decide +kernel
theorem d_R_sheet_27 : decode prog_8_method_12_code 27 = .ok (.ireturn, 1) := by decide +kernel
theorem d_R_sheet_28 : decode prog_8_method_12_code 28 = .ok (.iload_n 3, 1) := by decide +kernel
theorem d_R_sheet_29 : decode prog_8_method_12_code 29 = .ok (.ifCond .ge (9), 3) := by decide +kernel
theorem d_R_sheet_32 : decode prog_8_method_12_code 32 = .ok (.aload_n 0, 1) := by decide +kernel
theorem d_R_sheet_33 : decode prog_8_method_12_code 33 = .ok (.iconst 5, 1) := by decide +kernel
theorem d_R_sheet_34 : decode prog_8_method_12_code 34 = .ok (.invokevirtual 112, 3) := by decide +kernel
theorem d_R_sheet_37 : decode prog_8_method_12_code 37 = .ok (.ireturn, 1) := by decide +kernel
theorem d_R_sheet_38 : decode prog_8_method_12_code 38 = .ok (.aload_n 0, 1) := by decide +kernel
theorem d_R_sheet_39 : decode prog_8_method_12_code 39 = .ok (.getfield 7, 3) := by decide +kernel
theorem d_R_sheet_42 : decode prog_8_method_12_code 42 = .ok (.iload_n 1, 1) := by decide +kernel
theorem d_R_sheet_43 : decode prog_8_method_12_code 43 = .ok (.iload_n 2, 1) := by decide +kernel
theorem d_R_sheet_44 : decode prog_8_method_12_code 44 = .ok (.iastore, 1) := by decide +kernel
theorem d_R_sheet_45 : decode prog_8_method_12_code 45 = .ok (.aload_n 0, 1) := by decide +kernel
theorem d_R_sheet_46 : decode prog_8_method_12_code 46 = .ok (.getfield 13, 3) := by decide +kernel
theorem d_R_sheet_49 : decode prog_8_method_12_code 49 = .ok (.iload_n 1, 1) := by decide +kernel
theorem d_R_sheet_50 : decode prog_8_method_12_code 50 = .ok (.iload_n 3, 1) := by decide +kernel
theorem d_R_sheet_51 : decode prog_8_method_12_code 51 = .ok (.iastore, 1) := by decide +kernel
theorem d_R_sheet_52 : decode prog_8_method_12_code 52 = .ok (.iconst 0, 1) := by decide +kernel
theorem d_R_sheet_53 : decode prog_8_method_12_code 53 = .ok (.istore 4, 2) := by decide +kernel
theorem d_R_sheet_55 : decode prog_8_method_12_code 55 = .ok (.iload 4, 2) := by decide +kernel
theorem d_R_sheet_57 : decode prog_8_method_12_code 57 = .ok (.iload_n 3, 1) := by decide +kernel
theorem d_R_sheet_58 : decode prog_8_method_12_code 58 = .ok (.if_icmp .ge (22), 3) := by decide +kernel
theorem d_R_sheet_61 : decode prog_8_method_12_code 61 = .ok (.aload_n 0, 1) := by decide +kernel
theorem d_R_sheet_62 : decode prog_8_method_12_code 62 = .ok (.getfield 16, 3) := by decide +kernel
theorem d_R_sheet_65 : decode prog_8_method_12_code 65 = .ok (.bipush 60, 2) := by decide +kernel
theorem d_R_sheet_67 : decode prog_8_method_12_code 67 = .ok (.iload_n 1, 1) := by decide +kernel
theorem d_R_sheet_68 : decode prog_8_method_12_code 68 = .ok (.imul, 1) := by decide +kernel
theorem d_R_sheet_69 : decode prog_8_method_12_code 69 = .ok (.iload 4, 2) := by decide +kernel
theorem d_R_sheet_71 : decode prog_8_method_12_code 71 = .ok (.iadd, 1) := by decide +kernel
theorem d_R_sheet_72 : decode prog_8_method_12_code 72 = .ok (.iconst 0, 1) := by decide +kernel
theorem d_R_sheet_73 : decode prog_8_method_12_code 73 = .ok (.iastore, 1) := by decide +kernel
theorem d_R_sheet_74 : decode prog_8_method_12_code 74 = .ok (.iinc 4 1, 3) := by decide +kernel
theorem d_R_sheet_77 : decode prog_8_method_12_code 77 = .ok (.goto (-22), 3) := by decide +kernel
theorem d_R_sheet_80 : decode prog_8_method_12_code 80 = .ok (.iload_n 3, 1) := by decide +kernel
theorem d_R_sheet_81 : decode prog_8_method_12_code 81 = .ok (.ireturn, 1) := by decide +kernel
def wp_R_sheet (a1 : Int32) (a2 : Int32) (a3 : Int32) (M : Mem) (post : Int32 → Mem → Prop) : Prop :=
  ((((pf_R_isSheet a1) = 0) → post (-2) M) ∧ (¬ ((pf_R_isSheet a1) = 0) → ((((pf_R_in (Int32.toInt64 a2) 0 (2)) = 0) → post (-2) M) ∧ (¬ ((pf_R_in (Int32.toInt64 a2) 0 (2)) = 0) → (((a3 ≤ 60) → (((0 ≤ a3) → vp_in a1 4 ∧ ∀ M7 : Mem, M7 = upm M 1 (tn a1) a2 → ∀ M9 : Mem, M9 = upm M7 2 (tn a1) a3 → (it2 (fun rec10 (i12 : Int32) (M13 : Mem) => (((a3 ≤ i12) → post a3 M13) ∧ (¬ (a3 ≤ i12) → vp_in ((60 * a1) + i12) 240 ∧ ∀ M15 : Mem, M15 = upm M13 3 (tn ((60 * a1) + i12)) 0 → rec10 (i12 + 1) M15))) 4096 0 M9)) ∧ (¬ (0 ≤ a3) → wp_R_finds 5 M (fun r18 M17 => post r18 M17)))) ∧ (¬ (a3 ≤ 60) → post (-2) M))))))
set_option maxHeartbeats 4000000 in
set_option maxRecDepth 100000 in
theorem c_R_sheet (g : GX) {a1 : Int32} {a2 : Int32} {a3 : Int32} {M : Mem} {post : Int32 → Mem → Prop} (hw : wp_R_sheet a1 a2 a3 M post) : CtI (oR g) y_R_sheet prog_8_method_12_code 5 (some .int) (rl 2) [.ref (ax g 0), .int a1, .int a2, .int a3] M post := by
  refine z_metI (oR_ok g) (by decide) rfl (fun X C hr => ?_)
  show Zj X 5 (oR g) M 0 [(0, .ref (ax g 0)), (1, .int a1), (2, .int a2), (3, .int a3)] []
  unfold wp_R_sheet at hw
  refine z_iload_n C d_R_sheet_0 rfl 1 rfl ?_
  refine z_callSi C (As := [.int a1]) (rest := []) m_R_isSheet tw_782 ⟨rfl, rfl⟩ (c_R_isSheet (oR_ok g) _ _) rfl rfl rfl d_R_sheet_1 (fun r M2 hq => ?_)
  obtain ⟨rfl, rfl⟩ := hq
  refine z_if_eq C 25 d_R_sheet_4 (by decide) (fun h2 => ?_) (fun h2 => ?_)
  · replace hw := hw.1 h2
    refine z_bipush (v := (-2)) C d_R_sheet_25 (by decide) ?_
    exact z_iret C hr hw d_R_sheet_27
  · replace hw := hw.2 h2
    refine z_iload_n C d_R_sheet_7 rfl 2 rfl ?_
    refine z_i2l C d_R_sheet_8 ?_
    refine z_lconst (v := 0) C d_R_sheet_9 (by decide) ?_
    refine z_ldc2 C d_R_sheet_10 tw_789 ?_
    refine z_callSi C (As := [.long (Int32.toInt64 a2), .long 0, .long (2)]) (rest := []) m_R_in tw_786 ⟨rfl, rfl⟩ (c_R_in (oR_ok g) _ _ _ _) rfl rfl rfl d_R_sheet_13 (fun r M2 hq => ?_)
    obtain ⟨rfl, rfl⟩ := hq
    refine z_if_eq C 25 d_R_sheet_16 (by decide) (fun h4 => ?_) (fun h4 => ?_)
    · replace hw := hw.1 h4
      refine z_bipush (v := (-2)) C d_R_sheet_25 (by decide) ?_
      exact z_iret C hr hw d_R_sheet_27
    · replace hw := hw.2 h4
      refine z_iload_n C d_R_sheet_19 rfl 3 rfl ?_
      refine z_bipush (v := 60) C d_R_sheet_20 (by decide) ?_
      refine z_ic_le C 28 d_R_sheet_22 (by decide) (fun h5 => ?_) (fun h5 => ?_)
      · replace hw := hw.1 h5
        refine z_iload_n C d_R_sheet_28 rfl 3 rfl ?_
        refine z_if_ge C 38 d_R_sheet_29 (by decide) (fun h6 => ?_) (fun h6 => ?_)
        · replace hw := hw.1 h6
          refine z_aload_n C d_R_sheet_38 rfl 0 rfl ?_
          refine gf_R_7 C d_R_sheet_39 ?_
          refine z_iload_n C d_R_sheet_42 rfl 1 rfl ?_
          refine z_iload_n C d_R_sheet_43 rfl 2 rfl ?_
          have hv8 := hw.1
          refine z_as (zar_r1) C hv8 d_R_sheet_44 (fun M7 hM7 => ?_)
          replace hw := hw.2 M7 hM7
          refine z_aload_n C d_R_sheet_45 rfl 0 rfl ?_
          refine gf_R_13 C d_R_sheet_46 ?_
          refine z_iload_n C d_R_sheet_49 rfl 1 rfl ?_
          refine z_iload_n C d_R_sheet_50 rfl 3 rfl ?_
          refine z_as (zar_r2) C hv8 d_R_sheet_51 (fun M9 hM9 => ?_)
          replace hw := hw M9 hM9
          refine z_iconst (v := 0) C d_R_sheet_52 (by decide) ?_
          refine z_istore (lv' := [(4, .int 0), (0, .ref (ax g 0)), (1, .int a1), (2, .int a2), (3, .int a3)]) C d_R_sheet_53 rfl rfl ?_
          refine z_sub [1, 2, 4, 0] rfl ?_
          refine it2_Z (Z := fun (i12 : Int32) (M13 : Mem) => Zj X 5 (oR g) M13 55 [(0, .ref (ax g 0)), (1, .int a1), (3, .int a3), (4, .int i12)] []) (fun rec10 ih11 i12 M13 hw => ?_) _ _ _ hw
          refine z_iload C d_R_sheet_55 3 rfl ?_
          refine z_iload_n C d_R_sheet_57 rfl 2 rfl ?_
          refine z_ic_ge C 80 d_R_sheet_58 (by decide) (fun h14 => ?_) (fun h14 => ?_)
          · replace hw := hw.1 h14
            refine z_iload_n C d_R_sheet_80 rfl 2 rfl ?_
            exact z_iret C hr hw d_R_sheet_81
          · replace hw := hw.2 h14
            refine z_aload_n C d_R_sheet_61 rfl 0 rfl ?_
            refine gf_R_16 C d_R_sheet_62 ?_
            refine z_bipush (v := 60) C d_R_sheet_65 (by decide) ?_
            refine z_iload_n C d_R_sheet_67 rfl 1 rfl ?_
            refine z_imul C d_R_sheet_68 ?_
            refine z_iload C d_R_sheet_69 3 rfl ?_
            refine z_iadd C d_R_sheet_71 ?_
            refine z_iconst (v := 0) C d_R_sheet_72 (by decide) ?_
            have hv16 := hw.1
            refine z_as (zar_r3) C hv16 d_R_sheet_73 (fun M15 hM15 => ?_)
            replace hw := hw.2 M15 hM15
            refine z_iinc (v := (i12 + 1)) (lv' := [(4, .int (i12 + 1)), (0, .ref (ax g 0)), (1, .int a1), (3, .int a3)]) C d_R_sheet_74 3 rfl rfl rfl rfl ?_
            refine z_goto C 55 d_R_sheet_77 (by decide) ?_
            refine z_sub [1, 2, 3, 0] rfl ?_
            exact ih11 _ _ hw
        · replace hw := hw.2 h6
          refine z_aload_n C d_R_sheet_32 rfl 0 rfl ?_
          refine z_iconst (v := 5) C d_R_sheet_33 (by decide) ?_
          refine z_callVi C (As := [.int 5]) (rest := []) m_R_finds tw_790 0 (le_R) rfl ⟨rfl, rfl⟩ (c_R_finds g hw) rfl rfl rfl d_R_sheet_34 (fun r18 M17 hw => ?_)
          exact z_iret C hr hw d_R_sheet_37
      · replace hw := hw.2 h5
        refine z_bipush (v := (-2)) C d_R_sheet_25 (by decide) ?_
        exact z_iret C hr hw d_R_sheet_27
theorem d_R_lose_0 : decode prog_8_method_13_code 0 = .ok (.iload_n 1, 1) := by decide +kernel
theorem d_R_lose_1 : decode prog_8_method_13_code 1 = .ok (.invokestatic 106, 3) := by decide +kernel
theorem d_R_lose_4 : decode prog_8_method_13_code 4 = .ok (.ifCond .ne (6), 3) := by decide +kernel
theorem d_R_lose_7 : decode prog_8_method_13_code 7 = .ok (.bipush (-2), 2) := by decide +kernel
theorem d_R_lose_9 : decode prog_8_method_13_code 9 = .ok (.ireturn, 1) := by decide +kernel
theorem d_R_lose_10 : decode prog_8_method_13_code 10 = .ok (.aload_n 0, 1) := by decide +kernel
theorem d_R_lose_11 : decode prog_8_method_13_code 11 = .ok (.getfield 7, 3) := by decide +kernel
theorem d_R_lose_14 : decode prog_8_method_13_code 14 = .ok (.iload_n 1, 1) := by decide +kernel
theorem d_R_lose_15 : decode prog_8_method_13_code 15 = .ok (.iaload, 1) := by decide +kernel
theorem d_R_lose_16 : decode prog_8_method_13_code 16 = .ok (.ifCond .ge (9), 3) := by decide +kernel
theorem d_R_lose_19 : decode prog_8_method_13_code 19 = .ok (.aload_n 0, 1) := by decide +kernel
theorem d_R_lose_20 : decode prog_8_method_13_code 20 = .ok (.iconst 1, 1) := by decide +kernel
theorem d_R_lose_21 : decode prog_8_method_13_code 21 = .ok (.invokevirtual 112, 3) := by decide +kernel
theorem d_R_lose_24 : decode prog_8_method_13_code 24 = .ok (.ireturn, 1) := by decide +kernel
theorem d_R_lose_25 : decode prog_8_method_13_code 25 = .ok (.aload_n 0, 1) := by decide +kernel
theorem d_R_lose_26 : decode prog_8_method_13_code 26 = .ok (.getfield 7, 3) := by decide +kernel
theorem d_R_lose_29 : decode prog_8_method_13_code 29 = .ok (.iload_n 1, 1) := by decide +kernel
theorem d_R_lose_30 : decode prog_8_method_13_code 30 = .ok (.iconst (-1), 1) := by decide +kernel
theorem d_R_lose_31 : decode prog_8_method_13_code 31 = .ok (.iastore, 1) := by decide +kernel
theorem d_R_lose_32 : decode prog_8_method_13_code 32 = .ok (.aload_n 0, 1) := by decide +kernel
theorem d_R_lose_33 : decode prog_8_method_13_code 33 = .ok (.getfield 13, 3) := by decide +kernel
theorem d_R_lose_36 : decode prog_8_method_13_code 36 = .ok (.iload_n 1, 1) := by decide +kernel
theorem d_R_lose_37 : decode prog_8_method_13_code 37 = .ok (.iaload, 1) := by decide +kernel
theorem d_R_lose_38 : decode prog_8_method_13_code 38 = .ok (.ireturn, 1) := by decide +kernel
def wp_R_lose (a1 : Int32) (M : Mem) (post : Int32 → Mem → Prop) : Prop :=
  ((((pf_R_isSheet a1) = 0) → post (-2) M) ∧ (¬ ((pf_R_isSheet a1) = 0) → vp_in a1 4 ∧ (((0 ≤ (M 1 (tn a1))) → ∀ M5 : Mem, M5 = upm M 1 (tn a1) (-1) → post (M5 2 (tn a1)) M5) ∧ (¬ (0 ≤ (M 1 (tn a1))) → wp_R_finds 1 M (fun r7 M6 => post r7 M6)))))
set_option maxHeartbeats 4000000 in
set_option maxRecDepth 100000 in
theorem c_R_lose (g : GX) {a1 : Int32} {M : Mem} {post : Int32 → Mem → Prop} (hw : wp_R_lose a1 M post) : CtI (oR g) y_R_lose prog_8_method_13_code 2 (some .int) (rl 2) [.ref (ax g 0), .int a1] M post := by
  refine z_metI (oR_ok g) (by decide) rfl (fun X C hr => ?_)
  show Zj X 2 (oR g) M 0 [(0, .ref (ax g 0)), (1, .int a1)] []
  unfold wp_R_lose at hw
  refine z_iload_n C d_R_lose_0 rfl 1 rfl ?_
  refine z_callSi C (As := [.int a1]) (rest := []) m_R_isSheet tw_782 ⟨rfl, rfl⟩ (c_R_isSheet (oR_ok g) _ _) rfl rfl rfl d_R_lose_1 (fun r M2 hq => ?_)
  obtain ⟨rfl, rfl⟩ := hq
  refine z_if_ne C 10 d_R_lose_4 (by decide) (fun h2 => ?_) (fun h2 => ?_)
  · replace hw := hw.2 h2
    refine z_aload_n C d_R_lose_10 rfl 0 rfl ?_
    refine gf_R_7 C d_R_lose_11 ?_
    refine z_iload_n C d_R_lose_14 rfl 1 rfl ?_
    have hv3 := hw.1
    replace hw := hw.2
    refine z_al (zar_r1) C hv3 d_R_lose_15 ?_
    refine z_if_ge C 25 d_R_lose_16 (by decide) (fun h4 => ?_) (fun h4 => ?_)
    · replace hw := hw.1 h4
      refine z_aload_n C d_R_lose_25 rfl 0 rfl ?_
      refine gf_R_7 C d_R_lose_26 ?_
      refine z_iload_n C d_R_lose_29 rfl 1 rfl ?_
      refine z_iconst (v := (-1)) C d_R_lose_30 (by decide) ?_
      refine z_as (zar_r1) C hv3 d_R_lose_31 (fun M5 hM5 => ?_)
      replace hw := hw M5 hM5
      refine z_aload_n C d_R_lose_32 rfl 0 rfl ?_
      refine gf_R_13 C d_R_lose_33 ?_
      refine z_iload_n C d_R_lose_36 rfl 1 rfl ?_
      refine z_al (zar_r2) C hv3 d_R_lose_37 ?_
      exact z_iret C hr hw d_R_lose_38
    · replace hw := hw.2 h4
      refine z_aload_n C d_R_lose_19 rfl 0 rfl ?_
      refine z_iconst (v := 1) C d_R_lose_20 (by decide) ?_
      refine z_callVi C (As := [.int 1]) (rest := []) m_R_finds tw_790 0 (le_R) rfl ⟨rfl, rfl⟩ (c_R_finds g hw) rfl rfl rfl d_R_lose_21 (fun r7 M6 hw => ?_)
      exact z_iret C hr hw d_R_lose_24
  · replace hw := hw.1 h2
    refine z_bipush (v := (-2)) C d_R_lose_7 (by decide) ?_
    exact z_iret C hr hw d_R_lose_9
theorem d_R_lay_0 : decode prog_8_method_16_code 0 = .ok (.iload_n 1, 1) := by decide +kernel
theorem d_R_lay_1 : decode prog_8_method_16_code 1 = .ok (.invokestatic 106, 3) := by decide +kernel
theorem d_R_lay_4 : decode prog_8_method_16_code 4 = .ok (.ifCond .eq (15), 3) := by decide +kernel
theorem d_R_lay_7 : decode prog_8_method_16_code 7 = .ok (.iload_n 2, 1) := by decide +kernel
theorem d_R_lay_8 : decode prog_8_method_16_code 8 = .ok (.i2l, 1) := by decide +kernel
theorem d_R_lay_9 : decode prog_8_method_16_code 9 = .ok (.lconst 0, 1) := by decide +kernel
theorem d_R_lay_10 : decode prog_8_method_16_code 10 = .ok (.ldc2_w 110, 3) := by decide +kernel
theorem d_R_lay_13 : decode prog_8_method_16_code 13 = .ok (.invokestatic 97, 3) := by decide +kernel
theorem d_R_lay_16 : decode prog_8_method_16_code 16 = .ok (.ifCond .ne (6), 3) := by decide +kernel
theorem d_R_lay_19 : decode prog_8_method_16_code 19 = .ok (.bipush (-2), 2) := by decide +kernel
theorem d_R_lay_21 : decode prog_8_method_16_code 21 = .ok (.ireturn, 1) := by decide +kernel
theorem d_R_lay_22 : decode prog_8_method_16_code 22 = .ok (.aload_n 0, 1) := by decide +kernel
theorem d_R_lay_23 : decode prog_8_method_16_code 23 = .ok (.iload_n 1, 1) := by decide +kernel
theorem d_R_lay_24 : decode prog_8_method_16_code 24 = .ok (.iload_n 2, 1) := by decide +kernel
theorem d_R_lay_25 : decode prog_8_method_16_code 25 = .ok (.iload_n 3, 1) := by decide +kernel
theorem d_R_lay_26 : decode prog_8_method_16_code 26 = .ok (.invokevirtual 116, 3) := by decide +kernel
theorem d_R_lay_29 : decode prog_8_method_16_code 29 = .ok (.istore 5, 2) := by decide +kernel
theorem d_R_lay_31 : decode prog_8_method_16_code 31 = .ok (.iload 5, 2) := by decide +kernel
theorem d_R_lay_33 : decode prog_8_method_16_code 33 = .ok (.ifCond .eq (6), 3) := by decide +kernel
theorem d_R_lay_36 : decode prog_8_method_16_code 36 = .ok (.iload 5, 2) := by decide +kernel
theorem d_R_lay_38 : decode prog_8_method_16_code 38 = .ok (.ireturn, 1) := by decide +kernel
theorem d_R_lay_39 : decode prog_8_method_16_code 39 = .ok (.aload_n 0, 1) := by decide +kernel
theorem d_R_lay_40 : decode prog_8_method_16_code 40 = .ok (.getfield 16, 3) := by decide +kernel
theorem d_R_lay_43 : decode prog_8_method_16_code 43 = .ok (.bipush 60, 2) := by decide +kernel
theorem d_R_lay_45 : decode prog_8_method_16_code 45 = .ok (.iload_n 1, 1) := by decide +kernel
theorem d_R_lay_46 : decode prog_8_method_16_code 46 = .ok (.imul, 1) := by decide +kernel
theorem d_R_lay_47 : decode prog_8_method_16_code 47 = .ok (.iload_n 3, 1) := by decide +kernel
theorem d_R_lay_48 : decode prog_8_method_16_code 48 = .ok (.iadd, 1) := by decide +kernel
theorem d_R_lay_49 : decode prog_8_method_16_code 49 = .ok (.iload_n 2, 1) := by decide +kernel
theorem d_R_lay_50 : decode prog_8_method_16_code 50 = .ok (.iload 4, 2) := by decide +kernel
theorem d_R_lay_52 : decode prog_8_method_16_code 52 = .ok (.invokestatic 120, 3) := by decide +kernel
theorem d_R_lay_55 : decode prog_8_method_16_code 55 = .ok (.iastore, 1) := by decide +kernel
theorem d_R_lay_56 : decode prog_8_method_16_code 56 = .ok (.iconst 1, 1) := by decide +kernel
theorem d_R_lay_57 : decode prog_8_method_16_code 57 = .ok (.ireturn, 1) := by decide +kernel
def wp_R_lay (a1 : Int32) (a2 : Int32) (a3 : Int32) (a4 : Int32) (M : Mem) (post : Int32 → Mem → Prop) : Prop :=
  ((((pf_R_isSheet a1) = 0) → post (-2) M) ∧ (¬ ((pf_R_isSheet a1) = 0) → ((((pf_R_in (Int32.toInt64 a2) 0 (2)) = 0) → post (-2) M) ∧ (¬ ((pf_R_in (Int32.toInt64 a2) 0 (2)) = 0) → wp_R_lacks a1 a2 a3 M (fun r6 M5 => (((r6 = 0) → vp_in ((60 * a1) + a3) 240 ∧ ∀ M9 : Mem, M9 = upm M5 3 (tn ((60 * a1) + a3)) (pf_R_cut a2 a4) → post 1 M9) ∧ (¬ (r6 = 0) → post r6 M5)))))))
set_option maxHeartbeats 4000000 in
set_option maxRecDepth 100000 in
theorem c_R_lay (g : GX) {a1 : Int32} {a2 : Int32} {a3 : Int32} {a4 : Int32} {M : Mem} {post : Int32 → Mem → Prop} (hw : wp_R_lay a1 a2 a3 a4 M post) : CtI (oR g) y_R_lay prog_8_method_16_code 6 (some .int) (rl 2) [.ref (ax g 0), .int a1, .int a2, .int a3, .int a4] M post := by
  refine z_metI (oR_ok g) (by decide) rfl (fun X C hr => ?_)
  show Zj X 6 (oR g) M 0 [(0, .ref (ax g 0)), (1, .int a1), (2, .int a2), (3, .int a3), (4, .int a4)] []
  unfold wp_R_lay at hw
  refine z_iload_n C d_R_lay_0 rfl 1 rfl ?_
  refine z_callSi C (As := [.int a1]) (rest := []) m_R_isSheet tw_782 ⟨rfl, rfl⟩ (c_R_isSheet (oR_ok g) _ _) rfl rfl rfl d_R_lay_1 (fun r M2 hq => ?_)
  obtain ⟨rfl, rfl⟩ := hq
  refine z_if_eq C 19 d_R_lay_4 (by decide) (fun h2 => ?_) (fun h2 => ?_)
  · replace hw := hw.1 h2
    refine z_bipush (v := (-2)) C d_R_lay_19 (by decide) ?_
    exact z_iret C hr hw d_R_lay_21
  · replace hw := hw.2 h2
    refine z_iload_n C d_R_lay_7 rfl 2 rfl ?_
    refine z_i2l C d_R_lay_8 ?_
    refine z_lconst (v := 0) C d_R_lay_9 (by decide) ?_
    refine z_ldc2 C d_R_lay_10 tw_789 ?_
    refine z_callSi C (As := [.long (Int32.toInt64 a2), .long 0, .long (2)]) (rest := []) m_R_in tw_786 ⟨rfl, rfl⟩ (c_R_in (oR_ok g) _ _ _ _) rfl rfl rfl d_R_lay_13 (fun r M2 hq => ?_)
    obtain ⟨rfl, rfl⟩ := hq
    refine z_if_ne C 22 d_R_lay_16 (by decide) (fun h4 => ?_) (fun h4 => ?_)
    · replace hw := hw.2 h4
      refine z_aload_n C d_R_lay_22 rfl 0 rfl ?_
      refine z_iload_n C d_R_lay_23 rfl 1 rfl ?_
      refine z_iload_n C d_R_lay_24 rfl 2 rfl ?_
      refine z_iload_n C d_R_lay_25 rfl 3 rfl ?_
      refine z_callVi C (As := [.int a1, .int a2, .int a3]) (rest := []) m_R_lacks tw_802 0 (le_R) rfl ⟨rfl, rfl⟩ (c_R_lacks g hw) rfl rfl rfl d_R_lay_26 (fun r6 M5 hw => ?_)
      refine z_istore (lv' := [(5, .int r6), (0, .ref (ax g 0)), (1, .int a1), (2, .int a2), (3, .int a3), (4, .int a4)]) C d_R_lay_29 rfl rfl ?_
      refine z_iload C d_R_lay_31 0 rfl ?_
      refine z_if_eq C 39 d_R_lay_33 (by decide) (fun h7 => ?_) (fun h7 => ?_)
      · replace hw := hw.1 h7
        refine z_aload_n C d_R_lay_39 rfl 1 rfl ?_
        refine gf_R_16 C d_R_lay_40 ?_
        refine z_bipush (v := 60) C d_R_lay_43 (by decide) ?_
        refine z_iload_n C d_R_lay_45 rfl 2 rfl ?_
        refine z_imul C d_R_lay_46 ?_
        refine z_iload_n C d_R_lay_47 rfl 4 rfl ?_
        refine z_iadd C d_R_lay_48 ?_
        refine z_iload_n C d_R_lay_49 rfl 3 rfl ?_
        refine z_iload C d_R_lay_50 5 rfl ?_
        refine z_callSi C (As := [.int a2, .int a4]) (rest := [.int ((60 * a1) + a3), .ref (ax g 3)]) m_R_cut tw_806 ⟨rfl, rfl⟩ (c_R_cut (oR_ok g) _ _ _) rfl rfl rfl d_R_lay_52 (fun r M2 hq => ?_)
        obtain ⟨rfl, rfl⟩ := hq
        have hv10 := hw.1
        refine z_as (zar_r3) C hv10 d_R_lay_55 (fun M9 hM9 => ?_)
        replace hw := hw.2 M9 hM9
        refine z_iconst (v := 1) C d_R_lay_56 (by decide) ?_
        exact z_iret C hr hw d_R_lay_57
      · replace hw := hw.2 h7
        refine z_iload C d_R_lay_36 0 rfl ?_
        exact z_iret C hr hw d_R_lay_38
    · replace hw := hw.1 h4
      refine z_bipush (v := (-2)) C d_R_lay_19 (by decide) ?_
      exact z_iret C hr hw d_R_lay_21
theorem d_R_get_0 : decode prog_8_method_17_code 0 = .ok (.iload_n 1, 1) := by decide +kernel
theorem d_R_get_1 : decode prog_8_method_17_code 1 = .ok (.invokestatic 106, 3) := by decide +kernel
theorem d_R_get_4 : decode prog_8_method_17_code 4 = .ok (.ifCond .eq (25), 3) := by decide +kernel
theorem d_R_get_7 : decode prog_8_method_17_code 7 = .ok (.iload_n 2, 1) := by decide +kernel
theorem d_R_get_8 : decode prog_8_method_17_code 8 = .ok (.i2l, 1) := by decide +kernel
theorem d_R_get_9 : decode prog_8_method_17_code 9 = .ok (.lconst 0, 1) := by decide +kernel
theorem d_R_get_10 : decode prog_8_method_17_code 10 = .ok (.ldc2_w 110, 3) := by decide +kernel
theorem d_R_get_13 : decode prog_8_method_17_code 13 = .ok (.invokestatic 97, 3) := by decide +kernel
theorem d_R_get_16 : decode prog_8_method_17_code 16 = .ok (.ifCond .eq (13), 3) := by decide +kernel
theorem d_R_get_19 : decode prog_8_method_17_code 19 = .ok (.aload_n 0, 1) := by decide +kernel
theorem d_R_get_20 : decode prog_8_method_17_code 20 = .ok (.iload_n 1, 1) := by decide +kernel
theorem d_R_get_21 : decode prog_8_method_17_code 21 = .ok (.iload_n 2, 1) := by decide +kernel
theorem d_R_get_22 : decode prog_8_method_17_code 22 = .ok (.iload_n 3, 1) := by decide +kernel
theorem d_R_get_23 : decode prog_8_method_17_code 23 = .ok (.invokevirtual 116, 3) := by decide +kernel
theorem d_R_get_26 : decode prog_8_method_17_code 26 = .ok (.ifCond .eq (6), 3) := by decide +kernel
theorem d_R_get_29 : decode prog_8_method_17_code 29 = .ok (.ldc 124, 2) := by decide +kernel
theorem d_R_get_31 : decode prog_8_method_17_code 31 = .ok (.ireturn, 1) := by decide +kernel
theorem d_R_get_32 : decode prog_8_method_17_code 32 = .ok (.aload_n 0, 1) := by decide +kernel
theorem d_R_get_33 : decode prog_8_method_17_code 33 = .ok (.getfield 16, 3) := by decide +kernel
theorem d_R_get_36 : decode prog_8_method_17_code 36 = .ok (.bipush 60, 2) := by decide +kernel
theorem d_R_get_38 : decode prog_8_method_17_code 38 = .ok (.iload_n 1, 1) := by decide +kernel
theorem d_R_get_39 : decode prog_8_method_17_code 39 = .ok (.imul, 1) := by decide +kernel
theorem d_R_get_40 : decode prog_8_method_17_code 40 = .ok (.iload_n 3, 1) := by decide +kernel
theorem d_R_get_41 : decode prog_8_method_17_code 41 = .ok (.iadd, 1) := by decide +kernel
theorem d_R_get_42 : decode prog_8_method_17_code 42 = .ok (.iaload, 1) := by decide +kernel
theorem d_R_get_43 : decode prog_8_method_17_code 43 = .ok (.ireturn, 1) := by decide +kernel
def wp_R_get (a1 : Int32) (a2 : Int32) (a3 : Int32) (M : Mem) (post : Int32 → Mem → Prop) : Prop :=
  ((((pf_R_isSheet a1) = 0) → post (-2147483648) M) ∧ (¬ ((pf_R_isSheet a1) = 0) → ((((pf_R_in (Int32.toInt64 a2) 0 (2)) = 0) → post (-2147483648) M) ∧ (¬ ((pf_R_in (Int32.toInt64 a2) 0 (2)) = 0) → wp_R_lacks a1 a2 a3 M (fun r6 M5 => (((r6 = 0) → vp_in ((60 * a1) + a3) 240 ∧ post (M5 3 (tn ((60 * a1) + a3))) M5) ∧ (¬ (r6 = 0) → post (-2147483648) M5)))))))
set_option maxHeartbeats 4000000 in
set_option maxRecDepth 100000 in
theorem c_R_get (g : GX) {a1 : Int32} {a2 : Int32} {a3 : Int32} {M : Mem} {post : Int32 → Mem → Prop} (hw : wp_R_get a1 a2 a3 M post) : CtI (oR g) y_R_get prog_8_method_17_code 4 (some .int) (rl 2) [.ref (ax g 0), .int a1, .int a2, .int a3] M post := by
  refine z_metI (oR_ok g) (by decide) rfl (fun X C hr => ?_)
  show Zj X 4 (oR g) M 0 [(0, .ref (ax g 0)), (1, .int a1), (2, .int a2), (3, .int a3)] []
  unfold wp_R_get at hw
  refine z_iload_n C d_R_get_0 rfl 1 rfl ?_
  refine z_callSi C (As := [.int a1]) (rest := []) m_R_isSheet tw_782 ⟨rfl, rfl⟩ (c_R_isSheet (oR_ok g) _ _) rfl rfl rfl d_R_get_1 (fun r M2 hq => ?_)
  obtain ⟨rfl, rfl⟩ := hq
  refine z_if_eq C 29 d_R_get_4 (by decide) (fun h2 => ?_) (fun h2 => ?_)
  · replace hw := hw.1 h2
    refine z_ldc C d_R_get_29 tw_813 ?_
    exact z_iret C hr hw d_R_get_31
  · replace hw := hw.2 h2
    refine z_iload_n C d_R_get_7 rfl 2 rfl ?_
    refine z_i2l C d_R_get_8 ?_
    refine z_lconst (v := 0) C d_R_get_9 (by decide) ?_
    refine z_ldc2 C d_R_get_10 tw_789 ?_
    refine z_callSi C (As := [.long (Int32.toInt64 a2), .long 0, .long (2)]) (rest := []) m_R_in tw_786 ⟨rfl, rfl⟩ (c_R_in (oR_ok g) _ _ _ _) rfl rfl rfl d_R_get_13 (fun r M2 hq => ?_)
    obtain ⟨rfl, rfl⟩ := hq
    refine z_if_eq C 29 d_R_get_16 (by decide) (fun h4 => ?_) (fun h4 => ?_)
    · replace hw := hw.1 h4
      refine z_ldc C d_R_get_29 tw_813 ?_
      exact z_iret C hr hw d_R_get_31
    · replace hw := hw.2 h4
      refine z_aload_n C d_R_get_19 rfl 0 rfl ?_
      refine z_iload_n C d_R_get_20 rfl 1 rfl ?_
      refine z_iload_n C d_R_get_21 rfl 2 rfl ?_
      refine z_iload_n C d_R_get_22 rfl 3 rfl ?_
      refine z_callVi C (As := [.int a1, .int a2, .int a3]) (rest := []) m_R_lacks tw_802 0 (le_R) rfl ⟨rfl, rfl⟩ (c_R_lacks g hw) rfl rfl rfl d_R_get_23 (fun r6 M5 hw => ?_)
      refine z_if_eq C 32 d_R_get_26 (by decide) (fun h7 => ?_) (fun h7 => ?_)
      · replace hw := hw.1 h7
        refine z_aload_n C d_R_get_32 rfl 0 rfl ?_
        refine gf_R_16 C d_R_get_33 ?_
        refine z_bipush (v := 60) C d_R_get_36 (by decide) ?_
        refine z_iload_n C d_R_get_38 rfl 1 rfl ?_
        refine z_imul C d_R_get_39 ?_
        refine z_iload_n C d_R_get_40 rfl 3 rfl ?_
        refine z_iadd C d_R_get_41 ?_
        have hv8 := hw.1
        replace hw := hw.2
        refine z_al (zar_r3) C hv8 d_R_get_42 ?_
        exact z_iret C hr hw d_R_get_43
      · replace hw := hw.2 h7
        refine z_ldc C d_R_get_29 tw_813 ?_
        exact z_iret C hr hw d_R_get_31
theorem d_R_copy_0 : decode prog_8_method_18_code 0 = .ok (.iload_n 1, 1) := by decide +kernel
theorem d_R_copy_1 : decode prog_8_method_18_code 1 = .ok (.invokestatic 106, 3) := by decide +kernel
theorem d_R_copy_4 : decode prog_8_method_18_code 4 = .ok (.ifCond .eq (10), 3) := by decide +kernel
theorem d_R_copy_7 : decode prog_8_method_18_code 7 = .ok (.iload_n 3, 1) := by decide +kernel
theorem d_R_copy_8 : decode prog_8_method_18_code 8 = .ok (.invokestatic 106, 3) := by decide +kernel
theorem d_R_copy_11 : decode prog_8_method_18_code 11 = .ok (.ifCond .ne (6), 3) := by decide +kernel
theorem d_R_copy_14 : decode prog_8_method_18_code 14 = .ok (.bipush (-2), 2) := by decide +kernel
theorem d_R_copy_16 : decode prog_8_method_18_code 16 = .ok (.ireturn, 1) := by decide +kernel
theorem d_R_copy_17 : decode prog_8_method_18_code 17 = .ok (.aload_n 0, 1) := by decide +kernel
theorem d_R_copy_18 : decode prog_8_method_18_code 18 = .ok (.getfield 7, 3) := by decide +kernel
theorem d_R_copy_21 : decode prog_8_method_18_code 21 = .ok (.iload_n 1, 1) := by decide +kernel
theorem d_R_copy_22 : decode prog_8_method_18_code 22 = .ok (.iaload, 1) := by decide +kernel
theorem d_R_copy_23 : decode prog_8_method_18_code 23 = .ok (.ifCond .lt (12), 3) := by decide +kernel
theorem d_R_copy_26 : decode prog_8_method_18_code 26 = .ok (.aload_n 0, 1) := by decide +kernel
theorem d_R_copy_27 : decode prog_8_method_18_code 27 = .ok (.getfield 7, 3) := by decide +kernel
theorem d_R_copy_30 : decode prog_8_method_18_code 30 = .ok (.iload_n 3, 1) := by decide +kernel
theorem d_R_copy_31 : decode prog_8_method_18_code 31 = .ok (.iaload, 1) := by decide +kernel
theorem d_R_copy_32 : decode prog_8_method_18_code 32 = .ok (.ifCond .ge (9), 3) := by decide +kernel
theorem d_R_copy_35 : decode prog_8_method_18_code 35 = .ok (.aload_n 0, 1) := by decide +kernel
theorem d_R_copy_36 : decode prog_8_method_18_code 36 = .ok (.iconst 1, 1) := by decide +kernel
theorem d_R_copy_37 : decode prog_8_method_18_code 37 = .ok (.invokevirtual 112, 3) := by decide +kernel
theorem d_R_copy_40 : decode prog_8_method_18_code 40 = .ok (.ireturn, 1) := by decide +kernel
theorem d_R_copy_41 : decode prog_8_method_18_code 41 = .ok (.aload_n 0, 1) := by decide +kernel
theorem d_R_copy_42 : decode prog_8_method_18_code 42 = .ok (.getfield 7, 3) := by decide +kernel
theorem d_R_copy_45 : decode prog_8_method_18_code 45 = .ok (.iload_n 1, 1) := by decide +kernel
theorem d_R_copy_46 : decode prog_8_method_18_code 46 = .ok (.iaload, 1) := by decide +kernel
theorem d_R_copy_47 : decode prog_8_method_18_code 47 = .ok (.aload_n 0, 1) := by decide +kernel
theorem d_R_copy_48 : decode prog_8_method_18_code 48 = .ok (.getfield 7, 3) := by decide +kernel
theorem d_R_copy_51 : decode prog_8_method_18_code 51 = .ok (.iload_n 3, 1) := by decide +kernel
theorem d_R_copy_52 : decode prog_8_method_18_code 52 = .ok (.iaload, 1) := by decide +kernel
theorem d_R_copy_53 : decode prog_8_method_18_code 53 = .ok (.if_icmp .eq (9), 3) := by decide +kernel
theorem d_R_copy_56 : decode prog_8_method_18_code 56 = .ok (.aload_n 0, 1) := by decide +kernel
theorem d_R_copy_57 : decode prog_8_method_18_code 57 = .ok (.iconst 4, 1) := by decide +kernel
theorem d_R_copy_58 : decode prog_8_method_18_code 58 = .ok (.invokevirtual 112, 3) := by decide +kernel
theorem d_R_copy_61 : decode prog_8_method_18_code 61 = .ok (.ireturn, 1) := by decide +kernel
theorem d_R_copy_62 : decode prog_8_method_18_code 62 = .ok (.iload_n 2, 1) := by decide +kernel
theorem d_R_copy_63 : decode prog_8_method_18_code 63 = .ok (.ifCond .lt (48), 3) := by decide +kernel
theorem d_R_copy_66 : decode prog_8_method_18_code 66 = .ok (.iload 4, 2) := by decide +kernel
theorem d_R_copy_68 : decode prog_8_method_18_code 68 = .ok (.ifCond .lt (43), 3) := by decide +kernel
theorem d_R_copy_71 : decode prog_8_method_18_code 71 = .ok (.iload 5, 2) := by decide +kernel
theorem d_R_copy_73 : decode prog_8_method_18_code 73 = .ok (.ifCond .lt (38), 3) := by decide +kernel
theorem d_R_copy_76 : decode prog_8_method_18_code 76 = .ok (.iload_n 2, 1) := by decide +kernel
theorem d_R_copy_77 : decode prog_8_method_18_code 77 = .ok (.i2l, 1) := by decide +kernel
theorem d_R_copy_78 : decode prog_8_method_18_code 78 = .ok (.iload 5, 2) := by decide +kernel
theorem d_R_copy_80 : decode prog_8_method_18_code 80 = .ok (.i2l, 1) := by decide +kernel
theorem d_R_copy_81 : decode prog_8_method_18_code 81 = .ok (.ladd, 1) := by decide +kernel
theorem d_R_copy_82 : decode prog_8_method_18_code 82 = .ok (.aload_n 0, 1) := by decide +kernel
theorem d_R_copy_83 : decode prog_8_method_18_code 83 = .ok (.getfield 13, 3) := by decide +kernel
theorem d_R_copy_86 : decode prog_8_method_18_code 86 = .ok (.iload_n 1, 1) := by decide +kernel
theorem d_R_copy_87 : decode prog_8_method_18_code 87 = .ok (.iaload, 1) := by decide +kernel
theorem d_R_copy_88 : decode prog_8_method_18_code 88 = .ok (.i2l, 1) := by decide +kernel
theorem d_R_copy_89 : decode prog_8_method_18_code 89 = .ok (.lcmp, 1) := by decide +kernel
theorem d_R_copy_90 : decode prog_8_method_18_code 90 = .ok (.ifCond .gt (21), 3) := by decide +kernel
theorem d_R_copy_93 : decode prog_8_method_18_code 93 = .ok (.iload 4, 2) := by decide +kernel
theorem d_R_copy_95 : decode prog_8_method_18_code 95 = .ok (.i2l, 1) := by decide +kernel
theorem d_R_copy_96 : decode prog_8_method_18_code 96 = .ok (.iload 5, 2) := by decide +kernel
theorem d_R_copy_98 : decode prog_8_method_18_code 98 = .ok (.i2l, 1) := by decide +kernel
theorem d_R_copy_99 : decode prog_8_method_18_code 99 = .ok (.ladd, 1) := by decide +kernel
theorem d_R_copy_100 : decode prog_8_method_18_code 100 = .ok (.aload_n 0, 1) := by decide +kernel
theorem d_R_copy_101 : decode prog_8_method_18_code 101 = .ok (.getfield 13, 3) := by decide +kernel
theorem d_R_copy_104 : decode prog_8_method_18_code 104 = .ok (.iload_n 3, 1) := by decide +kernel
theorem d_R_copy_105 : decode prog_8_method_18_code 105 = .ok (.iaload, 1) := by decide +kernel
theorem d_R_copy_106 : decode prog_8_method_18_code 106 = .ok (.i2l, 1) := by decide +kernel
theorem d_R_copy_107 : decode prog_8_method_18_code 107 = .ok (.lcmp, 1) := by decide +kernel
theorem d_R_copy_108 : decode prog_8_method_18_code 108 = .ok (.ifCond .le (9), 3) := by decide +kernel
theorem d_R_copy_111 : decode prog_8_method_18_code 111 = .ok (.aload_n 0, 1) := by decide +kernel
theorem d_R_copy_112 : decode prog_8_method_18_code 112 = .ok (.iconst 2, 1) := by decide +kernel
theorem d_R_copy_113 : decode prog_8_method_18_code 113 = .ok (.invokevirtual 112, 3) := by decide +kernel
theorem d_R_copy_116 : decode prog_8_method_18_code 116 = .ok (.ireturn, 1) := by decide +kernel
theorem d_R_copy_117 : decode prog_8_method_18_code 117 = .ok (.iconst 0, 1) := by decide +kernel
theorem d_R_copy_118 : decode prog_8_method_18_code 118 = .ok (.istore 6, 2) := by decide +kernel
theorem d_R_copy_120 : decode prog_8_method_18_code 120 = .ok (.iload 6, 2) := by decide +kernel
theorem d_R_copy_122 : decode prog_8_method_18_code 122 = .ok (.iload 5, 2) := by decide +kernel
theorem d_R_copy_124 : decode prog_8_method_18_code 124 = .ok (.if_icmp .ge (30), 3) := by decide +kernel
theorem d_R_copy_127 : decode prog_8_method_18_code 127 = .ok (.aload_n 0, 1) := by decide +kernel
theorem d_R_copy_128 : decode prog_8_method_18_code 128 = .ok (.getfield 19, 3) := by decide +kernel
theorem d_R_copy_131 : decode prog_8_method_18_code 131 = .ok (.iload 6, 2) := by decide +kernel
theorem d_R_copy_133 : decode prog_8_method_18_code 133 = .ok (.aload_n 0, 1) := by decide +kernel
theorem d_R_copy_134 : decode prog_8_method_18_code 134 = .ok (.getfield 16, 3) := by decide +kernel
theorem d_R_copy_137 : decode prog_8_method_18_code 137 = .ok (.bipush 60, 2) := by decide +kernel
theorem d_R_copy_139 : decode prog_8_method_18_code 139 = .ok (.iload_n 1, 1) := by decide +kernel
theorem d_R_copy_140 : decode prog_8_method_18_code 140 = .ok (.imul, 1) := by decide +kernel
theorem d_R_copy_141 : decode prog_8_method_18_code 141 = .ok (.iload_n 2, 1) := by decide +kernel
theorem d_R_copy_142 : decode prog_8_method_18_code 142 = .ok (.iadd, 1) := by decide +kernel
theorem d_R_copy_143 : decode prog_8_method_18_code 143 = .ok (.iload 6, 2) := by decide +kernel
theorem d_R_copy_145 : decode prog_8_method_18_code 145 = .ok (.iadd, 1) := by decide +kernel
theorem d_R_copy_146 : decode prog_8_method_18_code 146 = .ok (.iaload, 1) := by decide +kernel
theorem d_R_copy_147 : decode prog_8_method_18_code 147 = .ok (.iastore, 1) := by decide +kernel
theorem d_R_copy_148 : decode prog_8_method_18_code 148 = .ok (.iinc 6 1, 3) := by decide +kernel
theorem d_R_copy_151 : decode prog_8_method_18_code 151 = .ok (.goto (-31), 3) := by decide +kernel
theorem d_R_copy_154 : decode prog_8_method_18_code 154 = .ok (.iconst 0, 1) := by decide +kernel
theorem d_R_copy_155 : decode prog_8_method_18_code 155 = .ok (.istore 6, 2) := by decide +kernel
theorem d_R_copy_157 : decode prog_8_method_18_code 157 = .ok (.iload 6, 2) := by decide +kernel
theorem d_R_copy_159 : decode prog_8_method_18_code 159 = .ok (.iload 5, 2) := by decide +kernel
theorem d_R_copy_161 : decode prog_8_method_18_code 161 = .ok (.if_icmp .ge (31), 3) := by decide +kernel
theorem d_R_copy_164 : decode prog_8_method_18_code 164 = .ok (.aload_n 0, 1) := by decide +kernel
theorem d_R_copy_165 : decode prog_8_method_18_code 165 = .ok (.getfield 16, 3) := by decide +kernel
theorem d_R_copy_168 : decode prog_8_method_18_code 168 = .ok (.bipush 60, 2) := by decide +kernel
theorem d_R_copy_170 : decode prog_8_method_18_code 170 = .ok (.iload_n 3, 1) := by decide +kernel
theorem d_R_copy_171 : decode prog_8_method_18_code 171 = .ok (.imul, 1) := by decide +kernel
theorem d_R_copy_172 : decode prog_8_method_18_code 172 = .ok (.iload 4, 2) := by decide +kernel
theorem d_R_copy_174 : decode prog_8_method_18_code 174 = .ok (.iadd, 1) := by decide +kernel
theorem d_R_copy_175 : decode prog_8_method_18_code 175 = .ok (.iload 6, 2) := by decide +kernel
theorem d_R_copy_177 : decode prog_8_method_18_code 177 = .ok (.iadd, 1) := by decide +kernel
theorem d_R_copy_178 : decode prog_8_method_18_code 178 = .ok (.aload_n 0, 1) := by decide +kernel
theorem d_R_copy_179 : decode prog_8_method_18_code 179 = .ok (.getfield 19, 3) := by decide +kernel
theorem d_R_copy_182 : decode prog_8_method_18_code 182 = .ok (.iload 6, 2) := by decide +kernel
theorem d_R_copy_184 : decode prog_8_method_18_code 184 = .ok (.iaload, 1) := by decide +kernel
theorem d_R_copy_185 : decode prog_8_method_18_code 185 = .ok (.iastore, 1) := by decide +kernel
theorem d_R_copy_186 : decode prog_8_method_18_code 186 = .ok (.iinc 6 1, 3) := by decide +kernel
theorem d_R_copy_189 : decode prog_8_method_18_code 189 = .ok (.goto (-32), 3) := by decide +kernel
theorem d_R_copy_192 : decode prog_8_method_18_code 192 = .ok (.iconst 1, 1) := by decide +kernel
theorem d_R_copy_193 : decode prog_8_method_18_code 193 = .ok (.ireturn, 1) := by decide +kernel
def wp_R_copy (a1 : Int32) (a2 : Int32) (a3 : Int32) (a4 : Int32) (a5 : Int32) (M : Mem) (post : Int32 → Mem → Prop) : Prop :=
  ((((pf_R_isSheet a1) = 0) → post (-2) M) ∧ (¬ ((pf_R_isSheet a1) = 0) → ((((pf_R_isSheet a3) = 0) → post (-2) M) ∧ (¬ ((pf_R_isSheet a3) = 0) → vp_in a1 4 ∧ ((((M 1 (tn a1)) < 0) → wp_R_finds 1 M (fun r8 M7 => post r8 M7)) ∧ (¬ ((M 1 (tn a1)) < 0) → vp_in a3 4 ∧ (((0 ≤ (M 1 (tn a3))) → ((((M 1 (tn a1)) = (M 1 (tn a3))) → (((a2 < 0) → wp_R_finds 2 M (fun r14 M13 => post r14 M13)) ∧ (¬ (a2 < 0) → (((a4 < 0) → wp_R_finds 2 M (fun r17 M16 => post r17 M16)) ∧ (¬ (a4 < 0) → (((a5 < 0) → wp_R_finds 2 M (fun r20 M19 => post r20 M19)) ∧ (¬ (a5 < 0) → (((0 < (lg_cmp ((Int32.toInt64 a2) + (Int32.toInt64 a5)) (Int32.toInt64 (M 2 (tn a1))))) → wp_R_finds 2 M (fun r23 M22 => post r23 M22)) ∧ (¬ (0 < (lg_cmp ((Int32.toInt64 a2) + (Int32.toInt64 a5)) (Int32.toInt64 (M 2 (tn a1))))) → ((((lg_cmp ((Int32.toInt64 a4) + (Int32.toInt64 a5)) (Int32.toInt64 (M 2 (tn a3)))) ≤ 0) → (it2 (fun rec25 (i27 : Int32) (M28 : Mem) => (((a5 ≤ i27) → (it2 (fun rec30 (i32 : Int32) (M33 : Mem) => (((a5 ≤ i32) → post 1 M33) ∧ (¬ (a5 ≤ i32) → vp_in i32 60 ∧ vp_in (((60 * a3) + a4) + i32) 240 ∧ ∀ M36 : Mem, M36 = upm M33 3 (tn (((60 * a3) + a4) + i32)) (M33 4 (tn i32)) → rec30 (i32 + 1) M36))) 4096 0 M28)) ∧ (¬ (a5 ≤ i27) → vp_in (((60 * a1) + a2) + i27) 240 ∧ vp_in i27 60 ∧ ∀ M39 : Mem, M39 = upm M28 4 (tn i27) (M28 3 (tn (((60 * a1) + a2) + i27))) → rec25 (i27 + 1) M39))) 4096 0 M)) ∧ (¬ ((lg_cmp ((Int32.toInt64 a4) + (Int32.toInt64 a5)) (Int32.toInt64 (M 2 (tn a3)))) ≤ 0) → wp_R_finds 2 M (fun r42 M41 => post r42 M41)))))))))))) ∧ (¬ ((M 1 (tn a1)) = (M 1 (tn a3))) → wp_R_finds 4 M (fun r44 M43 => post r44 M43)))) ∧ (¬ (0 ≤ (M 1 (tn a3))) → wp_R_finds 1 M (fun r46 M45 => post r46 M45)))))))))
set_option maxHeartbeats 4000000 in
set_option maxRecDepth 100000 in
theorem c_R_copy (g : GX) {a1 : Int32} {a2 : Int32} {a3 : Int32} {a4 : Int32} {a5 : Int32} {M : Mem} {post : Int32 → Mem → Prop} (hw : wp_R_copy a1 a2 a3 a4 a5 M post) : CtI (oR g) y_R_copy prog_8_method_18_code 7 (some .int) (rl 2) [.ref (ax g 0), .int a1, .int a2, .int a3, .int a4, .int a5] M post := by
  refine z_metI (oR_ok g) (by decide) rfl (fun X C hr => ?_)
  show Zj X 7 (oR g) M 0 [(0, .ref (ax g 0)), (1, .int a1), (2, .int a2), (3, .int a3), (4, .int a4), (5, .int a5)] []
  unfold wp_R_copy at hw
  refine z_iload_n C d_R_copy_0 rfl 1 rfl ?_
  refine z_callSi C (As := [.int a1]) (rest := []) m_R_isSheet tw_782 ⟨rfl, rfl⟩ (c_R_isSheet (oR_ok g) _ _) rfl rfl rfl d_R_copy_1 (fun r M2 hq => ?_)
  obtain ⟨rfl, rfl⟩ := hq
  refine z_if_eq C 14 d_R_copy_4 (by decide) (fun h2 => ?_) (fun h2 => ?_)
  · replace hw := hw.1 h2
    refine z_bipush (v := (-2)) C d_R_copy_14 (by decide) ?_
    exact z_iret C hr hw d_R_copy_16
  · replace hw := hw.2 h2
    refine z_iload_n C d_R_copy_7 rfl 3 rfl ?_
    refine z_callSi C (As := [.int a3]) (rest := []) m_R_isSheet tw_782 ⟨rfl, rfl⟩ (c_R_isSheet (oR_ok g) _ _) rfl rfl rfl d_R_copy_8 (fun r M2 hq => ?_)
    obtain ⟨rfl, rfl⟩ := hq
    refine z_if_ne C 17 d_R_copy_11 (by decide) (fun h4 => ?_) (fun h4 => ?_)
    · replace hw := hw.2 h4
      refine z_aload_n C d_R_copy_17 rfl 0 rfl ?_
      refine gf_R_7 C d_R_copy_18 ?_
      refine z_iload_n C d_R_copy_21 rfl 1 rfl ?_
      have hv5 := hw.1
      replace hw := hw.2
      refine z_al (zar_r1) C hv5 d_R_copy_22 ?_
      refine z_if_lt C 35 d_R_copy_23 (by decide) (fun h6 => ?_) (fun h6 => ?_)
      · replace hw := hw.1 h6
        refine z_aload_n C d_R_copy_35 rfl 0 rfl ?_
        refine z_iconst (v := 1) C d_R_copy_36 (by decide) ?_
        refine z_callVi C (As := [.int 1]) (rest := []) m_R_finds tw_790 0 (le_R) rfl ⟨rfl, rfl⟩ (c_R_finds g hw) rfl rfl rfl d_R_copy_37 (fun r8 M7 hw => ?_)
        exact z_iret C hr hw d_R_copy_40
      · replace hw := hw.2 h6
        refine z_aload_n C d_R_copy_26 rfl 0 rfl ?_
        refine gf_R_7 C d_R_copy_27 ?_
        refine z_iload_n C d_R_copy_30 rfl 3 rfl ?_
        have hv9 := hw.1
        replace hw := hw.2
        refine z_al (zar_r1) C hv9 d_R_copy_31 ?_
        refine z_if_ge C 41 d_R_copy_32 (by decide) (fun h10 => ?_) (fun h10 => ?_)
        · replace hw := hw.1 h10
          refine z_aload_n C d_R_copy_41 rfl 0 rfl ?_
          refine gf_R_7 C d_R_copy_42 ?_
          refine z_iload_n C d_R_copy_45 rfl 1 rfl ?_
          refine z_al (zar_r1) C hv5 d_R_copy_46 ?_
          refine z_aload_n C d_R_copy_47 rfl 0 rfl ?_
          refine gf_R_7 C d_R_copy_48 ?_
          refine z_iload_n C d_R_copy_51 rfl 3 rfl ?_
          refine z_al (zar_r1) C hv9 d_R_copy_52 ?_
          refine z_ic_eq C 62 d_R_copy_53 (by decide) (fun h11 => ?_) (fun h11 => ?_)
          · replace hw := hw.1 h11
            refine z_iload_n C d_R_copy_62 rfl 2 rfl ?_
            refine z_if_lt C 111 d_R_copy_63 (by decide) (fun h12 => ?_) (fun h12 => ?_)
            · replace hw := hw.1 h12
              refine z_aload_n C d_R_copy_111 rfl 0 rfl ?_
              refine z_iconst (v := 2) C d_R_copy_112 (by decide) ?_
              refine z_callVi C (As := [.int 2]) (rest := []) m_R_finds tw_790 0 (le_R) rfl ⟨rfl, rfl⟩ (c_R_finds g hw) rfl rfl rfl d_R_copy_113 (fun r14 M13 hw => ?_)
              exact z_iret C hr hw d_R_copy_116
            · replace hw := hw.2 h12
              refine z_iload C d_R_copy_66 4 rfl ?_
              refine z_if_lt C 111 d_R_copy_68 (by decide) (fun h15 => ?_) (fun h15 => ?_)
              · replace hw := hw.1 h15
                refine z_aload_n C d_R_copy_111 rfl 0 rfl ?_
                refine z_iconst (v := 2) C d_R_copy_112 (by decide) ?_
                refine z_callVi C (As := [.int 2]) (rest := []) m_R_finds tw_790 0 (le_R) rfl ⟨rfl, rfl⟩ (c_R_finds g hw) rfl rfl rfl d_R_copy_113 (fun r17 M16 hw => ?_)
                exact z_iret C hr hw d_R_copy_116
              · replace hw := hw.2 h15
                refine z_iload C d_R_copy_71 5 rfl ?_
                refine z_if_lt C 111 d_R_copy_73 (by decide) (fun h18 => ?_) (fun h18 => ?_)
                · replace hw := hw.1 h18
                  refine z_aload_n C d_R_copy_111 rfl 0 rfl ?_
                  refine z_iconst (v := 2) C d_R_copy_112 (by decide) ?_
                  refine z_callVi C (As := [.int 2]) (rest := []) m_R_finds tw_790 0 (le_R) rfl ⟨rfl, rfl⟩ (c_R_finds g hw) rfl rfl rfl d_R_copy_113 (fun r20 M19 hw => ?_)
                  exact z_iret C hr hw d_R_copy_116
                · replace hw := hw.2 h18
                  refine z_iload_n C d_R_copy_76 rfl 2 rfl ?_
                  refine z_i2l C d_R_copy_77 ?_
                  refine z_iload C d_R_copy_78 5 rfl ?_
                  refine z_i2l C d_R_copy_80 ?_
                  refine z_ladd C d_R_copy_81 ?_
                  refine z_aload_n C d_R_copy_82 rfl 0 rfl ?_
                  refine gf_R_13 C d_R_copy_83 ?_
                  refine z_iload_n C d_R_copy_86 rfl 1 rfl ?_
                  refine z_al (zar_r2) C hv5 d_R_copy_87 ?_
                  refine z_i2l C d_R_copy_88 ?_
                  refine z_lcmp C d_R_copy_89 ?_
                  refine z_if_gt C 111 d_R_copy_90 (by decide) (fun h21 => ?_) (fun h21 => ?_)
                  · replace hw := hw.1 h21
                    refine z_aload_n C d_R_copy_111 rfl 0 rfl ?_
                    refine z_iconst (v := 2) C d_R_copy_112 (by decide) ?_
                    refine z_callVi C (As := [.int 2]) (rest := []) m_R_finds tw_790 0 (le_R) rfl ⟨rfl, rfl⟩ (c_R_finds g hw) rfl rfl rfl d_R_copy_113 (fun r23 M22 hw => ?_)
                    exact z_iret C hr hw d_R_copy_116
                  · replace hw := hw.2 h21
                    refine z_iload C d_R_copy_93 4 rfl ?_
                    refine z_i2l C d_R_copy_95 ?_
                    refine z_iload C d_R_copy_96 5 rfl ?_
                    refine z_i2l C d_R_copy_98 ?_
                    refine z_ladd C d_R_copy_99 ?_
                    refine z_aload_n C d_R_copy_100 rfl 0 rfl ?_
                    refine gf_R_13 C d_R_copy_101 ?_
                    refine z_iload_n C d_R_copy_104 rfl 3 rfl ?_
                    refine z_al (zar_r2) C hv9 d_R_copy_105 ?_
                    refine z_i2l C d_R_copy_106 ?_
                    refine z_lcmp C d_R_copy_107 ?_
                    refine z_if_le C 117 d_R_copy_108 (by decide) (fun h24 => ?_) (fun h24 => ?_)
                    · replace hw := hw.1 h24
                      refine z_iconst (v := 0) C d_R_copy_117 (by decide) ?_
                      refine z_istore (lv' := [(6, .int 0), (0, .ref (ax g 0)), (1, .int a1), (2, .int a2), (3, .int a3), (4, .int a4), (5, .int a5)]) C d_R_copy_118 rfl rfl ?_
                      refine z_sub [1, 2, 3, 4, 5, 6, 0] rfl ?_
                      refine it2_Z (Z := fun (i27 : Int32) (M28 : Mem) => Zj X 7 (oR g) M28 120 [(0, .ref (ax g 0)), (1, .int a1), (2, .int a2), (3, .int a3), (4, .int a4), (5, .int a5), (6, .int i27)] []) (fun rec25 ih26 i27 M28 hw => ?_) _ _ _ hw
                      refine z_iload C d_R_copy_120 6 rfl ?_
                      refine z_iload C d_R_copy_122 5 rfl ?_
                      refine z_ic_ge C 154 d_R_copy_124 (by decide) (fun h29 => ?_) (fun h29 => ?_)
                      · replace hw := hw.1 h29
                        refine z_iconst (v := 0) C d_R_copy_154 (by decide) ?_
                        refine z_istore (lv' := [(6, .int 0), (0, .ref (ax g 0)), (1, .int a1), (2, .int a2), (3, .int a3), (4, .int a4), (5, .int a5)]) C d_R_copy_155 rfl rfl ?_
                        refine z_sub [1, 4, 5, 6, 0] rfl ?_
                        refine it2_Z (Z := fun (i32 : Int32) (M33 : Mem) => Zj X 7 (oR g) M33 157 [(0, .ref (ax g 0)), (3, .int a3), (4, .int a4), (5, .int a5), (6, .int i32)] []) (fun rec30 ih31 i32 M33 hw => ?_) _ _ _ hw
                        refine z_iload C d_R_copy_157 4 rfl ?_
                        refine z_iload C d_R_copy_159 3 rfl ?_
                        refine z_ic_ge C 192 d_R_copy_161 (by decide) (fun h34 => ?_) (fun h34 => ?_)
                        · replace hw := hw.1 h34
                          refine z_iconst (v := 1) C d_R_copy_192 (by decide) ?_
                          exact z_iret C hr hw d_R_copy_193
                        · replace hw := hw.2 h34
                          refine z_aload_n C d_R_copy_164 rfl 0 rfl ?_
                          refine gf_R_16 C d_R_copy_165 ?_
                          refine z_bipush (v := 60) C d_R_copy_168 (by decide) ?_
                          refine z_iload_n C d_R_copy_170 rfl 1 rfl ?_
                          refine z_imul C d_R_copy_171 ?_
                          refine z_iload C d_R_copy_172 2 rfl ?_
                          refine z_iadd C d_R_copy_174 ?_
                          refine z_iload C d_R_copy_175 4 rfl ?_
                          refine z_iadd C d_R_copy_177 ?_
                          refine z_aload_n C d_R_copy_178 rfl 0 rfl ?_
                          refine gf_R_19 C d_R_copy_179 ?_
                          refine z_iload C d_R_copy_182 4 rfl ?_
                          have hv35 := hw.1
                          replace hw := hw.2
                          refine z_al (zar_r4) C hv35 d_R_copy_184 ?_
                          have hv37 := hw.1
                          refine z_as (zar_r3) C hv37 d_R_copy_185 (fun M36 hM36 => ?_)
                          replace hw := hw.2 M36 hM36
                          refine z_iinc (v := (i32 + 1)) (lv' := [(6, .int (i32 + 1)), (0, .ref (ax g 0)), (3, .int a3), (4, .int a4), (5, .int a5)]) C d_R_copy_186 4 rfl rfl rfl rfl ?_
                          refine z_goto C 157 d_R_copy_189 (by decide) ?_
                          refine z_sub [1, 2, 3, 4, 0] rfl ?_
                          exact ih31 _ _ hw
                      · replace hw := hw.2 h29
                        refine z_aload_n C d_R_copy_127 rfl 0 rfl ?_
                        refine gf_R_19 C d_R_copy_128 ?_
                        refine z_iload C d_R_copy_131 6 rfl ?_
                        refine z_aload_n C d_R_copy_133 rfl 0 rfl ?_
                        refine gf_R_16 C d_R_copy_134 ?_
                        refine z_bipush (v := 60) C d_R_copy_137 (by decide) ?_
                        refine z_iload_n C d_R_copy_139 rfl 1 rfl ?_
                        refine z_imul C d_R_copy_140 ?_
                        refine z_iload_n C d_R_copy_141 rfl 2 rfl ?_
                        refine z_iadd C d_R_copy_142 ?_
                        refine z_iload C d_R_copy_143 6 rfl ?_
                        refine z_iadd C d_R_copy_145 ?_
                        have hv38 := hw.1
                        replace hw := hw.2
                        refine z_al (zar_r3) C hv38 d_R_copy_146 ?_
                        have hv40 := hw.1
                        refine z_as (zar_r4) C hv40 d_R_copy_147 (fun M39 hM39 => ?_)
                        replace hw := hw.2 M39 hM39
                        refine z_iinc (v := (i27 + 1)) (lv' := [(6, .int (i27 + 1)), (0, .ref (ax g 0)), (1, .int a1), (2, .int a2), (3, .int a3), (4, .int a4), (5, .int a5)]) C d_R_copy_148 6 rfl rfl rfl rfl ?_
                        refine z_goto C 120 d_R_copy_151 (by decide) ?_
                        refine z_sub [1, 2, 3, 4, 5, 6, 0] rfl ?_
                        exact ih26 _ _ hw
                    · replace hw := hw.2 h24
                      refine z_aload_n C d_R_copy_111 rfl 0 rfl ?_
                      refine z_iconst (v := 2) C d_R_copy_112 (by decide) ?_
                      refine z_callVi C (As := [.int 2]) (rest := []) m_R_finds tw_790 0 (le_R) rfl ⟨rfl, rfl⟩ (c_R_finds g hw) rfl rfl rfl d_R_copy_113 (fun r42 M41 hw => ?_)
                      exact z_iret C hr hw d_R_copy_116
          · replace hw := hw.2 h11
            refine z_aload_n C d_R_copy_56 rfl 0 rfl ?_
            refine z_iconst (v := 4) C d_R_copy_57 (by decide) ?_
            refine z_callVi C (As := [.int 4]) (rest := []) m_R_finds tw_790 0 (le_R) rfl ⟨rfl, rfl⟩ (c_R_finds g hw) rfl rfl rfl d_R_copy_58 (fun r44 M43 hw => ?_)
            exact z_iret C hr hw d_R_copy_61
        · replace hw := hw.2 h10
          refine z_aload_n C d_R_copy_35 rfl 0 rfl ?_
          refine z_iconst (v := 1) C d_R_copy_36 (by decide) ?_
          refine z_callVi C (As := [.int 1]) (rest := []) m_R_finds tw_790 0 (le_R) rfl ⟨rfl, rfl⟩ (c_R_finds g hw) rfl rfl rfl d_R_copy_37 (fun r46 M45 hw => ?_)
          exact z_iret C hr hw d_R_copy_40
    · replace hw := hw.1 h4
      refine z_bipush (v := (-2)) C d_R_copy_14 (by decide) ?_
      exact z_iret C hr hw d_R_copy_16
