theorem d_R_beginOf_0 : decode prog_8_method_71_code 0 = .ok (.aload_n 0, 1) := by decide +kernel
theorem d_R_beginOf_1 : decode prog_8_method_71_code 1 = .ok (.getfield 34, 3) := by decide +kernel
theorem d_R_beginOf_4 : decode prog_8_method_71_code 4 = .ok (.iconst 3, 1) := by decide +kernel
theorem d_R_beginOf_5 : decode prog_8_method_71_code 5 = .ok (.iload_n 1, 1) := by decide +kernel
theorem d_R_beginOf_6 : decode prog_8_method_71_code 6 = .ok (.imul, 1) := by decide +kernel
theorem d_R_beginOf_7 : decode prog_8_method_71_code 7 = .ok (.iaload, 1) := by decide +kernel
theorem d_R_beginOf_8 : decode prog_8_method_71_code 8 = .ok (.istore_n 3, 1) := by decide +kernel
theorem d_R_beginOf_9 : decode prog_8_method_71_code 9 = .ok (.iconst (-1), 1) := by decide +kernel
theorem d_R_beginOf_10 : decode prog_8_method_71_code 10 = .ok (.istore 4, 2) := by decide +kernel
theorem d_R_beginOf_12 : decode prog_8_method_71_code 12 = .ok (.iconst (-1), 1) := by decide +kernel
theorem d_R_beginOf_13 : decode prog_8_method_71_code 13 = .ok (.istore 5, 2) := by decide +kernel
theorem d_R_beginOf_15 : decode prog_8_method_71_code 15 = .ok (.iconst 0, 1) := by decide +kernel
theorem d_R_beginOf_16 : decode prog_8_method_71_code 16 = .ok (.istore 6, 2) := by decide +kernel
theorem d_R_beginOf_18 : decode prog_8_method_71_code 18 = .ok (.iload 6, 2) := by decide +kernel
theorem d_R_beginOf_20 : decode prog_8_method_71_code 20 = .ok (.bipush 12, 2) := by decide +kernel
theorem d_R_beginOf_22 : decode prog_8_method_71_code 22 = .ok (.if_icmp .ge (54), 3) := by decide +kernel
theorem d_R_beginOf_25 : decode prog_8_method_71_code 25 = .ok (.aload_n 0, 1) := by decide +kernel
theorem d_R_beginOf_26 : decode prog_8_method_71_code 26 = .ok (.getfield 34, 3) := by decide +kernel
theorem d_R_beginOf_29 : decode prog_8_method_71_code 29 = .ok (.iconst 3, 1) := by decide +kernel
theorem d_R_beginOf_30 : decode prog_8_method_71_code 30 = .ok (.iload_n 1, 1) := by decide +kernel
theorem d_R_beginOf_31 : decode prog_8_method_71_code 31 = .ok (.imul, 1) := by decide +kernel
theorem d_R_beginOf_32 : decode prog_8_method_71_code 32 = .ok (.iload 6, 2) := by decide +kernel
theorem d_R_beginOf_34 : decode prog_8_method_71_code 34 = .ok (.iastore, 1) := by decide +kernel
theorem d_R_beginOf_35 : decode prog_8_method_71_code 35 = .ok (.aload_n 0, 1) := by decide +kernel
theorem d_R_beginOf_36 : decode prog_8_method_71_code 36 = .ok (.invokevirtual 225, 3) := by decide +kernel
theorem d_R_beginOf_39 : decode prog_8_method_71_code 39 = .ok (.aload_n 0, 1) := by decide +kernel
theorem d_R_beginOf_40 : decode prog_8_method_71_code 40 = .ok (.invokevirtual 258, 3) := by decide +kernel
theorem d_R_beginOf_43 : decode prog_8_method_71_code 43 = .ok (.istore 7, 2) := by decide +kernel
theorem d_R_beginOf_45 : decode prog_8_method_71_code 45 = .ok (.iload 7, 2) := by decide +kernel
theorem d_R_beginOf_47 : decode prog_8_method_71_code 47 = .ok (.iload 5, 2) := by decide +kernel
theorem d_R_beginOf_49 : decode prog_8_method_71_code 49 = .ok (.if_icmp .le (8), 3) := by decide +kernel
theorem d_R_beginOf_52 : decode prog_8_method_71_code 52 = .ok (.iload 6, 2) := by decide +kernel
theorem d_R_beginOf_54 : decode prog_8_method_71_code 54 = .ok (.goto (5), 3) := by decide +kernel
theorem d_R_beginOf_57 : decode prog_8_method_71_code 57 = .ok (.iload 4, 2) := by decide +kernel
theorem d_R_beginOf_59 : decode prog_8_method_71_code 59 = .ok (.istore 4, 2) := by decide +kernel
theorem d_R_beginOf_61 : decode prog_8_method_71_code 61 = .ok (.iload 7, 2) := by decide +kernel
theorem d_R_beginOf_63 : decode prog_8_method_71_code 63 = .ok (.iload 5, 2) := by decide +kernel
theorem d_R_beginOf_65 : decode prog_8_method_71_code 65 = .ok (.invokestatic 252, 3) := by decide +kernel
theorem d_R_beginOf_68 : decode prog_8_method_71_code 68 = .ok (.istore 5, 2) := by decide +kernel
theorem d_R_beginOf_70 : decode prog_8_method_71_code 70 = .ok (.iinc 6 1, 3) := by decide +kernel
theorem d_R_beginOf_73 : decode prog_8_method_71_code 73 = .ok (.goto (-55), 3) := by decide +kernel
theorem d_R_beginOf_76 : decode prog_8_method_71_code 76 = .ok (.aload_n 0, 1) := by decide +kernel
theorem d_R_beginOf_77 : decode prog_8_method_71_code 77 = .ok (.getfield 34, 3) := by decide +kernel
theorem d_R_beginOf_80 : decode prog_8_method_71_code 80 = .ok (.iconst 3, 1) := by decide +kernel
theorem d_R_beginOf_81 : decode prog_8_method_71_code 81 = .ok (.iload_n 1, 1) := by decide +kernel
theorem d_R_beginOf_82 : decode prog_8_method_71_code 82 = .ok (.imul, 1) := by decide +kernel
theorem d_R_beginOf_83 : decode prog_8_method_71_code 83 = .ok (.iload_n 3, 1) := by decide +kernel
theorem d_R_beginOf_84 : decode prog_8_method_71_code 84 = .ok (.iastore, 1) := by decide +kernel
theorem d_R_beginOf_85 : decode prog_8_method_71_code 85 = .ok (.iload_n 2, 1) := by decide +kernel
theorem d_R_beginOf_86 : decode prog_8_method_71_code 86 = .ok (.ifCond .ne (8), 3) := by decide +kernel
theorem d_R_beginOf_89 : decode prog_8_method_71_code 89 = .ok (.iload 4, 2) := by decide +kernel
theorem d_R_beginOf_91 : decode prog_8_method_71_code 91 = .ok (.goto (5), 3) := by decide +kernel
theorem d_R_beginOf_94 : decode prog_8_method_71_code 94 = .ok (.iload 5, 2) := by decide +kernel
theorem d_R_beginOf_96 : decode prog_8_method_71_code 96 = .ok (.ireturn, 1) := by decide +kernel
def wp_R_beginOf (a1 : Int32) (a2 : Int32) (M : Mem) (post : Int32 → Mem → Prop) : Prop :=
  vp_in (3 * a1) 12 ∧ ∀ x2 : Int32, x2 = (M 9 (tn (3 * a1))) → (it4 (fun rec3 (i5 : Int32) (i6 : Int32) (i7 : Int32) (M8 : Mem) => (((12 ≤ i7) → ∀ M10 : Mem, M10 = upm M8 9 (tn (3 * a1)) x2 → ∀ u12 : Int32, u12 = (if a2 = 0 then i5 else i6) → post u12 M10) ∧ (¬ (12 ≤ i7) → ∀ M14 : Mem, M14 = upm M8 9 (tn (3 * a1)) i7 → wp_R_lives M14 (fun M15 => wp_R_manyOver M15 (fun r17 => ∀ u19 : Int32, u19 = (if r17 ≤ i6 then i5 else i7) → ∀ x21 : Int32, x21 = (pf_R_greater r17 i6) → rec3 u19 x21 (i7 + 1) M15))))) 4096 (-1) (-1) 0 M)
set_option maxHeartbeats 4000000 in
set_option maxRecDepth 100000 in
theorem c_R_beginOf (g : GX) {a1 : Int32} {a2 : Int32} {M : Mem} {post : Int32 → Mem → Prop} (hw : wp_R_beginOf a1 a2 M post) : CtI (oR g) y_R_beginOf prog_8_method_71_code 8 (some .int) (rl 5) [.ref (ax g 0), .int a1, .int a2] M post := by
  refine z_metI (oR_ok g) (by decide) rfl (fun X C hr => ?_)
  show Zj X 8 (oR g) M 0 [(0, .ref (ax g 0)), (1, .int a1), (2, .int a2)] []
  unfold wp_R_beginOf at hw
  refine z_aload_n C d_R_beginOf_0 rfl 0 rfl ?_
  refine gf_R_34 C d_R_beginOf_1 ?_
  refine z_iconst (v := 3) C d_R_beginOf_4 (by decide) ?_
  refine z_iload_n C d_R_beginOf_5 rfl 1 rfl ?_
  refine z_imul C d_R_beginOf_6 ?_
  have hv1 := hw.1
  replace hw := hw.2
  refine z_al (zar_r9) C hv1 d_R_beginOf_7 ?_
  obtain ⟨x2, hx2⟩ : ∃ z : Int32, z = (M 9 (tn (3 * a1))) := ⟨_, rfl⟩
  rw [← hx2]
  replace hw := hw x2 hx2
  refine z_istore_n (lv' := [(3, .int x2), (0, .ref (ax g 0)), (1, .int a1), (2, .int a2)]) C d_R_beginOf_8 rfl rfl rfl ?_
  refine z_iconst (v := (-1)) C d_R_beginOf_9 (by decide) ?_
  refine z_istore (lv' := [(4, .int (-1)), (3, .int x2), (0, .ref (ax g 0)), (1, .int a1), (2, .int a2)]) C d_R_beginOf_10 rfl rfl ?_
  refine z_iconst (v := (-1)) C d_R_beginOf_12 (by decide) ?_
  refine z_istore (lv' := [(5, .int (-1)), (4, .int (-1)), (3, .int x2), (0, .ref (ax g 0)), (1, .int a1), (2, .int a2)]) C d_R_beginOf_13 rfl rfl ?_
  refine z_iconst (v := 0) C d_R_beginOf_15 (by decide) ?_
  refine z_istore (lv' := [(6, .int 0), (5, .int (-1)), (4, .int (-1)), (3, .int x2), (0, .ref (ax g 0)), (1, .int a1), (2, .int a2)]) C d_R_beginOf_16 rfl rfl ?_
  refine z_sub [4, 5, 6, 3, 2, 1, 0] rfl ?_
  refine it4_Z (Z := fun (i5 : Int32) (i6 : Int32) (i7 : Int32) (M8 : Mem) => Zj X 8 (oR g) M8 18 [(0, .ref (ax g 0)), (1, .int a1), (2, .int a2), (3, .int x2), (4, .int i5), (5, .int i6), (6, .int i7)] []) (fun rec3 ih4 i5 i6 i7 M8 hw => ?_) _ _ _ _ _ hw
  refine z_iload C d_R_beginOf_18 6 rfl ?_
  refine z_bipush (v := 12) C d_R_beginOf_20 (by decide) ?_
  refine z_ic_ge C 76 d_R_beginOf_22 (by decide) (fun h9 => ?_) (fun h9 => ?_)
  · replace hw := hw.1 h9
    refine z_aload_n C d_R_beginOf_76 rfl 0 rfl ?_
    refine gf_R_34 C d_R_beginOf_77 ?_
    refine z_iconst (v := 3) C d_R_beginOf_80 (by decide) ?_
    refine z_iload_n C d_R_beginOf_81 rfl 1 rfl ?_
    refine z_imul C d_R_beginOf_82 ?_
    refine z_iload_n C d_R_beginOf_83 rfl 3 rfl ?_
    refine z_as (zar_r9) C hv1 d_R_beginOf_84 (fun M10 hM10 => ?_)
    replace hw := hw M10 hM10
    refine z_iload_n C d_R_beginOf_85 rfl 2 rfl ?_
    have hj13 : ∀ u12 : Int32, u12 = (if a2 = 0 then i5 else i6) → Zj X 8 (oR g) M10 96 [] [.int u12] := by
      intro u12 hu12
      replace hw := hw u12 hu12
      exact z_iret C hr hw d_R_beginOf_96
    refine z_if_ne C 94 d_R_beginOf_86 (by decide) (fun h11 => ?_) (fun h11 => ?_)
    · refine z_iload C d_R_beginOf_94 5 rfl ?_
      refine z_sub [] rfl ?_
      exact hj13 _ ((if_neg h11)).symm
    · refine z_iload C d_R_beginOf_89 4 rfl ?_
      refine z_goto C 96 d_R_beginOf_91 (by decide) ?_
      refine z_sub [] rfl ?_
      exact hj13 _ ((if_pos h11)).symm
  · replace hw := hw.2 h9
    refine z_aload_n C d_R_beginOf_25 rfl 0 rfl ?_
    refine gf_R_34 C d_R_beginOf_26 ?_
    refine z_iconst (v := 3) C d_R_beginOf_29 (by decide) ?_
    refine z_iload_n C d_R_beginOf_30 rfl 1 rfl ?_
    refine z_imul C d_R_beginOf_31 ?_
    refine z_iload C d_R_beginOf_32 6 rfl ?_
    refine z_as (zar_r9) C hv1 d_R_beginOf_34 (fun M14 hM14 => ?_)
    replace hw := hw M14 hM14
    refine z_aload_n C d_R_beginOf_35 rfl 0 rfl ?_
    refine z_callVv C (As := []) (rest := []) m_R_lives tw_935 0 (le_R) rfl ⟨rfl, rfl⟩ (c_R_lives g hw) rfl rfl rfl d_R_beginOf_36 (fun M15 hw => ?_)
    refine z_aload_n C d_R_beginOf_39 rfl 0 rfl ?_
    refine z_callVi C (As := []) (rest := []) m_R_manyOver tw_1043 0 (le_R) rfl ⟨rfl, rfl⟩ (c_R_manyOver g hw) rfl rfl rfl d_R_beginOf_40 (fun r17 M2 hq => ?_)
    obtain ⟨rfl, hw⟩ := hq
    refine z_istore (lv' := [(7, .int r17), (0, .ref (ax g 0)), (1, .int a1), (2, .int a2), (3, .int x2), (4, .int i5), (5, .int i6), (6, .int i7)]) C d_R_beginOf_43 rfl rfl ?_
    refine z_iload C d_R_beginOf_45 0 rfl ?_
    refine z_iload C d_R_beginOf_47 6 rfl ?_
    have hj22 : ∀ u19 : Int32, u19 = (if r17 ≤ i6 then i5 else i7) → Zj X 8 (oR g) M15 59 [(0, .ref (ax g 0)), (1, .int a1), (2, .int a2), (3, .int x2), (5, .int i6), (6, .int i7), (7, .int r17)] [.int u19] := by
      intro u19 hu19
      replace hw := hw u19 hu19
      refine z_istore (lv' := [(4, .int u19), (0, .ref (ax g 0)), (1, .int a1), (2, .int a2), (3, .int x2), (5, .int i6), (6, .int i7), (7, .int r17)]) C d_R_beginOf_59 rfl rfl ?_
      refine z_iload C d_R_beginOf_61 7 rfl ?_
      refine z_iload C d_R_beginOf_63 5 rfl ?_
      refine z_callSi C (As := [.int r17, .int i6]) (rest := []) m_R_greater tw_1032 ⟨rfl, rfl⟩ (c_R_greater (oR_ok g) _ _ _) rfl rfl rfl d_R_beginOf_65 (fun r M2 hq => ?_)
      obtain ⟨rfl, rfl⟩ := hq
      obtain ⟨x21, hx21⟩ : ∃ z : Int32, z = (pf_R_greater r17 i6) := ⟨_, rfl⟩
      rw [← hx21]
      replace hw := hw x21 hx21
      refine z_istore (lv' := [(5, .int x21), (4, .int u19), (0, .ref (ax g 0)), (1, .int a1), (2, .int a2), (3, .int x2), (6, .int i7), (7, .int r17)]) C d_R_beginOf_68 rfl rfl ?_
      refine z_iinc (v := (i7 + 1)) (lv' := [(6, .int (i7 + 1)), (5, .int x21), (4, .int u19), (0, .ref (ax g 0)), (1, .int a1), (2, .int a2), (3, .int x2), (7, .int r17)]) C d_R_beginOf_70 6 rfl rfl rfl rfl ?_
      refine z_goto C 18 d_R_beginOf_73 (by decide) ?_
      refine z_sub [3, 4, 5, 6, 2, 1, 0] rfl ?_
      exact ih4 _ _ _ _ hw
    refine z_ic_le C 57 d_R_beginOf_49 (by decide) (fun h18 => ?_) (fun h18 => ?_)
    · refine z_iload C d_R_beginOf_57 5 rfl ?_
      refine z_sub [1, 2, 3, 4, 6, 7, 0] rfl ?_
      exact hj22 _ ((if_pos h18)).symm
    · refine z_iload C d_R_beginOf_52 7 rfl ?_
      refine z_goto C 59 d_R_beginOf_54 (by decide) ?_
      refine z_sub [1, 2, 3, 4, 6, 7, 0] rfl ?_
      exact hj22 _ ((if_neg h18)).symm
theorem d_R_hedgeBy_0 : decode prog_8_method_73_code 0 = .ok (.iconst (-1), 1) := by decide +kernel
theorem d_R_hedgeBy_1 : decode prog_8_method_73_code 1 = .ok (.istore_n 2, 1) := by decide +kernel
theorem d_R_hedgeBy_2 : decode prog_8_method_73_code 2 = .ok (.ldc_w 264, 3) := by decide +kernel
theorem d_R_hedgeBy_5 : decode prog_8_method_73_code 5 = .ok (.istore_n 3, 1) := by decide +kernel
theorem d_R_hedgeBy_6 : decode prog_8_method_73_code 6 = .ok (.iconst 0, 1) := by decide +kernel
theorem d_R_hedgeBy_7 : decode prog_8_method_73_code 7 = .ok (.istore 4, 2) := by decide +kernel
theorem d_R_hedgeBy_9 : decode prog_8_method_73_code 9 = .ok (.iload 4, 2) := by decide +kernel
theorem d_R_hedgeBy_11 : decode prog_8_method_73_code 11 = .ok (.bipush 12, 2) := by decide +kernel
theorem d_R_hedgeBy_13 : decode prog_8_method_73_code 13 = .ok (.if_icmp .ge (68), 3) := by decide +kernel
theorem d_R_hedgeBy_16 : decode prog_8_method_73_code 16 = .ok (.aload_n 0, 1) := by decide +kernel
theorem d_R_hedgeBy_17 : decode prog_8_method_73_code 17 = .ok (.getfield 28, 3) := by decide +kernel
theorem d_R_hedgeBy_20 : decode prog_8_method_73_code 20 = .ok (.iload 4, 2) := by decide +kernel
theorem d_R_hedgeBy_22 : decode prog_8_method_73_code 22 = .ok (.iaload, 1) := by decide +kernel
theorem d_R_hedgeBy_23 : decode prog_8_method_73_code 23 = .ok (.istore 5, 2) := by decide +kernel
theorem d_R_hedgeBy_25 : decode prog_8_method_73_code 25 = .ok (.aload_n 0, 1) := by decide +kernel
theorem d_R_hedgeBy_26 : decode prog_8_method_73_code 26 = .ok (.getfield 28, 3) := by decide +kernel
theorem d_R_hedgeBy_29 : decode prog_8_method_73_code 29 = .ok (.iload 4, 2) := by decide +kernel
theorem d_R_hedgeBy_31 : decode prog_8_method_73_code 31 = .ok (.iconst 1, 1) := by decide +kernel
theorem d_R_hedgeBy_32 : decode prog_8_method_73_code 32 = .ok (.iastore, 1) := by decide +kernel
theorem d_R_hedgeBy_33 : decode prog_8_method_73_code 33 = .ok (.aload_n 0, 1) := by decide +kernel
theorem d_R_hedgeBy_34 : decode prog_8_method_73_code 34 = .ok (.invokevirtual 225, 3) := by decide +kernel
theorem d_R_hedgeBy_37 : decode prog_8_method_73_code 37 = .ok (.aload_n 0, 1) := by decide +kernel
theorem d_R_hedgeBy_38 : decode prog_8_method_73_code 38 = .ok (.bipush 23, 2) := by decide +kernel
theorem d_R_hedgeBy_40 : decode prog_8_method_73_code 40 = .ok (.iconst 0, 1) := by decide +kernel
theorem d_R_hedgeBy_41 : decode prog_8_method_73_code 41 = .ok (.invokevirtual 237, 3) := by decide +kernel
theorem d_R_hedgeBy_44 : decode prog_8_method_73_code 44 = .ok (.istore 6, 2) := by decide +kernel
theorem d_R_hedgeBy_46 : decode prog_8_method_73_code 46 = .ok (.iload 6, 2) := by decide +kernel
theorem d_R_hedgeBy_48 : decode prog_8_method_73_code 48 = .ok (.iload_n 3, 1) := by decide +kernel
theorem d_R_hedgeBy_49 : decode prog_8_method_73_code 49 = .ok (.if_icmp .ge (8), 3) := by decide +kernel
theorem d_R_hedgeBy_52 : decode prog_8_method_73_code 52 = .ok (.iload 4, 2) := by decide +kernel
theorem d_R_hedgeBy_54 : decode prog_8_method_73_code 54 = .ok (.goto (4), 3) := by decide +kernel
theorem d_R_hedgeBy_57 : decode prog_8_method_73_code 57 = .ok (.iload_n 2, 1) := by decide +kernel
theorem d_R_hedgeBy_58 : decode prog_8_method_73_code 58 = .ok (.istore_n 2, 1) := by decide +kernel
theorem d_R_hedgeBy_59 : decode prog_8_method_73_code 59 = .ok (.iload 6, 2) := by decide +kernel
theorem d_R_hedgeBy_61 : decode prog_8_method_73_code 61 = .ok (.iload_n 3, 1) := by decide +kernel
theorem d_R_hedgeBy_62 : decode prog_8_method_73_code 62 = .ok (.invokestatic 205, 3) := by decide +kernel
theorem d_R_hedgeBy_65 : decode prog_8_method_73_code 65 = .ok (.istore_n 3, 1) := by decide +kernel
theorem d_R_hedgeBy_66 : decode prog_8_method_73_code 66 = .ok (.aload_n 0, 1) := by decide +kernel
theorem d_R_hedgeBy_67 : decode prog_8_method_73_code 67 = .ok (.getfield 28, 3) := by decide +kernel
theorem d_R_hedgeBy_70 : decode prog_8_method_73_code 70 = .ok (.iload 4, 2) := by decide +kernel
theorem d_R_hedgeBy_72 : decode prog_8_method_73_code 72 = .ok (.iload 5, 2) := by decide +kernel
theorem d_R_hedgeBy_74 : decode prog_8_method_73_code 74 = .ok (.iastore, 1) := by decide +kernel
theorem d_R_hedgeBy_75 : decode prog_8_method_73_code 75 = .ok (.iinc 4 1, 3) := by decide +kernel
theorem d_R_hedgeBy_78 : decode prog_8_method_73_code 78 = .ok (.goto (-69), 3) := by decide +kernel
theorem d_R_hedgeBy_81 : decode prog_8_method_73_code 81 = .ok (.iload_n 1, 1) := by decide +kernel
theorem d_R_hedgeBy_82 : decode prog_8_method_73_code 82 = .ok (.ifCond .ne (7), 3) := by decide +kernel
theorem d_R_hedgeBy_85 : decode prog_8_method_73_code 85 = .ok (.iload_n 2, 1) := by decide +kernel
theorem d_R_hedgeBy_86 : decode prog_8_method_73_code 86 = .ok (.goto (4), 3) := by decide +kernel
theorem d_R_hedgeBy_89 : decode prog_8_method_73_code 89 = .ok (.iload_n 3, 1) := by decide +kernel
theorem d_R_hedgeBy_90 : decode prog_8_method_73_code 90 = .ok (.ireturn, 1) := by decide +kernel
def wp_R_hedgeBy (a1 : Int32) (M : Mem) (post : Int32 → Mem → Prop) : Prop :=
  (it4 (fun rec1 (i3 : Int32) (i4 : Int32) (i5 : Int32) (M6 : Mem) => (((12 ≤ i5) → ∀ u9 : Int32, u9 = (if a1 = 0 then i3 else i4) → post u9 M6) ∧ (¬ (12 ≤ i5) → vp_in i5 12 ∧ ∀ M12 : Mem, M12 = upm M6 7 (tn i5) 1 → wp_R_lives M12 (fun M13 => wp_R_snowBy 23 0 M13 (fun r15 => ∀ u17 : Int32, u17 = (if i4 ≤ r15 then i3 else i5) → ∀ x19 : Int32, x19 = (pf_R_lesser r15 i4) → ∀ M20 : Mem, M20 = upm M13 7 (tn i5) (M6 7 (tn i5)) → rec1 u17 x19 (i5 + 1) M20))))) 4096 (-1) (999999) 0 M)
set_option maxHeartbeats 4000000 in
set_option maxRecDepth 100000 in
theorem c_R_hedgeBy (g : GX) {a1 : Int32} {M : Mem} {post : Int32 → Mem → Prop} (hw : wp_R_hedgeBy a1 M post) : CtI (oR g) y_R_hedgeBy prog_8_method_73_code 7 (some .int) (rl 5) [.ref (ax g 0), .int a1] M post := by
  refine z_metI (oR_ok g) (by decide) rfl (fun X C hr => ?_)
  show Zj X 7 (oR g) M 0 [(0, .ref (ax g 0)), (1, .int a1)] []
  unfold wp_R_hedgeBy at hw
  refine z_iconst (v := (-1)) C d_R_hedgeBy_0 (by decide) ?_
  refine z_istore_n (lv' := [(2, .int (-1)), (0, .ref (ax g 0)), (1, .int a1)]) C d_R_hedgeBy_1 rfl rfl rfl ?_
  refine z_ldcw C d_R_hedgeBy_2 tw_1055 ?_
  refine z_istore_n (lv' := [(3, .int (999999)), (2, .int (-1)), (0, .ref (ax g 0)), (1, .int a1)]) C d_R_hedgeBy_5 rfl rfl rfl ?_
  refine z_iconst (v := 0) C d_R_hedgeBy_6 (by decide) ?_
  refine z_istore (lv' := [(4, .int 0), (3, .int (999999)), (2, .int (-1)), (0, .ref (ax g 0)), (1, .int a1)]) C d_R_hedgeBy_7 rfl rfl ?_
  refine z_sub [3, 4, 2, 1, 0] rfl ?_
  refine it4_Z (Z := fun (i3 : Int32) (i4 : Int32) (i5 : Int32) (M6 : Mem) => Zj X 7 (oR g) M6 9 [(0, .ref (ax g 0)), (1, .int a1), (2, .int i3), (3, .int i4), (4, .int i5)] []) (fun rec1 ih2 i3 i4 i5 M6 hw => ?_) _ _ _ _ _ hw
  refine z_iload C d_R_hedgeBy_9 4 rfl ?_
  refine z_bipush (v := 12) C d_R_hedgeBy_11 (by decide) ?_
  refine z_ic_ge C 81 d_R_hedgeBy_13 (by decide) (fun h7 => ?_) (fun h7 => ?_)
  · replace hw := hw.1 h7
    refine z_iload_n C d_R_hedgeBy_81 rfl 1 rfl ?_
    have hj10 : ∀ u9 : Int32, u9 = (if a1 = 0 then i3 else i4) → Zj X 7 (oR g) M6 90 [] [.int u9] := by
      intro u9 hu9
      replace hw := hw u9 hu9
      exact z_iret C hr hw d_R_hedgeBy_90
    refine z_if_ne C 89 d_R_hedgeBy_82 (by decide) (fun h8 => ?_) (fun h8 => ?_)
    · refine z_iload_n C d_R_hedgeBy_89 rfl 3 rfl ?_
      refine z_sub [] rfl ?_
      exact hj10 _ ((if_neg h8)).symm
    · refine z_iload_n C d_R_hedgeBy_85 rfl 2 rfl ?_
      refine z_goto C 90 d_R_hedgeBy_86 (by decide) ?_
      refine z_sub [] rfl ?_
      exact hj10 _ ((if_pos h8)).symm
  · replace hw := hw.2 h7
    refine z_aload_n C d_R_hedgeBy_16 rfl 0 rfl ?_
    refine gf_R_28 C d_R_hedgeBy_17 ?_
    refine z_iload C d_R_hedgeBy_20 4 rfl ?_
    have hv11 := hw.1
    replace hw := hw.2
    refine z_al (zar_r7) C hv11 d_R_hedgeBy_22 ?_
    refine z_istore (lv' := [(5, .int (M6 7 (tn i5))), (0, .ref (ax g 0)), (1, .int a1), (2, .int i3), (3, .int i4), (4, .int i5)]) C d_R_hedgeBy_23 rfl rfl ?_
    refine z_aload_n C d_R_hedgeBy_25 rfl 1 rfl ?_
    refine gf_R_28 C d_R_hedgeBy_26 ?_
    refine z_iload C d_R_hedgeBy_29 5 rfl ?_
    refine z_iconst (v := 1) C d_R_hedgeBy_31 (by decide) ?_
    refine z_as (zar_r7) C hv11 d_R_hedgeBy_32 (fun M12 hM12 => ?_)
    replace hw := hw M12 hM12
    refine z_aload_n C d_R_hedgeBy_33 rfl 1 rfl ?_
    refine z_callVv C (As := []) (rest := []) m_R_lives tw_935 0 (le_R) rfl ⟨rfl, rfl⟩ (c_R_lives g hw) rfl rfl rfl d_R_hedgeBy_34 (fun M13 hw => ?_)
    refine z_aload_n C d_R_hedgeBy_37 rfl 1 rfl ?_
    refine z_bipush (v := 23) C d_R_hedgeBy_38 (by decide) ?_
    refine z_iconst (v := 0) C d_R_hedgeBy_40 (by decide) ?_
    refine z_callVi C (As := [.int 23, .int 0]) (rest := []) m_R_snowBy tw_988 0 (le_R) rfl ⟨rfl, rfl⟩ (c_R_snowBy g hw) rfl rfl rfl d_R_hedgeBy_41 (fun r15 M2 hq => ?_)
    obtain ⟨rfl, hw⟩ := hq
    refine z_istore (lv' := [(6, .int r15), (5, .int (M6 7 (tn i5))), (0, .ref (ax g 0)), (1, .int a1), (2, .int i3), (3, .int i4), (4, .int i5)]) C d_R_hedgeBy_44 rfl rfl ?_
    refine z_iload C d_R_hedgeBy_46 0 rfl ?_
    refine z_iload_n C d_R_hedgeBy_48 rfl 5 rfl ?_
    have hj21 : ∀ u17 : Int32, u17 = (if i4 ≤ r15 then i3 else i5) → Zj X 7 (oR g) M13 58 [(0, .ref (ax g 0)), (1, .int a1), (3, .int i4), (4, .int i5), (5, .int (M6 7 (tn i5))), (6, .int r15)] [.int u17] := by
      intro u17 hu17
      replace hw := hw u17 hu17
      refine z_istore_n (lv' := [(2, .int u17), (0, .ref (ax g 0)), (1, .int a1), (3, .int i4), (4, .int i5), (5, .int (M6 7 (tn i5))), (6, .int r15)]) C d_R_hedgeBy_58 rfl rfl rfl ?_
      refine z_iload C d_R_hedgeBy_59 6 rfl ?_
      refine z_iload_n C d_R_hedgeBy_61 rfl 3 rfl ?_
      refine z_callSi C (As := [.int r15, .int i4]) (rest := []) m_R_lesser tw_954 ⟨rfl, rfl⟩ (c_R_lesser (oR_ok g) _ _ _) rfl rfl rfl d_R_hedgeBy_62 (fun r M2 hq => ?_)
      obtain ⟨rfl, rfl⟩ := hq
      obtain ⟨x19, hx19⟩ : ∃ z : Int32, z = (pf_R_lesser r15 i4) := ⟨_, rfl⟩
      rw [← hx19]
      replace hw := hw x19 hx19
      refine z_istore_n (lv' := [(3, .int x19), (2, .int u17), (0, .ref (ax g 0)), (1, .int a1), (4, .int i5), (5, .int (M6 7 (tn i5))), (6, .int r15)]) C d_R_hedgeBy_65 rfl rfl rfl ?_
      refine z_aload_n C d_R_hedgeBy_66 rfl 2 rfl ?_
      refine gf_R_28 C d_R_hedgeBy_67 ?_
      refine z_iload C d_R_hedgeBy_70 4 rfl ?_
      refine z_iload C d_R_hedgeBy_72 5 rfl ?_
      refine z_as (zar_r7) C hv11 d_R_hedgeBy_74 (fun M20 hM20 => ?_)
      replace hw := hw M20 hM20
      refine z_iinc (v := (i5 + 1)) (lv' := [(4, .int (i5 + 1)), (3, .int x19), (2, .int u17), (0, .ref (ax g 0)), (1, .int a1), (5, .int (M6 7 (tn i5))), (6, .int r15)]) C d_R_hedgeBy_75 4 rfl rfl rfl rfl ?_
      refine z_goto C 9 d_R_hedgeBy_78 (by decide) ?_
      refine z_sub [3, 4, 2, 1, 0] rfl ?_
      exact ih2 _ _ _ _ hw
    refine z_ic_ge C 57 d_R_hedgeBy_49 (by decide) (fun h16 => ?_) (fun h16 => ?_)
    · refine z_iload_n C d_R_hedgeBy_57 rfl 4 rfl ?_
      refine z_sub [2, 3, 5, 6, 1, 0] rfl ?_
      exact hj21 _ ((if_pos h16)).symm
    · refine z_iload C d_R_hedgeBy_52 6 rfl ?_
      refine z_goto C 58 d_R_hedgeBy_54 (by decide) ?_
      refine z_sub [2, 3, 5, 6, 1, 0] rfl ?_
      exact hj21 _ ((if_neg h16)).symm
theorem d_R_startOf_0 : decode prog_8_method_75_code 0 = .ok (.aload_n 0, 1) := by decide +kernel
theorem d_R_startOf_1 : decode prog_8_method_75_code 1 = .ok (.getfield 37, 3) := by decide +kernel
theorem d_R_startOf_4 : decode prog_8_method_75_code 4 = .ok (.iload_n 1, 1) := by decide +kernel
theorem d_R_startOf_5 : decode prog_8_method_75_code 5 = .ok (.iaload, 1) := by decide +kernel
theorem d_R_startOf_6 : decode prog_8_method_75_code 6 = .ok (.istore_n 3, 1) := by decide +kernel
theorem d_R_startOf_7 : decode prog_8_method_75_code 7 = .ok (.iconst (-1), 1) := by decide +kernel
theorem d_R_startOf_8 : decode prog_8_method_75_code 8 = .ok (.istore 4, 2) := by decide +kernel
theorem d_R_startOf_10 : decode prog_8_method_75_code 10 = .ok (.bipush 99, 2) := by decide +kernel
theorem d_R_startOf_12 : decode prog_8_method_75_code 12 = .ok (.istore 5, 2) := by decide +kernel
theorem d_R_startOf_14 : decode prog_8_method_75_code 14 = .ok (.iconst 0, 1) := by decide +kernel
theorem d_R_startOf_15 : decode prog_8_method_75_code 15 = .ok (.istore 6, 2) := by decide +kernel
theorem d_R_startOf_17 : decode prog_8_method_75_code 17 = .ok (.iload 6, 2) := by decide +kernel
theorem d_R_startOf_19 : decode prog_8_method_75_code 19 = .ok (.bipush 24, 2) := by decide +kernel
theorem d_R_startOf_21 : decode prog_8_method_75_code 21 = .ok (.if_icmp .ge (81), 3) := by decide +kernel
theorem d_R_startOf_24 : decode prog_8_method_75_code 24 = .ok (.aload_n 0, 1) := by decide +kernel
theorem d_R_startOf_25 : decode prog_8_method_75_code 25 = .ok (.getfield 37, 3) := by decide +kernel
theorem d_R_startOf_28 : decode prog_8_method_75_code 28 = .ok (.iload_n 1, 1) := by decide +kernel
theorem d_R_startOf_29 : decode prog_8_method_75_code 29 = .ok (.iload 6, 2) := by decide +kernel
theorem d_R_startOf_31 : decode prog_8_method_75_code 31 = .ok (.iastore, 1) := by decide +kernel
theorem d_R_startOf_32 : decode prog_8_method_75_code 32 = .ok (.aload_n 0, 1) := by decide +kernel
theorem d_R_startOf_33 : decode prog_8_method_75_code 33 = .ok (.invokevirtual 225, 3) := by decide +kernel
theorem d_R_startOf_36 : decode prog_8_method_75_code 36 = .ok (.aload_n 0, 1) := by decide +kernel
theorem d_R_startOf_37 : decode prog_8_method_75_code 37 = .ok (.getfield 64, 3) := by decide +kernel
theorem d_R_startOf_40 : decode prog_8_method_75_code 40 = .ok (.iload_n 1, 1) := by decide +kernel
theorem d_R_startOf_41 : decode prog_8_method_75_code 41 = .ok (.iaload, 1) := by decide +kernel
theorem d_R_startOf_42 : decode prog_8_method_75_code 42 = .ok (.iconst (-1), 1) := by decide +kernel
theorem d_R_startOf_43 : decode prog_8_method_75_code 43 = .ok (.if_icmp .eq (18), 3) := by decide +kernel
theorem d_R_startOf_46 : decode prog_8_method_75_code 46 = .ok (.aload_n 0, 1) := by decide +kernel
theorem d_R_startOf_47 : decode prog_8_method_75_code 47 = .ok (.getfield 64, 3) := by decide +kernel
theorem d_R_startOf_50 : decode prog_8_method_75_code 50 = .ok (.iload_n 1, 1) := by decide +kernel
theorem d_R_startOf_51 : decode prog_8_method_75_code 51 = .ok (.iaload, 1) := by decide +kernel
theorem d_R_startOf_52 : decode prog_8_method_75_code 52 = .ok (.iload 5, 2) := by decide +kernel
theorem d_R_startOf_54 : decode prog_8_method_75_code 54 = .ok (.if_icmp .ge (7), 3) := by decide +kernel
theorem d_R_startOf_57 : decode prog_8_method_75_code 57 = .ok (.iconst 1, 1) := by decide +kernel
theorem d_R_startOf_58 : decode prog_8_method_75_code 58 = .ok (.goto (4), 3) := by decide +kernel
theorem d_R_startOf_61 : decode prog_8_method_75_code 61 = .ok (.iconst 0, 1) := by decide +kernel
theorem d_R_startOf_62 : decode prog_8_method_75_code 62 = .ok (.istore 7, 2) := by decide +kernel
theorem d_R_startOf_64 : decode prog_8_method_75_code 64 = .ok (.iload 7, 2) := by decide +kernel
theorem d_R_startOf_66 : decode prog_8_method_75_code 66 = .ok (.ifCond .eq (8), 3) := by decide +kernel
theorem d_R_startOf_69 : decode prog_8_method_75_code 69 = .ok (.iload 6, 2) := by decide +kernel
theorem d_R_startOf_71 : decode prog_8_method_75_code 71 = .ok (.goto (5), 3) := by decide +kernel
theorem d_R_startOf_74 : decode prog_8_method_75_code 74 = .ok (.iload 4, 2) := by decide +kernel
theorem d_R_startOf_76 : decode prog_8_method_75_code 76 = .ok (.istore 4, 2) := by decide +kernel
theorem d_R_startOf_78 : decode prog_8_method_75_code 78 = .ok (.iload 7, 2) := by decide +kernel
theorem d_R_startOf_80 : decode prog_8_method_75_code 80 = .ok (.ifCond .eq (12), 3) := by decide +kernel
theorem d_R_startOf_83 : decode prog_8_method_75_code 83 = .ok (.aload_n 0, 1) := by decide +kernel
theorem d_R_startOf_84 : decode prog_8_method_75_code 84 = .ok (.getfield 64, 3) := by decide +kernel
theorem d_R_startOf_87 : decode prog_8_method_75_code 87 = .ok (.iload_n 1, 1) := by decide +kernel
theorem d_R_startOf_88 : decode prog_8_method_75_code 88 = .ok (.iaload, 1) := by decide +kernel
theorem d_R_startOf_89 : decode prog_8_method_75_code 89 = .ok (.goto (5), 3) := by decide +kernel
theorem d_R_startOf_92 : decode prog_8_method_75_code 92 = .ok (.iload 5, 2) := by decide +kernel
theorem d_R_startOf_94 : decode prog_8_method_75_code 94 = .ok (.istore 5, 2) := by decide +kernel
theorem d_R_startOf_96 : decode prog_8_method_75_code 96 = .ok (.iinc 6 1, 3) := by decide +kernel
theorem d_R_startOf_99 : decode prog_8_method_75_code 99 = .ok (.goto (-82), 3) := by decide +kernel
theorem d_R_startOf_102 : decode prog_8_method_75_code 102 = .ok (.aload_n 0, 1) := by decide +kernel
theorem d_R_startOf_103 : decode prog_8_method_75_code 103 = .ok (.getfield 37, 3) := by decide +kernel
theorem d_R_startOf_106 : decode prog_8_method_75_code 106 = .ok (.iload_n 1, 1) := by decide +kernel
theorem d_R_startOf_107 : decode prog_8_method_75_code 107 = .ok (.iload_n 3, 1) := by decide +kernel
theorem d_R_startOf_108 : decode prog_8_method_75_code 108 = .ok (.iastore, 1) := by decide +kernel
theorem d_R_startOf_109 : decode prog_8_method_75_code 109 = .ok (.iload 4, 2) := by decide +kernel
theorem d_R_startOf_111 : decode prog_8_method_75_code 111 = .ok (.iconst (-1), 1) := by decide +kernel
theorem d_R_startOf_112 : decode prog_8_method_75_code 112 = .ok (.if_icmp .eq (7), 3) := by decide +kernel
theorem d_R_startOf_115 : decode prog_8_method_75_code 115 = .ok (.iload_n 2, 1) := by decide +kernel
theorem d_R_startOf_116 : decode prog_8_method_75_code 116 = .ok (.ifCond .ne (8), 3) := by decide +kernel
theorem d_R_startOf_119 : decode prog_8_method_75_code 119 = .ok (.iload 4, 2) := by decide +kernel
theorem d_R_startOf_121 : decode prog_8_method_75_code 121 = .ok (.goto (5), 3) := by decide +kernel
theorem d_R_startOf_124 : decode prog_8_method_75_code 124 = .ok (.iload 5, 2) := by decide +kernel
theorem d_R_startOf_126 : decode prog_8_method_75_code 126 = .ok (.ireturn, 1) := by decide +kernel
def wp_R_startOf (a1 : Int32) (a2 : Int32) (M : Mem) (post : Int32 → Mem → Prop) : Prop :=
  vp_in a1 8 ∧ (it4 (fun rec2 (i4 : Int32) (i5 : Int32) (i6 : Int32) (M7 : Mem) => (((24 ≤ i6) → ∀ M9 : Mem, M9 = upm M7 10 (tn a1) (M 10 (tn a1)) → ∀ u12 : Int32, u12 = (if i4 = (-1) then i4 else (if a2 = 0 then i4 else i5)) → post u12 M9) ∧ (¬ (24 ≤ i6) → ∀ M14 : Mem, M14 = upm M7 10 (tn a1) i6 → wp_R_lives M14 (fun M15 => ∀ u19 : Int32, u19 = (if (M15 19 (tn a1)) = (-1) then 0 else (if i5 ≤ (M15 19 (tn a1)) then 0 else 1)) → ∀ u21 : Int32, u21 = (if u19 = 0 then i4 else i6) → ∀ u23 : Int32, u23 = (if u19 = 0 then i5 else (M15 19 (tn a1))) → rec2 u21 u23 (i6 + 1) M15)))) 4096 (-1) 99 0 M)
set_option maxHeartbeats 4000000 in
set_option maxRecDepth 100000 in
theorem c_R_startOf (g : GX) {a1 : Int32} {a2 : Int32} {M : Mem} {post : Int32 → Mem → Prop} (hw : wp_R_startOf a1 a2 M post) : CtI (oR g) y_R_startOf prog_8_method_75_code 8 (some .int) (rl 5) [.ref (ax g 0), .int a1, .int a2] M post := by
  refine z_metI (oR_ok g) (by decide) rfl (fun X C hr => ?_)
  show Zj X 8 (oR g) M 0 [(0, .ref (ax g 0)), (1, .int a1), (2, .int a2)] []
  unfold wp_R_startOf at hw
  refine z_aload_n C d_R_startOf_0 rfl 0 rfl ?_
  refine gf_R_37 C d_R_startOf_1 ?_
  refine z_iload_n C d_R_startOf_4 rfl 1 rfl ?_
  have hv1 := hw.1
  replace hw := hw.2
  refine z_al (zar_r10) C hv1 d_R_startOf_5 ?_
  refine z_istore_n (lv' := [(3, .int (M 10 (tn a1))), (0, .ref (ax g 0)), (1, .int a1), (2, .int a2)]) C d_R_startOf_6 rfl rfl rfl ?_
  refine z_iconst (v := (-1)) C d_R_startOf_7 (by decide) ?_
  refine z_istore (lv' := [(4, .int (-1)), (3, .int (M 10 (tn a1))), (0, .ref (ax g 0)), (1, .int a1), (2, .int a2)]) C d_R_startOf_8 rfl rfl ?_
  refine z_bipush (v := 99) C d_R_startOf_10 (by decide) ?_
  refine z_istore (lv' := [(5, .int 99), (4, .int (-1)), (3, .int (M 10 (tn a1))), (0, .ref (ax g 0)), (1, .int a1), (2, .int a2)]) C d_R_startOf_12 rfl rfl ?_
  refine z_iconst (v := 0) C d_R_startOf_14 (by decide) ?_
  refine z_istore (lv' := [(6, .int 0), (5, .int 99), (4, .int (-1)), (3, .int (M 10 (tn a1))), (0, .ref (ax g 0)), (1, .int a1), (2, .int a2)]) C d_R_startOf_15 rfl rfl ?_
  refine z_sub [4, 5, 6, 3, 2, 1, 0] rfl ?_
  refine it4_Z (Z := fun (i4 : Int32) (i5 : Int32) (i6 : Int32) (M7 : Mem) => Zj X 8 (oR g) M7 17 [(0, .ref (ax g 0)), (1, .int a1), (2, .int a2), (3, .int (M 10 (tn a1))), (4, .int i4), (5, .int i5), (6, .int i6)] []) (fun rec2 ih3 i4 i5 i6 M7 hw => ?_) _ _ _ _ _ hw
  refine z_iload C d_R_startOf_17 6 rfl ?_
  refine z_bipush (v := 24) C d_R_startOf_19 (by decide) ?_
  refine z_ic_ge C 102 d_R_startOf_21 (by decide) (fun h8 => ?_) (fun h8 => ?_)
  · replace hw := hw.1 h8
    refine z_aload_n C d_R_startOf_102 rfl 0 rfl ?_
    refine gf_R_37 C d_R_startOf_103 ?_
    refine z_iload_n C d_R_startOf_106 rfl 1 rfl ?_
    refine z_iload_n C d_R_startOf_107 rfl 3 rfl ?_
    refine z_as (zar_r10) C hv1 d_R_startOf_108 (fun M9 hM9 => ?_)
    replace hw := hw M9 hM9
    refine z_iload C d_R_startOf_109 4 rfl ?_
    refine z_iconst (v := (-1)) C d_R_startOf_111 (by decide) ?_
    have hj13 : ∀ u12 : Int32, u12 = (if i4 = (-1) then i4 else (if a2 = 0 then i4 else i5)) → Zj X 8 (oR g) M9 126 [] [.int u12] := by
      intro u12 hu12
      replace hw := hw u12 hu12
      exact z_iret C hr hw d_R_startOf_126
    refine z_ic_eq C 119 d_R_startOf_112 (by decide) (fun h10 => ?_) (fun h10 => ?_)
    · refine z_iload C d_R_startOf_119 4 rfl ?_
      refine z_goto C 126 d_R_startOf_121 (by decide) ?_
      refine z_sub [] rfl ?_
      exact hj13 _ ((if_pos h10)).symm
    · refine z_iload_n C d_R_startOf_115 rfl 2 rfl ?_
      refine z_if_ne C 124 d_R_startOf_116 (by decide) (fun h11 => ?_) (fun h11 => ?_)
      · refine z_iload C d_R_startOf_124 5 rfl ?_
        refine z_sub [] rfl ?_
        exact hj13 _ (((if_neg h10).trans (if_neg h11))).symm
      · refine z_iload C d_R_startOf_119 4 rfl ?_
        refine z_goto C 126 d_R_startOf_121 (by decide) ?_
        refine z_sub [] rfl ?_
        exact hj13 _ (((if_neg h10).trans (if_pos h11))).symm
  · replace hw := hw.2 h8
    refine z_aload_n C d_R_startOf_24 rfl 0 rfl ?_
    refine gf_R_37 C d_R_startOf_25 ?_
    refine z_iload_n C d_R_startOf_28 rfl 1 rfl ?_
    refine z_iload C d_R_startOf_29 6 rfl ?_
    refine z_as (zar_r10) C hv1 d_R_startOf_31 (fun M14 hM14 => ?_)
    replace hw := hw M14 hM14
    refine z_aload_n C d_R_startOf_32 rfl 0 rfl ?_
    refine z_callVv C (As := []) (rest := []) m_R_lives tw_935 0 (le_R) rfl ⟨rfl, rfl⟩ (c_R_lives g hw) rfl rfl rfl d_R_startOf_33 (fun M15 hw => ?_)
    refine z_aload_n C d_R_startOf_36 rfl 0 rfl ?_
    refine gf_R_64 C d_R_startOf_37 ?_
    refine z_iload_n C d_R_startOf_40 rfl 1 rfl ?_
    refine z_al (zar_r19) C hv1 d_R_startOf_41 ?_
    refine z_iconst (v := (-1)) C d_R_startOf_42 (by decide) ?_
    have hj26 : ∀ u19 : Int32, u19 = (if (M15 19 (tn a1)) = (-1) then 0 else (if i5 ≤ (M15 19 (tn a1)) then 0 else 1)) → Zj X 8 (oR g) M15 62 [(0, .ref (ax g 0)), (1, .int a1), (2, .int a2), (3, .int (M 10 (tn a1))), (4, .int i4), (5, .int i5), (6, .int i6)] [.int u19] := by
      intro u19 hu19
      replace hw := hw u19 hu19
      refine z_istore (lv' := [(7, .int u19), (0, .ref (ax g 0)), (1, .int a1), (2, .int a2), (3, .int (M 10 (tn a1))), (4, .int i4), (5, .int i5), (6, .int i6)]) C d_R_startOf_62 rfl rfl ?_
      refine z_iload C d_R_startOf_64 0 rfl ?_
      have hj25 : ∀ u21 : Int32, u21 = (if u19 = 0 then i4 else i6) → Zj X 8 (oR g) M15 76 [(0, .ref (ax g 0)), (1, .int a1), (2, .int a2), (3, .int (M 10 (tn a1))), (5, .int i5), (6, .int i6), (7, .int u19)] [.int u21] := by
        intro u21 hu21
        replace hw := hw u21 hu21
        refine z_istore (lv' := [(4, .int u21), (0, .ref (ax g 0)), (1, .int a1), (2, .int a2), (3, .int (M 10 (tn a1))), (5, .int i5), (6, .int i6), (7, .int u19)]) C d_R_startOf_76 rfl rfl ?_
        refine z_iload C d_R_startOf_78 7 rfl ?_
        have hj24 : ∀ u23 : Int32, u23 = (if u19 = 0 then i5 else (M15 19 (tn a1))) → Zj X 8 (oR g) M15 94 [(0, .ref (ax g 0)), (1, .int a1), (2, .int a2), (3, .int (M 10 (tn a1))), (4, .int u21), (6, .int i6)] [.int u23] := by
          intro u23 hu23
          replace hw := hw u23 hu23
          refine z_istore (lv' := [(5, .int u23), (0, .ref (ax g 0)), (1, .int a1), (2, .int a2), (3, .int (M 10 (tn a1))), (4, .int u21), (6, .int i6)]) C d_R_startOf_94 rfl rfl ?_
          refine z_iinc (v := (i6 + 1)) (lv' := [(6, .int (i6 + 1)), (5, .int u23), (0, .ref (ax g 0)), (1, .int a1), (2, .int a2), (3, .int (M 10 (tn a1))), (4, .int u21)]) C d_R_startOf_96 6 rfl rfl rfl rfl ?_
          refine z_goto C 17 d_R_startOf_99 (by decide) ?_
          refine z_sub [2, 3, 4, 5, 6, 1, 0] rfl ?_
          exact ih3 _ _ _ _ hw
        refine z_if_eq C 92 d_R_startOf_80 (by decide) (fun h22 => ?_) (fun h22 => ?_)
        · refine z_iload C d_R_startOf_92 5 rfl ?_
          refine z_sub [1, 2, 3, 4, 0, 6] rfl ?_
          exact hj24 _ ((if_pos h22)).symm
        · refine z_aload_n C d_R_startOf_83 rfl 1 rfl ?_
          refine gf_R_64 C d_R_startOf_84 ?_
          refine z_iload_n C d_R_startOf_87 rfl 2 rfl ?_
          refine z_al (zar_r19) C hv1 d_R_startOf_88 ?_
          refine z_goto C 94 d_R_startOf_89 (by decide) ?_
          refine z_sub [1, 2, 3, 4, 0, 6] rfl ?_
          exact hj24 _ ((if_neg h22)).symm
      refine z_if_eq C 74 d_R_startOf_66 (by decide) (fun h20 => ?_) (fun h20 => ?_)
      · refine z_iload C d_R_startOf_74 5 rfl ?_
        refine z_sub [1, 2, 3, 4, 6, 7, 0] rfl ?_
        exact hj25 _ ((if_pos h20)).symm
      · refine z_iload C d_R_startOf_69 7 rfl ?_
        refine z_goto C 76 d_R_startOf_71 (by decide) ?_
        refine z_sub [1, 2, 3, 4, 6, 7, 0] rfl ?_
        exact hj25 _ ((if_neg h20)).symm
    refine z_ic_eq C 61 d_R_startOf_43 (by decide) (fun h17 => ?_) (fun h17 => ?_)
    · refine z_iconst (v := 0) C d_R_startOf_61 (by decide) ?_
      refine z_sub [0, 1, 2, 3, 4, 5, 6] rfl ?_
      exact hj26 _ ((if_pos h17)).symm
    · refine z_aload_n C d_R_startOf_46 rfl 0 rfl ?_
      refine gf_R_64 C d_R_startOf_47 ?_
      refine z_iload_n C d_R_startOf_50 rfl 1 rfl ?_
      refine z_al (zar_r19) C hv1 d_R_startOf_51 ?_
      refine z_iload C d_R_startOf_52 5 rfl ?_
      refine z_ic_ge C 61 d_R_startOf_54 (by decide) (fun h18 => ?_) (fun h18 => ?_)
      · refine z_iconst (v := 0) C d_R_startOf_61 (by decide) ?_
        refine z_sub [0, 1, 2, 3, 4, 5, 6] rfl ?_
        exact hj26 _ (((if_neg h17).trans (if_pos h18))).symm
      · refine z_iconst (v := 1) C d_R_startOf_57 (by decide) ?_
        refine z_goto C 62 d_R_startOf_58 (by decide) ?_
        refine z_sub [0, 1, 2, 3, 4, 5, 6] rfl ?_
        exact hj26 _ (((if_neg h17).trans (if_neg h18))).symm
theorem d_R_isSpared_0 : decode prog_8_method_77_code 0 = .ok (.aload_n 0, 1) := by decide +kernel
theorem d_R_isSpared_1 : decode prog_8_method_77_code 1 = .ok (.iload_n 1, 1) := by decide +kernel
theorem d_R_isSpared_2 : decode prog_8_method_77_code 2 = .ok (.putfield 194, 3) := by decide +kernel
theorem d_R_isSpared_5 : decode prog_8_method_77_code 5 = .ok (.aload_n 0, 1) := by decide +kernel
theorem d_R_isSpared_6 : decode prog_8_method_77_code 6 = .ok (.invokevirtual 225, 3) := by decide +kernel
theorem d_R_isSpared_9 : decode prog_8_method_77_code 9 = .ok (.aload_n 0, 1) := by decide +kernel
theorem d_R_isSpared_10 : decode prog_8_method_77_code 10 = .ok (.iconst 0, 1) := by decide +kernel
theorem d_R_isSpared_11 : decode prog_8_method_77_code 11 = .ok (.putfield 194, 3) := by decide +kernel
theorem d_R_isSpared_14 : decode prog_8_method_77_code 14 = .ok (.aload_n 0, 1) := by decide +kernel
theorem d_R_isSpared_15 : decode prog_8_method_77_code 15 = .ok (.invokevirtual 258, 3) := by decide +kernel
theorem d_R_isSpared_18 : decode prog_8_method_77_code 18 = .ok (.aload_n 0, 1) := by decide +kernel
theorem d_R_isSpared_19 : decode prog_8_method_77_code 19 = .ok (.getfield 152, 3) := by decide +kernel
theorem d_R_isSpared_22 : decode prog_8_method_77_code 22 = .ok (.if_icmp .ne (7), 3) := by decide +kernel
theorem d_R_isSpared_25 : decode prog_8_method_77_code 25 = .ok (.iconst 1, 1) := by decide +kernel
theorem d_R_isSpared_26 : decode prog_8_method_77_code 26 = .ok (.goto (4), 3) := by decide +kernel
theorem d_R_isSpared_29 : decode prog_8_method_77_code 29 = .ok (.iconst 0, 1) := by decide +kernel
theorem d_R_isSpared_30 : decode prog_8_method_77_code 30 = .ok (.ireturn, 1) := by decide +kernel
def wp_R_isSpared (a1 : Int32) (M : Mem) (post : Int32 → Mem → Prop) : Prop :=
  ∀ M1 : Mem, M1 = upm M 0 16 a1 → wp_R_lives M1 (fun M2 => ∀ M4 : Mem, M4 = upm M2 0 16 0 → wp_R_manyOver M4 (fun r5 => ∀ u7 : Int32, u7 = (if r5 = (M4 0 11) then 1 else 0) → (u7 = 0 ∨ u7 = 1) ∧ post u7 M4))
set_option maxHeartbeats 4000000 in
set_option maxRecDepth 100000 in
theorem c_R_isSpared (g : GX) {a1 : Int32} {M : Mem} {post : Int32 → Mem → Prop} (hw : wp_R_isSpared a1 M post) : CtI (oR g) y_R_isSpared prog_8_method_77_code 2 (some .boolean) (rl 5) [.ref (ax g 0), .int a1] M post := by
  refine z_metI (oR_ok g) (by decide) rfl (fun X C hr => ?_)
  show Zj X 2 (oR g) M 0 [(0, .ref (ax g 0)), (1, .int a1)] []
  unfold wp_R_isSpared at hw
  refine z_aload_n C d_R_isSpared_0 rfl 0 rfl ?_
  refine z_iload_n C d_R_isSpared_1 rfl 1 rfl ?_
  refine pp_R_194 C d_R_isSpared_2 (fun M1 hM1 => ?_)
  replace hw := hw M1 hM1
  refine z_aload_n C d_R_isSpared_5 rfl 0 rfl ?_
  refine z_callVv C (As := []) (rest := []) m_R_lives tw_935 0 (le_R) rfl ⟨rfl, rfl⟩ (c_R_lives g hw) rfl rfl rfl d_R_isSpared_6 (fun M2 hw => ?_)
  refine z_aload_n C d_R_isSpared_9 rfl 0 rfl ?_
  refine z_iconst (v := 0) C d_R_isSpared_10 (by decide) ?_
  refine pp_R_194 C d_R_isSpared_11 (fun M4 hM4 => ?_)
  replace hw := hw M4 hM4
  refine z_aload_n C d_R_isSpared_14 rfl 0 rfl ?_
  refine z_callVi C (As := []) (rest := []) m_R_manyOver tw_1043 0 (le_R) rfl ⟨rfl, rfl⟩ (c_R_manyOver g hw) rfl rfl rfl d_R_isSpared_15 (fun r5 M2 hq => ?_)
  obtain ⟨rfl, hw⟩ := hq
  refine z_aload_n C d_R_isSpared_18 rfl 0 rfl ?_
  refine gf_R_152 C d_R_isSpared_19 ?_
  have hj8 : ∀ u7 : Int32, u7 = (if r5 = (M4 0 11) then 1 else 0) → Zj X 2 (oR g) M4 30 [] [.int u7] := by
    intro u7 hu7
    replace hw := hw u7 hu7
    exact z_zret C hr hw.1 hw.2 d_R_isSpared_30
  refine z_ic_ne C 29 d_R_isSpared_22 (by decide) (fun h6 => ?_) (fun h6 => ?_)
  · refine z_iconst (v := 0) C d_R_isSpared_29 (by decide) ?_
    refine z_sub [] rfl ?_
    exact hj8 _ ((if_neg h6)).symm
  · refine z_iconst (v := 1) C d_R_isSpared_25 (by decide) ?_
    refine z_goto C 30 d_R_isSpared_26 (by decide) ?_
    refine z_sub [] rfl ?_
    exact hj8 _ ((if_pos h6)).symm
theorem d_R_isSeen_0 : decode prog_8_method_82_code 0 = .ok (.aload_n 0, 1) := by decide +kernel
theorem d_R_isSeen_1 : decode prog_8_method_82_code 1 = .ok (.invokevirtual 225, 3) := by decide +kernel
theorem d_R_isSeen_4 : decode prog_8_method_82_code 4 = .ok (.iconst 1, 1) := by decide +kernel
theorem d_R_isSeen_5 : decode prog_8_method_82_code 5 = .ok (.istore_n 1, 1) := by decide +kernel
theorem d_R_isSeen_6 : decode prog_8_method_82_code 6 = .ok (.iconst 0, 1) := by decide +kernel
theorem d_R_isSeen_7 : decode prog_8_method_82_code 7 = .ok (.istore_n 2, 1) := by decide +kernel
theorem d_R_isSeen_8 : decode prog_8_method_82_code 8 = .ok (.iload_n 2, 1) := by decide +kernel
theorem d_R_isSeen_9 : decode prog_8_method_82_code 9 = .ok (.aload_n 0, 1) := by decide +kernel
theorem d_R_isSeen_10 : decode prog_8_method_82_code 10 = .ok (.getfield 281, 3) := by decide +kernel
theorem d_R_isSeen_13 : decode prog_8_method_82_code 13 = .ok (.if_icmp .ge (59), 3) := by decide +kernel
theorem d_R_isSeen_16 : decode prog_8_method_82_code 16 = .ok (.iload_n 1, 1) := by decide +kernel
theorem d_R_isSeen_17 : decode prog_8_method_82_code 17 = .ok (.ifCond .eq (47), 3) := by decide +kernel
theorem d_R_isSeen_20 : decode prog_8_method_82_code 20 = .ok (.aload_n 0, 1) := by decide +kernel
theorem d_R_isSeen_21 : decode prog_8_method_82_code 21 = .ok (.getfield 70, 3) := by decide +kernel
theorem d_R_isSeen_24 : decode prog_8_method_82_code 24 = .ok (.bipush 12, 2) := by decide +kernel
theorem d_R_isSeen_26 : decode prog_8_method_82_code 26 = .ok (.aload_n 0, 1) := by decide +kernel
theorem d_R_isSeen_27 : decode prog_8_method_82_code 27 = .ok (.getfield 85, 3) := by decide +kernel
theorem d_R_isSeen_30 : decode prog_8_method_82_code 30 = .ok (.iconst 3, 1) := by decide +kernel
theorem d_R_isSeen_31 : decode prog_8_method_82_code 31 = .ok (.iload_n 2, 1) := by decide +kernel
theorem d_R_isSeen_32 : decode prog_8_method_82_code 32 = .ok (.imul, 1) := by decide +kernel
theorem d_R_isSeen_33 : decode prog_8_method_82_code 33 = .ok (.iaload, 1) := by decide +kernel
theorem d_R_isSeen_34 : decode prog_8_method_82_code 34 = .ok (.imul, 1) := by decide +kernel
theorem d_R_isSeen_35 : decode prog_8_method_82_code 35 = .ok (.aload_n 0, 1) := by decide +kernel
theorem d_R_isSeen_36 : decode prog_8_method_82_code 36 = .ok (.getfield 85, 3) := by decide +kernel
theorem d_R_isSeen_39 : decode prog_8_method_82_code 39 = .ok (.iconst 3, 1) := by decide +kernel
theorem d_R_isSeen_40 : decode prog_8_method_82_code 40 = .ok (.iload_n 2, 1) := by decide +kernel
theorem d_R_isSeen_41 : decode prog_8_method_82_code 41 = .ok (.imul, 1) := by decide +kernel
theorem d_R_isSeen_42 : decode prog_8_method_82_code 42 = .ok (.iconst 1, 1) := by decide +kernel
theorem d_R_isSeen_43 : decode prog_8_method_82_code 43 = .ok (.iadd, 1) := by decide +kernel
theorem d_R_isSeen_44 : decode prog_8_method_82_code 44 = .ok (.iaload, 1) := by decide +kernel
theorem d_R_isSeen_45 : decode prog_8_method_82_code 45 = .ok (.iadd, 1) := by decide +kernel
theorem d_R_isSeen_46 : decode prog_8_method_82_code 46 = .ok (.iaload, 1) := by decide +kernel
theorem d_R_isSeen_47 : decode prog_8_method_82_code 47 = .ok (.aload_n 0, 1) := by decide +kernel
theorem d_R_isSeen_48 : decode prog_8_method_82_code 48 = .ok (.getfield 85, 3) := by decide +kernel
theorem d_R_isSeen_51 : decode prog_8_method_82_code 51 = .ok (.iconst 3, 1) := by decide +kernel
theorem d_R_isSeen_52 : decode prog_8_method_82_code 52 = .ok (.iload_n 2, 1) := by decide +kernel
theorem d_R_isSeen_53 : decode prog_8_method_82_code 53 = .ok (.imul, 1) := by decide +kernel
theorem d_R_isSeen_54 : decode prog_8_method_82_code 54 = .ok (.iconst 2, 1) := by decide +kernel
theorem d_R_isSeen_55 : decode prog_8_method_82_code 55 = .ok (.iadd, 1) := by decide +kernel
theorem d_R_isSeen_56 : decode prog_8_method_82_code 56 = .ok (.iaload, 1) := by decide +kernel
theorem d_R_isSeen_57 : decode prog_8_method_82_code 57 = .ok (.if_icmp .ne (7), 3) := by decide +kernel
theorem d_R_isSeen_60 : decode prog_8_method_82_code 60 = .ok (.iconst 1, 1) := by decide +kernel
theorem d_R_isSeen_61 : decode prog_8_method_82_code 61 = .ok (.goto (4), 3) := by decide +kernel
theorem d_R_isSeen_64 : decode prog_8_method_82_code 64 = .ok (.iconst 0, 1) := by decide +kernel
theorem d_R_isSeen_65 : decode prog_8_method_82_code 65 = .ok (.istore_n 1, 1) := by decide +kernel
theorem d_R_isSeen_66 : decode prog_8_method_82_code 66 = .ok (.iinc 2 1, 3) := by decide +kernel
theorem d_R_isSeen_69 : decode prog_8_method_82_code 69 = .ok (.goto (-61), 3) := by decide +kernel
theorem d_R_isSeen_72 : decode prog_8_method_82_code 72 = .ok (.iload_n 1, 1) := by decide +kernel
theorem d_R_isSeen_73 : decode prog_8_method_82_code 73 = .ok (.ireturn, 1) := by decide +kernel
def wp_R_isSeen (M : Mem) (post : Int32 → Mem → Prop) : Prop :=
  wp_R_lives M (fun M1 => (it2 (fun rec3 (i5 : Int32) (i6 : Int32) => ((((M1 0 31) ≤ i6) → (i5 = 0 ∨ i5 = 1) ∧ post i5 M1) ∧ (¬ ((M1 0 31) ≤ i6) → (((i5 = 0) → True) ∧ (¬ (i5 = 0) → (vp_in (3 * i6) 24 ∧ (vp_in ((3 * i6) + 1) 24 ∧ (vp_in ((12 * (M1 26 (tn (3 * i6)))) + (M1 26 (tn ((3 * i6) + 1)))) 288 ∧ (vp_in ((3 * i6) + 2) 24)))))) ∧ (∀ u14 : Int32, u14 = (if i5 = 0 then 0 else (if (M1 21 (tn ((12 * (M1 26 (tn (3 * i6)))) + (M1 26 (tn ((3 * i6) + 1)))))) = (M1 26 (tn ((3 * i6) + 2))) then 1 else 0)) → rec3 u14 (i6 + 1))))) 4096 1 0))
set_option maxHeartbeats 4000000 in
set_option maxRecDepth 100000 in
theorem c_R_isSeen (g : GX) {M : Mem} {post : Int32 → Mem → Prop} (hw : wp_R_isSeen M post) : CtI (oR g) y_R_isSeen prog_8_method_82_code 3 (some .boolean) (rl 5) [.ref (ax g 0)] M post := by
  refine z_metI (oR_ok g) (by decide) rfl (fun X C hr => ?_)
  show Zj X 3 (oR g) M 0 [(0, .ref (ax g 0))] []
  unfold wp_R_isSeen at hw
  refine z_aload_n C d_R_isSeen_0 rfl 0 rfl ?_
  refine z_callVv C (As := []) (rest := []) m_R_lives tw_935 0 (le_R) rfl ⟨rfl, rfl⟩ (c_R_lives g hw) rfl rfl rfl d_R_isSeen_1 (fun M1 hw => ?_)
  refine z_iconst (v := 1) C d_R_isSeen_4 (by decide) ?_
  refine z_istore_n (lv' := [(1, .int 1), (0, .ref (ax g 0))]) C d_R_isSeen_5 rfl rfl rfl ?_
  refine z_iconst (v := 0) C d_R_isSeen_6 (by decide) ?_
  refine z_istore_n (lv' := [(2, .int 0), (1, .int 1), (0, .ref (ax g 0))]) C d_R_isSeen_7 rfl rfl rfl ?_
  refine z_sub [2, 1, 0] rfl ?_
  refine it2_Z (Z := fun (i5 : Int32) (i6 : Int32) => Zj X 3 (oR g) M1 8 [(0, .ref (ax g 0)), (1, .int i5), (2, .int i6)] []) (fun rec3 ih4 i5 i6 hw => ?_) _ _ _ hw
  refine z_iload_n C d_R_isSeen_8 rfl 2 rfl ?_
  refine z_aload_n C d_R_isSeen_9 rfl 0 rfl ?_
  refine gf_R_281 C d_R_isSeen_10 ?_
  refine z_ic_ge C 72 d_R_isSeen_13 (by decide) (fun h7 => ?_) (fun h7 => ?_)
  · replace hw := hw.1 h7
    refine z_iload_n C d_R_isSeen_72 rfl 1 rfl ?_
    exact z_zret C hr hw.1 hw.2 d_R_isSeen_73
  · replace hw := hw.2 h7
    refine z_iload_n C d_R_isSeen_16 rfl 1 rfl ?_
    have hj15 : ∀ u14 : Int32, u14 = (if i5 = 0 then 0 else (if (M1 21 (tn ((12 * (M1 26 (tn (3 * i6)))) + (M1 26 (tn ((3 * i6) + 1)))))) = (M1 26 (tn ((3 * i6) + 2))) then 1 else 0)) → Zj X 3 (oR g) M1 65 [(0, .ref (ax g 0)), (2, .int i6)] [.int u14] := by
      intro u14 hu14
      replace hw := hw.2 u14 hu14
      refine z_istore_n (lv' := [(1, .int u14), (0, .ref (ax g 0)), (2, .int i6)]) C d_R_isSeen_65 rfl rfl rfl ?_
      refine z_iinc (v := (i6 + 1)) (lv' := [(2, .int (i6 + 1)), (1, .int u14), (0, .ref (ax g 0))]) C d_R_isSeen_66 2 rfl rfl rfl rfl ?_
      refine z_goto C 8 d_R_isSeen_69 (by decide) ?_
      refine z_sub [2, 1, 0] rfl ?_
      exact ih4 _ _ hw
    have ha0 := hw.1
    refine z_if_eq C 64 d_R_isSeen_17 (by decide) (fun h8 => ?_) (fun h8 => ?_)
    · refine z_iconst (v := 0) C d_R_isSeen_64 (by decide) ?_
      refine z_sub [0, 2] rfl ?_
      exact hj15 _ ((if_pos h8)).symm
    · have ha16 := ha0.2 h8
      refine z_aload_n C d_R_isSeen_20 rfl 0 rfl ?_
      refine gf_R_70 C d_R_isSeen_21 ?_
      refine z_bipush (v := 12) C d_R_isSeen_24 (by decide) ?_
      refine z_aload_n C d_R_isSeen_26 rfl 0 rfl ?_
      refine gf_R_85 C d_R_isSeen_27 ?_
      refine z_iconst (v := 3) C d_R_isSeen_30 (by decide) ?_
      refine z_iload_n C d_R_isSeen_31 rfl 2 rfl ?_
      refine z_imul C d_R_isSeen_32 ?_
      have hv9 := ha16.1
      refine z_al (zar_r26) C hv9 d_R_isSeen_33 ?_
      refine z_imul C d_R_isSeen_34 ?_
      refine z_aload_n C d_R_isSeen_35 rfl 0 rfl ?_
      refine gf_R_85 C d_R_isSeen_36 ?_
      refine z_iconst (v := 3) C d_R_isSeen_39 (by decide) ?_
      refine z_iload_n C d_R_isSeen_40 rfl 2 rfl ?_
      refine z_imul C d_R_isSeen_41 ?_
      refine z_iconst (v := 1) C d_R_isSeen_42 (by decide) ?_
      refine z_iadd C d_R_isSeen_43 ?_
      have hv10 := ha16.2.1
      refine z_al (zar_r26) C hv10 d_R_isSeen_44 ?_
      refine z_iadd C d_R_isSeen_45 ?_
      have hv11 := ha16.2.2.1
      refine z_al (zar_r21) C hv11 d_R_isSeen_46 ?_
      refine z_aload_n C d_R_isSeen_47 rfl 0 rfl ?_
      refine gf_R_85 C d_R_isSeen_48 ?_
      refine z_iconst (v := 3) C d_R_isSeen_51 (by decide) ?_
      refine z_iload_n C d_R_isSeen_52 rfl 2 rfl ?_
      refine z_imul C d_R_isSeen_53 ?_
      refine z_iconst (v := 2) C d_R_isSeen_54 (by decide) ?_
      refine z_iadd C d_R_isSeen_55 ?_
      have hv12 := ha16.2.2.2
      refine z_al (zar_r26) C hv12 d_R_isSeen_56 ?_
      refine z_ic_ne C 64 d_R_isSeen_57 (by decide) (fun h13 => ?_) (fun h13 => ?_)
      · refine z_iconst (v := 0) C d_R_isSeen_64 (by decide) ?_
        refine z_sub [0, 2] rfl ?_
        exact hj15 _ (((if_neg h8).trans (if_neg h13))).symm
      · refine z_iconst (v := 1) C d_R_isSeen_60 (by decide) ?_
        refine z_goto C 65 d_R_isSeen_61 (by decide) ?_
        refine z_sub [0, 2] rfl ?_
        exact hj15 _ (((if_neg h8).trans (if_pos h13))).symm
