theorem d_R_tellsBus_0 : decode prog_8_method_102_code 0 = .ok (.aload_n 0, 1) := by decide +kernel
theorem d_R_tellsBus_1 : decode prog_8_method_102_code 1 = .ok (.invokevirtual 225, 3) := by decide +kernel
theorem d_R_tellsBus_4 : decode prog_8_method_102_code 4 = .ok (.ldc2_w 332, 3) := by decide +kernel
theorem d_R_tellsBus_7 : decode prog_8_method_102_code 7 = .ok (.lload_n 1, 1) := by decide +kernel
theorem d_R_tellsBus_8 : decode prog_8_method_102_code 8 = .ok (.lmul, 1) := by decide +kernel
theorem d_R_tellsBus_9 : decode prog_8_method_102_code 9 = .ok (.aload_n 0, 1) := by decide +kernel
theorem d_R_tellsBus_10 : decode prog_8_method_102_code 10 = .ok (.getfield 37, 3) := by decide +kernel
theorem d_R_tellsBus_13 : decode prog_8_method_102_code 13 = .ok (.iload_n 3, 1) := by decide +kernel
theorem d_R_tellsBus_14 : decode prog_8_method_102_code 14 = .ok (.iaload, 1) := by decide +kernel
theorem d_R_tellsBus_15 : decode prog_8_method_102_code 15 = .ok (.i2l, 1) := by decide +kernel
theorem d_R_tellsBus_16 : decode prog_8_method_102_code 16 = .ok (.ladd, 1) := by decide +kernel
theorem d_R_tellsBus_17 : decode prog_8_method_102_code 17 = .ok (.lstore 4, 2) := by decide +kernel
theorem d_R_tellsBus_19 : decode prog_8_method_102_code 19 = .ok (.ldc2_w 332, 3) := by decide +kernel
theorem d_R_tellsBus_22 : decode prog_8_method_102_code 22 = .ok (.lload 4, 2) := by decide +kernel
theorem d_R_tellsBus_24 : decode prog_8_method_102_code 24 = .ok (.lmul, 1) := by decide +kernel
theorem d_R_tellsBus_25 : decode prog_8_method_102_code 25 = .ok (.aload_n 0, 1) := by decide +kernel
theorem d_R_tellsBus_26 : decode prog_8_method_102_code 26 = .ok (.getfield 82, 3) := by decide +kernel
theorem d_R_tellsBus_29 : decode prog_8_method_102_code 29 = .ok (.bipush 72, 2) := by decide +kernel
theorem d_R_tellsBus_31 : decode prog_8_method_102_code 31 = .ok (.iload_n 3, 1) := by decide +kernel
theorem d_R_tellsBus_32 : decode prog_8_method_102_code 32 = .ok (.iadd, 1) := by decide +kernel
theorem d_R_tellsBus_33 : decode prog_8_method_102_code 33 = .ok (.iaload, 1) := by decide +kernel
theorem d_R_tellsBus_34 : decode prog_8_method_102_code 34 = .ok (.i2l, 1) := by decide +kernel
theorem d_R_tellsBus_35 : decode prog_8_method_102_code 35 = .ok (.ladd, 1) := by decide +kernel
theorem d_R_tellsBus_36 : decode prog_8_method_102_code 36 = .ok (.lstore 4, 2) := by decide +kernel
theorem d_R_tellsBus_38 : decode prog_8_method_102_code 38 = .ok (.ldc2_w 332, 3) := by decide +kernel
theorem d_R_tellsBus_41 : decode prog_8_method_102_code 41 = .ok (.lload 4, 2) := by decide +kernel
theorem d_R_tellsBus_43 : decode prog_8_method_102_code 43 = .ok (.lmul, 1) := by decide +kernel
theorem d_R_tellsBus_44 : decode prog_8_method_102_code 44 = .ok (.aload_n 0, 1) := by decide +kernel
theorem d_R_tellsBus_45 : decode prog_8_method_102_code 45 = .ok (.getfield 64, 3) := by decide +kernel
theorem d_R_tellsBus_48 : decode prog_8_method_102_code 48 = .ok (.iload_n 3, 1) := by decide +kernel
theorem d_R_tellsBus_49 : decode prog_8_method_102_code 49 = .ok (.iaload, 1) := by decide +kernel
theorem d_R_tellsBus_50 : decode prog_8_method_102_code 50 = .ok (.i2l, 1) := by decide +kernel
theorem d_R_tellsBus_51 : decode prog_8_method_102_code 51 = .ok (.ladd, 1) := by decide +kernel
theorem d_R_tellsBus_52 : decode prog_8_method_102_code 52 = .ok (.lstore 4, 2) := by decide +kernel
theorem d_R_tellsBus_54 : decode prog_8_method_102_code 54 = .ok (.ldc2_w 332, 3) := by decide +kernel
theorem d_R_tellsBus_57 : decode prog_8_method_102_code 57 = .ok (.lload 4, 2) := by decide +kernel
theorem d_R_tellsBus_59 : decode prog_8_method_102_code 59 = .ok (.lmul, 1) := by decide +kernel
theorem d_R_tellsBus_60 : decode prog_8_method_102_code 60 = .ok (.aload_n 0, 1) := by decide +kernel
theorem d_R_tellsBus_61 : decode prog_8_method_102_code 61 = .ok (.getfield 67, 3) := by decide +kernel
theorem d_R_tellsBus_64 : decode prog_8_method_102_code 64 = .ok (.iload_n 3, 1) := by decide +kernel
theorem d_R_tellsBus_65 : decode prog_8_method_102_code 65 = .ok (.iaload, 1) := by decide +kernel
theorem d_R_tellsBus_66 : decode prog_8_method_102_code 66 = .ok (.i2l, 1) := by decide +kernel
theorem d_R_tellsBus_67 : decode prog_8_method_102_code 67 = .ok (.ladd, 1) := by decide +kernel
theorem d_R_tellsBus_68 : decode prog_8_method_102_code 68 = .ok (.lstore 4, 2) := by decide +kernel
theorem d_R_tellsBus_70 : decode prog_8_method_102_code 70 = .ok (.ldc2_w 332, 3) := by decide +kernel
theorem d_R_tellsBus_73 : decode prog_8_method_102_code 73 = .ok (.lload 4, 2) := by decide +kernel
theorem d_R_tellsBus_75 : decode prog_8_method_102_code 75 = .ok (.lmul, 1) := by decide +kernel
theorem d_R_tellsBus_76 : decode prog_8_method_102_code 76 = .ok (.aload_n 0, 1) := by decide +kernel
theorem d_R_tellsBus_77 : decode prog_8_method_102_code 77 = .ok (.iload_n 3, 1) := by decide +kernel
theorem d_R_tellsBus_78 : decode prog_8_method_102_code 78 = .ok (.iconst 0, 1) := by decide +kernel
theorem d_R_tellsBus_79 : decode prog_8_method_102_code 79 = .ok (.invokevirtual 268, 3) := by decide +kernel
theorem d_R_tellsBus_82 : decode prog_8_method_102_code 82 = .ok (.i2l, 1) := by decide +kernel
theorem d_R_tellsBus_83 : decode prog_8_method_102_code 83 = .ok (.ladd, 1) := by decide +kernel
theorem d_R_tellsBus_84 : decode prog_8_method_102_code 84 = .ok (.lstore 4, 2) := by decide +kernel
theorem d_R_tellsBus_86 : decode prog_8_method_102_code 86 = .ok (.ldc2_w 332, 3) := by decide +kernel
theorem d_R_tellsBus_89 : decode prog_8_method_102_code 89 = .ok (.lload 4, 2) := by decide +kernel
theorem d_R_tellsBus_91 : decode prog_8_method_102_code 91 = .ok (.lmul, 1) := by decide +kernel
theorem d_R_tellsBus_92 : decode prog_8_method_102_code 92 = .ok (.aload_n 0, 1) := by decide +kernel
theorem d_R_tellsBus_93 : decode prog_8_method_102_code 93 = .ok (.iload_n 3, 1) := by decide +kernel
theorem d_R_tellsBus_94 : decode prog_8_method_102_code 94 = .ok (.iconst 1, 1) := by decide +kernel
theorem d_R_tellsBus_95 : decode prog_8_method_102_code 95 = .ok (.invokevirtual 268, 3) := by decide +kernel
theorem d_R_tellsBus_98 : decode prog_8_method_102_code 98 = .ok (.i2l, 1) := by decide +kernel
theorem d_R_tellsBus_99 : decode prog_8_method_102_code 99 = .ok (.ladd, 1) := by decide +kernel
theorem d_R_tellsBus_100 : decode prog_8_method_102_code 100 = .ok (.lstore 4, 2) := by decide +kernel
theorem d_R_tellsBus_102 : decode prog_8_method_102_code 102 = .ok (.ldc2_w 332, 3) := by decide +kernel
theorem d_R_tellsBus_105 : decode prog_8_method_102_code 105 = .ok (.lload 4, 2) := by decide +kernel
theorem d_R_tellsBus_107 : decode prog_8_method_102_code 107 = .ok (.lmul, 1) := by decide +kernel
theorem d_R_tellsBus_108 : decode prog_8_method_102_code 108 = .ok (.aload_n 0, 1) := by decide +kernel
theorem d_R_tellsBus_109 : decode prog_8_method_102_code 109 = .ok (.iconst 5, 1) := by decide +kernel
theorem d_R_tellsBus_110 : decode prog_8_method_102_code 110 = .ok (.iload_n 3, 1) := by decide +kernel
theorem d_R_tellsBus_111 : decode prog_8_method_102_code 111 = .ok (.iconst 0, 1) := by decide +kernel
theorem d_R_tellsBus_112 : decode prog_8_method_102_code 112 = .ok (.invokevirtual 312, 3) := by decide +kernel
theorem d_R_tellsBus_115 : decode prog_8_method_102_code 115 = .ok (.ladd, 1) := by decide +kernel
theorem d_R_tellsBus_116 : decode prog_8_method_102_code 116 = .ok (.lstore 4, 2) := by decide +kernel
theorem d_R_tellsBus_118 : decode prog_8_method_102_code 118 = .ok (.ldc2_w 332, 3) := by decide +kernel
theorem d_R_tellsBus_121 : decode prog_8_method_102_code 121 = .ok (.lload 4, 2) := by decide +kernel
theorem d_R_tellsBus_123 : decode prog_8_method_102_code 123 = .ok (.lmul, 1) := by decide +kernel
theorem d_R_tellsBus_124 : decode prog_8_method_102_code 124 = .ok (.aload_n 0, 1) := by decide +kernel
theorem d_R_tellsBus_125 : decode prog_8_method_102_code 125 = .ok (.iconst 5, 1) := by decide +kernel
theorem d_R_tellsBus_126 : decode prog_8_method_102_code 126 = .ok (.iload_n 3, 1) := by decide +kernel
theorem d_R_tellsBus_127 : decode prog_8_method_102_code 127 = .ok (.iconst 1, 1) := by decide +kernel
theorem d_R_tellsBus_128 : decode prog_8_method_102_code 128 = .ok (.invokevirtual 312, 3) := by decide +kernel
theorem d_R_tellsBus_131 : decode prog_8_method_102_code 131 = .ok (.ladd, 1) := by decide +kernel
theorem d_R_tellsBus_132 : decode prog_8_method_102_code 132 = .ok (.lreturn, 1) := by decide +kernel
def wp_R_tellsBus (a1 : Int64) (a3 : Int32) (M : Mem) (post : Int64 → Mem → Prop) : Prop :=
  wp_R_lives M (fun M1 => vp_in a3 8 ∧ ∀ x4 : Int64, x4 = (((31) * a1) + (Int32.toInt64 (M1 10 (tn a3)))) → vp_in (72 + a3) 192 ∧ ∀ x6 : Int64, x6 = (((31) * x4) + (Int32.toInt64 (M1 25 (tn (72 + a3))))) → ∀ x7 : Int64, x7 = (((31) * x6) + (Int32.toInt64 (M1 19 (tn a3)))) → ∀ x8 : Int64, x8 = (((31) * x7) + (Int32.toInt64 (M1 20 (tn a3)))) → wp_R_startOf a3 0 M1 (fun r10 M9 => ∀ x11 : Int64, x11 = (((31) * x8) + (Int32.toInt64 r10)) → wp_R_startOf a3 1 M9 (fun r13 M12 => ∀ x14 : Int64, x14 = (((31) * x11) + (Int32.toInt64 r13)) → wp_R_chanceOf 5 a3 0 M12 (fun r16 M15 => ∀ x17 : Int64, x17 = (((31) * x14) + r16) → wp_R_chanceOf 5 a3 1 M15 (fun r19 M18 => post (((31) * x17) + r19) M18)))))
set_option maxHeartbeats 4000000 in
set_option maxRecDepth 100000 in
theorem c_R_tellsBus (g : GX) {a1 : Int64} {a3 : Int32} {M : Mem} {post : Int64 → Mem → Prop} (hw : wp_R_tellsBus a1 a3 M post) : CtL (oR g) y_R_tellsBus prog_8_method_102_code 6 (some .long) (rl 6) [.ref (ax g 0), .long a1, .int a3] M post := by
  refine z_metL (oR_ok g) (by decide) rfl (fun X C hr => ?_)
  show Zj X 6 (oR g) M 0 [(0, .ref (ax g 0)), (1, .long a1), (3, .int a3)] []
  unfold wp_R_tellsBus at hw
  refine z_aload_n C d_R_tellsBus_0 rfl 0 rfl ?_
  refine z_callVv C (As := []) (rest := []) m_R_lives tw_935 0 (le_R) rfl ⟨rfl, rfl⟩ (c_R_lives g hw) rfl rfl rfl d_R_tellsBus_1 (fun M1 hw => ?_)
  refine z_ldc2 C d_R_tellsBus_4 tw_1173 ?_
  refine z_lload_n C d_R_tellsBus_7 rfl 1 rfl ?_
  refine z_lmul C d_R_tellsBus_8 ?_
  refine z_aload_n C d_R_tellsBus_9 rfl 0 rfl ?_
  refine gf_R_37 C d_R_tellsBus_10 ?_
  refine z_iload_n C d_R_tellsBus_13 rfl 2 rfl ?_
  have hv3 := hw.1
  replace hw := hw.2
  refine z_al (zar_r10) C hv3 d_R_tellsBus_14 ?_
  refine z_i2l C d_R_tellsBus_15 ?_
  refine z_ladd C d_R_tellsBus_16 ?_
  obtain ⟨x4, hx4⟩ : ∃ z : Int64, z = (((31) * a1) + (Int32.toInt64 (M1 10 (tn a3)))) := ⟨_, rfl⟩
  rw [← hx4]
  replace hw := hw x4 hx4
  refine z_lstore (lv' := [(4, .long x4), (0, .ref (ax g 0)), (1, .long a1), (3, .int a3)]) C d_R_tellsBus_17 rfl rfl ?_
  refine z_ldc2 C d_R_tellsBus_19 tw_1173 ?_
  refine z_lload C d_R_tellsBus_22 0 rfl ?_
  refine z_lmul C d_R_tellsBus_24 ?_
  refine z_aload_n C d_R_tellsBus_25 rfl 1 rfl ?_
  refine gf_R_82 C d_R_tellsBus_26 ?_
  refine z_bipush (v := 72) C d_R_tellsBus_29 (by decide) ?_
  refine z_iload_n C d_R_tellsBus_31 rfl 3 rfl ?_
  refine z_iadd C d_R_tellsBus_32 ?_
  have hv5 := hw.1
  replace hw := hw.2
  refine z_al (zar_r25) C hv5 d_R_tellsBus_33 ?_
  refine z_i2l C d_R_tellsBus_34 ?_
  refine z_ladd C d_R_tellsBus_35 ?_
  obtain ⟨x6, hx6⟩ : ∃ z : Int64, z = (((31) * x4) + (Int32.toInt64 (M1 25 (tn (72 + a3))))) := ⟨_, rfl⟩
  rw [← hx6]
  replace hw := hw x6 hx6
  refine z_lstore (lv' := [(4, .long x6), (0, .ref (ax g 0)), (1, .long a1), (3, .int a3)]) C d_R_tellsBus_36 rfl rfl ?_
  refine z_ldc2 C d_R_tellsBus_38 tw_1173 ?_
  refine z_lload C d_R_tellsBus_41 0 rfl ?_
  refine z_lmul C d_R_tellsBus_43 ?_
  refine z_aload_n C d_R_tellsBus_44 rfl 1 rfl ?_
  refine gf_R_64 C d_R_tellsBus_45 ?_
  refine z_iload_n C d_R_tellsBus_48 rfl 3 rfl ?_
  refine z_al (zar_r19) C hv3 d_R_tellsBus_49 ?_
  refine z_i2l C d_R_tellsBus_50 ?_
  refine z_ladd C d_R_tellsBus_51 ?_
  obtain ⟨x7, hx7⟩ : ∃ z : Int64, z = (((31) * x6) + (Int32.toInt64 (M1 19 (tn a3)))) := ⟨_, rfl⟩
  rw [← hx7]
  replace hw := hw x7 hx7
  refine z_lstore (lv' := [(4, .long x7), (0, .ref (ax g 0)), (1, .long a1), (3, .int a3)]) C d_R_tellsBus_52 rfl rfl ?_
  refine z_ldc2 C d_R_tellsBus_54 tw_1173 ?_
  refine z_lload C d_R_tellsBus_57 0 rfl ?_
  refine z_lmul C d_R_tellsBus_59 ?_
  refine z_aload_n C d_R_tellsBus_60 rfl 1 rfl ?_
  refine gf_R_67 C d_R_tellsBus_61 ?_
  refine z_iload_n C d_R_tellsBus_64 rfl 3 rfl ?_
  refine z_al (zar_r20) C hv3 d_R_tellsBus_65 ?_
  refine z_i2l C d_R_tellsBus_66 ?_
  refine z_ladd C d_R_tellsBus_67 ?_
  obtain ⟨x8, hx8⟩ : ∃ z : Int64, z = (((31) * x7) + (Int32.toInt64 (M1 20 (tn a3)))) := ⟨_, rfl⟩
  rw [← hx8]
  replace hw := hw x8 hx8
  refine z_lstore (lv' := [(4, .long x8), (0, .ref (ax g 0)), (1, .long a1), (3, .int a3)]) C d_R_tellsBus_68 rfl rfl ?_
  refine z_ldc2 C d_R_tellsBus_70 tw_1173 ?_
  refine z_lload C d_R_tellsBus_73 0 rfl ?_
  refine z_lmul C d_R_tellsBus_75 ?_
  refine z_aload_n C d_R_tellsBus_76 rfl 1 rfl ?_
  refine z_iload_n C d_R_tellsBus_77 rfl 3 rfl ?_
  refine z_iconst (v := 0) C d_R_tellsBus_78 (by decide) ?_
  refine z_callVi C (As := [.int a3, .int 0]) (rest := [.long ((31) * x8)]) m_R_startOf tw_1060 0 (le_R) rfl ⟨rfl, rfl⟩ (c_R_startOf g hw) rfl rfl rfl d_R_tellsBus_79 (fun r10 M9 hw => ?_)
  refine z_i2l C d_R_tellsBus_82 ?_
  refine z_ladd C d_R_tellsBus_83 ?_
  obtain ⟨x11, hx11⟩ : ∃ z : Int64, z = (((31) * x8) + (Int32.toInt64 r10)) := ⟨_, rfl⟩
  rw [← hx11]
  replace hw := hw x11 hx11
  refine z_lstore (lv' := [(4, .long x11), (0, .ref (ax g 0)), (1, .long a1), (3, .int a3)]) C d_R_tellsBus_84 rfl rfl ?_
  refine z_ldc2 C d_R_tellsBus_86 tw_1173 ?_
  refine z_lload C d_R_tellsBus_89 0 rfl ?_
  refine z_lmul C d_R_tellsBus_91 ?_
  refine z_aload_n C d_R_tellsBus_92 rfl 1 rfl ?_
  refine z_iload_n C d_R_tellsBus_93 rfl 3 rfl ?_
  refine z_iconst (v := 1) C d_R_tellsBus_94 (by decide) ?_
  refine z_callVi C (As := [.int a3, .int 1]) (rest := [.long ((31) * x11)]) m_R_startOf tw_1060 0 (le_R) rfl ⟨rfl, rfl⟩ (c_R_startOf g hw) rfl rfl rfl d_R_tellsBus_95 (fun r13 M12 hw => ?_)
  refine z_i2l C d_R_tellsBus_98 ?_
  refine z_ladd C d_R_tellsBus_99 ?_
  obtain ⟨x14, hx14⟩ : ∃ z : Int64, z = (((31) * x11) + (Int32.toInt64 r13)) := ⟨_, rfl⟩
  rw [← hx14]
  replace hw := hw x14 hx14
  refine z_lstore (lv' := [(4, .long x14), (0, .ref (ax g 0)), (1, .long a1), (3, .int a3)]) C d_R_tellsBus_100 rfl rfl ?_
  refine z_ldc2 C d_R_tellsBus_102 tw_1173 ?_
  refine z_lload C d_R_tellsBus_105 0 rfl ?_
  refine z_lmul C d_R_tellsBus_107 ?_
  refine z_aload_n C d_R_tellsBus_108 rfl 1 rfl ?_
  refine z_iconst (v := 5) C d_R_tellsBus_109 (by decide) ?_
  refine z_iload_n C d_R_tellsBus_110 rfl 3 rfl ?_
  refine z_iconst (v := 0) C d_R_tellsBus_111 (by decide) ?_
  refine z_callVl C (As := [.int 5, .int a3, .int 0]) (rest := [.long ((31) * x14)]) m_R_chanceOf tw_1135 0 (le_R) rfl ⟨rfl, rfl⟩ (c_R_chanceOf g hw) rfl rfl rfl d_R_tellsBus_112 (fun r16 M15 hw => ?_)
  refine z_ladd C d_R_tellsBus_115 ?_
  obtain ⟨x17, hx17⟩ : ∃ z : Int64, z = (((31) * x14) + r16) := ⟨_, rfl⟩
  rw [← hx17]
  replace hw := hw x17 hx17
  refine z_lstore (lv' := [(4, .long x17), (0, .ref (ax g 0)), (1, .long a1), (3, .int a3)]) C d_R_tellsBus_116 rfl rfl ?_
  refine z_ldc2 C d_R_tellsBus_118 tw_1173 ?_
  refine z_lload C d_R_tellsBus_121 0 rfl ?_
  refine z_lmul C d_R_tellsBus_123 ?_
  refine z_aload_n C d_R_tellsBus_124 rfl 1 rfl ?_
  refine z_iconst (v := 5) C d_R_tellsBus_125 (by decide) ?_
  refine z_iload_n C d_R_tellsBus_126 rfl 3 rfl ?_
  refine z_iconst (v := 1) C d_R_tellsBus_127 (by decide) ?_
  refine z_callVl C (As := [.int 5, .int a3, .int 1]) (rest := [.long ((31) * x17)]) m_R_chanceOf tw_1135 0 (le_R) rfl ⟨rfl, rfl⟩ (c_R_chanceOf g hw) rfl rfl rfl d_R_tellsBus_128 (fun r19 M18 hw => ?_)
  refine z_ladd C d_R_tellsBus_131 ?_
  exact z_lret C hr hw d_R_tellsBus_132
theorem d_R_spare_0 : decode prog_8_method_79_code 0 = .ok (.aload_n 0, 1) := by decide +kernel
theorem d_R_spare_1 : decode prog_8_method_79_code 1 = .ok (.invokevirtual 228, 3) := by decide +kernel
theorem d_R_spare_4 : decode prog_8_method_79_code 4 = .ok (.iload_n 1, 1) := by decide +kernel
theorem d_R_spare_5 : decode prog_8_method_79_code 5 = .ok (.i2l, 1) := by decide +kernel
theorem d_R_spare_6 : decode prog_8_method_79_code 6 = .ok (.ldc2_w 274, 3) := by decide +kernel
theorem d_R_spare_9 : decode prog_8_method_79_code 9 = .ok (.lconst 1, 1) := by decide +kernel
theorem d_R_spare_10 : decode prog_8_method_79_code 10 = .ok (.invokestatic 97, 3) := by decide +kernel
theorem d_R_spare_13 : decode prog_8_method_79_code 13 = .ok (.ifCond .eq (11), 3) := by decide +kernel
theorem d_R_spare_16 : decode prog_8_method_79_code 16 = .ok (.aload_n 0, 1) := by decide +kernel
theorem d_R_spare_17 : decode prog_8_method_79_code 17 = .ok (.iload_n 1, 1) := by decide +kernel
theorem d_R_spare_18 : decode prog_8_method_79_code 18 = .ok (.invokevirtual 276, 3) := by decide +kernel
theorem d_R_spare_21 : decode prog_8_method_79_code 21 = .ok (.goto (5), 3) := by decide +kernel
theorem d_R_spare_24 : decode prog_8_method_79_code 24 = .ok (.bipush (-2), 2) := by decide +kernel
theorem d_R_spare_26 : decode prog_8_method_79_code 26 = .ok (.ireturn, 1) := by decide +kernel
def wp_R_spare (a1 : Int32) (M : Mem) (post : Int32 → Mem → Prop) : Prop :=
  wp_R_find M (fun M1 => ((((pf_R_in (Int32.toInt64 a1) (-1) 1) = 0) → post (-2) M1) ∧ (¬ ((pf_R_in (Int32.toInt64 a1) (-1) 1) = 0) → wp_R_spareBy a1 M1 (fun r6 M5 => post r6 M5))))
set_option maxHeartbeats 4000000 in
set_option maxRecDepth 100000 in
theorem c_R_spare (g : GX) {a1 : Int32} {M : Mem} {post : Int32 → Mem → Prop} (hw : wp_R_spare a1 M post) : CtI (oR g) y_R_spare prog_8_method_79_code 2 (some .int) (rl 7) [.ref (ax g 0), .int a1] M post := by
  refine z_metI (oR_ok g) (by decide) rfl (fun X C hr => ?_)
  show Zj X 2 (oR g) M 0 [(0, .ref (ax g 0)), (1, .int a1)] []
  unfold wp_R_spare at hw
  refine z_aload_n C d_R_spare_0 rfl 0 rfl ?_
  refine z_callVv C (As := []) (rest := []) m_R_find tw_931 0 (le_R) rfl ⟨rfl, rfl⟩ (c_R_find g hw) rfl rfl rfl d_R_spare_1 (fun M1 hw => ?_)
  refine z_iload_n C d_R_spare_4 rfl 1 rfl ?_
  refine z_i2l C d_R_spare_5 ?_
  refine z_ldc2 C d_R_spare_6 tw_1068 ?_
  refine z_lconst (v := 1) C d_R_spare_9 (by decide) ?_
  refine z_callSi C (As := [.long (Int32.toInt64 a1), .long (-1), .long 1]) (rest := []) m_R_in tw_786 ⟨rfl, rfl⟩ (c_R_in (oR_ok g) _ _ _ _) rfl rfl rfl d_R_spare_10 (fun r M2 hq => ?_)
  obtain ⟨rfl, rfl⟩ := hq
  refine z_if_eq C 24 d_R_spare_13 (by decide) (fun h4 => ?_) (fun h4 => ?_)
  · replace hw := hw.1 h4
    refine z_bipush (v := (-2)) C d_R_spare_24 (by decide) ?_
    exact z_iret C hr hw d_R_spare_26
  · replace hw := hw.2 h4
    refine z_aload_n C d_R_spare_16 rfl 0 rfl ?_
    refine z_iload_n C d_R_spare_17 rfl 1 rfl ?_
    refine z_callVi C (As := [.int a1]) (rest := []) m_R_spareBy tw_1069 0 (le_R) rfl ⟨rfl, rfl⟩ (c_R_spareBy g hw) rfl rfl rfl d_R_spare_18 (fun r6 M5 hw => ?_)
    refine z_goto C 26 d_R_spare_21 (by decide) ?_
    exact z_iret C hr hw d_R_spare_26
theorem d_R_never_0 : decode prog_8_method_84_code 0 = .ok (.aload_n 0, 1) := by decide +kernel
theorem d_R_never_1 : decode prog_8_method_84_code 1 = .ok (.invokevirtual 228, 3) := by decide +kernel
theorem d_R_never_4 : decode prog_8_method_84_code 4 = .ok (.aload_n 0, 1) := by decide +kernel
theorem d_R_never_5 : decode prog_8_method_84_code 5 = .ok (.invokevirtual 288, 3) := by decide +kernel
theorem d_R_never_8 : decode prog_8_method_84_code 8 = .ok (.ireturn, 1) := by decide +kernel
def wp_R_never (M : Mem) (post : Int32 → Mem → Prop) : Prop :=
  wp_R_find M (fun M1 => wp_R_neverNow M1 (fun r4 M3 => post r4 M3))
set_option maxHeartbeats 4000000 in
set_option maxRecDepth 100000 in
theorem c_R_never (g : GX) {M : Mem} {post : Int32 → Mem → Prop} (hw : wp_R_never M post) : CtI (oR g) y_R_never prog_8_method_84_code 1 (some .int) (rl 7) [.ref (ax g 0)] M post := by
  refine z_metI (oR_ok g) (by decide) rfl (fun X C hr => ?_)
  show Zj X 1 (oR g) M 0 [(0, .ref (ax g 0))] []
  unfold wp_R_never at hw
  refine z_aload_n C d_R_never_0 rfl 0 rfl ?_
  refine z_callVv C (As := []) (rest := []) m_R_find tw_931 0 (le_R) rfl ⟨rfl, rfl⟩ (c_R_find g hw) rfl rfl rfl d_R_never_1 (fun M1 hw => ?_)
  refine z_aload_n C d_R_never_4 rfl 0 rfl ?_
  refine z_callVi C (As := []) (rest := []) m_R_neverNow tw_1090 0 (le_R) rfl ⟨rfl, rfl⟩ (c_R_neverNow g hw) rfl rfl rfl d_R_never_5 (fun r4 M3 hw => ?_)
  exact z_iret C hr hw d_R_never_8
theorem d_R_strengths_0 : decode prog_8_method_86_code 0 = .ok (.aload_n 0, 1) := by decide +kernel
theorem d_R_strengths_1 : decode prog_8_method_86_code 1 = .ok (.invokevirtual 228, 3) := by decide +kernel
theorem d_R_strengths_4 : decode prog_8_method_86_code 4 = .ok (.aload_n 0, 1) := by decide +kernel
theorem d_R_strengths_5 : decode prog_8_method_86_code 5 = .ok (.iload_n 1, 1) := by decide +kernel
theorem d_R_strengths_6 : decode prog_8_method_86_code 6 = .ok (.invokevirtual 181, 3) := by decide +kernel
theorem d_R_strengths_9 : decode prog_8_method_86_code 9 = .ok (.ifCond .eq (11), 3) := by decide +kernel
theorem d_R_strengths_12 : decode prog_8_method_86_code 12 = .ok (.aload_n 0, 1) := by decide +kernel
theorem d_R_strengths_13 : decode prog_8_method_86_code 13 = .ok (.iload_n 1, 1) := by decide +kernel
theorem d_R_strengths_14 : decode prog_8_method_86_code 14 = .ok (.invokevirtual 291, 3) := by decide +kernel
theorem d_R_strengths_17 : decode prog_8_method_86_code 17 = .ok (.goto (5), 3) := by decide +kernel
theorem d_R_strengths_20 : decode prog_8_method_86_code 20 = .ok (.bipush (-2), 2) := by decide +kernel
theorem d_R_strengths_22 : decode prog_8_method_86_code 22 = .ok (.ireturn, 1) := by decide +kernel
def wp_R_strengths (a1 : Int32) (M : Mem) (post : Int32 → Mem → Prop) : Prop :=
  wp_R_find M (fun M1 => wp_R_isPlough a1 M1 (fun r3 => (((r3 = 0) → post (-2) M1) ∧ (¬ (r3 = 0) → wp_R_strengthsOf a1 M1 (fun r6 M5 => post r6 M5)))))
set_option maxHeartbeats 4000000 in
set_option maxRecDepth 100000 in
theorem c_R_strengths (g : GX) {a1 : Int32} {M : Mem} {post : Int32 → Mem → Prop} (hw : wp_R_strengths a1 M post) : CtI (oR g) y_R_strengths prog_8_method_86_code 2 (some .int) (rl 7) [.ref (ax g 0), .int a1] M post := by
  refine z_metI (oR_ok g) (by decide) rfl (fun X C hr => ?_)
  show Zj X 2 (oR g) M 0 [(0, .ref (ax g 0)), (1, .int a1)] []
  unfold wp_R_strengths at hw
  refine z_aload_n C d_R_strengths_0 rfl 0 rfl ?_
  refine z_callVv C (As := []) (rest := []) m_R_find tw_931 0 (le_R) rfl ⟨rfl, rfl⟩ (c_R_find g hw) rfl rfl rfl d_R_strengths_1 (fun M1 hw => ?_)
  refine z_aload_n C d_R_strengths_4 rfl 0 rfl ?_
  refine z_iload_n C d_R_strengths_5 rfl 1 rfl ?_
  refine z_callVi C (As := [.int a1]) (rest := []) m_R_isPlough tw_897 0 (le_R) rfl ⟨rfl, rfl⟩ (c_R_isPlough g hw) rfl rfl rfl d_R_strengths_6 (fun r3 M2 hq => ?_)
  obtain ⟨rfl, hw⟩ := hq
  refine z_if_eq C 20 d_R_strengths_9 (by decide) (fun h4 => ?_) (fun h4 => ?_)
  · replace hw := hw.1 h4
    refine z_bipush (v := (-2)) C d_R_strengths_20 (by decide) ?_
    exact z_iret C hr hw d_R_strengths_22
  · replace hw := hw.2 h4
    refine z_aload_n C d_R_strengths_12 rfl 0 rfl ?_
    refine z_iload_n C d_R_strengths_13 rfl 1 rfl ?_
    refine z_callVi C (As := [.int a1]) (rest := []) m_R_strengthsOf tw_1102 0 (le_R) rfl ⟨rfl, rfl⟩ (c_R_strengthsOf g hw) rfl rfl rfl d_R_strengths_14 (fun r6 M5 hw => ?_)
    refine z_goto C 22 d_R_strengths_17 (by decide) ?_
    exact z_iret C hr hw d_R_strengths_22
theorem d_R_lie_0 : decode prog_8_method_88_code 0 = .ok (.aload_n 0, 1) := by decide +kernel
theorem d_R_lie_1 : decode prog_8_method_88_code 1 = .ok (.invokevirtual 228, 3) := by decide +kernel
theorem d_R_lie_4 : decode prog_8_method_88_code 4 = .ok (.iload_n 1, 1) := by decide +kernel
theorem d_R_lie_5 : decode prog_8_method_88_code 5 = .ok (.invokestatic 175, 3) := by decide +kernel
theorem d_R_lie_8 : decode prog_8_method_88_code 8 = .ok (.ifCond .eq (11), 3) := by decide +kernel
theorem d_R_lie_11 : decode prog_8_method_88_code 11 = .ok (.aload_n 0, 1) := by decide +kernel
theorem d_R_lie_12 : decode prog_8_method_88_code 12 = .ok (.iload_n 1, 1) := by decide +kernel
theorem d_R_lie_13 : decode prog_8_method_88_code 13 = .ok (.invokevirtual 294, 3) := by decide +kernel
theorem d_R_lie_16 : decode prog_8_method_88_code 16 = .ok (.goto (5), 3) := by decide +kernel
theorem d_R_lie_19 : decode prog_8_method_88_code 19 = .ok (.bipush (-2), 2) := by decide +kernel
theorem d_R_lie_21 : decode prog_8_method_88_code 21 = .ok (.ireturn, 1) := by decide +kernel
def wp_R_lie (a1 : Int32) (M : Mem) (post : Int32 → Mem → Prop) : Prop :=
  wp_R_find M (fun M1 => ((((pf_R_isMile a1) = 0) → post (-2) M1) ∧ (¬ ((pf_R_isMile a1) = 0) → wp_R_lieOf a1 M1 (fun r6 M5 => post r6 M5))))
set_option maxHeartbeats 4000000 in
set_option maxRecDepth 100000 in
theorem c_R_lie (g : GX) {a1 : Int32} {M : Mem} {post : Int32 → Mem → Prop} (hw : wp_R_lie a1 M post) : CtI (oR g) y_R_lie prog_8_method_88_code 2 (some .int) (rl 7) [.ref (ax g 0), .int a1] M post := by
  refine z_metI (oR_ok g) (by decide) rfl (fun X C hr => ?_)
  show Zj X 2 (oR g) M 0 [(0, .ref (ax g 0)), (1, .int a1)] []
  unfold wp_R_lie at hw
  refine z_aload_n C d_R_lie_0 rfl 0 rfl ?_
  refine z_callVv C (As := []) (rest := []) m_R_find tw_931 0 (le_R) rfl ⟨rfl, rfl⟩ (c_R_find g hw) rfl rfl rfl d_R_lie_1 (fun M1 hw => ?_)
  refine z_iload_n C d_R_lie_4 rfl 1 rfl ?_
  refine z_callSi C (As := [.int a1]) (rest := []) m_R_isMile tw_881 ⟨rfl, rfl⟩ (c_R_isMile (oR_ok g) _ _) rfl rfl rfl d_R_lie_5 (fun r M2 hq => ?_)
  obtain ⟨rfl, rfl⟩ := hq
  refine z_if_eq C 19 d_R_lie_8 (by decide) (fun h4 => ?_) (fun h4 => ?_)
  · replace hw := hw.1 h4
    refine z_bipush (v := (-2)) C d_R_lie_19 (by decide) ?_
    exact z_iret C hr hw d_R_lie_21
  · replace hw := hw.2 h4
    refine z_aload_n C d_R_lie_11 rfl 0 rfl ?_
    refine z_iload_n C d_R_lie_12 rfl 1 rfl ?_
    refine z_callVi C (As := [.int a1]) (rest := []) m_R_lieOf tw_1110 0 (le_R) rfl ⟨rfl, rfl⟩ (c_R_lieOf g hw) rfl rfl rfl d_R_lie_13 (fun r6 M5 hw => ?_)
    refine z_goto C 21 d_R_lie_16 (by decide) ?_
    exact z_iret C hr hw d_R_lie_21
theorem d_R_askOf_0 : decode prog_8_method_91_code 0 = .ok (.aload_n 0, 1) := by decide +kernel
theorem d_R_askOf_1 : decode prog_8_method_91_code 1 = .ok (.iload_n 1, 1) := by decide +kernel
theorem d_R_askOf_2 : decode prog_8_method_91_code 2 = .ok (.invokevirtual 291, 3) := by decide +kernel
theorem d_R_askOf_5 : decode prog_8_method_91_code 5 = .ok (.istore_n 2, 1) := by decide +kernel
theorem d_R_askOf_6 : decode prog_8_method_91_code 6 = .ok (.iconst 0, 1) := by decide +kernel
theorem d_R_askOf_7 : decode prog_8_method_91_code 7 = .ok (.istore_n 3, 1) := by decide +kernel
theorem d_R_askOf_8 : decode prog_8_method_91_code 8 = .ok (.aload_n 0, 1) := by decide +kernel
theorem d_R_askOf_9 : decode prog_8_method_91_code 9 = .ok (.iload_n 2, 1) := by decide +kernel
theorem d_R_askOf_10 : decode prog_8_method_91_code 10 = .ok (.iconst 0, 1) := by decide +kernel
theorem d_R_askOf_11 : decode prog_8_method_91_code 11 = .ok (.invokevirtual 300, 3) := by decide +kernel
theorem d_R_askOf_14 : decode prog_8_method_91_code 14 = .ok (.istore 4, 2) := by decide +kernel
theorem d_R_askOf_16 : decode prog_8_method_91_code 16 = .ok (.iconst 1, 1) := by decide +kernel
theorem d_R_askOf_17 : decode prog_8_method_91_code 17 = .ok (.istore 5, 2) := by decide +kernel
theorem d_R_askOf_19 : decode prog_8_method_91_code 19 = .ok (.iload 5, 2) := by decide +kernel
theorem d_R_askOf_21 : decode prog_8_method_91_code 21 = .ok (.bipush 24, 2) := by decide +kernel
theorem d_R_askOf_23 : decode prog_8_method_91_code 23 = .ok (.if_icmp .ge (41), 3) := by decide +kernel
theorem d_R_askOf_26 : decode prog_8_method_91_code 26 = .ok (.aload_n 0, 1) := by decide +kernel
theorem d_R_askOf_27 : decode prog_8_method_91_code 27 = .ok (.iload_n 2, 1) := by decide +kernel
theorem d_R_askOf_28 : decode prog_8_method_91_code 28 = .ok (.iload 5, 2) := by decide +kernel
theorem d_R_askOf_30 : decode prog_8_method_91_code 30 = .ok (.invokevirtual 300, 3) := by decide +kernel
theorem d_R_askOf_33 : decode prog_8_method_91_code 33 = .ok (.istore 6, 2) := by decide +kernel
theorem d_R_askOf_35 : decode prog_8_method_91_code 35 = .ok (.iload 6, 2) := by decide +kernel
theorem d_R_askOf_37 : decode prog_8_method_91_code 37 = .ok (.iload 4, 2) := by decide +kernel
theorem d_R_askOf_39 : decode prog_8_method_91_code 39 = .ok (.if_icmp .ge (8), 3) := by decide +kernel
theorem d_R_askOf_42 : decode prog_8_method_91_code 42 = .ok (.iload 5, 2) := by decide +kernel
theorem d_R_askOf_44 : decode prog_8_method_91_code 44 = .ok (.goto (4), 3) := by decide +kernel
theorem d_R_askOf_47 : decode prog_8_method_91_code 47 = .ok (.iload_n 3, 1) := by decide +kernel
theorem d_R_askOf_48 : decode prog_8_method_91_code 48 = .ok (.istore_n 3, 1) := by decide +kernel
theorem d_R_askOf_49 : decode prog_8_method_91_code 49 = .ok (.iload 6, 2) := by decide +kernel
theorem d_R_askOf_51 : decode prog_8_method_91_code 51 = .ok (.iload 4, 2) := by decide +kernel
theorem d_R_askOf_53 : decode prog_8_method_91_code 53 = .ok (.invokestatic 205, 3) := by decide +kernel
theorem d_R_askOf_56 : decode prog_8_method_91_code 56 = .ok (.istore 4, 2) := by decide +kernel
theorem d_R_askOf_58 : decode prog_8_method_91_code 58 = .ok (.iinc 5 1, 3) := by decide +kernel
theorem d_R_askOf_61 : decode prog_8_method_91_code 61 = .ok (.goto (-42), 3) := by decide +kernel
theorem d_R_askOf_64 : decode prog_8_method_91_code 64 = .ok (.iload_n 3, 1) := by decide +kernel
theorem d_R_askOf_65 : decode prog_8_method_91_code 65 = .ok (.ireturn, 1) := by decide +kernel
def wp_R_askOf (a1 : Int32) (M : Mem) (post : Int32 → Mem → Prop) : Prop :=
  wp_R_strengthsOf a1 M (fun r2 M1 => wp_R_alike r2 0 M1 (fun r3 => (it3 (fun rec4 (i6 : Int32) (i7 : Int32) (i8 : Int32) => (((24 ≤ i8) → post i6 M1) ∧ (¬ (24 ≤ i8) → wp_R_alike r2 i8 M1 (fun r10 => ∀ u12 : Int32, u12 = (if i7 ≤ r10 then i6 else i8) → ∀ x14 : Int32, x14 = (pf_R_lesser r10 i7) → rec4 u12 x14 (i8 + 1))))) 4096 0 r3 1)))
set_option maxHeartbeats 4000000 in
set_option maxRecDepth 100000 in
theorem c_R_askOf (g : GX) {a1 : Int32} {M : Mem} {post : Int32 → Mem → Prop} (hw : wp_R_askOf a1 M post) : CtI (oR g) y_R_askOf prog_8_method_91_code 7 (some .int) (rl 7) [.ref (ax g 0), .int a1] M post := by
  refine z_metI (oR_ok g) (by decide) rfl (fun X C hr => ?_)
  show Zj X 7 (oR g) M 0 [(0, .ref (ax g 0)), (1, .int a1)] []
  unfold wp_R_askOf at hw
  refine z_aload_n C d_R_askOf_0 rfl 0 rfl ?_
  refine z_iload_n C d_R_askOf_1 rfl 1 rfl ?_
  refine z_callVi C (As := [.int a1]) (rest := []) m_R_strengthsOf tw_1102 0 (le_R) rfl ⟨rfl, rfl⟩ (c_R_strengthsOf g hw) rfl rfl rfl d_R_askOf_2 (fun r2 M1 hw => ?_)
  refine z_istore_n (lv' := [(2, .int r2), (0, .ref (ax g 0)), (1, .int a1)]) C d_R_askOf_5 rfl rfl rfl ?_
  refine z_iconst (v := 0) C d_R_askOf_6 (by decide) ?_
  refine z_istore_n (lv' := [(3, .int 0), (2, .int r2), (0, .ref (ax g 0)), (1, .int a1)]) C d_R_askOf_7 rfl rfl rfl ?_
  refine z_aload_n C d_R_askOf_8 rfl 2 rfl ?_
  refine z_iload_n C d_R_askOf_9 rfl 1 rfl ?_
  refine z_iconst (v := 0) C d_R_askOf_10 (by decide) ?_
  refine z_callVi C (As := [.int r2, .int 0]) (rest := []) m_R_alike tw_1122 0 (le_R) rfl ⟨rfl, rfl⟩ (c_R_alike g hw) rfl rfl rfl d_R_askOf_11 (fun r3 M2 hq => ?_)
  obtain ⟨rfl, hw⟩ := hq
  refine z_istore (lv' := [(4, .int r3), (3, .int 0), (2, .int r2), (0, .ref (ax g 0)), (1, .int a1)]) C d_R_askOf_14 rfl rfl ?_
  refine z_iconst (v := 1) C d_R_askOf_16 (by decide) ?_
  refine z_istore (lv' := [(5, .int 1), (4, .int r3), (3, .int 0), (2, .int r2), (0, .ref (ax g 0)), (1, .int a1)]) C d_R_askOf_17 rfl rfl ?_
  refine z_sub [4, 3, 2, 1, 0] rfl ?_
  refine it3_Z (Z := fun (i6 : Int32) (i7 : Int32) (i8 : Int32) => Zj X 7 (oR g) M1 19 [(0, .ref (ax g 0)), (2, .int r2), (3, .int i6), (4, .int i7), (5, .int i8)] []) (fun rec4 ih5 i6 i7 i8 hw => ?_) _ _ _ _ hw
  refine z_iload C d_R_askOf_19 4 rfl ?_
  refine z_bipush (v := 24) C d_R_askOf_21 (by decide) ?_
  refine z_ic_ge C 64 d_R_askOf_23 (by decide) (fun h9 => ?_) (fun h9 => ?_)
  · replace hw := hw.1 h9
    refine z_iload_n C d_R_askOf_64 rfl 2 rfl ?_
    exact z_iret C hr hw d_R_askOf_65
  · replace hw := hw.2 h9
    refine z_aload_n C d_R_askOf_26 rfl 0 rfl ?_
    refine z_iload_n C d_R_askOf_27 rfl 1 rfl ?_
    refine z_iload C d_R_askOf_28 4 rfl ?_
    refine z_callVi C (As := [.int r2, .int i8]) (rest := []) m_R_alike tw_1122 0 (le_R) rfl ⟨rfl, rfl⟩ (c_R_alike g hw) rfl rfl rfl d_R_askOf_30 (fun r10 M2 hq => ?_)
    obtain ⟨rfl, hw⟩ := hq
    refine z_istore (lv' := [(6, .int r10), (0, .ref (ax g 0)), (2, .int r2), (3, .int i6), (4, .int i7), (5, .int i8)]) C d_R_askOf_33 rfl rfl ?_
    refine z_iload C d_R_askOf_35 0 rfl ?_
    refine z_iload C d_R_askOf_37 4 rfl ?_
    have hj15 : ∀ u12 : Int32, u12 = (if i7 ≤ r10 then i6 else i8) → Zj X 7 (oR g) M1 48 [(0, .ref (ax g 0)), (2, .int r2), (4, .int i7), (5, .int i8), (6, .int r10)] [.int u12] := by
      intro u12 hu12
      replace hw := hw u12 hu12
      refine z_istore_n (lv' := [(3, .int u12), (0, .ref (ax g 0)), (2, .int r2), (4, .int i7), (5, .int i8), (6, .int r10)]) C d_R_askOf_48 rfl rfl rfl ?_
      refine z_iload C d_R_askOf_49 5 rfl ?_
      refine z_iload C d_R_askOf_51 3 rfl ?_
      refine z_callSi C (As := [.int r10, .int i7]) (rest := []) m_R_lesser tw_954 ⟨rfl, rfl⟩ (c_R_lesser (oR_ok g) _ _ _) rfl rfl rfl d_R_askOf_53 (fun r M2 hq => ?_)
      obtain ⟨rfl, rfl⟩ := hq
      obtain ⟨x14, hx14⟩ : ∃ z : Int32, z = (pf_R_lesser r10 i7) := ⟨_, rfl⟩
      rw [← hx14]
      replace hw := hw x14 hx14
      refine z_istore (lv' := [(4, .int x14), (3, .int u12), (0, .ref (ax g 0)), (2, .int r2), (5, .int i8), (6, .int r10)]) C d_R_askOf_56 rfl rfl ?_
      refine z_iinc (v := (i8 + 1)) (lv' := [(5, .int (i8 + 1)), (4, .int x14), (3, .int u12), (0, .ref (ax g 0)), (2, .int r2), (6, .int r10)]) C d_R_askOf_58 4 rfl rfl rfl rfl ?_
      refine z_goto C 19 d_R_askOf_61 (by decide) ?_
      refine z_sub [3, 4, 2, 1, 0] rfl ?_
      exact ih5 _ _ _ hw
    refine z_ic_ge C 47 d_R_askOf_39 (by decide) (fun h11 => ?_) (fun h11 => ?_)
    · refine z_iload_n C d_R_askOf_47 rfl 3 rfl ?_
      refine z_sub [1, 2, 4, 5, 0] rfl ?_
      exact hj15 _ ((if_pos h11)).symm
    · refine z_iload C d_R_askOf_42 5 rfl ?_
      refine z_goto C 48 d_R_askOf_44 (by decide) ?_
      refine z_sub [1, 2, 4, 5, 0] rfl ?_
      exact hj15 _ ((if_neg h11)).symm
theorem d_R_ask_0 : decode prog_8_method_92_code 0 = .ok (.aload_n 0, 1) := by decide +kernel
theorem d_R_ask_1 : decode prog_8_method_92_code 1 = .ok (.invokevirtual 228, 3) := by decide +kernel
theorem d_R_ask_4 : decode prog_8_method_92_code 4 = .ok (.aload_n 0, 1) := by decide +kernel
theorem d_R_ask_5 : decode prog_8_method_92_code 5 = .ok (.iload_n 1, 1) := by decide +kernel
theorem d_R_ask_6 : decode prog_8_method_92_code 6 = .ok (.invokevirtual 181, 3) := by decide +kernel
theorem d_R_ask_9 : decode prog_8_method_92_code 9 = .ok (.ifCond .eq (11), 3) := by decide +kernel
theorem d_R_ask_12 : decode prog_8_method_92_code 12 = .ok (.aload_n 0, 1) := by decide +kernel
theorem d_R_ask_13 : decode prog_8_method_92_code 13 = .ok (.iload_n 1, 1) := by decide +kernel
theorem d_R_ask_14 : decode prog_8_method_92_code 14 = .ok (.invokevirtual 303, 3) := by decide +kernel
theorem d_R_ask_17 : decode prog_8_method_92_code 17 = .ok (.goto (5), 3) := by decide +kernel
theorem d_R_ask_20 : decode prog_8_method_92_code 20 = .ok (.bipush (-2), 2) := by decide +kernel
theorem d_R_ask_22 : decode prog_8_method_92_code 22 = .ok (.ireturn, 1) := by decide +kernel
def wp_R_ask (a1 : Int32) (M : Mem) (post : Int32 → Mem → Prop) : Prop :=
  wp_R_find M (fun M1 => wp_R_isPlough a1 M1 (fun r3 => (((r3 = 0) → post (-2) M1) ∧ (¬ (r3 = 0) → wp_R_askOf a1 M1 (fun r6 M5 => post r6 M5)))))
set_option maxHeartbeats 4000000 in
set_option maxRecDepth 100000 in
theorem c_R_ask (g : GX) {a1 : Int32} {M : Mem} {post : Int32 → Mem → Prop} (hw : wp_R_ask a1 M post) : CtI (oR g) y_R_ask prog_8_method_92_code 2 (some .int) (rl 8) [.ref (ax g 0), .int a1] M post := by
  refine z_metI (oR_ok g) (by decide) rfl (fun X C hr => ?_)
  show Zj X 2 (oR g) M 0 [(0, .ref (ax g 0)), (1, .int a1)] []
  unfold wp_R_ask at hw
  refine z_aload_n C d_R_ask_0 rfl 0 rfl ?_
  refine z_callVv C (As := []) (rest := []) m_R_find tw_931 0 (le_R) rfl ⟨rfl, rfl⟩ (c_R_find g hw) rfl rfl rfl d_R_ask_1 (fun M1 hw => ?_)
  refine z_aload_n C d_R_ask_4 rfl 0 rfl ?_
  refine z_iload_n C d_R_ask_5 rfl 1 rfl ?_
  refine z_callVi C (As := [.int a1]) (rest := []) m_R_isPlough tw_897 0 (le_R) rfl ⟨rfl, rfl⟩ (c_R_isPlough g hw) rfl rfl rfl d_R_ask_6 (fun r3 M2 hq => ?_)
  obtain ⟨rfl, hw⟩ := hq
  refine z_if_eq C 20 d_R_ask_9 (by decide) (fun h4 => ?_) (fun h4 => ?_)
  · replace hw := hw.1 h4
    refine z_bipush (v := (-2)) C d_R_ask_20 (by decide) ?_
    exact z_iret C hr hw d_R_ask_22
  · replace hw := hw.2 h4
    refine z_aload_n C d_R_ask_12 rfl 0 rfl ?_
    refine z_iload_n C d_R_ask_13 rfl 1 rfl ?_
    refine z_callVi C (As := [.int a1]) (rest := []) m_R_askOf tw_1118 0 (le_R) rfl ⟨rfl, rfl⟩ (c_R_askOf g hw) rfl rfl rfl d_R_ask_14 (fun r6 M5 hw => ?_)
    refine z_goto C 22 d_R_ask_17 (by decide) ?_
    exact z_iret C hr hw d_R_ask_22
theorem d_R_tellsPlough_0 : decode prog_8_method_101_code 0 = .ok (.aload_n 0, 1) := by decide +kernel
theorem d_R_tellsPlough_1 : decode prog_8_method_101_code 1 = .ok (.invokevirtual 225, 3) := by decide +kernel
theorem d_R_tellsPlough_4 : decode prog_8_method_101_code 4 = .ok (.lload_n 1, 1) := by decide +kernel
theorem d_R_tellsPlough_5 : decode prog_8_method_101_code 5 = .ok (.lstore 4, 2) := by decide +kernel
theorem d_R_tellsPlough_7 : decode prog_8_method_101_code 7 = .ok (.iconst 0, 1) := by decide +kernel
theorem d_R_tellsPlough_8 : decode prog_8_method_101_code 8 = .ok (.istore 6, 2) := by decide +kernel
theorem d_R_tellsPlough_10 : decode prog_8_method_101_code 10 = .ok (.iload 6, 2) := by decide +kernel
theorem d_R_tellsPlough_12 : decode prog_8_method_101_code 12 = .ok (.iconst 3, 1) := by decide +kernel
theorem d_R_tellsPlough_13 : decode prog_8_method_101_code 13 = .ok (.if_icmp .ge (30), 3) := by decide +kernel
theorem d_R_tellsPlough_16 : decode prog_8_method_101_code 16 = .ok (.ldc2_w 332, 3) := by decide +kernel
theorem d_R_tellsPlough_19 : decode prog_8_method_101_code 19 = .ok (.lload 4, 2) := by decide +kernel
theorem d_R_tellsPlough_21 : decode prog_8_method_101_code 21 = .ok (.lmul, 1) := by decide +kernel
theorem d_R_tellsPlough_22 : decode prog_8_method_101_code 22 = .ok (.aload_n 0, 1) := by decide +kernel
theorem d_R_tellsPlough_23 : decode prog_8_method_101_code 23 = .ok (.getfield 34, 3) := by decide +kernel
theorem d_R_tellsPlough_26 : decode prog_8_method_101_code 26 = .ok (.iconst 3, 1) := by decide +kernel
theorem d_R_tellsPlough_27 : decode prog_8_method_101_code 27 = .ok (.iload_n 3, 1) := by decide +kernel
theorem d_R_tellsPlough_28 : decode prog_8_method_101_code 28 = .ok (.imul, 1) := by decide +kernel
theorem d_R_tellsPlough_29 : decode prog_8_method_101_code 29 = .ok (.iload 6, 2) := by decide +kernel
theorem d_R_tellsPlough_31 : decode prog_8_method_101_code 31 = .ok (.iadd, 1) := by decide +kernel
theorem d_R_tellsPlough_32 : decode prog_8_method_101_code 32 = .ok (.iaload, 1) := by decide +kernel
theorem d_R_tellsPlough_33 : decode prog_8_method_101_code 33 = .ok (.i2l, 1) := by decide +kernel
theorem d_R_tellsPlough_34 : decode prog_8_method_101_code 34 = .ok (.ladd, 1) := by decide +kernel
theorem d_R_tellsPlough_35 : decode prog_8_method_101_code 35 = .ok (.lstore 4, 2) := by decide +kernel
theorem d_R_tellsPlough_37 : decode prog_8_method_101_code 37 = .ok (.iinc 6 1, 3) := by decide +kernel
theorem d_R_tellsPlough_40 : decode prog_8_method_101_code 40 = .ok (.goto (-30), 3) := by decide +kernel
theorem d_R_tellsPlough_43 : decode prog_8_method_101_code 43 = .ok (.aload_n 0, 1) := by decide +kernel
theorem d_R_tellsPlough_44 : decode prog_8_method_101_code 44 = .ok (.aload_n 0, 1) := by decide +kernel
theorem d_R_tellsPlough_45 : decode prog_8_method_101_code 45 = .ok (.aload_n 0, 1) := by decide +kernel
theorem d_R_tellsPlough_46 : decode prog_8_method_101_code 46 = .ok (.lload 4, 2) := by decide +kernel
theorem d_R_tellsPlough_48 : decode prog_8_method_101_code 48 = .ok (.iconst 0, 1) := by decide +kernel
theorem d_R_tellsPlough_49 : decode prog_8_method_101_code 49 = .ok (.iload_n 3, 1) := by decide +kernel
theorem d_R_tellsPlough_50 : decode prog_8_method_101_code 50 = .ok (.invokevirtual 334, 3) := by decide +kernel
theorem d_R_tellsPlough_53 : decode prog_8_method_101_code 53 = .ok (.iconst 5, 1) := by decide +kernel
theorem d_R_tellsPlough_54 : decode prog_8_method_101_code 54 = .ok (.iload_n 3, 1) := by decide +kernel
theorem d_R_tellsPlough_55 : decode prog_8_method_101_code 55 = .ok (.invokevirtual 334, 3) := by decide +kernel
theorem d_R_tellsPlough_58 : decode prog_8_method_101_code 58 = .ok (.bipush 14, 2) := by decide +kernel
theorem d_R_tellsPlough_60 : decode prog_8_method_101_code 60 = .ok (.iload_n 3, 1) := by decide +kernel
theorem d_R_tellsPlough_61 : decode prog_8_method_101_code 61 = .ok (.invokevirtual 334, 3) := by decide +kernel
theorem d_R_tellsPlough_64 : decode prog_8_method_101_code 64 = .ok (.lstore 4, 2) := by decide +kernel
theorem d_R_tellsPlough_66 : decode prog_8_method_101_code 66 = .ok (.ldc2_w 332, 3) := by decide +kernel
theorem d_R_tellsPlough_69 : decode prog_8_method_101_code 69 = .ok (.lload 4, 2) := by decide +kernel
theorem d_R_tellsPlough_71 : decode prog_8_method_101_code 71 = .ok (.lmul, 1) := by decide +kernel
theorem d_R_tellsPlough_72 : decode prog_8_method_101_code 72 = .ok (.aload_n 0, 1) := by decide +kernel
theorem d_R_tellsPlough_73 : decode prog_8_method_101_code 73 = .ok (.getfield 55, 3) := by decide +kernel
theorem d_R_tellsPlough_76 : decode prog_8_method_101_code 76 = .ok (.iload_n 3, 1) := by decide +kernel
theorem d_R_tellsPlough_77 : decode prog_8_method_101_code 77 = .ok (.iaload, 1) := by decide +kernel
theorem d_R_tellsPlough_78 : decode prog_8_method_101_code 78 = .ok (.i2l, 1) := by decide +kernel
theorem d_R_tellsPlough_79 : decode prog_8_method_101_code 79 = .ok (.ladd, 1) := by decide +kernel
theorem d_R_tellsPlough_80 : decode prog_8_method_101_code 80 = .ok (.lstore 4, 2) := by decide +kernel
theorem d_R_tellsPlough_82 : decode prog_8_method_101_code 82 = .ok (.ldc2_w 332, 3) := by decide +kernel
theorem d_R_tellsPlough_85 : decode prog_8_method_101_code 85 = .ok (.lload 4, 2) := by decide +kernel
theorem d_R_tellsPlough_87 : decode prog_8_method_101_code 87 = .ok (.lmul, 1) := by decide +kernel
theorem d_R_tellsPlough_88 : decode prog_8_method_101_code 88 = .ok (.aload_n 0, 1) := by decide +kernel
theorem d_R_tellsPlough_89 : decode prog_8_method_101_code 89 = .ok (.getfield 58, 3) := by decide +kernel
theorem d_R_tellsPlough_92 : decode prog_8_method_101_code 92 = .ok (.iload_n 3, 1) := by decide +kernel
theorem d_R_tellsPlough_93 : decode prog_8_method_101_code 93 = .ok (.iaload, 1) := by decide +kernel
theorem d_R_tellsPlough_94 : decode prog_8_method_101_code 94 = .ok (.i2l, 1) := by decide +kernel
theorem d_R_tellsPlough_95 : decode prog_8_method_101_code 95 = .ok (.ladd, 1) := by decide +kernel
theorem d_R_tellsPlough_96 : decode prog_8_method_101_code 96 = .ok (.lstore 4, 2) := by decide +kernel
theorem d_R_tellsPlough_98 : decode prog_8_method_101_code 98 = .ok (.ldc2_w 332, 3) := by decide +kernel
theorem d_R_tellsPlough_101 : decode prog_8_method_101_code 101 = .ok (.lload 4, 2) := by decide +kernel
theorem d_R_tellsPlough_103 : decode prog_8_method_101_code 103 = .ok (.lmul, 1) := by decide +kernel
theorem d_R_tellsPlough_104 : decode prog_8_method_101_code 104 = .ok (.aload_n 0, 1) := by decide +kernel
theorem d_R_tellsPlough_105 : decode prog_8_method_101_code 105 = .ok (.iload_n 3, 1) := by decide +kernel
theorem d_R_tellsPlough_106 : decode prog_8_method_101_code 106 = .ok (.iconst 0, 1) := by decide +kernel
theorem d_R_tellsPlough_107 : decode prog_8_method_101_code 107 = .ok (.invokevirtual 261, 3) := by decide +kernel
theorem d_R_tellsPlough_110 : decode prog_8_method_101_code 110 = .ok (.i2l, 1) := by decide +kernel
theorem d_R_tellsPlough_111 : decode prog_8_method_101_code 111 = .ok (.ladd, 1) := by decide +kernel
theorem d_R_tellsPlough_112 : decode prog_8_method_101_code 112 = .ok (.lstore 4, 2) := by decide +kernel
theorem d_R_tellsPlough_114 : decode prog_8_method_101_code 114 = .ok (.ldc2_w 332, 3) := by decide +kernel
theorem d_R_tellsPlough_117 : decode prog_8_method_101_code 117 = .ok (.lload 4, 2) := by decide +kernel
theorem d_R_tellsPlough_119 : decode prog_8_method_101_code 119 = .ok (.lmul, 1) := by decide +kernel
theorem d_R_tellsPlough_120 : decode prog_8_method_101_code 120 = .ok (.aload_n 0, 1) := by decide +kernel
theorem d_R_tellsPlough_121 : decode prog_8_method_101_code 121 = .ok (.iload_n 3, 1) := by decide +kernel
theorem d_R_tellsPlough_122 : decode prog_8_method_101_code 122 = .ok (.iconst 1, 1) := by decide +kernel
theorem d_R_tellsPlough_123 : decode prog_8_method_101_code 123 = .ok (.invokevirtual 261, 3) := by decide +kernel
theorem d_R_tellsPlough_126 : decode prog_8_method_101_code 126 = .ok (.i2l, 1) := by decide +kernel
theorem d_R_tellsPlough_127 : decode prog_8_method_101_code 127 = .ok (.ladd, 1) := by decide +kernel
theorem d_R_tellsPlough_128 : decode prog_8_method_101_code 128 = .ok (.lstore 4, 2) := by decide +kernel
theorem d_R_tellsPlough_130 : decode prog_8_method_101_code 130 = .ok (.ldc2_w 332, 3) := by decide +kernel
theorem d_R_tellsPlough_133 : decode prog_8_method_101_code 133 = .ok (.lload 4, 2) := by decide +kernel
theorem d_R_tellsPlough_135 : decode prog_8_method_101_code 135 = .ok (.lmul, 1) := by decide +kernel
theorem d_R_tellsPlough_136 : decode prog_8_method_101_code 136 = .ok (.aload_n 0, 1) := by decide +kernel
theorem d_R_tellsPlough_137 : decode prog_8_method_101_code 137 = .ok (.iload_n 3, 1) := by decide +kernel
theorem d_R_tellsPlough_138 : decode prog_8_method_101_code 138 = .ok (.invokevirtual 291, 3) := by decide +kernel
theorem d_R_tellsPlough_141 : decode prog_8_method_101_code 141 = .ok (.i2l, 1) := by decide +kernel
theorem d_R_tellsPlough_142 : decode prog_8_method_101_code 142 = .ok (.ladd, 1) := by decide +kernel
theorem d_R_tellsPlough_143 : decode prog_8_method_101_code 143 = .ok (.lstore 4, 2) := by decide +kernel
theorem d_R_tellsPlough_145 : decode prog_8_method_101_code 145 = .ok (.ldc2_w 332, 3) := by decide +kernel
theorem d_R_tellsPlough_148 : decode prog_8_method_101_code 148 = .ok (.lload 4, 2) := by decide +kernel
theorem d_R_tellsPlough_150 : decode prog_8_method_101_code 150 = .ok (.lmul, 1) := by decide +kernel
theorem d_R_tellsPlough_151 : decode prog_8_method_101_code 151 = .ok (.aload_n 0, 1) := by decide +kernel
theorem d_R_tellsPlough_152 : decode prog_8_method_101_code 152 = .ok (.iload_n 3, 1) := by decide +kernel
theorem d_R_tellsPlough_153 : decode prog_8_method_101_code 153 = .ok (.invokevirtual 303, 3) := by decide +kernel
theorem d_R_tellsPlough_156 : decode prog_8_method_101_code 156 = .ok (.i2l, 1) := by decide +kernel
theorem d_R_tellsPlough_157 : decode prog_8_method_101_code 157 = .ok (.ladd, 1) := by decide +kernel
theorem d_R_tellsPlough_158 : decode prog_8_method_101_code 158 = .ok (.lreturn, 1) := by decide +kernel
def wp_R_tellsPlough (a1 : Int64) (a3 : Int32) (M : Mem) (post : Int64 → Mem → Prop) : Prop :=
  wp_R_lives M (fun M1 => (it2 (fun rec3 (l5 : Int64) (i6 : Int32) => (((3 ≤ i6) → wp_R_tellsHour l5 0 a3 M1 (fun r8 => wp_R_tellsHour r8 5 a3 M1 (fun r9 => wp_R_tellsHour r9 14 a3 M1 (fun r10 => vp_in a3 4 ∧ ∀ x12 : Int64, x12 = (((31) * r10) + (Int32.toInt64 (M1 16 (tn a3)))) → ∀ x13 : Int64, x13 = (((31) * x12) + (Int32.toInt64 (M1 17 (tn a3)))) → wp_R_beginOf a3 0 M1 (fun r15 M14 => ∀ x16 : Int64, x16 = (((31) * x13) + (Int32.toInt64 r15)) → wp_R_beginOf a3 1 M14 (fun r18 M17 => ∀ x19 : Int64, x19 = (((31) * x16) + (Int32.toInt64 r18)) → wp_R_strengthsOf a3 M17 (fun r21 M20 => ∀ x22 : Int64, x22 = (((31) * x19) + (Int32.toInt64 r21)) → wp_R_askOf a3 M20 (fun r24 M23 => post (((31) * x22) + (Int32.toInt64 r24)) M23)))))))) ∧ (¬ (3 ≤ i6) → vp_in ((3 * a3) + i6) 12 ∧ ∀ x26 : Int64, x26 = (((31) * l5) + (Int32.toInt64 (M1 9 (tn ((3 * a3) + i6))))) → rec3 x26 (i6 + 1)))) 4096 a1 0))
set_option maxHeartbeats 4000000 in
set_option maxRecDepth 100000 in
theorem c_R_tellsPlough (g : GX) {a1 : Int64} {a3 : Int32} {M : Mem} {post : Int64 → Mem → Prop} (hw : wp_R_tellsPlough a1 a3 M post) : CtL (oR g) y_R_tellsPlough prog_8_method_101_code 7 (some .long) (rl 8) [.ref (ax g 0), .long a1, .int a3] M post := by
  refine z_metL (oR_ok g) (by decide) rfl (fun X C hr => ?_)
  show Zj X 7 (oR g) M 0 [(0, .ref (ax g 0)), (1, .long a1), (3, .int a3)] []
  unfold wp_R_tellsPlough at hw
  refine z_aload_n C d_R_tellsPlough_0 rfl 0 rfl ?_
  refine z_callVv C (As := []) (rest := []) m_R_lives tw_935 0 (le_R) rfl ⟨rfl, rfl⟩ (c_R_lives g hw) rfl rfl rfl d_R_tellsPlough_1 (fun M1 hw => ?_)
  refine z_lload_n C d_R_tellsPlough_4 rfl 1 rfl ?_
  refine z_lstore (lv' := [(4, .long a1), (0, .ref (ax g 0)), (1, .long a1), (3, .int a3)]) C d_R_tellsPlough_5 rfl rfl ?_
  refine z_iconst (v := 0) C d_R_tellsPlough_7 (by decide) ?_
  refine z_istore (lv' := [(6, .int 0), (4, .long a1), (0, .ref (ax g 0)), (1, .long a1), (3, .int a3)]) C d_R_tellsPlough_8 rfl rfl ?_
  refine z_sub [2, 4, 1, 0] rfl ?_
  refine it2_Z (Z := fun (l5 : Int64) (i6 : Int32) => Zj X 7 (oR g) M1 10 [(0, .ref (ax g 0)), (3, .int a3), (4, .long l5), (6, .int i6)] []) (fun rec3 ih4 l5 i6 hw => ?_) _ _ _ hw
  refine z_iload C d_R_tellsPlough_10 3 rfl ?_
  refine z_iconst (v := 3) C d_R_tellsPlough_12 (by decide) ?_
  refine z_ic_ge C 43 d_R_tellsPlough_13 (by decide) (fun h7 => ?_) (fun h7 => ?_)
  · replace hw := hw.1 h7
    refine z_aload_n C d_R_tellsPlough_43 rfl 0 rfl ?_
    refine z_aload_n C d_R_tellsPlough_44 rfl 0 rfl ?_
    refine z_aload_n C d_R_tellsPlough_45 rfl 0 rfl ?_
    refine z_lload C d_R_tellsPlough_46 2 rfl ?_
    refine z_iconst (v := 0) C d_R_tellsPlough_48 (by decide) ?_
    refine z_iload_n C d_R_tellsPlough_49 rfl 1 rfl ?_
    refine z_callVl C (As := [.long l5, .int 0, .int a3]) (rest := [.ref (ax g 0), .ref (ax g 0)]) m_R_tellsHour tw_1179 0 (le_R) rfl ⟨rfl, rfl⟩ (c_R_tellsHour g hw) rfl rfl rfl d_R_tellsPlough_50 (fun r8 M2 hq => ?_)
    obtain ⟨rfl, hw⟩ := hq
    refine z_iconst (v := 5) C d_R_tellsPlough_53 (by decide) ?_
    refine z_iload_n C d_R_tellsPlough_54 rfl 1 rfl ?_
    refine z_callVl C (As := [.long r8, .int 5, .int a3]) (rest := [.ref (ax g 0)]) m_R_tellsHour tw_1179 0 (le_R) rfl ⟨rfl, rfl⟩ (c_R_tellsHour g hw) rfl rfl rfl d_R_tellsPlough_55 (fun r9 M2 hq => ?_)
    obtain ⟨rfl, hw⟩ := hq
    refine z_bipush (v := 14) C d_R_tellsPlough_58 (by decide) ?_
    refine z_iload_n C d_R_tellsPlough_60 rfl 1 rfl ?_
    refine z_callVl C (As := [.long r9, .int 14, .int a3]) (rest := []) m_R_tellsHour tw_1179 0 (le_R) rfl ⟨rfl, rfl⟩ (c_R_tellsHour g hw) rfl rfl rfl d_R_tellsPlough_61 (fun r10 M2 hq => ?_)
    obtain ⟨rfl, hw⟩ := hq
    refine z_lstore (lv' := [(4, .long r10), (0, .ref (ax g 0)), (3, .int a3), (6, .int i6)]) C d_R_tellsPlough_64 rfl rfl ?_
    refine z_ldc2 C d_R_tellsPlough_66 tw_1173 ?_
    refine z_lload C d_R_tellsPlough_69 0 rfl ?_
    refine z_lmul C d_R_tellsPlough_71 ?_
    refine z_aload_n C d_R_tellsPlough_72 rfl 1 rfl ?_
    refine gf_R_55 C d_R_tellsPlough_73 ?_
    refine z_iload_n C d_R_tellsPlough_76 rfl 2 rfl ?_
    have hv11 := hw.1
    replace hw := hw.2
    refine z_al (zar_r16) C hv11 d_R_tellsPlough_77 ?_
    refine z_i2l C d_R_tellsPlough_78 ?_
    refine z_ladd C d_R_tellsPlough_79 ?_
    obtain ⟨x12, hx12⟩ : ∃ z : Int64, z = (((31) * r10) + (Int32.toInt64 (M1 16 (tn a3)))) := ⟨_, rfl⟩
    rw [← hx12]
    replace hw := hw x12 hx12
    refine z_lstore (lv' := [(4, .long x12), (0, .ref (ax g 0)), (3, .int a3), (6, .int i6)]) C d_R_tellsPlough_80 rfl rfl ?_
    refine z_ldc2 C d_R_tellsPlough_82 tw_1173 ?_
    refine z_lload C d_R_tellsPlough_85 0 rfl ?_
    refine z_lmul C d_R_tellsPlough_87 ?_
    refine z_aload_n C d_R_tellsPlough_88 rfl 1 rfl ?_
    refine gf_R_58 C d_R_tellsPlough_89 ?_
    refine z_iload_n C d_R_tellsPlough_92 rfl 2 rfl ?_
    refine z_al (zar_r17) C hv11 d_R_tellsPlough_93 ?_
    refine z_i2l C d_R_tellsPlough_94 ?_
    refine z_ladd C d_R_tellsPlough_95 ?_
    obtain ⟨x13, hx13⟩ : ∃ z : Int64, z = (((31) * x12) + (Int32.toInt64 (M1 17 (tn a3)))) := ⟨_, rfl⟩
    rw [← hx13]
    replace hw := hw x13 hx13
    refine z_lstore (lv' := [(4, .long x13), (0, .ref (ax g 0)), (3, .int a3), (6, .int i6)]) C d_R_tellsPlough_96 rfl rfl ?_
    refine z_ldc2 C d_R_tellsPlough_98 tw_1173 ?_
    refine z_lload C d_R_tellsPlough_101 0 rfl ?_
    refine z_lmul C d_R_tellsPlough_103 ?_
    refine z_aload_n C d_R_tellsPlough_104 rfl 1 rfl ?_
    refine z_iload_n C d_R_tellsPlough_105 rfl 2 rfl ?_
    refine z_iconst (v := 0) C d_R_tellsPlough_106 (by decide) ?_
    refine z_callVi C (As := [.int a3, .int 0]) (rest := [.long ((31) * x13)]) m_R_beginOf tw_1039 0 (le_R) rfl ⟨rfl, rfl⟩ (c_R_beginOf g hw) rfl rfl rfl d_R_tellsPlough_107 (fun r15 M14 hw => ?_)
    refine z_i2l C d_R_tellsPlough_110 ?_
    refine z_ladd C d_R_tellsPlough_111 ?_
    obtain ⟨x16, hx16⟩ : ∃ z : Int64, z = (((31) * x13) + (Int32.toInt64 r15)) := ⟨_, rfl⟩
    rw [← hx16]
    replace hw := hw x16 hx16
    refine z_lstore (lv' := [(4, .long x16), (0, .ref (ax g 0)), (3, .int a3), (6, .int i6)]) C d_R_tellsPlough_112 rfl rfl ?_
    refine z_ldc2 C d_R_tellsPlough_114 tw_1173 ?_
    refine z_lload C d_R_tellsPlough_117 0 rfl ?_
    refine z_lmul C d_R_tellsPlough_119 ?_
    refine z_aload_n C d_R_tellsPlough_120 rfl 1 rfl ?_
    refine z_iload_n C d_R_tellsPlough_121 rfl 2 rfl ?_
    refine z_iconst (v := 1) C d_R_tellsPlough_122 (by decide) ?_
    refine z_callVi C (As := [.int a3, .int 1]) (rest := [.long ((31) * x16)]) m_R_beginOf tw_1039 0 (le_R) rfl ⟨rfl, rfl⟩ (c_R_beginOf g hw) rfl rfl rfl d_R_tellsPlough_123 (fun r18 M17 hw => ?_)
    refine z_i2l C d_R_tellsPlough_126 ?_
    refine z_ladd C d_R_tellsPlough_127 ?_
    obtain ⟨x19, hx19⟩ : ∃ z : Int64, z = (((31) * x16) + (Int32.toInt64 r18)) := ⟨_, rfl⟩
    rw [← hx19]
    replace hw := hw x19 hx19
    refine z_lstore (lv' := [(4, .long x19), (0, .ref (ax g 0)), (3, .int a3), (6, .int i6)]) C d_R_tellsPlough_128 rfl rfl ?_
    refine z_ldc2 C d_R_tellsPlough_130 tw_1173 ?_
    refine z_lload C d_R_tellsPlough_133 0 rfl ?_
    refine z_lmul C d_R_tellsPlough_135 ?_
    refine z_aload_n C d_R_tellsPlough_136 rfl 1 rfl ?_
    refine z_iload_n C d_R_tellsPlough_137 rfl 2 rfl ?_
    refine z_callVi C (As := [.int a3]) (rest := [.long ((31) * x19)]) m_R_strengthsOf tw_1102 0 (le_R) rfl ⟨rfl, rfl⟩ (c_R_strengthsOf g hw) rfl rfl rfl d_R_tellsPlough_138 (fun r21 M20 hw => ?_)
    refine z_i2l C d_R_tellsPlough_141 ?_
    refine z_ladd C d_R_tellsPlough_142 ?_
    obtain ⟨x22, hx22⟩ : ∃ z : Int64, z = (((31) * x19) + (Int32.toInt64 r21)) := ⟨_, rfl⟩
    rw [← hx22]
    replace hw := hw x22 hx22
    refine z_lstore (lv' := [(4, .long x22), (0, .ref (ax g 0)), (3, .int a3), (6, .int i6)]) C d_R_tellsPlough_143 rfl rfl ?_
    refine z_ldc2 C d_R_tellsPlough_145 tw_1173 ?_
    refine z_lload C d_R_tellsPlough_148 0 rfl ?_
    refine z_lmul C d_R_tellsPlough_150 ?_
    refine z_aload_n C d_R_tellsPlough_151 rfl 1 rfl ?_
    refine z_iload_n C d_R_tellsPlough_152 rfl 2 rfl ?_
    refine z_callVi C (As := [.int a3]) (rest := [.long ((31) * x22)]) m_R_askOf tw_1118 0 (le_R) rfl ⟨rfl, rfl⟩ (c_R_askOf g hw) rfl rfl rfl d_R_tellsPlough_153 (fun r24 M23 hw => ?_)
    refine z_i2l C d_R_tellsPlough_156 ?_
    refine z_ladd C d_R_tellsPlough_157 ?_
    exact z_lret C hr hw d_R_tellsPlough_158
  · replace hw := hw.2 h7
    refine z_ldc2 C d_R_tellsPlough_16 tw_1173 ?_
    refine z_lload C d_R_tellsPlough_19 2 rfl ?_
    refine z_lmul C d_R_tellsPlough_21 ?_
    refine z_aload_n C d_R_tellsPlough_22 rfl 0 rfl ?_
    refine gf_R_34 C d_R_tellsPlough_23 ?_
    refine z_iconst (v := 3) C d_R_tellsPlough_26 (by decide) ?_
    refine z_iload_n C d_R_tellsPlough_27 rfl 1 rfl ?_
    refine z_imul C d_R_tellsPlough_28 ?_
    refine z_iload C d_R_tellsPlough_29 3 rfl ?_
    refine z_iadd C d_R_tellsPlough_31 ?_
    have hv25 := hw.1
    replace hw := hw.2
    refine z_al (zar_r9) C hv25 d_R_tellsPlough_32 ?_
    refine z_i2l C d_R_tellsPlough_33 ?_
    refine z_ladd C d_R_tellsPlough_34 ?_
    obtain ⟨x26, hx26⟩ : ∃ z : Int64, z = (((31) * l5) + (Int32.toInt64 (M1 9 (tn ((3 * a3) + i6))))) := ⟨_, rfl⟩
    rw [← hx26]
    replace hw := hw x26 hx26
    refine z_lstore (lv' := [(4, .long x26), (0, .ref (ax g 0)), (3, .int a3), (6, .int i6)]) C d_R_tellsPlough_35 rfl rfl ?_
    refine z_iinc (v := (i6 + 1)) (lv' := [(6, .int (i6 + 1)), (4, .long x26), (0, .ref (ax g 0)), (3, .int a3)]) C d_R_tellsPlough_37 3 rfl rfl rfl rfl ?_
    refine z_goto C 10 d_R_tellsPlough_40 (by decide) ?_
    refine z_sub [2, 3, 1, 0] rfl ?_
    exact ih4 _ _ hw
