theorem d_X_mixPlough_0 : decode prog_1_method_45_code 0 = .ok (.iconst 0, 1) := by decide +kernel
theorem d_X_mixPlough_1 : decode prog_1_method_45_code 1 = .ok (.istore 4, 2) := by decide +kernel
theorem d_X_mixPlough_3 : decode prog_1_method_45_code 3 = .ok (.iload 4, 2) := by decide +kernel
theorem d_X_mixPlough_5 : decode prog_1_method_45_code 5 = .ok (.iconst 3, 1) := by decide +kernel
theorem d_X_mixPlough_6 : decode prog_1_method_45_code 6 = .ok (.if_icmp .ge (22), 3) := by decide +kernel
theorem d_X_mixPlough_9 : decode prog_1_method_45_code 9 = .ok (.lload_n 1, 1) := by decide +kernel
theorem d_X_mixPlough_10 : decode prog_1_method_45_code 10 = .ok (.aload_n 0, 1) := by decide +kernel
theorem d_X_mixPlough_11 : decode prog_1_method_45_code 11 = .ok (.iload_n 3, 1) := by decide +kernel
theorem d_X_mixPlough_12 : decode prog_1_method_45_code 12 = .ok (.iload 4, 2) := by decide +kernel
theorem d_X_mixPlough_14 : decode prog_1_method_45_code 14 = .ok (.invokevirtual 328, 3) := by decide +kernel
theorem d_X_mixPlough_17 : decode prog_1_method_45_code 17 = .ok (.i2l, 1) := by decide +kernel
theorem d_X_mixPlough_18 : decode prog_1_method_45_code 18 = .ok (.invokestatic 276, 3) := by decide +kernel
theorem d_X_mixPlough_21 : decode prog_1_method_45_code 21 = .ok (.lstore_n 1, 1) := by decide +kernel
theorem d_X_mixPlough_22 : decode prog_1_method_45_code 22 = .ok (.iinc 4 1, 3) := by decide +kernel
theorem d_X_mixPlough_25 : decode prog_1_method_45_code 25 = .ok (.goto (-22), 3) := by decide +kernel
theorem d_X_mixPlough_28 : decode prog_1_method_45_code 28 = .ok (.getstatic 331, 3) := by decide +kernel
theorem d_X_mixPlough_31 : decode prog_1_method_45_code 31 = .ok (.astore 4, 2) := by decide +kernel
theorem d_X_mixPlough_33 : decode prog_1_method_45_code 33 = .ok (.aload 4, 2) := by decide +kernel
theorem d_X_mixPlough_35 : decode prog_1_method_45_code 35 = .ok (.arraylength, 1) := by decide +kernel
theorem d_X_mixPlough_36 : decode prog_1_method_45_code 36 = .ok (.istore 5, 2) := by decide +kernel
theorem d_X_mixPlough_38 : decode prog_1_method_45_code 38 = .ok (.iconst 0, 1) := by decide +kernel
theorem d_X_mixPlough_39 : decode prog_1_method_45_code 39 = .ok (.istore 6, 2) := by decide +kernel
theorem d_X_mixPlough_41 : decode prog_1_method_45_code 41 = .ok (.iload 6, 2) := by decide +kernel
theorem d_X_mixPlough_43 : decode prog_1_method_45_code 43 = .ok (.iload 5, 2) := by decide +kernel
theorem d_X_mixPlough_45 : decode prog_1_method_45_code 45 = .ok (.if_icmp .ge (54), 3) := by decide +kernel
theorem d_X_mixPlough_48 : decode prog_1_method_45_code 48 = .ok (.aload 4, 2) := by decide +kernel
theorem d_X_mixPlough_50 : decode prog_1_method_45_code 50 = .ok (.iload 6, 2) := by decide +kernel
theorem d_X_mixPlough_52 : decode prog_1_method_45_code 52 = .ok (.iaload, 1) := by decide +kernel
theorem d_X_mixPlough_53 : decode prog_1_method_45_code 53 = .ok (.istore 7, 2) := by decide +kernel
theorem d_X_mixPlough_55 : decode prog_1_method_45_code 55 = .ok (.lload_n 1, 1) := by decide +kernel
theorem d_X_mixPlough_56 : decode prog_1_method_45_code 56 = .ok (.aload_n 0, 1) := by decide +kernel
theorem d_X_mixPlough_57 : decode prog_1_method_45_code 57 = .ok (.iload 7, 2) := by decide +kernel
theorem d_X_mixPlough_59 : decode prog_1_method_45_code 59 = .ok (.iload_n 3, 1) := by decide +kernel
theorem d_X_mixPlough_60 : decode prog_1_method_45_code 60 = .ok (.iconst 0, 1) := by decide +kernel
theorem d_X_mixPlough_61 : decode prog_1_method_45_code 61 = .ok (.invokevirtual 334, 3) := by decide +kernel
theorem d_X_mixPlough_64 : decode prog_1_method_45_code 64 = .ok (.i2l, 1) := by decide +kernel
theorem d_X_mixPlough_65 : decode prog_1_method_45_code 65 = .ok (.invokestatic 276, 3) := by decide +kernel
theorem d_X_mixPlough_68 : decode prog_1_method_45_code 68 = .ok (.aload_n 0, 1) := by decide +kernel
theorem d_X_mixPlough_69 : decode prog_1_method_45_code 69 = .ok (.iload 7, 2) := by decide +kernel
theorem d_X_mixPlough_71 : decode prog_1_method_45_code 71 = .ok (.iload_n 3, 1) := by decide +kernel
theorem d_X_mixPlough_72 : decode prog_1_method_45_code 72 = .ok (.iconst 1, 1) := by decide +kernel
theorem d_X_mixPlough_73 : decode prog_1_method_45_code 73 = .ok (.invokevirtual 334, 3) := by decide +kernel
theorem d_X_mixPlough_76 : decode prog_1_method_45_code 76 = .ok (.i2l, 1) := by decide +kernel
theorem d_X_mixPlough_77 : decode prog_1_method_45_code 77 = .ok (.invokestatic 276, 3) := by decide +kernel
theorem d_X_mixPlough_80 : decode prog_1_method_45_code 80 = .ok (.aload_n 0, 1) := by decide +kernel
theorem d_X_mixPlough_81 : decode prog_1_method_45_code 81 = .ok (.iload 7, 2) := by decide +kernel
theorem d_X_mixPlough_83 : decode prog_1_method_45_code 83 = .ok (.iload_n 3, 1) := by decide +kernel
theorem d_X_mixPlough_84 : decode prog_1_method_45_code 84 = .ok (.iconst 2, 1) := by decide +kernel
theorem d_X_mixPlough_85 : decode prog_1_method_45_code 85 = .ok (.invokevirtual 334, 3) := by decide +kernel
theorem d_X_mixPlough_88 : decode prog_1_method_45_code 88 = .ok (.i2l, 1) := by decide +kernel
theorem d_X_mixPlough_89 : decode prog_1_method_45_code 89 = .ok (.invokestatic 276, 3) := by decide +kernel
theorem d_X_mixPlough_92 : decode prog_1_method_45_code 92 = .ok (.lstore_n 1, 1) := by decide +kernel
theorem d_X_mixPlough_93 : decode prog_1_method_45_code 93 = .ok (.iinc 6 1, 3) := by decide +kernel
theorem d_X_mixPlough_96 : decode prog_1_method_45_code 96 = .ok (.goto (-55), 3) := by decide +kernel
theorem d_X_mixPlough_99 : decode prog_1_method_45_code 99 = .ok (.lload_n 1, 1) := by decide +kernel
theorem d_X_mixPlough_100 : decode prog_1_method_45_code 100 = .ok (.aload_n 0, 1) := by decide +kernel
theorem d_X_mixPlough_101 : decode prog_1_method_45_code 101 = .ok (.iload_n 3, 1) := by decide +kernel
theorem d_X_mixPlough_102 : decode prog_1_method_45_code 102 = .ok (.iconst 0, 1) := by decide +kernel
theorem d_X_mixPlough_103 : decode prog_1_method_45_code 103 = .ok (.invokevirtual 337, 3) := by decide +kernel
theorem d_X_mixPlough_106 : decode prog_1_method_45_code 106 = .ok (.i2l, 1) := by decide +kernel
theorem d_X_mixPlough_107 : decode prog_1_method_45_code 107 = .ok (.invokestatic 276, 3) := by decide +kernel
theorem d_X_mixPlough_110 : decode prog_1_method_45_code 110 = .ok (.aload_n 0, 1) := by decide +kernel
theorem d_X_mixPlough_111 : decode prog_1_method_45_code 111 = .ok (.iload_n 3, 1) := by decide +kernel
theorem d_X_mixPlough_112 : decode prog_1_method_45_code 112 = .ok (.iconst 1, 1) := by decide +kernel
theorem d_X_mixPlough_113 : decode prog_1_method_45_code 113 = .ok (.invokevirtual 337, 3) := by decide +kernel
theorem d_X_mixPlough_116 : decode prog_1_method_45_code 116 = .ok (.i2l, 1) := by decide +kernel
theorem d_X_mixPlough_117 : decode prog_1_method_45_code 117 = .ok (.invokestatic 276, 3) := by decide +kernel
theorem d_X_mixPlough_120 : decode prog_1_method_45_code 120 = .ok (.lstore_n 1, 1) := by decide +kernel
theorem d_X_mixPlough_121 : decode prog_1_method_45_code 121 = .ok (.lload_n 1, 1) := by decide +kernel
theorem d_X_mixPlough_122 : decode prog_1_method_45_code 122 = .ok (.aload_n 0, 1) := by decide +kernel
theorem d_X_mixPlough_123 : decode prog_1_method_45_code 123 = .ok (.iload_n 3, 1) := by decide +kernel
theorem d_X_mixPlough_124 : decode prog_1_method_45_code 124 = .ok (.iconst 0, 1) := by decide +kernel
theorem d_X_mixPlough_125 : decode prog_1_method_45_code 125 = .ok (.invokevirtual 340, 3) := by decide +kernel
theorem d_X_mixPlough_128 : decode prog_1_method_45_code 128 = .ok (.i2l, 1) := by decide +kernel
theorem d_X_mixPlough_129 : decode prog_1_method_45_code 129 = .ok (.invokestatic 276, 3) := by decide +kernel
theorem d_X_mixPlough_132 : decode prog_1_method_45_code 132 = .ok (.aload_n 0, 1) := by decide +kernel
theorem d_X_mixPlough_133 : decode prog_1_method_45_code 133 = .ok (.iload_n 3, 1) := by decide +kernel
theorem d_X_mixPlough_134 : decode prog_1_method_45_code 134 = .ok (.iconst 1, 1) := by decide +kernel
theorem d_X_mixPlough_135 : decode prog_1_method_45_code 135 = .ok (.invokevirtual 340, 3) := by decide +kernel
theorem d_X_mixPlough_138 : decode prog_1_method_45_code 138 = .ok (.i2l, 1) := by decide +kernel
theorem d_X_mixPlough_139 : decode prog_1_method_45_code 139 = .ok (.invokestatic 276, 3) := by decide +kernel
theorem d_X_mixPlough_142 : decode prog_1_method_45_code 142 = .ok (.lstore_n 1, 1) := by decide +kernel
theorem d_X_mixPlough_143 : decode prog_1_method_45_code 143 = .ok (.lload_n 1, 1) := by decide +kernel
theorem d_X_mixPlough_144 : decode prog_1_method_45_code 144 = .ok (.aload_n 0, 1) := by decide +kernel
theorem d_X_mixPlough_145 : decode prog_1_method_45_code 145 = .ok (.iload_n 3, 1) := by decide +kernel
theorem d_X_mixPlough_146 : decode prog_1_method_45_code 146 = .ok (.invokevirtual 343, 3) := by decide +kernel
theorem d_X_mixPlough_149 : decode prog_1_method_45_code 149 = .ok (.i2l, 1) := by decide +kernel
theorem d_X_mixPlough_150 : decode prog_1_method_45_code 150 = .ok (.invokestatic 276, 3) := by decide +kernel
theorem d_X_mixPlough_153 : decode prog_1_method_45_code 153 = .ok (.aload_n 0, 1) := by decide +kernel
theorem d_X_mixPlough_154 : decode prog_1_method_45_code 154 = .ok (.iload_n 3, 1) := by decide +kernel
theorem d_X_mixPlough_155 : decode prog_1_method_45_code 155 = .ok (.invokevirtual 346, 3) := by decide +kernel
theorem d_X_mixPlough_158 : decode prog_1_method_45_code 158 = .ok (.i2l, 1) := by decide +kernel
theorem d_X_mixPlough_159 : decode prog_1_method_45_code 159 = .ok (.invokestatic 276, 3) := by decide +kernel
theorem d_X_mixPlough_162 : decode prog_1_method_45_code 162 = .ok (.lreturn, 1) := by decide +kernel
def wp_X_mixPlough (a1 : Int64) (a3 : Int32) (M : Mem) (post : Int64 → Mem → Prop) : Prop :=
  (it2 (fun rec1 (l3 : Int64) (i4 : Int32) => (((3 ≤ i4) → (it3 (fun rec6 (l8 : Int64) (i9 : Int32) (M10 : Mem) => (((3 ≤ i9) → wp_X_cleared a3 0 M10 (fun r13 M12 => wp_X_cleared a3 1 M12 (fun r16 M15 => ∀ x18 : Int64, x18 = (pf_X_mix (pf_X_mix l8 (Int32.toInt64 r13)) (Int32.toInt64 r16)) → wp_X_begin a3 0 M15 (fun r20 M19 => wp_X_begin a3 1 M19 (fun r23 M22 => ∀ x25 : Int64, x25 = (pf_X_mix (pf_X_mix x18 (Int32.toInt64 r20)) (Int32.toInt64 r23)) → wp_X_strengths a3 M22 (fun r27 M26 => wp_X_ask a3 M26 (fun r30 M29 => post (pf_X_mix (pf_X_mix x25 (Int32.toInt64 r27)) (Int32.toInt64 r30)) M29))))))) ∧ (¬ (3 ≤ i9) → vp_in i9 3 ∧ ∀ x33 : Int32, x33 = (zz_tab (tn i9)) → wp_X_at x33 a3 0 M10 (fun r35 M34 => wp_X_at x33 a3 1 M34 (fun r38 M37 => wp_X_at x33 a3 2 M37 (fun r41 M40 => ∀ x43 : Int64, x43 = (pf_X_mix (pf_X_mix (pf_X_mix l8 (Int32.toInt64 r35)) (Int32.toInt64 r38)) (Int32.toInt64 r41)) → rec6 x43 (i9 + 1) M40)))))) 4096 l3 0 M)) ∧ (¬ (3 ≤ i4) → wp_X_plough a3 i4 M (fun r44 => ∀ x46 : Int64, x46 = (pf_X_mix l3 (Int32.toInt64 r44)) → rec1 x46 (i4 + 1))))) 4096 a1 0)
set_option maxHeartbeats 4000000 in
set_option maxRecDepth 100000 in
theorem c_X_mixPlough (g : GX) {a1 : Int64} {a3 : Int32} {M : Mem} {post : Int64 → Mem → Prop} (hw : wp_X_mixPlough a1 a3 M post) : CtL (oX g) y_X_mixPlough prog_1_method_45_code 8 (some .long) (rl 5) [.ref (ax g 0), .long a1, .int a3] M post := by
  refine z_metL (oX_ok g) (by decide) rfl (fun X C hr => ?_)
  show Zj X 8 (oX g) M 0 [(0, .ref (ax g 0)), (1, .long a1), (3, .int a3)] []
  unfold wp_X_mixPlough at hw
  refine z_iconst (v := 0) C d_X_mixPlough_0 (by decide) ?_
  refine z_istore (lv' := [(4, .int 0), (0, .ref (ax g 0)), (1, .long a1), (3, .int a3)]) C d_X_mixPlough_1 rfl rfl ?_
  refine z_sub [1, 2, 3, 0] rfl ?_
  refine it2_Z (Z := fun (l3 : Int64) (i4 : Int32) => Zj X 8 (oX g) M 3 [(0, .ref (ax g 0)), (1, .long l3), (3, .int a3), (4, .int i4)] []) (fun rec1 ih2 l3 i4 hw => ?_) _ _ _ hw
  refine z_iload C d_X_mixPlough_3 3 rfl ?_
  refine z_iconst (v := 3) C d_X_mixPlough_5 (by decide) ?_
  refine z_ic_ge C 28 d_X_mixPlough_6 (by decide) (fun h5 => ?_) (fun h5 => ?_)
  · replace hw := hw.1 h5
    refine z_gets C tw_643 d_X_mixPlough_28 ?_
    refine z_astore (lv' := [(4, .ref (oX g).2.2.2.2), (0, .ref (ax g 0)), (1, .long l3), (3, .int a3)]) C d_X_mixPlough_31 rfl rfl ?_
    refine z_aload C d_X_mixPlough_33 0 rfl ?_
    refine z_tlen C d_X_mixPlough_35 ?_
    refine z_istore (lv' := [(5, .int 3), (4, .ref (oX g).2.2.2.2), (0, .ref (ax g 0)), (1, .long l3), (3, .int a3)]) C d_X_mixPlough_36 rfl rfl ?_
    refine z_iconst (v := 0) C d_X_mixPlough_38 (by decide) ?_
    refine z_istore (lv' := [(6, .int 0), (5, .int 3), (4, .ref (oX g).2.2.2.2), (0, .ref (ax g 0)), (1, .long l3), (3, .int a3)]) C d_X_mixPlough_39 rfl rfl ?_
    refine z_sub [3, 4, 5, 2, 1, 0] rfl ?_
    refine it3_Z (Z := fun (l8 : Int64) (i9 : Int32) (M10 : Mem) => Zj X 8 (oX g) M10 41 [(0, .ref (ax g 0)), (1, .long l8), (3, .int a3), (4, .ref (oX g).2.2.2.2), (5, .int 3), (6, .int i9)] []) (fun rec6 ih7 l8 i9 M10 hw => ?_) _ _ _ _ hw
    refine z_iload C d_X_mixPlough_41 5 rfl ?_
    refine z_iload C d_X_mixPlough_43 4 rfl ?_
    refine z_ic_ge C 99 d_X_mixPlough_45 (by decide) (fun h11 => ?_) (fun h11 => ?_)
    · replace hw := hw.1 h11
      refine z_lload_n C d_X_mixPlough_99 rfl 1 rfl ?_
      refine z_aload_n C d_X_mixPlough_100 rfl 0 rfl ?_
      refine z_iload_n C d_X_mixPlough_101 rfl 2 rfl ?_
      refine z_iconst (v := 0) C d_X_mixPlough_102 (by decide) ?_
      refine z_callVi C (As := [.int a3, .int 0]) (rest := [.long l8]) m_X_cleared tw_646 0 (le_X) rfl ⟨rfl, rfl⟩ (c_X_cleared g hw) rfl rfl rfl d_X_mixPlough_103 (fun r13 M12 hw => ?_)
      refine z_i2l C d_X_mixPlough_106 ?_
      refine z_callSl C (As := [.long l8, .long (Int32.toInt64 r13)]) (rest := []) m_X_mix tw_628 ⟨rfl, rfl⟩ (c_X_mix (oX_ok g) _ _ _) rfl rfl rfl d_X_mixPlough_107 (fun r M2 hq => ?_)
      obtain ⟨rfl, rfl⟩ := hq
      refine z_aload_n C d_X_mixPlough_110 rfl 0 rfl ?_
      refine z_iload_n C d_X_mixPlough_111 rfl 2 rfl ?_
      refine z_iconst (v := 1) C d_X_mixPlough_112 (by decide) ?_
      refine z_callVi C (As := [.int a3, .int 1]) (rest := [.long (pf_X_mix l8 (Int32.toInt64 r13))]) m_X_cleared tw_646 0 (le_X) rfl ⟨rfl, rfl⟩ (c_X_cleared g hw) rfl rfl rfl d_X_mixPlough_113 (fun r16 M15 hw => ?_)
      refine z_i2l C d_X_mixPlough_116 ?_
      refine z_callSl C (As := [.long (pf_X_mix l8 (Int32.toInt64 r13)), .long (Int32.toInt64 r16)]) (rest := []) m_X_mix tw_628 ⟨rfl, rfl⟩ (c_X_mix (oX_ok g) _ _ _) rfl rfl rfl d_X_mixPlough_117 (fun r M2 hq => ?_)
      obtain ⟨rfl, rfl⟩ := hq
      obtain ⟨x18, hx18⟩ : ∃ z : Int64, z = (pf_X_mix (pf_X_mix l8 (Int32.toInt64 r13)) (Int32.toInt64 r16)) := ⟨_, rfl⟩
      rw [← hx18]
      replace hw := hw x18 hx18
      refine z_lstore_n (lv' := [(1, .long x18), (0, .ref (ax g 0)), (3, .int a3), (4, .ref (oX g).2.2.2.2), (5, .int 3), (6, .int i9)]) C d_X_mixPlough_120 rfl rfl rfl ?_
      refine z_lload_n C d_X_mixPlough_121 rfl 0 rfl ?_
      refine z_aload_n C d_X_mixPlough_122 rfl 1 rfl ?_
      refine z_iload_n C d_X_mixPlough_123 rfl 2 rfl ?_
      refine z_iconst (v := 0) C d_X_mixPlough_124 (by decide) ?_
      refine z_callVi C (As := [.int a3, .int 0]) (rest := [.long x18]) m_X_begin tw_647 0 (le_X) rfl ⟨rfl, rfl⟩ (c_X_begin g hw) rfl rfl rfl d_X_mixPlough_125 (fun r20 M19 hw => ?_)
      refine z_i2l C d_X_mixPlough_128 ?_
      refine z_callSl C (As := [.long x18, .long (Int32.toInt64 r20)]) (rest := []) m_X_mix tw_628 ⟨rfl, rfl⟩ (c_X_mix (oX_ok g) _ _ _) rfl rfl rfl d_X_mixPlough_129 (fun r M2 hq => ?_)
      obtain ⟨rfl, rfl⟩ := hq
      refine z_aload_n C d_X_mixPlough_132 rfl 1 rfl ?_
      refine z_iload_n C d_X_mixPlough_133 rfl 2 rfl ?_
      refine z_iconst (v := 1) C d_X_mixPlough_134 (by decide) ?_
      refine z_callVi C (As := [.int a3, .int 1]) (rest := [.long (pf_X_mix x18 (Int32.toInt64 r20))]) m_X_begin tw_647 0 (le_X) rfl ⟨rfl, rfl⟩ (c_X_begin g hw) rfl rfl rfl d_X_mixPlough_135 (fun r23 M22 hw => ?_)
      refine z_i2l C d_X_mixPlough_138 ?_
      refine z_callSl C (As := [.long (pf_X_mix x18 (Int32.toInt64 r20)), .long (Int32.toInt64 r23)]) (rest := []) m_X_mix tw_628 ⟨rfl, rfl⟩ (c_X_mix (oX_ok g) _ _ _) rfl rfl rfl d_X_mixPlough_139 (fun r M2 hq => ?_)
      obtain ⟨rfl, rfl⟩ := hq
      obtain ⟨x25, hx25⟩ : ∃ z : Int64, z = (pf_X_mix (pf_X_mix x18 (Int32.toInt64 r20)) (Int32.toInt64 r23)) := ⟨_, rfl⟩
      rw [← hx25]
      replace hw := hw x25 hx25
      refine z_lstore_n (lv' := [(1, .long x25), (0, .ref (ax g 0)), (3, .int a3), (4, .ref (oX g).2.2.2.2), (5, .int 3), (6, .int i9)]) C d_X_mixPlough_142 rfl rfl rfl ?_
      refine z_lload_n C d_X_mixPlough_143 rfl 0 rfl ?_
      refine z_aload_n C d_X_mixPlough_144 rfl 1 rfl ?_
      refine z_iload_n C d_X_mixPlough_145 rfl 2 rfl ?_
      refine z_callVi C (As := [.int a3]) (rest := [.long x25]) m_X_strengths tw_648 0 (le_X) rfl ⟨rfl, rfl⟩ (c_X_strengths g hw) rfl rfl rfl d_X_mixPlough_146 (fun r27 M26 hw => ?_)
      refine z_i2l C d_X_mixPlough_149 ?_
      refine z_callSl C (As := [.long x25, .long (Int32.toInt64 r27)]) (rest := []) m_X_mix tw_628 ⟨rfl, rfl⟩ (c_X_mix (oX_ok g) _ _ _) rfl rfl rfl d_X_mixPlough_150 (fun r M2 hq => ?_)
      obtain ⟨rfl, rfl⟩ := hq
      refine z_aload_n C d_X_mixPlough_153 rfl 1 rfl ?_
      refine z_iload_n C d_X_mixPlough_154 rfl 2 rfl ?_
      refine z_callVi C (As := [.int a3]) (rest := [.long (pf_X_mix x25 (Int32.toInt64 r27))]) m_X_ask tw_649 0 (le_X) rfl ⟨rfl, rfl⟩ (c_X_ask g hw) rfl rfl rfl d_X_mixPlough_155 (fun r30 M29 hw => ?_)
      refine z_i2l C d_X_mixPlough_158 ?_
      refine z_callSl C (As := [.long (pf_X_mix x25 (Int32.toInt64 r27)), .long (Int32.toInt64 r30)]) (rest := []) m_X_mix tw_628 ⟨rfl, rfl⟩ (c_X_mix (oX_ok g) _ _ _) rfl rfl rfl d_X_mixPlough_159 (fun r M2 hq => ?_)
      obtain ⟨rfl, rfl⟩ := hq
      exact z_lret C hr hw d_X_mixPlough_162
    · replace hw := hw.2 h11
      refine z_aload C d_X_mixPlough_48 3 rfl ?_
      refine z_iload C d_X_mixPlough_50 5 rfl ?_
      have hv32 := hw.1
      replace hw := hw.2
      refine z_ti C hv32 d_X_mixPlough_52 ?_
      obtain ⟨x33, hx33⟩ : ∃ z : Int32, z = (zz_tab (tn i9)) := ⟨_, rfl⟩
      rw [← hx33]
      replace hw := hw x33 hx33
      refine z_istore (lv' := [(7, .int x33), (0, .ref (ax g 0)), (1, .long l8), (3, .int a3), (4, .ref (oX g).2.2.2.2), (5, .int 3), (6, .int i9)]) C d_X_mixPlough_53 rfl rfl ?_
      refine z_lload_n C d_X_mixPlough_55 rfl 2 rfl ?_
      refine z_aload_n C d_X_mixPlough_56 rfl 1 rfl ?_
      refine z_iload C d_X_mixPlough_57 0 rfl ?_
      refine z_iload_n C d_X_mixPlough_59 rfl 3 rfl ?_
      refine z_iconst (v := 0) C d_X_mixPlough_60 (by decide) ?_
      refine z_callVi C (As := [.int x33, .int a3, .int 0]) (rest := [.long l8]) m_X_at tw_645 0 (le_X) rfl ⟨rfl, rfl⟩ (c_X_at g hw) rfl rfl rfl d_X_mixPlough_61 (fun r35 M34 hw => ?_)
      refine z_i2l C d_X_mixPlough_64 ?_
      refine z_callSl C (As := [.long l8, .long (Int32.toInt64 r35)]) (rest := []) m_X_mix tw_628 ⟨rfl, rfl⟩ (c_X_mix (oX_ok g) _ _ _) rfl rfl rfl d_X_mixPlough_65 (fun r M2 hq => ?_)
      obtain ⟨rfl, rfl⟩ := hq
      refine z_aload_n C d_X_mixPlough_68 rfl 1 rfl ?_
      refine z_iload C d_X_mixPlough_69 0 rfl ?_
      refine z_iload_n C d_X_mixPlough_71 rfl 3 rfl ?_
      refine z_iconst (v := 1) C d_X_mixPlough_72 (by decide) ?_
      refine z_callVi C (As := [.int x33, .int a3, .int 1]) (rest := [.long (pf_X_mix l8 (Int32.toInt64 r35))]) m_X_at tw_645 0 (le_X) rfl ⟨rfl, rfl⟩ (c_X_at g hw) rfl rfl rfl d_X_mixPlough_73 (fun r38 M37 hw => ?_)
      refine z_i2l C d_X_mixPlough_76 ?_
      refine z_callSl C (As := [.long (pf_X_mix l8 (Int32.toInt64 r35)), .long (Int32.toInt64 r38)]) (rest := []) m_X_mix tw_628 ⟨rfl, rfl⟩ (c_X_mix (oX_ok g) _ _ _) rfl rfl rfl d_X_mixPlough_77 (fun r M2 hq => ?_)
      obtain ⟨rfl, rfl⟩ := hq
      refine z_aload_n C d_X_mixPlough_80 rfl 1 rfl ?_
      refine z_iload C d_X_mixPlough_81 0 rfl ?_
      refine z_iload_n C d_X_mixPlough_83 rfl 3 rfl ?_
      refine z_iconst (v := 2) C d_X_mixPlough_84 (by decide) ?_
      refine z_callVi C (As := [.int x33, .int a3, .int 2]) (rest := [.long (pf_X_mix (pf_X_mix l8 (Int32.toInt64 r35)) (Int32.toInt64 r38))]) m_X_at tw_645 0 (le_X) rfl ⟨rfl, rfl⟩ (c_X_at g hw) rfl rfl rfl d_X_mixPlough_85 (fun r41 M40 hw => ?_)
      refine z_i2l C d_X_mixPlough_88 ?_
      refine z_callSl C (As := [.long (pf_X_mix (pf_X_mix l8 (Int32.toInt64 r35)) (Int32.toInt64 r38)), .long (Int32.toInt64 r41)]) (rest := []) m_X_mix tw_628 ⟨rfl, rfl⟩ (c_X_mix (oX_ok g) _ _ _) rfl rfl rfl d_X_mixPlough_89 (fun r M2 hq => ?_)
      obtain ⟨rfl, rfl⟩ := hq
      obtain ⟨x43, hx43⟩ : ∃ z : Int64, z = (pf_X_mix (pf_X_mix (pf_X_mix l8 (Int32.toInt64 r35)) (Int32.toInt64 r38)) (Int32.toInt64 r41)) := ⟨_, rfl⟩
      rw [← hx43]
      replace hw := hw x43 hx43
      refine z_lstore_n (lv' := [(1, .long x43), (7, .int x33), (0, .ref (ax g 0)), (3, .int a3), (4, .ref (oX g).2.2.2.2), (5, .int 3), (6, .int i9)]) C d_X_mixPlough_92 rfl rfl rfl ?_
      refine z_iinc (v := (i9 + 1)) (lv' := [(6, .int (i9 + 1)), (1, .long x43), (7, .int x33), (0, .ref (ax g 0)), (3, .int a3), (4, .ref (oX g).2.2.2.2), (5, .int 3)]) C d_X_mixPlough_93 6 rfl rfl rfl rfl ?_
      refine z_goto C 41 d_X_mixPlough_96 (by decide) ?_
      refine z_sub [3, 1, 4, 5, 6, 0] rfl ?_
      exact ih7 _ _ _ hw
  · replace hw := hw.2 h5
    refine z_lload_n C d_X_mixPlough_9 rfl 1 rfl ?_
    refine z_aload_n C d_X_mixPlough_10 rfl 0 rfl ?_
    refine z_iload_n C d_X_mixPlough_11 rfl 2 rfl ?_
    refine z_iload C d_X_mixPlough_12 3 rfl ?_
    refine z_callVi C (As := [.int a3, .int i4]) (rest := [.long l3]) m_X_plough tw_642 0 (le_X) rfl ⟨rfl, rfl⟩ (c_X_plough g hw) rfl rfl rfl d_X_mixPlough_14 (fun r44 M2 hq => ?_)
    obtain ⟨rfl, hw⟩ := hq
    refine z_i2l C d_X_mixPlough_17 ?_
    refine z_callSl C (As := [.long l3, .long (Int32.toInt64 r44)]) (rest := []) m_X_mix tw_628 ⟨rfl, rfl⟩ (c_X_mix (oX_ok g) _ _ _) rfl rfl rfl d_X_mixPlough_18 (fun r M2 hq => ?_)
    obtain ⟨rfl, rfl⟩ := hq
    obtain ⟨x46, hx46⟩ : ∃ z : Int64, z = (pf_X_mix l3 (Int32.toInt64 r44)) := ⟨_, rfl⟩
    rw [← hx46]
    replace hw := hw x46 hx46
    refine z_lstore_n (lv' := [(1, .long x46), (0, .ref (ax g 0)), (3, .int a3), (4, .int i4)]) C d_X_mixPlough_21 rfl rfl rfl ?_
    refine z_iinc (v := (i4 + 1)) (lv' := [(4, .int (i4 + 1)), (1, .long x46), (0, .ref (ax g 0)), (3, .int a3)]) C d_X_mixPlough_22 3 rfl rfl rfl rfl ?_
    refine z_goto C 3 d_X_mixPlough_25 (by decide) ?_
    refine z_sub [2, 1, 3, 0] rfl ?_
    exact ih2 _ _ hw
theorem d_X_mixBus_0 : decode prog_1_method_46_code 0 = .ok (.lload_n 1, 1) := by decide +kernel
theorem d_X_mixBus_1 : decode prog_1_method_46_code 1 = .ok (.aload_n 0, 1) := by decide +kernel
theorem d_X_mixBus_2 : decode prog_1_method_46_code 2 = .ok (.iload_n 3, 1) := by decide +kernel
theorem d_X_mixBus_3 : decode prog_1_method_46_code 3 = .ok (.invokevirtual 349, 3) := by decide +kernel
theorem d_X_mixBus_6 : decode prog_1_method_46_code 6 = .ok (.i2l, 1) := by decide +kernel
theorem d_X_mixBus_7 : decode prog_1_method_46_code 7 = .ok (.invokestatic 276, 3) := by decide +kernel
theorem d_X_mixBus_10 : decode prog_1_method_46_code 10 = .ok (.aload_n 0, 1) := by decide +kernel
theorem d_X_mixBus_11 : decode prog_1_method_46_code 11 = .ok (.bipush 9, 2) := by decide +kernel
theorem d_X_mixBus_13 : decode prog_1_method_46_code 13 = .ok (.iload_n 3, 1) := by decide +kernel
theorem d_X_mixBus_14 : decode prog_1_method_46_code 14 = .ok (.invokevirtual 352, 3) := by decide +kernel
theorem d_X_mixBus_17 : decode prog_1_method_46_code 17 = .ok (.i2l, 1) := by decide +kernel
theorem d_X_mixBus_18 : decode prog_1_method_46_code 18 = .ok (.invokestatic 276, 3) := by decide +kernel
theorem d_X_mixBus_21 : decode prog_1_method_46_code 21 = .ok (.lstore_n 1, 1) := by decide +kernel
theorem d_X_mixBus_22 : decode prog_1_method_46_code 22 = .ok (.lload_n 1, 1) := by decide +kernel
theorem d_X_mixBus_23 : decode prog_1_method_46_code 23 = .ok (.aload_n 0, 1) := by decide +kernel
theorem d_X_mixBus_24 : decode prog_1_method_46_code 24 = .ok (.iload_n 3, 1) := by decide +kernel
theorem d_X_mixBus_25 : decode prog_1_method_46_code 25 = .ok (.iconst 0, 1) := by decide +kernel
theorem d_X_mixBus_26 : decode prog_1_method_46_code 26 = .ok (.invokevirtual 355, 3) := by decide +kernel
theorem d_X_mixBus_29 : decode prog_1_method_46_code 29 = .ok (.i2l, 1) := by decide +kernel
theorem d_X_mixBus_30 : decode prog_1_method_46_code 30 = .ok (.invokestatic 276, 3) := by decide +kernel
theorem d_X_mixBus_33 : decode prog_1_method_46_code 33 = .ok (.aload_n 0, 1) := by decide +kernel
theorem d_X_mixBus_34 : decode prog_1_method_46_code 34 = .ok (.iload_n 3, 1) := by decide +kernel
theorem d_X_mixBus_35 : decode prog_1_method_46_code 35 = .ok (.iconst 1, 1) := by decide +kernel
theorem d_X_mixBus_36 : decode prog_1_method_46_code 36 = .ok (.invokevirtual 355, 3) := by decide +kernel
theorem d_X_mixBus_39 : decode prog_1_method_46_code 39 = .ok (.i2l, 1) := by decide +kernel
theorem d_X_mixBus_40 : decode prog_1_method_46_code 40 = .ok (.invokestatic 276, 3) := by decide +kernel
theorem d_X_mixBus_43 : decode prog_1_method_46_code 43 = .ok (.lstore_n 1, 1) := by decide +kernel
theorem d_X_mixBus_44 : decode prog_1_method_46_code 44 = .ok (.lload_n 1, 1) := by decide +kernel
theorem d_X_mixBus_45 : decode prog_1_method_46_code 45 = .ok (.aload_n 0, 1) := by decide +kernel
theorem d_X_mixBus_46 : decode prog_1_method_46_code 46 = .ok (.iload_n 3, 1) := by decide +kernel
theorem d_X_mixBus_47 : decode prog_1_method_46_code 47 = .ok (.iconst 0, 1) := by decide +kernel
theorem d_X_mixBus_48 : decode prog_1_method_46_code 48 = .ok (.invokevirtual 358, 3) := by decide +kernel
theorem d_X_mixBus_51 : decode prog_1_method_46_code 51 = .ok (.i2l, 1) := by decide +kernel
theorem d_X_mixBus_52 : decode prog_1_method_46_code 52 = .ok (.invokestatic 276, 3) := by decide +kernel
theorem d_X_mixBus_55 : decode prog_1_method_46_code 55 = .ok (.aload_n 0, 1) := by decide +kernel
theorem d_X_mixBus_56 : decode prog_1_method_46_code 56 = .ok (.iload_n 3, 1) := by decide +kernel
theorem d_X_mixBus_57 : decode prog_1_method_46_code 57 = .ok (.iconst 1, 1) := by decide +kernel
theorem d_X_mixBus_58 : decode prog_1_method_46_code 58 = .ok (.invokevirtual 358, 3) := by decide +kernel
theorem d_X_mixBus_61 : decode prog_1_method_46_code 61 = .ok (.i2l, 1) := by decide +kernel
theorem d_X_mixBus_62 : decode prog_1_method_46_code 62 = .ok (.invokestatic 276, 3) := by decide +kernel
theorem d_X_mixBus_65 : decode prog_1_method_46_code 65 = .ok (.lstore_n 1, 1) := by decide +kernel
theorem d_X_mixBus_66 : decode prog_1_method_46_code 66 = .ok (.lload_n 1, 1) := by decide +kernel
theorem d_X_mixBus_67 : decode prog_1_method_46_code 67 = .ok (.aload_n 0, 1) := by decide +kernel
theorem d_X_mixBus_68 : decode prog_1_method_46_code 68 = .ok (.iconst 5, 1) := by decide +kernel
theorem d_X_mixBus_69 : decode prog_1_method_46_code 69 = .ok (.iload_n 3, 1) := by decide +kernel
theorem d_X_mixBus_70 : decode prog_1_method_46_code 70 = .ok (.iconst 0, 1) := by decide +kernel
theorem d_X_mixBus_71 : decode prog_1_method_46_code 71 = .ok (.invokevirtual 361, 3) := by decide +kernel
theorem d_X_mixBus_74 : decode prog_1_method_46_code 74 = .ok (.invokestatic 276, 3) := by decide +kernel
theorem d_X_mixBus_77 : decode prog_1_method_46_code 77 = .ok (.aload_n 0, 1) := by decide +kernel
theorem d_X_mixBus_78 : decode prog_1_method_46_code 78 = .ok (.iconst 5, 1) := by decide +kernel
theorem d_X_mixBus_79 : decode prog_1_method_46_code 79 = .ok (.iload_n 3, 1) := by decide +kernel
theorem d_X_mixBus_80 : decode prog_1_method_46_code 80 = .ok (.iconst 1, 1) := by decide +kernel
theorem d_X_mixBus_81 : decode prog_1_method_46_code 81 = .ok (.invokevirtual 361, 3) := by decide +kernel
theorem d_X_mixBus_84 : decode prog_1_method_46_code 84 = .ok (.invokestatic 276, 3) := by decide +kernel
theorem d_X_mixBus_87 : decode prog_1_method_46_code 87 = .ok (.lreturn, 1) := by decide +kernel
def wp_X_mixBus (a1 : Int64) (a3 : Int32) (M : Mem) (post : Int64 → Mem → Prop) : Prop :=
  wp_X_bus a3 M (fun r1 => wp_X_rides 9 a3 M (fun r4 M3 => ∀ x6 : Int64, x6 = (pf_X_mix (pf_X_mix a1 (Int32.toInt64 r1)) (Int32.toInt64 r4)) → wp_X_over a3 0 M3 (fun r8 M7 => wp_X_over a3 1 M7 (fun r11 M10 => ∀ x13 : Int64, x13 = (pf_X_mix (pf_X_mix x6 (Int32.toInt64 r8)) (Int32.toInt64 r11)) → wp_X_start a3 0 M10 (fun r15 M14 => wp_X_start a3 1 M14 (fun r18 M17 => ∀ x20 : Int64, x20 = (pf_X_mix (pf_X_mix x13 (Int32.toInt64 r15)) (Int32.toInt64 r18)) → wp_X_chance 5 a3 0 M17 (fun r22 M21 => wp_X_chance 5 a3 1 M21 (fun r25 M24 => post (pf_X_mix (pf_X_mix x20 r22) r25) M24))))))))
set_option maxHeartbeats 4000000 in
set_option maxRecDepth 100000 in
theorem c_X_mixBus (g : GX) {a1 : Int64} {a3 : Int32} {M : Mem} {post : Int64 → Mem → Prop} (hw : wp_X_mixBus a1 a3 M post) : CtL (oX g) y_X_mixBus prog_1_method_46_code 4 (some .long) (rl 5) [.ref (ax g 0), .long a1, .int a3] M post := by
  refine z_metL (oX_ok g) (by decide) rfl (fun X C hr => ?_)
  show Zj X 4 (oX g) M 0 [(0, .ref (ax g 0)), (1, .long a1), (3, .int a3)] []
  unfold wp_X_mixBus at hw
  refine z_lload_n C d_X_mixBus_0 rfl 1 rfl ?_
  refine z_aload_n C d_X_mixBus_1 rfl 0 rfl ?_
  refine z_iload_n C d_X_mixBus_2 rfl 2 rfl ?_
  refine z_callVi C (As := [.int a3]) (rest := [.long a1]) m_X_bus tw_654 0 (le_X) rfl ⟨rfl, rfl⟩ (c_X_bus g hw) rfl rfl rfl d_X_mixBus_3 (fun r1 M2 hq => ?_)
  obtain ⟨rfl, hw⟩ := hq
  refine z_i2l C d_X_mixBus_6 ?_
  refine z_callSl C (As := [.long a1, .long (Int32.toInt64 r1)]) (rest := []) m_X_mix tw_628 ⟨rfl, rfl⟩ (c_X_mix (oX_ok g) _ _ _) rfl rfl rfl d_X_mixBus_7 (fun r M2 hq => ?_)
  obtain ⟨rfl, rfl⟩ := hq
  refine z_aload_n C d_X_mixBus_10 rfl 0 rfl ?_
  refine z_bipush (v := 9) C d_X_mixBus_11 (by decide) ?_
  refine z_iload_n C d_X_mixBus_13 rfl 2 rfl ?_
  refine z_callVi C (As := [.int 9, .int a3]) (rest := [.long (pf_X_mix a1 (Int32.toInt64 r1))]) m_X_rides tw_655 0 (le_X) rfl ⟨rfl, rfl⟩ (c_X_rides g hw) rfl rfl rfl d_X_mixBus_14 (fun r4 M3 hw => ?_)
  refine z_i2l C d_X_mixBus_17 ?_
  refine z_callSl C (As := [.long (pf_X_mix a1 (Int32.toInt64 r1)), .long (Int32.toInt64 r4)]) (rest := []) m_X_mix tw_628 ⟨rfl, rfl⟩ (c_X_mix (oX_ok g) _ _ _) rfl rfl rfl d_X_mixBus_18 (fun r M2 hq => ?_)
  obtain ⟨rfl, rfl⟩ := hq
  obtain ⟨x6, hx6⟩ : ∃ z : Int64, z = (pf_X_mix (pf_X_mix a1 (Int32.toInt64 r1)) (Int32.toInt64 r4)) := ⟨_, rfl⟩
  rw [← hx6]
  replace hw := hw x6 hx6
  refine z_lstore_n (lv' := [(1, .long x6), (0, .ref (ax g 0)), (3, .int a3)]) C d_X_mixBus_21 rfl rfl rfl ?_
  refine z_lload_n C d_X_mixBus_22 rfl 0 rfl ?_
  refine z_aload_n C d_X_mixBus_23 rfl 1 rfl ?_
  refine z_iload_n C d_X_mixBus_24 rfl 2 rfl ?_
  refine z_iconst (v := 0) C d_X_mixBus_25 (by decide) ?_
  refine z_callVi C (As := [.int a3, .int 0]) (rest := [.long x6]) m_X_over tw_656 0 (le_X) rfl ⟨rfl, rfl⟩ (c_X_over g hw) rfl rfl rfl d_X_mixBus_26 (fun r8 M7 hw => ?_)
  refine z_i2l C d_X_mixBus_29 ?_
  refine z_callSl C (As := [.long x6, .long (Int32.toInt64 r8)]) (rest := []) m_X_mix tw_628 ⟨rfl, rfl⟩ (c_X_mix (oX_ok g) _ _ _) rfl rfl rfl d_X_mixBus_30 (fun r M2 hq => ?_)
  obtain ⟨rfl, rfl⟩ := hq
  refine z_aload_n C d_X_mixBus_33 rfl 1 rfl ?_
  refine z_iload_n C d_X_mixBus_34 rfl 2 rfl ?_
  refine z_iconst (v := 1) C d_X_mixBus_35 (by decide) ?_
  refine z_callVi C (As := [.int a3, .int 1]) (rest := [.long (pf_X_mix x6 (Int32.toInt64 r8))]) m_X_over tw_656 0 (le_X) rfl ⟨rfl, rfl⟩ (c_X_over g hw) rfl rfl rfl d_X_mixBus_36 (fun r11 M10 hw => ?_)
  refine z_i2l C d_X_mixBus_39 ?_
  refine z_callSl C (As := [.long (pf_X_mix x6 (Int32.toInt64 r8)), .long (Int32.toInt64 r11)]) (rest := []) m_X_mix tw_628 ⟨rfl, rfl⟩ (c_X_mix (oX_ok g) _ _ _) rfl rfl rfl d_X_mixBus_40 (fun r M2 hq => ?_)
  obtain ⟨rfl, rfl⟩ := hq
  obtain ⟨x13, hx13⟩ : ∃ z : Int64, z = (pf_X_mix (pf_X_mix x6 (Int32.toInt64 r8)) (Int32.toInt64 r11)) := ⟨_, rfl⟩
  rw [← hx13]
  replace hw := hw x13 hx13
  refine z_lstore_n (lv' := [(1, .long x13), (0, .ref (ax g 0)), (3, .int a3)]) C d_X_mixBus_43 rfl rfl rfl ?_
  refine z_lload_n C d_X_mixBus_44 rfl 0 rfl ?_
  refine z_aload_n C d_X_mixBus_45 rfl 1 rfl ?_
  refine z_iload_n C d_X_mixBus_46 rfl 2 rfl ?_
  refine z_iconst (v := 0) C d_X_mixBus_47 (by decide) ?_
  refine z_callVi C (As := [.int a3, .int 0]) (rest := [.long x13]) m_X_start tw_657 0 (le_X) rfl ⟨rfl, rfl⟩ (c_X_start g hw) rfl rfl rfl d_X_mixBus_48 (fun r15 M14 hw => ?_)
  refine z_i2l C d_X_mixBus_51 ?_
  refine z_callSl C (As := [.long x13, .long (Int32.toInt64 r15)]) (rest := []) m_X_mix tw_628 ⟨rfl, rfl⟩ (c_X_mix (oX_ok g) _ _ _) rfl rfl rfl d_X_mixBus_52 (fun r M2 hq => ?_)
  obtain ⟨rfl, rfl⟩ := hq
  refine z_aload_n C d_X_mixBus_55 rfl 1 rfl ?_
  refine z_iload_n C d_X_mixBus_56 rfl 2 rfl ?_
  refine z_iconst (v := 1) C d_X_mixBus_57 (by decide) ?_
  refine z_callVi C (As := [.int a3, .int 1]) (rest := [.long (pf_X_mix x13 (Int32.toInt64 r15))]) m_X_start tw_657 0 (le_X) rfl ⟨rfl, rfl⟩ (c_X_start g hw) rfl rfl rfl d_X_mixBus_58 (fun r18 M17 hw => ?_)
  refine z_i2l C d_X_mixBus_61 ?_
  refine z_callSl C (As := [.long (pf_X_mix x13 (Int32.toInt64 r15)), .long (Int32.toInt64 r18)]) (rest := []) m_X_mix tw_628 ⟨rfl, rfl⟩ (c_X_mix (oX_ok g) _ _ _) rfl rfl rfl d_X_mixBus_62 (fun r M2 hq => ?_)
  obtain ⟨rfl, rfl⟩ := hq
  obtain ⟨x20, hx20⟩ : ∃ z : Int64, z = (pf_X_mix (pf_X_mix x13 (Int32.toInt64 r15)) (Int32.toInt64 r18)) := ⟨_, rfl⟩
  rw [← hx20]
  replace hw := hw x20 hx20
  refine z_lstore_n (lv' := [(1, .long x20), (0, .ref (ax g 0)), (3, .int a3)]) C d_X_mixBus_65 rfl rfl rfl ?_
  refine z_lload_n C d_X_mixBus_66 rfl 0 rfl ?_
  refine z_aload_n C d_X_mixBus_67 rfl 1 rfl ?_
  refine z_iconst (v := 5) C d_X_mixBus_68 (by decide) ?_
  refine z_iload_n C d_X_mixBus_69 rfl 2 rfl ?_
  refine z_iconst (v := 0) C d_X_mixBus_70 (by decide) ?_
  refine z_callVl C (As := [.int 5, .int a3, .int 0]) (rest := [.long x20]) m_X_chance tw_658 0 (le_X) rfl ⟨rfl, rfl⟩ (c_X_chance g hw) rfl rfl rfl d_X_mixBus_71 (fun r22 M21 hw => ?_)
  refine z_callSl C (As := [.long x20, .long r22]) (rest := []) m_X_mix tw_628 ⟨rfl, rfl⟩ (c_X_mix (oX_ok g) _ _ _) rfl rfl rfl d_X_mixBus_74 (fun r M2 hq => ?_)
  obtain ⟨rfl, rfl⟩ := hq
  refine z_aload_n C d_X_mixBus_77 rfl 1 rfl ?_
  refine z_iconst (v := 5) C d_X_mixBus_78 (by decide) ?_
  refine z_iload_n C d_X_mixBus_79 rfl 2 rfl ?_
  refine z_iconst (v := 1) C d_X_mixBus_80 (by decide) ?_
  refine z_callVl C (As := [.int 5, .int a3, .int 1]) (rest := [.long (pf_X_mix x20 r22)]) m_X_chance tw_658 0 (le_X) rfl ⟨rfl, rfl⟩ (c_X_chance g hw) rfl rfl rfl d_X_mixBus_81 (fun r25 M24 hw => ?_)
  refine z_callSl C (As := [.long (pf_X_mix x20 r22), .long r25]) (rest := []) m_X_mix tw_628 ⟨rfl, rfl⟩ (c_X_mix (oX_ok g) _ _ _) rfl rfl rfl d_X_mixBus_84 (fun r M2 hq => ?_)
  obtain ⟨rfl, rfl⟩ := hq
  exact z_lret C hr hw d_X_mixBus_87
theorem d_X_takeText_0 : decode prog_1_method_50_code 0 = .ok (.iload_n 1, 1) := by decide +kernel
theorem d_X_takeText_1 : decode prog_1_method_50_code 1 = .ok (.tableswitch 75 0 2 #[27, 43, 59], 27) := by decide +kernel
theorem d_X_takeText_28 : decode prog_1_method_50_code 28 = .ok (.aload_n 0, 1) := by decide +kernel
theorem d_X_takeText_29 : decode prog_1_method_50_code 29 = .ok (.getfield 18, 3) := by decide +kernel
theorem d_X_takeText_32 : decode prog_1_method_50_code 32 = .ok (.aload_n 0, 1) := by decide +kernel
theorem d_X_takeText_33 : decode prog_1_method_50_code 33 = .ok (.getfield 11, 3) := by decide +kernel
theorem d_X_takeText_36 : decode prog_1_method_50_code 36 = .ok (.iload_n 1, 1) := by decide +kernel
theorem d_X_takeText_37 : decode prog_1_method_50_code 37 = .ok (.aaload, 1) := by decide +kernel
theorem d_X_takeText_38 : decode prog_1_method_50_code 38 = .ok (.invokevirtual 365, 3) := by decide +kernel
theorem d_X_takeText_41 : decode prog_1_method_50_code 41 = .ok (.goto (48), 3) := by decide +kernel
theorem d_X_takeText_44 : decode prog_1_method_50_code 44 = .ok (.aload_n 0, 1) := by decide +kernel
theorem d_X_takeText_45 : decode prog_1_method_50_code 45 = .ok (.getfield 18, 3) := by decide +kernel
theorem d_X_takeText_48 : decode prog_1_method_50_code 48 = .ok (.aload_n 0, 1) := by decide +kernel
theorem d_X_takeText_49 : decode prog_1_method_50_code 49 = .ok (.getfield 11, 3) := by decide +kernel
theorem d_X_takeText_52 : decode prog_1_method_50_code 52 = .ok (.iload_n 1, 1) := by decide +kernel
theorem d_X_takeText_53 : decode prog_1_method_50_code 53 = .ok (.aaload, 1) := by decide +kernel
theorem d_X_takeText_54 : decode prog_1_method_50_code 54 = .ok (.invokevirtual 369, 3) := by decide +kernel
theorem d_X_takeText_57 : decode prog_1_method_50_code 57 = .ok (.goto (32), 3) := by decide +kernel
theorem d_X_takeText_60 : decode prog_1_method_50_code 60 = .ok (.aload_n 0, 1) := by decide +kernel
theorem d_X_takeText_61 : decode prog_1_method_50_code 61 = .ok (.getfield 18, 3) := by decide +kernel
theorem d_X_takeText_64 : decode prog_1_method_50_code 64 = .ok (.aload_n 0, 1) := by decide +kernel
theorem d_X_takeText_65 : decode prog_1_method_50_code 65 = .ok (.getfield 11, 3) := by decide +kernel
theorem d_X_takeText_68 : decode prog_1_method_50_code 68 = .ok (.iload_n 1, 1) := by decide +kernel
theorem d_X_takeText_69 : decode prog_1_method_50_code 69 = .ok (.aaload, 1) := by decide +kernel
theorem d_X_takeText_70 : decode prog_1_method_50_code 70 = .ok (.invokevirtual 372, 3) := by decide +kernel
theorem d_X_takeText_73 : decode prog_1_method_50_code 73 = .ok (.goto (16), 3) := by decide +kernel
theorem d_X_takeText_76 : decode prog_1_method_50_code 76 = .ok (.aload_n 0, 1) := by decide +kernel
theorem d_X_takeText_77 : decode prog_1_method_50_code 77 = .ok (.getfield 18, 3) := by decide +kernel
theorem d_X_takeText_80 : decode prog_1_method_50_code 80 = .ok (.aload_n 0, 1) := by decide +kernel
theorem d_X_takeText_81 : decode prog_1_method_50_code 81 = .ok (.getfield 11, 3) := by decide +kernel
theorem d_X_takeText_84 : decode prog_1_method_50_code 84 = .ok (.iload_n 1, 1) := by decide +kernel
theorem d_X_takeText_85 : decode prog_1_method_50_code 85 = .ok (.aaload, 1) := by decide +kernel
theorem d_X_takeText_86 : decode prog_1_method_50_code 86 = .ok (.invokevirtual 375, 3) := by decide +kernel
theorem d_X_takeText_89 : decode prog_1_method_50_code 89 = .ok (.aload_n 0, 1) := by decide +kernel
theorem d_X_takeText_90 : decode prog_1_method_50_code 90 = .ok (.invokevirtual 115, 3) := by decide +kernel
theorem d_X_takeText_93 : decode prog_1_method_50_code 93 = .ok (.return_, 1) := by decide +kernel
def wp_X_takeText (a1 : Int32) (M : Mem) (post : Mem → Prop) : Prop :=
  (((a1 = 0) → vp_in a1 4 ∧ wp_XO_takeLand (tn a1) M (fun M3 => wp_X_changed M3 (fun M5 => post M5))) ∧ ((a1 = 1) → vp_in a1 4 ∧ wp_XO_takeFall (tn a1) M (fun M9 => wp_X_changed M9 (fun M11 => post M11))) ∧ ((a1 = 2) → vp_in a1 4 ∧ wp_XO_takePloughs (tn a1) M (fun M15 => wp_X_changed M15 (fun M17 => post M17))) ∧ ((¬ a1 = 0) → (¬ a1 = 1) → (¬ a1 = 2) → vp_in a1 4 ∧ wp_XO_takeBuses (tn a1) M (fun M21 => wp_X_changed M21 (fun M23 => post M23))))
set_option maxHeartbeats 4000000 in
set_option maxRecDepth 100000 in
theorem c_X_takeText (g : GX) {a1 : Int32} {M : Mem} {post : Mem → Prop} (hw : wp_X_takeText a1 M post) : CtV (oX g) y_X_takeText prog_1_method_50_code 2 none (rl 5) [.ref (ax g 0), .int a1] M post := by
  refine z_metV (oX_ok g) (by decide) rfl (fun X C hr => ?_)
  show Zj X 2 (oX g) M 0 [(0, .ref (ax g 0)), (1, .int a1)] []
  unfold wp_X_takeText at hw
  refine z_iload_n C d_X_takeText_0 rfl 1 rfl ?_
  refine z_table C [28, 44, 60] 76 d_X_takeText_1 rfl rfl rfl (by decide) (fun k t hk hx => ?_) (fun hx => ?_)
  · rcases k with _ | _ | _ | k
    · cases hk
      replace hw := hw.1 hx
      refine z_aload_n C d_X_takeText_28 rfl 0 rfl ?_
      refine gf_X_18 C d_X_takeText_29 ?_
      refine z_aload_n C d_X_takeText_32 rfl 0 rfl ?_
      refine gf_X_11 C d_X_takeText_33 ?_
      refine z_iload_n C d_X_takeText_36 rfl 1 rfl ?_
      have hv2 := hw.1
      replace hw := hw.2
      have ht1 := vp_lt hv2
      refine z_aaldText C hv2 d_X_takeText_37 ?_
      refine z_callVv C (As := [.ref (ax g (2 + 2 * (tn a1)))]) (rest := []) m_XO_takeLand tw_262 10 (le_XO) rfl ⟨rfl, rfl⟩ (c_XO_takeLand g ht1 hw) rfl rfl rfl d_X_takeText_38 (fun M3 hw => ?_)
      refine z_goto C 89 d_X_takeText_41 (by decide) ?_
      refine z_aload_n C d_X_takeText_89 rfl 0 rfl ?_
      refine z_callVv C (As := []) (rest := []) m_X_changed tw_293 0 (le_X) rfl ⟨rfl, rfl⟩ (c_X_changed g hw) rfl rfl rfl d_X_takeText_90 (fun M5 hw => ?_)
      exact z_vret C hr hw d_X_takeText_93
    · cases hk
      replace hw := hw.2.1 hx
      refine z_aload_n C d_X_takeText_44 rfl 0 rfl ?_
      refine gf_X_18 C d_X_takeText_45 ?_
      refine z_aload_n C d_X_takeText_48 rfl 0 rfl ?_
      refine gf_X_11 C d_X_takeText_49 ?_
      refine z_iload_n C d_X_takeText_52 rfl 1 rfl ?_
      have hv8 := hw.1
      replace hw := hw.2
      have ht7 := vp_lt hv8
      refine z_aaldText C hv8 d_X_takeText_53 ?_
      refine z_callVv C (As := [.ref (ax g (2 + 2 * (tn a1)))]) (rest := []) m_XO_takeFall tw_281 10 (le_XO) rfl ⟨rfl, rfl⟩ (c_XO_takeFall g ht7 hw) rfl rfl rfl d_X_takeText_54 (fun M9 hw => ?_)
      refine z_goto C 89 d_X_takeText_57 (by decide) ?_
      refine z_aload_n C d_X_takeText_89 rfl 0 rfl ?_
      refine z_callVv C (As := []) (rest := []) m_X_changed tw_293 0 (le_X) rfl ⟨rfl, rfl⟩ (c_X_changed g hw) rfl rfl rfl d_X_takeText_90 (fun M11 hw => ?_)
      exact z_vret C hr hw d_X_takeText_93
    · cases hk
      replace hw := hw.2.2.1 hx
      refine z_aload_n C d_X_takeText_60 rfl 0 rfl ?_
      refine gf_X_18 C d_X_takeText_61 ?_
      refine z_aload_n C d_X_takeText_64 rfl 0 rfl ?_
      refine gf_X_11 C d_X_takeText_65 ?_
      refine z_iload_n C d_X_takeText_68 rfl 1 rfl ?_
      have hv14 := hw.1
      replace hw := hw.2
      have ht13 := vp_lt hv14
      refine z_aaldText C hv14 d_X_takeText_69 ?_
      refine z_callVv C (As := [.ref (ax g (2 + 2 * (tn a1)))]) (rest := []) m_XO_takePloughs tw_285 10 (le_XO) rfl ⟨rfl, rfl⟩ (c_XO_takePloughs g ht13 hw) rfl rfl rfl d_X_takeText_70 (fun M15 hw => ?_)
      refine z_goto C 89 d_X_takeText_73 (by decide) ?_
      refine z_aload_n C d_X_takeText_89 rfl 0 rfl ?_
      refine z_callVv C (As := []) (rest := []) m_X_changed tw_293 0 (le_X) rfl ⟨rfl, rfl⟩ (c_X_changed g hw) rfl rfl rfl d_X_takeText_90 (fun M17 hw => ?_)
      exact z_vret C hr hw d_X_takeText_93
    · simp at hk
  · replace hw := hw.2.2.2 (hx 0 (by decide)) (hx 1 (by decide)) (hx 2 (by decide))
    refine z_aload_n C d_X_takeText_76 rfl 0 rfl ?_
    refine gf_X_18 C d_X_takeText_77 ?_
    refine z_aload_n C d_X_takeText_80 rfl 0 rfl ?_
    refine gf_X_11 C d_X_takeText_81 ?_
    refine z_iload_n C d_X_takeText_84 rfl 1 rfl ?_
    have hv20 := hw.1
    replace hw := hw.2
    have ht19 := vp_lt hv20
    refine z_aaldText C hv20 d_X_takeText_85 ?_
    refine z_callVv C (As := [.ref (ax g (2 + 2 * (tn a1)))]) (rest := []) m_XO_takeBuses tw_289 10 (le_XO) rfl ⟨rfl, rfl⟩ (c_XO_takeBuses g ht19 hw) rfl rfl rfl d_X_takeText_86 (fun M21 hw => ?_)
    refine z_aload_n C d_X_takeText_89 rfl 0 rfl ?_
    refine z_callVv C (As := []) (rest := []) m_X_changed tw_293 0 (le_X) rfl ⟨rfl, rfl⟩ (c_X_changed g hw) rfl rfl rfl d_X_takeText_90 (fun M23 hw => ?_)
    exact z_vret C hr hw d_X_takeText_93
theorem d_R_fault_0 : decode prog_8_method_33_code 0 = .ok (.iload_n 1, 1) := by decide +kernel
theorem d_R_fault_1 : decode prog_8_method_33_code 1 = .ok (.invokestatic 125, 3) := by decide +kernel
theorem d_R_fault_4 : decode prog_8_method_33_code 4 = .ok (.ifCond .eq (11), 3) := by decide +kernel
theorem d_R_fault_7 : decode prog_8_method_33_code 7 = .ok (.aload_n 0, 1) := by decide +kernel
theorem d_R_fault_8 : decode prog_8_method_33_code 8 = .ok (.iload_n 1, 1) := by decide +kernel
theorem d_R_fault_9 : decode prog_8_method_33_code 9 = .ok (.invokevirtual 168, 3) := by decide +kernel
theorem d_R_fault_12 : decode prog_8_method_33_code 12 = .ok (.goto (5), 3) := by decide +kernel
theorem d_R_fault_15 : decode prog_8_method_33_code 15 = .ok (.bipush (-2), 2) := by decide +kernel
theorem d_R_fault_17 : decode prog_8_method_33_code 17 = .ok (.ireturn, 1) := by decide +kernel
def wp_R_fault (a1 : Int32) (M : Mem) (post : Int32 → Mem → Prop) : Prop :=
  ((((pf_R_isText a1) = 0) → post (-2) M) ∧ (¬ ((pf_R_isText a1) = 0) → wp_R_readsText a1 M (fun r4 M3 => post r4 M3)))
set_option maxHeartbeats 4000000 in
set_option maxRecDepth 100000 in
theorem c_R_fault (g : GX) {a1 : Int32} {M : Mem} {post : Int32 → Mem → Prop} (hw : wp_R_fault a1 M post) : CtI (oR g) y_R_fault prog_8_method_33_code 2 (some .int) (rl 5) [.ref (ax g 0), .int a1] M post := by
  refine z_metI (oR_ok g) (by decide) rfl (fun X C hr => ?_)
  show Zj X 2 (oR g) M 0 [(0, .ref (ax g 0)), (1, .int a1)] []
  unfold wp_R_fault at hw
  refine z_iload_n C d_R_fault_0 rfl 1 rfl ?_
  refine z_callSi C (As := [.int a1]) (rest := []) m_R_isText tw_822 ⟨rfl, rfl⟩ (c_R_isText (oR_ok g) _ _) rfl rfl rfl d_R_fault_1 (fun r M2 hq => ?_)
  obtain ⟨rfl, rfl⟩ := hq
  refine z_if_eq C 15 d_R_fault_4 (by decide) (fun h2 => ?_) (fun h2 => ?_)
  · replace hw := hw.1 h2
    refine z_bipush (v := (-2)) C d_R_fault_15 (by decide) ?_
    exact z_iret C hr hw d_R_fault_17
  · replace hw := hw.2 h2
    refine z_aload_n C d_R_fault_7 rfl 0 rfl ?_
    refine z_iload_n C d_R_fault_8 rfl 1 rfl ?_
    refine z_callVi C (As := [.int a1]) (rest := []) m_R_readsText tw_838 0 (le_R) rfl ⟨rfl, rfl⟩ (c_R_readsText g hw) rfl rfl rfl d_R_fault_9 (fun r4 M3 hw => ?_)
    refine z_goto C 17 d_R_fault_12 (by decide) ?_
    exact z_iret C hr hw d_R_fault_17
theorem d_R_find_0 : decode prog_8_method_53_code 0 = .ok (.iconst 0, 1) := by decide +kernel
theorem d_R_find_1 : decode prog_8_method_53_code 1 = .ok (.istore_n 1, 1) := by decide +kernel
theorem d_R_find_2 : decode prog_8_method_53_code 2 = .ok (.iload_n 1, 1) := by decide +kernel
theorem d_R_find_3 : decode prog_8_method_53_code 3 = .ok (.iconst 4, 1) := by decide +kernel
theorem d_R_find_4 : decode prog_8_method_53_code 4 = .ok (.if_icmp .ge (15), 3) := by decide +kernel
theorem d_R_find_7 : decode prog_8_method_53_code 7 = .ok (.aload_n 0, 1) := by decide +kernel
theorem d_R_find_8 : decode prog_8_method_53_code 8 = .ok (.iload_n 1, 1) := by decide +kernel
theorem d_R_find_9 : decode prog_8_method_53_code 9 = .ok (.invokevirtual 168, 3) := by decide +kernel
theorem d_R_find_12 : decode prog_8_method_53_code 12 = .ok (.pop, 1) := by decide +kernel
theorem d_R_find_13 : decode prog_8_method_53_code 13 = .ok (.iinc 1 1, 3) := by decide +kernel
theorem d_R_find_16 : decode prog_8_method_53_code 16 = .ok (.goto (-14), 3) := by decide +kernel
theorem d_R_find_19 : decode prog_8_method_53_code 19 = .ok (.aload_n 0, 1) := by decide +kernel
theorem d_R_find_20 : decode prog_8_method_53_code 20 = .ok (.invokevirtual 225, 3) := by decide +kernel
theorem d_R_find_23 : decode prog_8_method_53_code 23 = .ok (.return_, 1) := by decide +kernel
def wp_R_find (M : Mem) (post : Mem → Prop) : Prop :=
  (it2 (fun rec1 (i3 : Int32) (M4 : Mem) => (((4 ≤ i3) → wp_R_lives M4 (fun M6 => post M6)) ∧ (¬ (4 ≤ i3) → wp_R_readsText i3 M4 (fun r9 M8 => rec1 (i3 + 1) M8)))) 4096 0 M)
set_option maxHeartbeats 4000000 in
set_option maxRecDepth 100000 in
theorem c_R_find (g : GX) {M : Mem} {post : Mem → Prop} (hw : wp_R_find M post) : CtV (oR g) y_R_find prog_8_method_53_code 2 none (rl 5) [.ref (ax g 0)] M post := by
  refine z_metV (oR_ok g) (by decide) rfl (fun X C hr => ?_)
  show Zj X 2 (oR g) M 0 [(0, .ref (ax g 0))] []
  unfold wp_R_find at hw
  refine z_iconst (v := 0) C d_R_find_0 (by decide) ?_
  refine z_istore_n (lv' := [(1, .int 0), (0, .ref (ax g 0))]) C d_R_find_1 rfl rfl rfl ?_
  refine z_sub [1, 0] rfl ?_
  refine it2_Z (Z := fun (i3 : Int32) (M4 : Mem) => Zj X 2 (oR g) M4 2 [(0, .ref (ax g 0)), (1, .int i3)] []) (fun rec1 ih2 i3 M4 hw => ?_) _ _ _ hw
  refine z_iload_n C d_R_find_2 rfl 1 rfl ?_
  refine z_iconst (v := 4) C d_R_find_3 (by decide) ?_
  refine z_ic_ge C 19 d_R_find_4 (by decide) (fun h5 => ?_) (fun h5 => ?_)
  · replace hw := hw.1 h5
    refine z_aload_n C d_R_find_19 rfl 0 rfl ?_
    refine z_callVv C (As := []) (rest := []) m_R_lives tw_935 0 (le_R) rfl ⟨rfl, rfl⟩ (c_R_lives g hw) rfl rfl rfl d_R_find_20 (fun M6 hw => ?_)
    exact z_vret C hr hw d_R_find_23
  · replace hw := hw.2 h5
    refine z_aload_n C d_R_find_7 rfl 0 rfl ?_
    refine z_iload_n C d_R_find_8 rfl 1 rfl ?_
    refine z_callVi C (As := [.int i3]) (rest := []) m_R_readsText tw_838 0 (le_R) rfl ⟨rfl, rfl⟩ (c_R_readsText g hw) rfl rfl rfl d_R_find_9 (fun r9 M8 hw => ?_)
    refine z_pop C d_R_find_12 rfl ?_
    refine z_iinc (v := (i3 + 1)) (lv' := [(1, .int (i3 + 1)), (0, .ref (ax g 0))]) C d_R_find_13 1 rfl rfl rfl rfl ?_
    refine z_goto C 2 d_R_find_16 (by decide) ?_
    refine z_sub [1, 0] rfl ?_
    exact ih2 _ _ hw
