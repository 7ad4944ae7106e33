theorem d_R_passes_0 : decode prog_8_method_51_code 0 = .ok (.aload_n 0, 1) := by decide +kernel
theorem d_R_passes_1 : decode prog_8_method_51_code 1 = .ok (.iload_n 1, 1) := by decide +kernel
theorem d_R_passes_2 : decode prog_8_method_51_code 2 = .ok (.invokevirtual 208, 3) := by decide +kernel
theorem d_R_passes_5 : decode prog_8_method_51_code 5 = .ok (.iconst 0, 1) := by decide +kernel
theorem d_R_passes_6 : decode prog_8_method_51_code 6 = .ok (.istore_n 2, 1) := by decide +kernel
theorem d_R_passes_7 : decode prog_8_method_51_code 7 = .ok (.iload_n 2, 1) := by decide +kernel
theorem d_R_passes_8 : decode prog_8_method_51_code 8 = .ok (.aload_n 0, 1) := by decide +kernel
theorem d_R_passes_9 : decode prog_8_method_51_code 9 = .ok (.getfield 146, 3) := by decide +kernel
theorem d_R_passes_12 : decode prog_8_method_51_code 12 = .ok (.if_icmp .ge (81), 3) := by decide +kernel
theorem d_R_passes_15 : decode prog_8_method_51_code 15 = .ok (.aload_n 0, 1) := by decide +kernel
theorem d_R_passes_16 : decode prog_8_method_51_code 16 = .ok (.iload_n 1, 1) := by decide +kernel
theorem d_R_passes_17 : decode prog_8_method_51_code 17 = .ok (.iload_n 2, 1) := by decide +kernel
theorem d_R_passes_18 : decode prog_8_method_51_code 18 = .ok (.invokevirtual 212, 3) := by decide +kernel
theorem d_R_passes_21 : decode prog_8_method_51_code 21 = .ok (.ifCond .eq (7), 3) := by decide +kernel
theorem d_R_passes_24 : decode prog_8_method_51_code 24 = .ok (.iconst 0, 1) := by decide +kernel
theorem d_R_passes_25 : decode prog_8_method_51_code 25 = .ok (.goto (8), 3) := by decide +kernel
theorem d_R_passes_28 : decode prog_8_method_51_code 28 = .ok (.aload_n 0, 1) := by decide +kernel
theorem d_R_passes_29 : decode prog_8_method_51_code 29 = .ok (.iload_n 2, 1) := by decide +kernel
theorem d_R_passes_30 : decode prog_8_method_51_code 30 = .ok (.invokevirtual 215, 3) := by decide +kernel
theorem d_R_passes_33 : decode prog_8_method_51_code 33 = .ok (.istore_n 3, 1) := by decide +kernel
theorem d_R_passes_34 : decode prog_8_method_51_code 34 = .ok (.aload_n 0, 1) := by decide +kernel
theorem d_R_passes_35 : decode prog_8_method_51_code 35 = .ok (.getfield 55, 3) := by decide +kernel
theorem d_R_passes_38 : decode prog_8_method_51_code 38 = .ok (.iload_n 2, 1) := by decide +kernel
theorem d_R_passes_39 : decode prog_8_method_51_code 39 = .ok (.dup2, 1) := by decide +kernel
theorem d_R_passes_40 : decode prog_8_method_51_code 40 = .ok (.iaload, 1) := by decide +kernel
theorem d_R_passes_41 : decode prog_8_method_51_code 41 = .ok (.iload_n 3, 1) := by decide +kernel
theorem d_R_passes_42 : decode prog_8_method_51_code 42 = .ok (.iadd, 1) := by decide +kernel
theorem d_R_passes_43 : decode prog_8_method_51_code 43 = .ok (.iastore, 1) := by decide +kernel
theorem d_R_passes_44 : decode prog_8_method_51_code 44 = .ok (.aload_n 0, 1) := by decide +kernel
theorem d_R_passes_45 : decode prog_8_method_51_code 45 = .ok (.getfield 73, 3) := by decide +kernel
theorem d_R_passes_48 : decode prog_8_method_51_code 48 = .ok (.iconst 4, 1) := by decide +kernel
theorem d_R_passes_49 : decode prog_8_method_51_code 49 = .ok (.iload_n 1, 1) := by decide +kernel
theorem d_R_passes_50 : decode prog_8_method_51_code 50 = .ok (.imul, 1) := by decide +kernel
theorem d_R_passes_51 : decode prog_8_method_51_code 51 = .ok (.iload_n 2, 1) := by decide +kernel
theorem d_R_passes_52 : decode prog_8_method_51_code 52 = .ok (.iadd, 1) := by decide +kernel
theorem d_R_passes_53 : decode prog_8_method_51_code 53 = .ok (.aload_n 0, 1) := by decide +kernel
theorem d_R_passes_54 : decode prog_8_method_51_code 54 = .ok (.getfield 49, 3) := by decide +kernel
theorem d_R_passes_57 : decode prog_8_method_51_code 57 = .ok (.iload_n 2, 1) := by decide +kernel
theorem d_R_passes_58 : decode prog_8_method_51_code 58 = .ok (.iaload, 1) := by decide +kernel
theorem d_R_passes_59 : decode prog_8_method_51_code 59 = .ok (.iastore, 1) := by decide +kernel
theorem d_R_passes_60 : decode prog_8_method_51_code 60 = .ok (.aload_n 0, 1) := by decide +kernel
theorem d_R_passes_61 : decode prog_8_method_51_code 61 = .ok (.getfield 76, 3) := by decide +kernel
theorem d_R_passes_64 : decode prog_8_method_51_code 64 = .ok (.iconst 4, 1) := by decide +kernel
theorem d_R_passes_65 : decode prog_8_method_51_code 65 = .ok (.iload_n 1, 1) := by decide +kernel
theorem d_R_passes_66 : decode prog_8_method_51_code 66 = .ok (.imul, 1) := by decide +kernel
theorem d_R_passes_67 : decode prog_8_method_51_code 67 = .ok (.iload_n 2, 1) := by decide +kernel
theorem d_R_passes_68 : decode prog_8_method_51_code 68 = .ok (.iadd, 1) := by decide +kernel
theorem d_R_passes_69 : decode prog_8_method_51_code 69 = .ok (.aload_n 0, 1) := by decide +kernel
theorem d_R_passes_70 : decode prog_8_method_51_code 70 = .ok (.getfield 52, 3) := by decide +kernel
theorem d_R_passes_73 : decode prog_8_method_51_code 73 = .ok (.iload_n 2, 1) := by decide +kernel
theorem d_R_passes_74 : decode prog_8_method_51_code 74 = .ok (.iaload, 1) := by decide +kernel
theorem d_R_passes_75 : decode prog_8_method_51_code 75 = .ok (.iastore, 1) := by decide +kernel
theorem d_R_passes_76 : decode prog_8_method_51_code 76 = .ok (.aload_n 0, 1) := by decide +kernel
theorem d_R_passes_77 : decode prog_8_method_51_code 77 = .ok (.getfield 79, 3) := by decide +kernel
theorem d_R_passes_80 : decode prog_8_method_51_code 80 = .ok (.iconst 4, 1) := by decide +kernel
theorem d_R_passes_81 : decode prog_8_method_51_code 81 = .ok (.iload_n 1, 1) := by decide +kernel
theorem d_R_passes_82 : decode prog_8_method_51_code 82 = .ok (.imul, 1) := by decide +kernel
theorem d_R_passes_83 : decode prog_8_method_51_code 83 = .ok (.iload_n 2, 1) := by decide +kernel
theorem d_R_passes_84 : decode prog_8_method_51_code 84 = .ok (.iadd, 1) := by decide +kernel
theorem d_R_passes_85 : decode prog_8_method_51_code 85 = .ok (.iload_n 3, 1) := by decide +kernel
theorem d_R_passes_86 : decode prog_8_method_51_code 86 = .ok (.iastore, 1) := by decide +kernel
theorem d_R_passes_87 : decode prog_8_method_51_code 87 = .ok (.iinc 2 1, 3) := by decide +kernel
theorem d_R_passes_90 : decode prog_8_method_51_code 90 = .ok (.goto (-83), 3) := by decide +kernel
theorem d_R_passes_93 : decode prog_8_method_51_code 93 = .ok (.iconst 0, 1) := by decide +kernel
theorem d_R_passes_94 : decode prog_8_method_51_code 94 = .ok (.istore_n 2, 1) := by decide +kernel
theorem d_R_passes_95 : decode prog_8_method_51_code 95 = .ok (.iload_n 2, 1) := by decide +kernel
theorem d_R_passes_96 : decode prog_8_method_51_code 96 = .ok (.aload_n 0, 1) := by decide +kernel
theorem d_R_passes_97 : decode prog_8_method_51_code 97 = .ok (.getfield 152, 3) := by decide +kernel
theorem d_R_passes_100 : decode prog_8_method_51_code 100 = .ok (.if_icmp .ge (67), 3) := by decide +kernel
theorem d_R_passes_103 : decode prog_8_method_51_code 103 = .ok (.iload_n 1, 1) := by decide +kernel
theorem d_R_passes_104 : decode prog_8_method_51_code 104 = .ok (.aload_n 0, 1) := by decide +kernel
theorem d_R_passes_105 : decode prog_8_method_51_code 105 = .ok (.getfield 37, 3) := by decide +kernel
theorem d_R_passes_108 : decode prog_8_method_51_code 108 = .ok (.iload_n 2, 1) := by decide +kernel
theorem d_R_passes_109 : decode prog_8_method_51_code 109 = .ok (.iaload, 1) := by decide +kernel
theorem d_R_passes_110 : decode prog_8_method_51_code 110 = .ok (.if_icmp .lt (34), 3) := by decide +kernel
theorem d_R_passes_113 : decode prog_8_method_51_code 113 = .ok (.aload_n 0, 1) := by decide +kernel
theorem d_R_passes_114 : decode prog_8_method_51_code 114 = .ok (.getfield 64, 3) := by decide +kernel
theorem d_R_passes_117 : decode prog_8_method_51_code 117 = .ok (.iload_n 2, 1) := by decide +kernel
theorem d_R_passes_118 : decode prog_8_method_51_code 118 = .ok (.iaload, 1) := by decide +kernel
theorem d_R_passes_119 : decode prog_8_method_51_code 119 = .ok (.iconst (-1), 1) := by decide +kernel
theorem d_R_passes_120 : decode prog_8_method_51_code 120 = .ok (.if_icmp .ne (24), 3) := by decide +kernel
theorem d_R_passes_123 : decode prog_8_method_51_code 123 = .ok (.aload_n 0, 1) := by decide +kernel
theorem d_R_passes_124 : decode prog_8_method_51_code 124 = .ok (.iload_n 1, 1) := by decide +kernel
theorem d_R_passes_125 : decode prog_8_method_51_code 125 = .ok (.iload_n 2, 1) := by decide +kernel
theorem d_R_passes_126 : decode prog_8_method_51_code 126 = .ok (.iload_n 1, 1) := by decide +kernel
theorem d_R_passes_127 : decode prog_8_method_51_code 127 = .ok (.aload_n 0, 1) := by decide +kernel
theorem d_R_passes_128 : decode prog_8_method_51_code 128 = .ok (.getfield 37, 3) := by decide +kernel
theorem d_R_passes_131 : decode prog_8_method_51_code 131 = .ok (.iload_n 2, 1) := by decide +kernel
theorem d_R_passes_132 : decode prog_8_method_51_code 132 = .ok (.iaload, 1) := by decide +kernel
theorem d_R_passes_133 : decode prog_8_method_51_code 133 = .ok (.if_icmp .ne (7), 3) := by decide +kernel
theorem d_R_passes_136 : decode prog_8_method_51_code 136 = .ok (.iconst 1, 1) := by decide +kernel
theorem d_R_passes_137 : decode prog_8_method_51_code 137 = .ok (.goto (4), 3) := by decide +kernel
theorem d_R_passes_140 : decode prog_8_method_51_code 140 = .ok (.iconst 0, 1) := by decide +kernel
theorem d_R_passes_141 : decode prog_8_method_51_code 141 = .ok (.invokevirtual 218, 3) := by decide +kernel
theorem d_R_passes_144 : decode prog_8_method_51_code 144 = .ok (.aload_n 0, 1) := by decide +kernel
theorem d_R_passes_145 : decode prog_8_method_51_code 145 = .ok (.getfield 82, 3) := by decide +kernel
theorem d_R_passes_148 : decode prog_8_method_51_code 148 = .ok (.bipush 8, 2) := by decide +kernel
theorem d_R_passes_150 : decode prog_8_method_51_code 150 = .ok (.iload_n 1, 1) := by decide +kernel
theorem d_R_passes_151 : decode prog_8_method_51_code 151 = .ok (.imul, 1) := by decide +kernel
theorem d_R_passes_152 : decode prog_8_method_51_code 152 = .ok (.iload_n 2, 1) := by decide +kernel
theorem d_R_passes_153 : decode prog_8_method_51_code 153 = .ok (.iadd, 1) := by decide +kernel
theorem d_R_passes_154 : decode prog_8_method_51_code 154 = .ok (.aload_n 0, 1) := by decide +kernel
theorem d_R_passes_155 : decode prog_8_method_51_code 155 = .ok (.getfield 61, 3) := by decide +kernel
theorem d_R_passes_158 : decode prog_8_method_51_code 158 = .ok (.iload_n 2, 1) := by decide +kernel
theorem d_R_passes_159 : decode prog_8_method_51_code 159 = .ok (.iaload, 1) := by decide +kernel
theorem d_R_passes_160 : decode prog_8_method_51_code 160 = .ok (.iastore, 1) := by decide +kernel
theorem d_R_passes_161 : decode prog_8_method_51_code 161 = .ok (.iinc 2 1, 3) := by decide +kernel
theorem d_R_passes_164 : decode prog_8_method_51_code 164 = .ok (.goto (-69), 3) := by decide +kernel
theorem d_R_passes_167 : decode prog_8_method_51_code 167 = .ok (.iconst 0, 1) := by decide +kernel
theorem d_R_passes_168 : decode prog_8_method_51_code 168 = .ok (.istore_n 2, 1) := by decide +kernel
theorem d_R_passes_169 : decode prog_8_method_51_code 169 = .ok (.iload_n 2, 1) := by decide +kernel
theorem d_R_passes_170 : decode prog_8_method_51_code 170 = .ok (.bipush 12, 2) := by decide +kernel
theorem d_R_passes_172 : decode prog_8_method_51_code 172 = .ok (.if_icmp .ge (26), 3) := by decide +kernel
theorem d_R_passes_175 : decode prog_8_method_51_code 175 = .ok (.aload_n 0, 1) := by decide +kernel
theorem d_R_passes_176 : decode prog_8_method_51_code 176 = .ok (.getfield 70, 3) := by decide +kernel
theorem d_R_passes_179 : decode prog_8_method_51_code 179 = .ok (.bipush 12, 2) := by decide +kernel
theorem d_R_passes_181 : decode prog_8_method_51_code 181 = .ok (.iload_n 1, 1) := by decide +kernel
theorem d_R_passes_182 : decode prog_8_method_51_code 182 = .ok (.imul, 1) := by decide +kernel
theorem d_R_passes_183 : decode prog_8_method_51_code 183 = .ok (.iload_n 2, 1) := by decide +kernel
theorem d_R_passes_184 : decode prog_8_method_51_code 184 = .ok (.iadd, 1) := by decide +kernel
theorem d_R_passes_185 : decode prog_8_method_51_code 185 = .ok (.aload_n 0, 1) := by decide +kernel
theorem d_R_passes_186 : decode prog_8_method_51_code 186 = .ok (.getfield 43, 3) := by decide +kernel
theorem d_R_passes_189 : decode prog_8_method_51_code 189 = .ok (.iload_n 2, 1) := by decide +kernel
theorem d_R_passes_190 : decode prog_8_method_51_code 190 = .ok (.iaload, 1) := by decide +kernel
theorem d_R_passes_191 : decode prog_8_method_51_code 191 = .ok (.iastore, 1) := by decide +kernel
theorem d_R_passes_192 : decode prog_8_method_51_code 192 = .ok (.iinc 2 1, 3) := by decide +kernel
theorem d_R_passes_195 : decode prog_8_method_51_code 195 = .ok (.goto (-26), 3) := by decide +kernel
theorem d_R_passes_198 : decode prog_8_method_51_code 198 = .ok (.return_, 1) := by decide +kernel
def wp_R_passes (a1 : Int32) (M : Mem) (post : Mem → Prop) : Prop :=
  wp_R_weathers a1 M (fun M1 => (it2 (fun rec3 (i5 : Int32) (M6 : Mem) => ((((M6 0 9) ≤ i5) → (it2 (fun rec8 (i10 : Int32) (M11 : Mem) => ((((M11 0 11) ≤ i10) → (it2 (fun rec13 (i15 : Int32) (M16 : Mem) => (((12 ≤ i15) → post M16) ∧ (¬ (12 ≤ i15) → vp_in i15 12 ∧ vp_in ((12 * a1) + i15) 288 ∧ ∀ M19 : Mem, M19 = upm M16 21 (tn ((12 * a1) + i15)) (M16 12 (tn i15)) → rec13 (i15 + 1) M19))) 4096 0 M11)) ∧ (¬ ((M11 0 11) ≤ i10) → vp_in i10 8 ∧ (((a1 < (M11 10 (tn i10))) → vp_in ((8 * a1) + i10) 192 ∧ ∀ M23 : Mem, M23 = upm M11 25 (tn ((8 * a1) + i10)) (M11 18 (tn i10)) → rec8 (i10 + 1) M23) ∧ (¬ (a1 < (M11 10 (tn i10))) → ((((M11 19 (tn i10)) = (-1)) → ∀ u29 : Int32, u29 = (if a1 = (M11 10 (tn i10)) then 1 else 0) → wp_R_drives a1 i10 u29 M11 (fun M30 => vp_in ((8 * a1) + i10) 192 ∧ ∀ M32 : Mem, M32 = upm M30 25 (tn ((8 * a1) + i10)) (M30 18 (tn i10)) → rec8 (i10 + 1) M32)) ∧ (¬ ((M11 19 (tn i10)) = (-1)) → vp_in ((8 * a1) + i10) 192 ∧ ∀ M26 : Mem, M26 = upm M11 25 (tn ((8 * a1) + i10)) (M11 18 (tn i10)) → rec8 (i10 + 1) M26))))))) 4096 0 M6)) ∧ (¬ ((M6 0 9) ≤ i5) → wp_R_isBroken a1 i5 M6 (fun r35 => (((r35 = 0) → wp_R_scoops i5 M6 (fun r38 M37 => vp_in i5 4 ∧ ∀ M40 : Mem, M40 = upm M37 16 (tn i5) ((M37 16 (tn i5)) + r38) → vp_in ((4 * a1) + i5) 96 ∧ ∀ M41 : Mem, M41 = upm M40 22 (tn ((4 * a1) + i5)) (M40 14 (tn i5)) → ∀ M43 : Mem, M43 = upm M41 23 (tn ((4 * a1) + i5)) (M41 15 (tn i5)) → ∀ M44 : Mem, M44 = upm M43 24 (tn ((4 * a1) + i5)) r38 → rec3 (i5 + 1) M44)) ∧ (¬ (r35 = 0) → vp_in i5 4 ∧ ∀ M46 : Mem, M46 = upm M6 16 (tn i5) ((M6 16 (tn i5)) + 0) → vp_in ((4 * a1) + i5) 96 ∧ ∀ M47 : Mem, M47 = upm M46 22 (tn ((4 * a1) + i5)) (M46 14 (tn i5)) → ∀ M49 : Mem, M49 = upm M47 23 (tn ((4 * a1) + i5)) (M47 15 (tn i5)) → ∀ M50 : Mem, M50 = upm M49 24 (tn ((4 * a1) + i5)) 0 → rec3 (i5 + 1) M50)))))) 4096 0 M1))
set_option maxHeartbeats 4000000 in
set_option maxRecDepth 100000 in
theorem c_R_passes (g : GX) {a1 : Int32} {M : Mem} {post : Mem → Prop} (hw : wp_R_passes a1 M post) : CtV (oR g) y_R_passes prog_8_method_51_code 4 none (rl 3) [.ref (ax g 0), .int a1] M post := by
  refine z_metV (oR_ok g) (by decide) rfl (fun X C hr => ?_)
  show Zj X 4 (oR g) M 0 [(0, .ref (ax g 0)), (1, .int a1)] []
  unfold wp_R_passes at hw
  refine z_aload_n C d_R_passes_0 rfl 0 rfl ?_
  refine z_iload_n C d_R_passes_1 rfl 1 rfl ?_
  refine z_callVv C (As := [.int a1]) (rest := []) m_R_weathers tw_943 0 (le_R) rfl ⟨rfl, rfl⟩ (c_R_weathers g hw) rfl rfl rfl d_R_passes_2 (fun M1 hw => ?_)
  refine z_iconst (v := 0) C d_R_passes_5 (by decide) ?_
  refine z_istore_n (lv' := [(2, .int 0), (0, .ref (ax g 0)), (1, .int a1)]) C d_R_passes_6 rfl rfl rfl ?_
  refine z_sub [1, 2, 0] rfl ?_
  refine it2_Z (Z := fun (i5 : Int32) (M6 : Mem) => Zj X 4 (oR g) M6 7 [(0, .ref (ax g 0)), (1, .int a1), (2, .int i5)] []) (fun rec3 ih4 i5 M6 hw => ?_) _ _ _ hw
  refine z_iload_n C d_R_passes_7 rfl 2 rfl ?_
  refine z_aload_n C d_R_passes_8 rfl 0 rfl ?_
  refine gf_R_146 C d_R_passes_9 ?_
  refine z_ic_ge C 93 d_R_passes_12 (by decide) (fun h7 => ?_) (fun h7 => ?_)
  · replace hw := hw.1 h7
    refine z_iconst (v := 0) C d_R_passes_93 (by decide) ?_
    refine z_istore_n (lv' := [(2, .int 0), (0, .ref (ax g 0)), (1, .int a1)]) C d_R_passes_94 rfl rfl rfl ?_
    refine z_sub [1, 2, 0] rfl ?_
    refine it2_Z (Z := fun (i10 : Int32) (M11 : Mem) => Zj X 4 (oR g) M11 95 [(0, .ref (ax g 0)), (1, .int a1), (2, .int i10)] []) (fun rec8 ih9 i10 M11 hw => ?_) _ _ _ hw
    refine z_iload_n C d_R_passes_95 rfl 2 rfl ?_
    refine z_aload_n C d_R_passes_96 rfl 0 rfl ?_
    refine gf_R_152 C d_R_passes_97 ?_
    refine z_ic_ge C 167 d_R_passes_100 (by decide) (fun h12 => ?_) (fun h12 => ?_)
    · replace hw := hw.1 h12
      refine z_iconst (v := 0) C d_R_passes_167 (by decide) ?_
      refine z_istore_n (lv' := [(2, .int 0), (0, .ref (ax g 0)), (1, .int a1)]) C d_R_passes_168 rfl rfl rfl ?_
      refine z_sub [1, 2, 0] rfl ?_
      refine it2_Z (Z := fun (i15 : Int32) (M16 : Mem) => Zj X 4 (oR g) M16 169 [(0, .ref (ax g 0)), (1, .int a1), (2, .int i15)] []) (fun rec13 ih14 i15 M16 hw => ?_) _ _ _ hw
      refine z_iload_n C d_R_passes_169 rfl 2 rfl ?_
      refine z_bipush (v := 12) C d_R_passes_170 (by decide) ?_
      refine z_ic_ge C 198 d_R_passes_172 (by decide) (fun h17 => ?_) (fun h17 => ?_)
      · replace hw := hw.1 h17
        exact z_vret C hr hw d_R_passes_198
      · replace hw := hw.2 h17
        refine z_aload_n C d_R_passes_175 rfl 0 rfl ?_
        refine gf_R_70 C d_R_passes_176 ?_
        refine z_bipush (v := 12) C d_R_passes_179 (by decide) ?_
        refine z_iload_n C d_R_passes_181 rfl 1 rfl ?_
        refine z_imul C d_R_passes_182 ?_
        refine z_iload_n C d_R_passes_183 rfl 2 rfl ?_
        refine z_iadd C d_R_passes_184 ?_
        refine z_aload_n C d_R_passes_185 rfl 0 rfl ?_
        refine gf_R_43 C d_R_passes_186 ?_
        refine z_iload_n C d_R_passes_189 rfl 2 rfl ?_
        have hv18 := hw.1
        replace hw := hw.2
        refine z_al (zar_r12) C hv18 d_R_passes_190 ?_
        have hv20 := hw.1
        refine z_as (zar_r21) C hv20 d_R_passes_191 (fun M19 hM19 => ?_)
        replace hw := hw.2 M19 hM19
        refine z_iinc (v := (i15 + 1)) (lv' := [(2, .int (i15 + 1)), (0, .ref (ax g 0)), (1, .int a1)]) C d_R_passes_192 2 rfl rfl rfl rfl ?_
        refine z_goto C 169 d_R_passes_195 (by decide) ?_
        refine z_sub [1, 2, 0] rfl ?_
        exact ih14 _ _ hw
    · replace hw := hw.2 h12
      refine z_iload_n C d_R_passes_103 rfl 1 rfl ?_
      refine z_aload_n C d_R_passes_104 rfl 0 rfl ?_
      refine gf_R_37 C d_R_passes_105 ?_
      refine z_iload_n C d_R_passes_108 rfl 2 rfl ?_
      have hv21 := hw.1
      replace hw := hw.2
      refine z_al (zar_r10) C hv21 d_R_passes_109 ?_
      refine z_ic_lt C 144 d_R_passes_110 (by decide) (fun h22 => ?_) (fun h22 => ?_)
      · replace hw := hw.1 h22
        refine z_aload_n C d_R_passes_144 rfl 0 rfl ?_
        refine gf_R_82 C d_R_passes_145 ?_
        refine z_bipush (v := 8) C d_R_passes_148 (by decide) ?_
        refine z_iload_n C d_R_passes_150 rfl 1 rfl ?_
        refine z_imul C d_R_passes_151 ?_
        refine z_iload_n C d_R_passes_152 rfl 2 rfl ?_
        refine z_iadd C d_R_passes_153 ?_
        refine z_aload_n C d_R_passes_154 rfl 0 rfl ?_
        refine gf_R_61 C d_R_passes_155 ?_
        refine z_iload_n C d_R_passes_158 rfl 2 rfl ?_
        refine z_al (zar_r18) C hv21 d_R_passes_159 ?_
        have hv24 := hw.1
        refine z_as (zar_r25) C hv24 d_R_passes_160 (fun M23 hM23 => ?_)
        replace hw := hw.2 M23 hM23
        refine z_iinc (v := (i10 + 1)) (lv' := [(2, .int (i10 + 1)), (0, .ref (ax g 0)), (1, .int a1)]) C d_R_passes_161 2 rfl rfl rfl rfl ?_
        refine z_goto C 95 d_R_passes_164 (by decide) ?_
        refine z_sub [1, 2, 0] rfl ?_
        exact ih9 _ _ hw
      · replace hw := hw.2 h22
        refine z_aload_n C d_R_passes_113 rfl 0 rfl ?_
        refine gf_R_64 C d_R_passes_114 ?_
        refine z_iload_n C d_R_passes_117 rfl 2 rfl ?_
        refine z_al (zar_r19) C hv21 d_R_passes_118 ?_
        refine z_iconst (v := (-1)) C d_R_passes_119 (by decide) ?_
        refine z_ic_ne C 144 d_R_passes_120 (by decide) (fun h25 => ?_) (fun h25 => ?_)
        · replace hw := hw.2 h25
          refine z_aload_n C d_R_passes_144 rfl 0 rfl ?_
          refine gf_R_82 C d_R_passes_145 ?_
          refine z_bipush (v := 8) C d_R_passes_148 (by decide) ?_
          refine z_iload_n C d_R_passes_150 rfl 1 rfl ?_
          refine z_imul C d_R_passes_151 ?_
          refine z_iload_n C d_R_passes_152 rfl 2 rfl ?_
          refine z_iadd C d_R_passes_153 ?_
          refine z_aload_n C d_R_passes_154 rfl 0 rfl ?_
          refine gf_R_61 C d_R_passes_155 ?_
          refine z_iload_n C d_R_passes_158 rfl 2 rfl ?_
          refine z_al (zar_r18) C hv21 d_R_passes_159 ?_
          have hv27 := hw.1
          refine z_as (zar_r25) C hv27 d_R_passes_160 (fun M26 hM26 => ?_)
          replace hw := hw.2 M26 hM26
          refine z_iinc (v := (i10 + 1)) (lv' := [(2, .int (i10 + 1)), (0, .ref (ax g 0)), (1, .int a1)]) C d_R_passes_161 2 rfl rfl rfl rfl ?_
          refine z_goto C 95 d_R_passes_164 (by decide) ?_
          refine z_sub [1, 2, 0] rfl ?_
          exact ih9 _ _ hw
        · replace hw := hw.1 h25
          refine z_aload_n C d_R_passes_123 rfl 0 rfl ?_
          refine z_iload_n C d_R_passes_124 rfl 1 rfl ?_
          refine z_iload_n C d_R_passes_125 rfl 2 rfl ?_
          refine z_iload_n C d_R_passes_126 rfl 1 rfl ?_
          refine z_aload_n C d_R_passes_127 rfl 0 rfl ?_
          refine gf_R_37 C d_R_passes_128 ?_
          refine z_iload_n C d_R_passes_131 rfl 2 rfl ?_
          refine z_al (zar_r10) C hv21 d_R_passes_132 ?_
          have hj34 : ∀ u29 : Int32, u29 = (if a1 = (M11 10 (tn i10)) then 1 else 0) → Zj X 4 (oR g) M11 141 [(0, .ref (ax g 0)), (1, .int a1), (2, .int i10)] [.int u29, .int i10, .int a1, .ref (ax g 0)] := by
            intro u29 hu29
            replace hw := hw u29 hu29
            refine z_callVv C (As := [.int a1, .int i10, .int u29]) (rest := []) m_R_drives tw_965 0 (le_R) rfl ⟨rfl, rfl⟩ (c_R_drives g hw) rfl rfl rfl d_R_passes_141 (fun M30 hw => ?_)
            refine z_aload_n C d_R_passes_144 rfl 0 rfl ?_
            refine gf_R_82 C d_R_passes_145 ?_
            refine z_bipush (v := 8) C d_R_passes_148 (by decide) ?_
            refine z_iload_n C d_R_passes_150 rfl 1 rfl ?_
            refine z_imul C d_R_passes_151 ?_
            refine z_iload_n C d_R_passes_152 rfl 2 rfl ?_
            refine z_iadd C d_R_passes_153 ?_
            refine z_aload_n C d_R_passes_154 rfl 0 rfl ?_
            refine gf_R_61 C d_R_passes_155 ?_
            refine z_iload_n C d_R_passes_158 rfl 2 rfl ?_
            refine z_al (zar_r18) C hv21 d_R_passes_159 ?_
            have hv33 := hw.1
            refine z_as (zar_r25) C hv33 d_R_passes_160 (fun M32 hM32 => ?_)
            replace hw := hw.2 M32 hM32
            refine z_iinc (v := (i10 + 1)) (lv' := [(2, .int (i10 + 1)), (0, .ref (ax g 0)), (1, .int a1)]) C d_R_passes_161 2 rfl rfl rfl rfl ?_
            refine z_goto C 95 d_R_passes_164 (by decide) ?_
            refine z_sub [1, 2, 0] rfl ?_
            exact ih9 _ _ hw
          refine z_ic_ne C 140 d_R_passes_133 (by decide) (fun h28 => ?_) (fun h28 => ?_)
          · refine z_iconst (v := 0) C d_R_passes_140 (by decide) ?_
            refine z_sub [0, 1, 2] rfl ?_
            exact hj34 _ ((if_neg h28)).symm
          · refine z_iconst (v := 1) C d_R_passes_136 (by decide) ?_
            refine z_goto C 141 d_R_passes_137 (by decide) ?_
            refine z_sub [0, 1, 2] rfl ?_
            exact hj34 _ ((if_pos h28)).symm
  · replace hw := hw.2 h7
    refine z_aload_n C d_R_passes_15 rfl 0 rfl ?_
    refine z_iload_n C d_R_passes_16 rfl 1 rfl ?_
    refine z_iload_n C d_R_passes_17 rfl 2 rfl ?_
    refine z_callVi C (As := [.int a1, .int i5]) (rest := []) m_R_isBroken tw_957 0 (le_R) rfl ⟨rfl, rfl⟩ (c_R_isBroken g hw) rfl rfl rfl d_R_passes_18 (fun r35 M2 hq => ?_)
    obtain ⟨rfl, hw⟩ := hq
    refine z_if_eq C 28 d_R_passes_21 (by decide) (fun h36 => ?_) (fun h36 => ?_)
    · replace hw := hw.1 h36
      refine z_aload_n C d_R_passes_28 rfl 0 rfl ?_
      refine z_iload_n C d_R_passes_29 rfl 2 rfl ?_
      refine z_callVi C (As := [.int i5]) (rest := []) m_R_scoops tw_961 0 (le_R) rfl ⟨rfl, rfl⟩ (c_R_scoops g hw) rfl rfl rfl d_R_passes_30 (fun r38 M37 hw => ?_)
      refine z_istore_n (lv' := [(3, .int r38), (0, .ref (ax g 0)), (1, .int a1), (2, .int i5)]) C d_R_passes_33 rfl rfl rfl ?_
      refine z_aload_n C d_R_passes_34 rfl 1 rfl ?_
      refine gf_R_55 C d_R_passes_35 ?_
      refine z_iload_n C d_R_passes_38 rfl 3 rfl ?_
      refine z_dup2 C d_R_passes_39 rfl rfl ?_
      have hv39 := hw.1
      replace hw := hw.2
      refine z_al (zar_r16) C hv39 d_R_passes_40 ?_
      refine z_iload_n C d_R_passes_41 rfl 0 rfl ?_
      refine z_iadd C d_R_passes_42 ?_
      refine z_as (zar_r16) C hv39 d_R_passes_43 (fun M40 hM40 => ?_)
      replace hw := hw M40 hM40
      refine z_aload_n C d_R_passes_44 rfl 1 rfl ?_
      refine gf_R_73 C d_R_passes_45 ?_
      refine z_iconst (v := 4) C d_R_passes_48 (by decide) ?_
      refine z_iload_n C d_R_passes_49 rfl 2 rfl ?_
      refine z_imul C d_R_passes_50 ?_
      refine z_iload_n C d_R_passes_51 rfl 3 rfl ?_
      refine z_iadd C d_R_passes_52 ?_
      refine z_aload_n C d_R_passes_53 rfl 1 rfl ?_
      refine gf_R_49 C d_R_passes_54 ?_
      refine z_iload_n C d_R_passes_57 rfl 3 rfl ?_
      refine z_al (zar_r14) C hv39 d_R_passes_58 ?_
      have hv42 := hw.1
      refine z_as (zar_r22) C hv42 d_R_passes_59 (fun M41 hM41 => ?_)
      replace hw := hw.2 M41 hM41
      refine z_aload_n C d_R_passes_60 rfl 1 rfl ?_
      refine gf_R_76 C d_R_passes_61 ?_
      refine z_iconst (v := 4) C d_R_passes_64 (by decide) ?_
      refine z_iload_n C d_R_passes_65 rfl 2 rfl ?_
      refine z_imul C d_R_passes_66 ?_
      refine z_iload_n C d_R_passes_67 rfl 3 rfl ?_
      refine z_iadd C d_R_passes_68 ?_
      refine z_aload_n C d_R_passes_69 rfl 1 rfl ?_
      refine gf_R_52 C d_R_passes_70 ?_
      refine z_iload_n C d_R_passes_73 rfl 3 rfl ?_
      refine z_al (zar_r15) C hv39 d_R_passes_74 ?_
      refine z_as (zar_r23) C hv42 d_R_passes_75 (fun M43 hM43 => ?_)
      replace hw := hw M43 hM43
      refine z_aload_n C d_R_passes_76 rfl 1 rfl ?_
      refine gf_R_79 C d_R_passes_77 ?_
      refine z_iconst (v := 4) C d_R_passes_80 (by decide) ?_
      refine z_iload_n C d_R_passes_81 rfl 2 rfl ?_
      refine z_imul C d_R_passes_82 ?_
      refine z_iload_n C d_R_passes_83 rfl 3 rfl ?_
      refine z_iadd C d_R_passes_84 ?_
      refine z_iload_n C d_R_passes_85 rfl 0 rfl ?_
      refine z_as (zar_r24) C hv42 d_R_passes_86 (fun M44 hM44 => ?_)
      replace hw := hw M44 hM44
      refine z_iinc (v := (i5 + 1)) (lv' := [(2, .int (i5 + 1)), (3, .int r38), (0, .ref (ax g 0)), (1, .int a1)]) C d_R_passes_87 3 rfl rfl rfl rfl ?_
      refine z_goto C 7 d_R_passes_90 (by decide) ?_
      refine z_sub [2, 3, 0] rfl ?_
      exact ih4 _ _ hw
    · replace hw := hw.2 h36
      refine z_iconst (v := 0) C d_R_passes_24 (by decide) ?_
      refine z_goto C 33 d_R_passes_25 (by decide) ?_
      refine z_istore_n (lv' := [(3, .int 0), (0, .ref (ax g 0)), (1, .int a1), (2, .int i5)]) C d_R_passes_33 rfl rfl rfl ?_
      refine z_aload_n C d_R_passes_34 rfl 1 rfl ?_
      refine gf_R_55 C d_R_passes_35 ?_
      refine z_iload_n C d_R_passes_38 rfl 3 rfl ?_
      refine z_dup2 C d_R_passes_39 rfl rfl ?_
      have hv45 := hw.1
      replace hw := hw.2
      refine z_al (zar_r16) C hv45 d_R_passes_40 ?_
      refine z_iload_n C d_R_passes_41 rfl 0 rfl ?_
      refine z_iadd C d_R_passes_42 ?_
      refine z_as (zar_r16) C hv45 d_R_passes_43 (fun M46 hM46 => ?_)
      replace hw := hw M46 hM46
      refine z_aload_n C d_R_passes_44 rfl 1 rfl ?_
      refine gf_R_73 C d_R_passes_45 ?_
      refine z_iconst (v := 4) C d_R_passes_48 (by decide) ?_
      refine z_iload_n C d_R_passes_49 rfl 2 rfl ?_
      refine z_imul C d_R_passes_50 ?_
      refine z_iload_n C d_R_passes_51 rfl 3 rfl ?_
      refine z_iadd C d_R_passes_52 ?_
      refine z_aload_n C d_R_passes_53 rfl 1 rfl ?_
      refine gf_R_49 C d_R_passes_54 ?_
      refine z_iload_n C d_R_passes_57 rfl 3 rfl ?_
      refine z_al (zar_r14) C hv45 d_R_passes_58 ?_
      have hv48 := hw.1
      refine z_as (zar_r22) C hv48 d_R_passes_59 (fun M47 hM47 => ?_)
      replace hw := hw.2 M47 hM47
      refine z_aload_n C d_R_passes_60 rfl 1 rfl ?_
      refine gf_R_76 C d_R_passes_61 ?_
      refine z_iconst (v := 4) C d_R_passes_64 (by decide) ?_
      refine z_iload_n C d_R_passes_65 rfl 2 rfl ?_
      refine z_imul C d_R_passes_66 ?_
      refine z_iload_n C d_R_passes_67 rfl 3 rfl ?_
      refine z_iadd C d_R_passes_68 ?_
      refine z_aload_n C d_R_passes_69 rfl 1 rfl ?_
      refine gf_R_52 C d_R_passes_70 ?_
      refine z_iload_n C d_R_passes_73 rfl 3 rfl ?_
      refine z_al (zar_r15) C hv45 d_R_passes_74 ?_
      refine z_as (zar_r23) C hv48 d_R_passes_75 (fun M49 hM49 => ?_)
      replace hw := hw M49 hM49
      refine z_aload_n C d_R_passes_76 rfl 1 rfl ?_
      refine gf_R_79 C d_R_passes_77 ?_
      refine z_iconst (v := 4) C d_R_passes_80 (by decide) ?_
      refine z_iload_n C d_R_passes_81 rfl 2 rfl ?_
      refine z_imul C d_R_passes_82 ?_
      refine z_iload_n C d_R_passes_83 rfl 3 rfl ?_
      refine z_iadd C d_R_passes_84 ?_
      refine z_iload_n C d_R_passes_85 rfl 0 rfl ?_
      refine z_as (zar_r24) C hv48 d_R_passes_86 (fun M50 hM50 => ?_)
      replace hw := hw M50 hM50
      refine z_iinc (v := (i5 + 1)) (lv' := [(2, .int (i5 + 1)), (3, .int 0), (0, .ref (ax g 0)), (1, .int a1)]) C d_R_passes_87 3 rfl rfl rfl rfl ?_
      refine z_goto C 7 d_R_passes_90 (by decide) ?_
      refine z_sub [2, 3, 0] rfl ?_
      exact ih4 _ _ hw
theorem d_XT_meant_0 : decode prog_4_method_6_code 0 = .ok (.aload_n 0, 1) := by decide +kernel
theorem d_XT_meant_1 : decode prog_4_method_6_code 1 = .ok (.invokevirtual 32, 3) := by decide +kernel
theorem d_XT_meant_4 : decode prog_4_method_6_code 4 = .ok (.iconst (-1), 1) := by decide +kernel
theorem d_XT_meant_5 : decode prog_4_method_6_code 5 = .ok (.if_icmp .ne (10), 3) := by decide +kernel
theorem d_XT_meant_8 : decode prog_4_method_6_code 8 = .ok (.aload_n 0, 1) := by decide +kernel
theorem d_XT_meant_9 : decode prog_4_method_6_code 9 = .ok (.getfield 9, 3) := by decide +kernel
theorem d_XT_meant_12 : decode prog_4_method_6_code 12 = .ok (.goto (4), 3) := by decide +kernel
theorem d_XT_meant_15 : decode prog_4_method_6_code 15 = .ok (.iconst 0, 1) := by decide +kernel
theorem d_XT_meant_16 : decode prog_4_method_6_code 16 = .ok (.ireturn, 1) := by decide +kernel
def wp_XT_meant (c1 : Nat) (M : Mem) (post : Int32 → Prop) : Prop :=
  wp_XT_firstFault c1 M (fun r1 => ∀ u3 : Int32, u3 = (if r1 = (-1) then (M (2 + 2 * c1) 2) else 0) → post u3)
set_option maxHeartbeats 4000000 in
set_option maxRecDepth 100000 in
theorem c_XT_meant (g : GX) {c1 : Nat} {M : Mem} {post : Int32 → Prop} (hc1 : c1 < 4) (hw : wp_XT_meant c1 M post) : CtI (oX g) y_XT_meant prog_4_method_6_code 1 (some .int) (rl 3) [.ref (ax g (2 + 2 * c1))] M (fun r M2 => M = M2 ∧ post r) := by
  refine z_metI (oX_ok g) (by decide) rfl (fun X C hr => ?_)
  show Zj X 1 (oX g) M 0 [(0, .ref (ax g (2 + 2 * c1)))] []
  unfold wp_XT_meant at hw
  refine z_aload_n C d_XT_meant_0 rfl 0 rfl ?_
  refine z_callVi C (As := []) (rest := []) m_XT_firstFault tw_270 (2 + 2 * c1) (le_XT hc1) rfl ⟨rfl, rfl⟩ (c_XT_firstFault g hc1 hw) rfl rfl rfl d_XT_meant_1 (fun r1 M2 hq => ?_)
  obtain ⟨rfl, hw⟩ := hq
  refine z_iconst (v := (-1)) C d_XT_meant_4 (by decide) ?_
  have hj4 : ∀ u3 : Int32, u3 = (if r1 = (-1) then (M (2 + 2 * c1) 2) else 0) → Zj X 1 (oX g) M 16 [] [.int u3] := by
    intro u3 hu3
    replace hw := hw u3 hu3
    exact z_iret C hr ⟨rfl, hw⟩ d_XT_meant_16
  refine z_ic_ne C 15 d_XT_meant_5 (by decide) (fun h2 => ?_) (fun h2 => ?_)
  · refine z_iconst (v := 0) C d_XT_meant_15 (by decide) ?_
    refine z_sub [] rfl ?_
    exact hj4 _ ((if_neg h2)).symm
  · refine z_aload_n C d_XT_meant_8 rfl 0 rfl ?_
    refine gf_XT_9 hc1 C d_XT_meant_9 ?_
    refine z_goto C 16 d_XT_meant_12 (by decide) ?_
    refine z_sub [] rfl ?_
    exact hj4 _ ((if_pos h2)).symm
theorem d_X_deep_0 : decode prog_1_method_14_code 0 = .ok (.iload_n 1, 1) := by decide +kernel
theorem d_X_deep_1 : decode prog_1_method_14_code 1 = .ok (.bipush 24, 2) := by decide +kernel
theorem d_X_deep_3 : decode prog_1_method_14_code 3 = .ok (.invokestatic 70, 3) := by decide +kernel
theorem d_X_deep_6 : decode prog_1_method_14_code 6 = .ok (.ifCond .ne (12), 3) := by decide +kernel
theorem d_X_deep_9 : decode prog_1_method_14_code 9 = .ok (.iload_n 2, 1) := by decide +kernel
theorem d_X_deep_10 : decode prog_1_method_14_code 10 = .ok (.bipush 12, 2) := by decide +kernel
theorem d_X_deep_12 : decode prog_1_method_14_code 12 = .ok (.invokestatic 70, 3) := by decide +kernel
theorem d_X_deep_15 : decode prog_1_method_14_code 15 = .ok (.ifCond .eq (6), 3) := by decide +kernel
theorem d_X_deep_18 : decode prog_1_method_14_code 18 = .ok (.bipush (-2), 2) := by decide +kernel
theorem d_X_deep_20 : decode prog_1_method_14_code 20 = .ok (.ireturn, 1) := by decide +kernel
theorem d_X_deep_21 : decode prog_1_method_14_code 21 = .ok (.aload_n 0, 1) := by decide +kernel
theorem d_X_deep_22 : decode prog_1_method_14_code 22 = .ok (.invokevirtual 145, 3) := by decide +kernel
theorem d_X_deep_25 : decode prog_1_method_14_code 25 = .ok (.getfield 149, 3) := by decide +kernel
theorem d_X_deep_28 : decode prog_1_method_14_code 28 = .ok (.iload_n 1, 1) := by decide +kernel
theorem d_X_deep_29 : decode prog_1_method_14_code 29 = .ok (.bipush 12, 2) := by decide +kernel
theorem d_X_deep_31 : decode prog_1_method_14_code 31 = .ok (.imul, 1) := by decide +kernel
theorem d_X_deep_32 : decode prog_1_method_14_code 32 = .ok (.iload_n 2, 1) := by decide +kernel
theorem d_X_deep_33 : decode prog_1_method_14_code 33 = .ok (.iadd, 1) := by decide +kernel
theorem d_X_deep_34 : decode prog_1_method_14_code 34 = .ok (.iaload, 1) := by decide +kernel
theorem d_X_deep_35 : decode prog_1_method_14_code 35 = .ok (.ireturn, 1) := by decide +kernel
def wp_X_deep (a1 : Int32) (a2 : Int32) (M : Mem) (post : Int32 → Mem → Prop) : Prop :=
  ((((pf_X_outside a1 24) = 0) → ((((pf_X_outside a2 12) = 0) → wp_X_asTold M (fun M5 => vp_in ((a1 * 12) + a2) 288 ∧ post (M5 (32 + 1) (tn ((a1 * 12) + a2))) M5)) ∧ (¬ ((pf_X_outside a2 12) = 0) → post (-2) M))) ∧ (¬ ((pf_X_outside a1 24) = 0) → post (-2) M))
set_option maxHeartbeats 4000000 in
set_option maxRecDepth 100000 in
theorem c_X_deep (g : GX) {a1 : Int32} {a2 : Int32} {M : Mem} {post : Int32 → Mem → Prop} (hw : wp_X_deep a1 a2 M post) : CtI (oX g) y_X_deep prog_1_method_14_code 3 (some .int) (rl 4) [.ref (ax g 0), .int a1, .int a2] M post := by
  refine z_metI (oX_ok g) (by decide) rfl (fun X C hr => ?_)
  show Zj X 3 (oX g) M 0 [(0, .ref (ax g 0)), (1, .int a1), (2, .int a2)] []
  unfold wp_X_deep at hw
  refine z_iload_n C d_X_deep_0 rfl 1 rfl ?_
  refine z_bipush (v := 24) C d_X_deep_1 (by decide) ?_
  refine z_callSi C (As := [.int a1, .int 24]) (rest := []) m_X_outside tw_251 ⟨rfl, rfl⟩ (c_X_outside (oX_ok g) _ _ _) rfl rfl rfl d_X_deep_3 (fun r M2 hq => ?_)
  obtain ⟨rfl, rfl⟩ := hq
  refine z_if_ne C 18 d_X_deep_6 (by decide) (fun h2 => ?_) (fun h2 => ?_)
  · replace hw := hw.2 h2
    refine z_bipush (v := (-2)) C d_X_deep_18 (by decide) ?_
    exact z_iret C hr hw d_X_deep_20
  · replace hw := hw.1 h2
    refine z_iload_n C d_X_deep_9 rfl 2 rfl ?_
    refine z_bipush (v := 12) C d_X_deep_10 (by decide) ?_
    refine z_callSi C (As := [.int a2, .int 12]) (rest := []) m_X_outside tw_251 ⟨rfl, rfl⟩ (c_X_outside (oX_ok g) _ _ _) rfl rfl rfl d_X_deep_12 (fun r M2 hq => ?_)
    obtain ⟨rfl, rfl⟩ := hq
    refine z_if_eq C 21 d_X_deep_15 (by decide) (fun h4 => ?_) (fun h4 => ?_)
    · replace hw := hw.1 h4
      refine z_aload_n C d_X_deep_21 rfl 0 rfl ?_
      refine z_callVr C (As := []) (rest := []) m_X_asTold tw_358 0 (le_X) rfl ⟨rfl, rfl⟩ (c_X_asTold g hw) rfl rfl rfl d_X_deep_22 (fun M5 hw => ?_)
      refine gf_X_149 (Or.inl rfl) C d_X_deep_25 ?_
      refine z_iload_n C d_X_deep_28 rfl 1 rfl ?_
      refine z_bipush (v := 12) C d_X_deep_29 (by decide) ?_
      refine z_imul C d_X_deep_31 ?_
      refine z_iload_n C d_X_deep_32 rfl 2 rfl ?_
      refine z_iadd C d_X_deep_33 ?_
      have hv7 := hw.1
      replace hw := hw.2
      refine z_al (zar_xW1 (Or.inl rfl)) C hv7 d_X_deep_34 ?_
      exact z_iret C hr hw d_X_deep_35
    · replace hw := hw.2 h4
      refine z_bipush (v := (-2)) C d_X_deep_18 (by decide) ?_
      exact z_iret C hr hw d_X_deep_20
theorem d_X_at_0 : decode prog_1_method_15_code 0 = .ok (.iload_n 1, 1) := by decide +kernel
theorem d_X_at_1 : decode prog_1_method_15_code 1 = .ok (.bipush 24, 2) := by decide +kernel
theorem d_X_at_3 : decode prog_1_method_15_code 3 = .ok (.invokestatic 70, 3) := by decide +kernel
theorem d_X_at_6 : decode prog_1_method_15_code 6 = .ok (.ifCond .ne (25), 3) := by decide +kernel
theorem d_X_at_9 : decode prog_1_method_15_code 9 = .ok (.iload_n 2, 1) := by decide +kernel
theorem d_X_at_10 : decode prog_1_method_15_code 10 = .ok (.aload_n 0, 1) := by decide +kernel
theorem d_X_at_11 : decode prog_1_method_15_code 11 = .ok (.getfield 18, 3) := by decide +kernel
theorem d_X_at_14 : decode prog_1_method_15_code 14 = .ok (.getfield 94, 3) := by decide +kernel
theorem d_X_at_17 : decode prog_1_method_15_code 17 = .ok (.invokestatic 70, 3) := by decide +kernel
theorem d_X_at_20 : decode prog_1_method_15_code 20 = .ok (.ifCond .ne (11), 3) := by decide +kernel
theorem d_X_at_23 : decode prog_1_method_15_code 23 = .ok (.iload_n 3, 1) := by decide +kernel
theorem d_X_at_24 : decode prog_1_method_15_code 24 = .ok (.iconst 3, 1) := by decide +kernel
theorem d_X_at_25 : decode prog_1_method_15_code 25 = .ok (.invokestatic 70, 3) := by decide +kernel
theorem d_X_at_28 : decode prog_1_method_15_code 28 = .ok (.ifCond .eq (6), 3) := by decide +kernel
theorem d_X_at_31 : decode prog_1_method_15_code 31 = .ok (.bipush (-2), 2) := by decide +kernel
theorem d_X_at_33 : decode prog_1_method_15_code 33 = .ok (.ireturn, 1) := by decide +kernel
theorem d_X_at_34 : decode prog_1_method_15_code 34 = .ok (.aload_n 0, 1) := by decide +kernel
theorem d_X_at_35 : decode prog_1_method_15_code 35 = .ok (.invokevirtual 145, 3) := by decide +kernel
theorem d_X_at_38 : decode prog_1_method_15_code 38 = .ok (.astore 4, 2) := by decide +kernel
theorem d_X_at_40 : decode prog_1_method_15_code 40 = .ok (.iload_n 1, 1) := by decide +kernel
theorem d_X_at_41 : decode prog_1_method_15_code 41 = .ok (.iconst 4, 1) := by decide +kernel
theorem d_X_at_42 : decode prog_1_method_15_code 42 = .ok (.imul, 1) := by decide +kernel
theorem d_X_at_43 : decode prog_1_method_15_code 43 = .ok (.iload_n 2, 1) := by decide +kernel
theorem d_X_at_44 : decode prog_1_method_15_code 44 = .ok (.iadd, 1) := by decide +kernel
theorem d_X_at_45 : decode prog_1_method_15_code 45 = .ok (.istore 5, 2) := by decide +kernel
theorem d_X_at_47 : decode prog_1_method_15_code 47 = .ok (.iload_n 3, 1) := by decide +kernel
theorem d_X_at_48 : decode prog_1_method_15_code 48 = .ok (.ifCond .ne (12), 3) := by decide +kernel
theorem d_X_at_51 : decode prog_1_method_15_code 51 = .ok (.aload 4, 2) := by decide +kernel
theorem d_X_at_53 : decode prog_1_method_15_code 53 = .ok (.getfield 152, 3) := by decide +kernel
theorem d_X_at_56 : decode prog_1_method_15_code 56 = .ok (.iload 5, 2) := by decide +kernel
theorem d_X_at_58 : decode prog_1_method_15_code 58 = .ok (.iaload, 1) := by decide +kernel
theorem d_X_at_59 : decode prog_1_method_15_code 59 = .ok (.ireturn, 1) := by decide +kernel
theorem d_X_at_60 : decode prog_1_method_15_code 60 = .ok (.iload_n 3, 1) := by decide +kernel
theorem d_X_at_61 : decode prog_1_method_15_code 61 = .ok (.iconst 1, 1) := by decide +kernel
theorem d_X_at_62 : decode prog_1_method_15_code 62 = .ok (.if_icmp .ne (14), 3) := by decide +kernel
theorem d_X_at_65 : decode prog_1_method_15_code 65 = .ok (.aload 4, 2) := by decide +kernel
theorem d_X_at_67 : decode prog_1_method_15_code 67 = .ok (.getfield 155, 3) := by decide +kernel
theorem d_X_at_70 : decode prog_1_method_15_code 70 = .ok (.iload 5, 2) := by decide +kernel
theorem d_X_at_72 : decode prog_1_method_15_code 72 = .ok (.iaload, 1) := by decide +kernel
theorem d_X_at_73 : decode prog_1_method_15_code 73 = .ok (.goto (11), 3) := by decide +kernel
theorem d_X_at_76 : decode prog_1_method_15_code 76 = .ok (.aload 4, 2) := by decide +kernel
theorem d_X_at_78 : decode prog_1_method_15_code 78 = .ok (.getfield 158, 3) := by decide +kernel
theorem d_X_at_81 : decode prog_1_method_15_code 81 = .ok (.iload 5, 2) := by decide +kernel
theorem d_X_at_83 : decode prog_1_method_15_code 83 = .ok (.iaload, 1) := by decide +kernel
theorem d_X_at_84 : decode prog_1_method_15_code 84 = .ok (.ireturn, 1) := by decide +kernel
def wp_X_at (a1 : Int32) (a2 : Int32) (a3 : Int32) (M : Mem) (post : Int32 → Mem → Prop) : Prop :=
  ((((pf_X_outside a1 24) = 0) → ((((pf_X_outside a2 (M 10 2)) = 0) → ((((pf_X_outside a3 3) = 0) → wp_X_asTold M (fun M7 => ∀ x9 : Int32, x9 = ((a1 * 4) + a2) → (((a3 = 0) → vp_in x9 96 ∧ post (M7 (32 + 2) (tn x9)) M7) ∧ (¬ (a3 = 0) → (((a3 = 1) → (vp_in x9 96)) ∧ (¬ (a3 = 1) → (vp_in x9 96))) ∧ (∀ u14 : Int32, u14 = (if a3 = 1 then (M7 (32 + 3) (tn x9)) else (M7 (32 + 4) (tn x9))) → post u14 M7))))) ∧ (¬ ((pf_X_outside a3 3) = 0) → post (-2) M))) ∧ (¬ ((pf_X_outside a2 (M 10 2)) = 0) → post (-2) M))) ∧ (¬ ((pf_X_outside a1 24) = 0) → post (-2) M))
set_option maxHeartbeats 4000000 in
set_option maxRecDepth 100000 in
theorem c_X_at (g : GX) {a1 : Int32} {a2 : Int32} {a3 : Int32} {M : Mem} {post : Int32 → Mem → Prop} (hw : wp_X_at a1 a2 a3 M post) : CtI (oX g) y_X_at prog_1_method_15_code 6 (some .int) (rl 4) [.ref (ax g 0), .int a1, .int a2, .int a3] M post := by
  refine z_metI (oX_ok g) (by decide) rfl (fun X C hr => ?_)
  show Zj X 6 (oX g) M 0 [(0, .ref (ax g 0)), (1, .int a1), (2, .int a2), (3, .int a3)] []
  unfold wp_X_at at hw
  refine z_iload_n C d_X_at_0 rfl 1 rfl ?_
  refine z_bipush (v := 24) C d_X_at_1 (by decide) ?_
  refine z_callSi C (As := [.int a1, .int 24]) (rest := []) m_X_outside tw_251 ⟨rfl, rfl⟩ (c_X_outside (oX_ok g) _ _ _) rfl rfl rfl d_X_at_3 (fun r M2 hq => ?_)
  obtain ⟨rfl, rfl⟩ := hq
  refine z_if_ne C 31 d_X_at_6 (by decide) (fun h2 => ?_) (fun h2 => ?_)
  · replace hw := hw.2 h2
    refine z_bipush (v := (-2)) C d_X_at_31 (by decide) ?_
    exact z_iret C hr hw d_X_at_33
  · replace hw := hw.1 h2
    refine z_iload_n C d_X_at_9 rfl 2 rfl ?_
    refine z_aload_n C d_X_at_10 rfl 0 rfl ?_
    refine gf_X_18 C d_X_at_11 ?_
    refine gf_X_94 C d_X_at_14 ?_
    refine z_callSi C (As := [.int a2, .int (M 10 2)]) (rest := []) m_X_outside tw_251 ⟨rfl, rfl⟩ (c_X_outside (oX_ok g) _ _ _) rfl rfl rfl d_X_at_17 (fun r M2 hq => ?_)
    obtain ⟨rfl, rfl⟩ := hq
    refine z_if_ne C 31 d_X_at_20 (by decide) (fun h4 => ?_) (fun h4 => ?_)
    · replace hw := hw.2 h4
      refine z_bipush (v := (-2)) C d_X_at_31 (by decide) ?_
      exact z_iret C hr hw d_X_at_33
    · replace hw := hw.1 h4
      refine z_iload_n C d_X_at_23 rfl 3 rfl ?_
      refine z_iconst (v := 3) C d_X_at_24 (by decide) ?_
      refine z_callSi C (As := [.int a3, .int 3]) (rest := []) m_X_outside tw_251 ⟨rfl, rfl⟩ (c_X_outside (oX_ok g) _ _ _) rfl rfl rfl d_X_at_25 (fun r M2 hq => ?_)
      obtain ⟨rfl, rfl⟩ := hq
      refine z_if_eq C 34 d_X_at_28 (by decide) (fun h6 => ?_) (fun h6 => ?_)
      · replace hw := hw.1 h6
        refine z_aload_n C d_X_at_34 rfl 0 rfl ?_
        refine z_callVr C (As := []) (rest := []) m_X_asTold tw_358 0 (le_X) rfl ⟨rfl, rfl⟩ (c_X_asTold g hw) rfl rfl rfl d_X_at_35 (fun M7 hw => ?_)
        refine z_astore (lv' := [(4, .ref (ax g 32)), (0, .ref (ax g 0)), (1, .int a1), (2, .int a2), (3, .int a3)]) C d_X_at_38 rfl rfl ?_
        refine z_iload_n C d_X_at_40 rfl 2 rfl ?_
        refine z_iconst (v := 4) C d_X_at_41 (by decide) ?_
        refine z_imul C d_X_at_42 ?_
        refine z_iload_n C d_X_at_43 rfl 3 rfl ?_
        refine z_iadd C d_X_at_44 ?_
        obtain ⟨x9, hx9⟩ : ∃ z : Int32, z = ((a1 * 4) + a2) := ⟨_, rfl⟩
        rw [← hx9]
        replace hw := hw x9 hx9
        refine z_istore (lv' := [(5, .int x9), (4, .ref (ax g 32)), (0, .ref (ax g 0)), (1, .int a1), (2, .int a2), (3, .int a3)]) C d_X_at_45 rfl rfl ?_
        refine z_iload_n C d_X_at_47 rfl 5 rfl ?_
        refine z_if_ne C 60 d_X_at_48 (by decide) (fun h10 => ?_) (fun h10 => ?_)
        · replace hw := hw.2 h10
          refine z_iload_n C d_X_at_60 rfl 5 rfl ?_
          refine z_iconst (v := 1) C d_X_at_61 (by decide) ?_
          have hj15 : ∀ u14 : Int32, u14 = (if a3 = 1 then (M7 (32 + 3) (tn x9)) else (M7 (32 + 4) (tn x9))) → Zj X 6 (oX g) M7 84 [] [.int u14] := by
            intro u14 hu14
            replace hw := hw.2 u14 hu14
            exact z_iret C hr hw d_X_at_84
          have ha0 := hw.1
          refine z_ic_ne C 76 d_X_at_62 (by decide) (fun h11 => ?_) (fun h11 => ?_)
          · have ha16 := ha0.2 h11
            refine z_aload C d_X_at_76 1 rfl ?_
            refine gf_X_158 (Or.inl rfl) C d_X_at_78 ?_
            refine z_iload C d_X_at_81 0 rfl ?_
            have hv12 := ha16
            refine z_al (zar_xW4 (Or.inl rfl)) C hv12 d_X_at_83 ?_
            refine z_sub [] rfl ?_
            exact hj15 _ ((if_neg h11)).symm
          · have ha17 := ha0.1 h11
            refine z_aload C d_X_at_65 1 rfl ?_
            refine gf_X_155 (Or.inl rfl) C d_X_at_67 ?_
            refine z_iload C d_X_at_70 0 rfl ?_
            have hv13 := ha17
            refine z_al (zar_xW3 (Or.inl rfl)) C hv13 d_X_at_72 ?_
            refine z_goto C 84 d_X_at_73 (by decide) ?_
            refine z_sub [] rfl ?_
            exact hj15 _ ((if_pos h11)).symm
        · replace hw := hw.1 h10
          refine z_aload C d_X_at_51 1 rfl ?_
          refine gf_X_152 (Or.inl rfl) C d_X_at_53 ?_
          refine z_iload C d_X_at_56 0 rfl ?_
          have hv18 := hw.1
          replace hw := hw.2
          refine z_al (zar_xW2 (Or.inl rfl)) C hv18 d_X_at_58 ?_
          exact z_iret C hr hw d_X_at_59
      · replace hw := hw.2 h6
        refine z_bipush (v := (-2)) C d_X_at_31 (by decide) ?_
        exact z_iret C hr hw d_X_at_33
theorem d_X_rides_0 : decode prog_1_method_16_code 0 = .ok (.iload_n 1, 1) := by decide +kernel
theorem d_X_rides_1 : decode prog_1_method_16_code 1 = .ok (.bipush 24, 2) := by decide +kernel
theorem d_X_rides_3 : decode prog_1_method_16_code 3 = .ok (.invokestatic 70, 3) := by decide +kernel
theorem d_X_rides_6 : decode prog_1_method_16_code 6 = .ok (.ifCond .ne (17), 3) := by decide +kernel
theorem d_X_rides_9 : decode prog_1_method_16_code 9 = .ok (.iload_n 2, 1) := by decide +kernel
theorem d_X_rides_10 : decode prog_1_method_16_code 10 = .ok (.aload_n 0, 1) := by decide +kernel
theorem d_X_rides_11 : decode prog_1_method_16_code 11 = .ok (.getfield 18, 3) := by decide +kernel
theorem d_X_rides_14 : decode prog_1_method_16_code 14 = .ok (.getfield 106, 3) := by decide +kernel
theorem d_X_rides_17 : decode prog_1_method_16_code 17 = .ok (.invokestatic 70, 3) := by decide +kernel
theorem d_X_rides_20 : decode prog_1_method_16_code 20 = .ok (.ifCond .eq (6), 3) := by decide +kernel
theorem d_X_rides_23 : decode prog_1_method_16_code 23 = .ok (.bipush (-2), 2) := by decide +kernel
theorem d_X_rides_25 : decode prog_1_method_16_code 25 = .ok (.ireturn, 1) := by decide +kernel
theorem d_X_rides_26 : decode prog_1_method_16_code 26 = .ok (.aload_n 0, 1) := by decide +kernel
theorem d_X_rides_27 : decode prog_1_method_16_code 27 = .ok (.invokevirtual 145, 3) := by decide +kernel
theorem d_X_rides_30 : decode prog_1_method_16_code 30 = .ok (.astore_n 3, 1) := by decide +kernel
theorem d_X_rides_31 : decode prog_1_method_16_code 31 = .ok (.aload_n 3, 1) := by decide +kernel
theorem d_X_rides_32 : decode prog_1_method_16_code 32 = .ok (.aload_n 0, 1) := by decide +kernel
theorem d_X_rides_33 : decode prog_1_method_16_code 33 = .ok (.getfield 18, 3) := by decide +kernel
theorem d_X_rides_36 : decode prog_1_method_16_code 36 = .ok (.getfield 109, 3) := by decide +kernel
theorem d_X_rides_39 : decode prog_1_method_16_code 39 = .ok (.iload_n 2, 1) := by decide +kernel
theorem d_X_rides_40 : decode prog_1_method_16_code 40 = .ok (.iaload, 1) := by decide +kernel
theorem d_X_rides_41 : decode prog_1_method_16_code 41 = .ok (.iload_n 1, 1) := by decide +kernel
theorem d_X_rides_42 : decode prog_1_method_16_code 42 = .ok (.invokevirtual 161, 3) := by decide +kernel
theorem d_X_rides_45 : decode prog_1_method_16_code 45 = .ok (.aload_n 3, 1) := by decide +kernel
theorem d_X_rides_46 : decode prog_1_method_16_code 46 = .ok (.getfield 165, 3) := by decide +kernel
theorem d_X_rides_49 : decode prog_1_method_16_code 49 = .ok (.ireturn, 1) := by decide +kernel
def wp_X_rides (a1 : Int32) (a2 : Int32) (M : Mem) (post : Int32 → Mem → Prop) : Prop :=
  ((((pf_X_outside a1 24) = 0) → ((((pf_X_outside a2 (M 10 6)) = 0) → wp_X_asTold M (fun M5 => vp_in a2 8 ∧ wp_XW_ride 32 (M5 16 (tn a2)) a1 M5 (fun M8 => post (M8 32 12) M8))) ∧ (¬ ((pf_X_outside a2 (M 10 6)) = 0) → post (-2) M))) ∧ (¬ ((pf_X_outside a1 24) = 0) → post (-2) M))
set_option maxHeartbeats 4000000 in
set_option maxRecDepth 100000 in
theorem c_X_rides (g : GX) {a1 : Int32} {a2 : Int32} {M : Mem} {post : Int32 → Mem → Prop} (hw : wp_X_rides a1 a2 M post) : CtI (oX g) y_X_rides prog_1_method_16_code 4 (some .int) (rl 4) [.ref (ax g 0), .int a1, .int a2] M post := by
  refine z_metI (oX_ok g) (by decide) rfl (fun X C hr => ?_)
  show Zj X 4 (oX g) M 0 [(0, .ref (ax g 0)), (1, .int a1), (2, .int a2)] []
  unfold wp_X_rides at hw
  refine z_iload_n C d_X_rides_0 rfl 1 rfl ?_
  refine z_bipush (v := 24) C d_X_rides_1 (by decide) ?_
  refine z_callSi C (As := [.int a1, .int 24]) (rest := []) m_X_outside tw_251 ⟨rfl, rfl⟩ (c_X_outside (oX_ok g) _ _ _) rfl rfl rfl d_X_rides_3 (fun r M2 hq => ?_)
  obtain ⟨rfl, rfl⟩ := hq
  refine z_if_ne C 23 d_X_rides_6 (by decide) (fun h2 => ?_) (fun h2 => ?_)
  · replace hw := hw.2 h2
    refine z_bipush (v := (-2)) C d_X_rides_23 (by decide) ?_
    exact z_iret C hr hw d_X_rides_25
  · replace hw := hw.1 h2
    refine z_iload_n C d_X_rides_9 rfl 2 rfl ?_
    refine z_aload_n C d_X_rides_10 rfl 0 rfl ?_
    refine gf_X_18 C d_X_rides_11 ?_
    refine gf_X_106 C d_X_rides_14 ?_
    refine z_callSi C (As := [.int a2, .int (M 10 6)]) (rest := []) m_X_outside tw_251 ⟨rfl, rfl⟩ (c_X_outside (oX_ok g) _ _ _) rfl rfl rfl d_X_rides_17 (fun r M2 hq => ?_)
    obtain ⟨rfl, rfl⟩ := hq
    refine z_if_eq C 26 d_X_rides_20 (by decide) (fun h4 => ?_) (fun h4 => ?_)
    · replace hw := hw.1 h4
      refine z_aload_n C d_X_rides_26 rfl 0 rfl ?_
      refine z_callVr C (As := []) (rest := []) m_X_asTold tw_358 0 (le_X) rfl ⟨rfl, rfl⟩ (c_X_asTold g hw) rfl rfl rfl d_X_rides_27 (fun M5 hw => ?_)
      refine z_astore_n (lv' := [(3, .ref (ax g 32)), (0, .ref (ax g 0)), (1, .int a1), (2, .int a2)]) C d_X_rides_30 rfl rfl rfl ?_
      refine z_aload_n C d_X_rides_31 rfl 0 rfl ?_
      refine z_aload_n C d_X_rides_32 rfl 1 rfl ?_
      refine gf_X_18 C d_X_rides_33 ?_
      refine gf_X_109 C d_X_rides_36 ?_
      refine z_iload_n C d_X_rides_39 rfl 3 rfl ?_
      have hv7 := hw.1
      replace hw := hw.2
      refine z_al (zar_x16) C hv7 d_X_rides_40 ?_
      refine z_iload_n C d_X_rides_41 rfl 2 rfl ?_
      refine z_callVv C (As := [.int (M5 16 (tn a2)), .int a1]) (rest := []) m_XW_ride tw_412 32 (le_XW (Or.inl rfl)) rfl ⟨rfl, rfl⟩ (c_XW_ride g (Or.inl rfl) hw) rfl rfl rfl d_X_rides_42 (fun M8 hw => ?_)
      refine z_aload_n C d_X_rides_45 rfl 0 rfl ?_
      refine gf_X_165 (Or.inl rfl) C d_X_rides_46 ?_
      exact z_iret C hr hw d_X_rides_49
    · replace hw := hw.2 h4
      refine z_bipush (v := (-2)) C d_X_rides_23 (by decide) ?_
      exact z_iret C hr hw d_X_rides_25
theorem d_X_snow_0 : decode prog_1_method_17_code 0 = .ok (.iload_n 1, 1) := by decide +kernel
theorem d_X_snow_1 : decode prog_1_method_17_code 1 = .ok (.bipush 24, 2) := by decide +kernel
theorem d_X_snow_3 : decode prog_1_method_17_code 3 = .ok (.invokestatic 70, 3) := by decide +kernel
theorem d_X_snow_6 : decode prog_1_method_17_code 6 = .ok (.ifCond .ne (11), 3) := by decide +kernel
theorem d_X_snow_9 : decode prog_1_method_17_code 9 = .ok (.iload_n 2, 1) := by decide +kernel
theorem d_X_snow_10 : decode prog_1_method_17_code 10 = .ok (.iconst 2, 1) := by decide +kernel
theorem d_X_snow_11 : decode prog_1_method_17_code 11 = .ok (.invokestatic 70, 3) := by decide +kernel
theorem d_X_snow_14 : decode prog_1_method_17_code 14 = .ok (.ifCond .eq (6), 3) := by decide +kernel
theorem d_X_snow_17 : decode prog_1_method_17_code 17 = .ok (.bipush (-2), 2) := by decide +kernel
theorem d_X_snow_19 : decode prog_1_method_17_code 19 = .ok (.ireturn, 1) := by decide +kernel
theorem d_X_snow_20 : decode prog_1_method_17_code 20 = .ok (.iload_n 2, 1) := by decide +kernel
theorem d_X_snow_21 : decode prog_1_method_17_code 21 = .ok (.ifCond .ne (14), 3) := by decide +kernel
theorem d_X_snow_24 : decode prog_1_method_17_code 24 = .ok (.aload_n 0, 1) := by decide +kernel
theorem d_X_snow_25 : decode prog_1_method_17_code 25 = .ok (.invokevirtual 145, 3) := by decide +kernel
theorem d_X_snow_28 : decode prog_1_method_17_code 28 = .ok (.iload_n 1, 1) := by decide +kernel
theorem d_X_snow_29 : decode prog_1_method_17_code 29 = .ok (.invokevirtual 168, 3) := by decide +kernel
theorem d_X_snow_32 : decode prog_1_method_17_code 32 = .ok (.goto (11), 3) := by decide +kernel
theorem d_X_snow_35 : decode prog_1_method_17_code 35 = .ok (.aload_n 0, 1) := by decide +kernel
theorem d_X_snow_36 : decode prog_1_method_17_code 36 = .ok (.invokevirtual 145, 3) := by decide +kernel
theorem d_X_snow_39 : decode prog_1_method_17_code 39 = .ok (.iload_n 1, 1) := by decide +kernel
theorem d_X_snow_40 : decode prog_1_method_17_code 40 = .ok (.invokevirtual 171, 3) := by decide +kernel
theorem d_X_snow_43 : decode prog_1_method_17_code 43 = .ok (.ireturn, 1) := by decide +kernel
def wp_X_snow (a1 : Int32) (a2 : Int32) (M : Mem) (post : Int32 → Mem → Prop) : Prop :=
  ((((pf_X_outside a1 24) = 0) → ((((pf_X_outside a2 2) = 0) → (((a2 = 0) → wp_X_asTold M (fun M9 => wp_XW_snowBehind 32 a1 M9 (fun r11 => post r11 M9))) ∧ (¬ (a2 = 0) → wp_X_asTold M (fun M6 => wp_XW_deepMilesBehind 32 a1 M6 (fun r8 => post r8 M6))))) ∧ (¬ ((pf_X_outside a2 2) = 0) → post (-2) M))) ∧ (¬ ((pf_X_outside a1 24) = 0) → post (-2) M))
set_option maxHeartbeats 4000000 in
set_option maxRecDepth 100000 in
theorem c_X_snow (g : GX) {a1 : Int32} {a2 : Int32} {M : Mem} {post : Int32 → Mem → Prop} (hw : wp_X_snow a1 a2 M post) : CtI (oX g) y_X_snow prog_1_method_17_code 3 (some .int) (rl 4) [.ref (ax g 0), .int a1, .int a2] M post := by
  refine z_metI (oX_ok g) (by decide) rfl (fun X C hr => ?_)
  show Zj X 3 (oX g) M 0 [(0, .ref (ax g 0)), (1, .int a1), (2, .int a2)] []
  unfold wp_X_snow at hw
  refine z_iload_n C d_X_snow_0 rfl 1 rfl ?_
  refine z_bipush (v := 24) C d_X_snow_1 (by decide) ?_
  refine z_callSi C (As := [.int a1, .int 24]) (rest := []) m_X_outside tw_251 ⟨rfl, rfl⟩ (c_X_outside (oX_ok g) _ _ _) rfl rfl rfl d_X_snow_3 (fun r M2 hq => ?_)
  obtain ⟨rfl, rfl⟩ := hq
  refine z_if_ne C 17 d_X_snow_6 (by decide) (fun h2 => ?_) (fun h2 => ?_)
  · replace hw := hw.2 h2
    refine z_bipush (v := (-2)) C d_X_snow_17 (by decide) ?_
    exact z_iret C hr hw d_X_snow_19
  · replace hw := hw.1 h2
    refine z_iload_n C d_X_snow_9 rfl 2 rfl ?_
    refine z_iconst (v := 2) C d_X_snow_10 (by decide) ?_
    refine z_callSi C (As := [.int a2, .int 2]) (rest := []) m_X_outside tw_251 ⟨rfl, rfl⟩ (c_X_outside (oX_ok g) _ _ _) rfl rfl rfl d_X_snow_11 (fun r M2 hq => ?_)
    obtain ⟨rfl, rfl⟩ := hq
    refine z_if_eq C 20 d_X_snow_14 (by decide) (fun h4 => ?_) (fun h4 => ?_)
    · replace hw := hw.1 h4
      refine z_iload_n C d_X_snow_20 rfl 2 rfl ?_
      refine z_if_ne C 35 d_X_snow_21 (by decide) (fun h5 => ?_) (fun h5 => ?_)
      · replace hw := hw.2 h5
        refine z_aload_n C d_X_snow_35 rfl 0 rfl ?_
        refine z_callVr C (As := []) (rest := []) m_X_asTold tw_358 0 (le_X) rfl ⟨rfl, rfl⟩ (c_X_asTold g hw) rfl rfl rfl d_X_snow_36 (fun M6 hw => ?_)
        refine z_iload_n C d_X_snow_39 rfl 1 rfl ?_
        refine z_callVi C (As := [.int a1]) (rest := []) m_XW_deepMilesBehind tw_428 32 (le_XW (Or.inl rfl)) rfl ⟨rfl, rfl⟩ (c_XW_deepMilesBehind g (Or.inl rfl) hw) rfl rfl rfl d_X_snow_40 (fun r8 M2 hq => ?_)
        obtain ⟨rfl, hw⟩ := hq
        exact z_iret C hr hw d_X_snow_43
      · replace hw := hw.1 h5
        refine z_aload_n C d_X_snow_24 rfl 0 rfl ?_
        refine z_callVr C (As := []) (rest := []) m_X_asTold tw_358 0 (le_X) rfl ⟨rfl, rfl⟩ (c_X_asTold g hw) rfl rfl rfl d_X_snow_25 (fun M9 hw => ?_)
        refine z_iload_n C d_X_snow_28 rfl 1 rfl ?_
        refine z_callVi C (As := [.int a1]) (rest := []) m_XW_snowBehind tw_424 32 (le_XW (Or.inl rfl)) rfl ⟨rfl, rfl⟩ (c_XW_snowBehind g (Or.inl rfl) hw) rfl rfl rfl d_X_snow_29 (fun r11 M2 hq => ?_)
        obtain ⟨rfl, hw⟩ := hq
        refine z_goto C 43 d_X_snow_32 (by decide) ?_
        exact z_iret C hr hw d_X_snow_43
    · replace hw := hw.2 h4
      refine z_bipush (v := (-2)) C d_X_snow_17 (by decide) ?_
      exact z_iret C hr hw d_X_snow_19
