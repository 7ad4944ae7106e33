theorem d_R_weathers_0 : decode prog_8_method_47_code 0 = .ok (.aload_n 0, 1) := by decide +kernel
theorem d_R_weathers_1 : decode prog_8_method_47_code 1 = .ok (.getfield 91, 3) := by decide +kernel
theorem d_R_weathers_4 : decode prog_8_method_47_code 4 = .ok (.istore_n 2, 1) := by decide +kernel
theorem d_R_weathers_5 : decode prog_8_method_47_code 5 = .ok (.iconst 0, 1) := by decide +kernel
theorem d_R_weathers_6 : decode prog_8_method_47_code 6 = .ok (.istore_n 3, 1) := by decide +kernel
theorem d_R_weathers_7 : decode prog_8_method_47_code 7 = .ok (.iload_n 3, 1) := by decide +kernel
theorem d_R_weathers_8 : decode prog_8_method_47_code 8 = .ok (.aload_n 0, 1) := by decide +kernel
theorem d_R_weathers_9 : decode prog_8_method_47_code 9 = .ok (.getfield 189, 3) := by decide +kernel
theorem d_R_weathers_12 : decode prog_8_method_47_code 12 = .ok (.if_icmp .ge (27), 3) := by decide +kernel
theorem d_R_weathers_15 : decode prog_8_method_47_code 15 = .ok (.iload_n 2, 1) := by decide +kernel
theorem d_R_weathers_16 : decode prog_8_method_47_code 16 = .ok (.aload_n 0, 1) := by decide +kernel
theorem d_R_weathers_17 : decode prog_8_method_47_code 17 = .ok (.iload_n 3, 1) := by decide +kernel
theorem d_R_weathers_18 : decode prog_8_method_47_code 18 = .ok (.iconst 0, 1) := by decide +kernel
theorem d_R_weathers_19 : decode prog_8_method_47_code 19 = .ok (.iload_n 1, 1) := by decide +kernel
theorem d_R_weathers_20 : decode prog_8_method_47_code 20 = .ok (.invokevirtual 201, 3) := by decide +kernel
theorem d_R_weathers_23 : decode prog_8_method_47_code 23 = .ok (.ifCond .eq (7), 3) := by decide +kernel
theorem d_R_weathers_26 : decode prog_8_method_47_code 26 = .ok (.iconst 3, 1) := by decide +kernel
theorem d_R_weathers_27 : decode prog_8_method_47_code 27 = .ok (.goto (4), 3) := by decide +kernel
theorem d_R_weathers_30 : decode prog_8_method_47_code 30 = .ok (.iconst 0, 1) := by decide +kernel
theorem d_R_weathers_31 : decode prog_8_method_47_code 31 = .ok (.iadd, 1) := by decide +kernel
theorem d_R_weathers_32 : decode prog_8_method_47_code 32 = .ok (.istore_n 2, 1) := by decide +kernel
theorem d_R_weathers_33 : decode prog_8_method_47_code 33 = .ok (.iinc 3 1, 3) := by decide +kernel
theorem d_R_weathers_36 : decode prog_8_method_47_code 36 = .ok (.goto (-29), 3) := by decide +kernel
theorem d_R_weathers_39 : decode prog_8_method_47_code 39 = .ok (.iconst 0, 1) := by decide +kernel
theorem d_R_weathers_40 : decode prog_8_method_47_code 40 = .ok (.istore_n 3, 1) := by decide +kernel
theorem d_R_weathers_41 : decode prog_8_method_47_code 41 = .ok (.iload_n 3, 1) := by decide +kernel
theorem d_R_weathers_42 : decode prog_8_method_47_code 42 = .ok (.bipush 12, 2) := by decide +kernel
theorem d_R_weathers_44 : decode prog_8_method_47_code 44 = .ok (.if_icmp .ge (78), 3) := by decide +kernel
theorem d_R_weathers_47 : decode prog_8_method_47_code 47 = .ok (.aload_n 0, 1) := by decide +kernel
theorem d_R_weathers_48 : decode prog_8_method_47_code 48 = .ok (.getfield 43, 3) := by decide +kernel
theorem d_R_weathers_51 : decode prog_8_method_47_code 51 = .ok (.iload_n 3, 1) := by decide +kernel
theorem d_R_weathers_52 : decode prog_8_method_47_code 52 = .ok (.dup2, 1) := by decide +kernel
theorem d_R_weathers_53 : decode prog_8_method_47_code 53 = .ok (.iaload, 1) := by decide +kernel
theorem d_R_weathers_54 : decode prog_8_method_47_code 54 = .ok (.aload_n 0, 1) := by decide +kernel
theorem d_R_weathers_55 : decode prog_8_method_47_code 55 = .ok (.getfield 31, 3) := by decide +kernel
theorem d_R_weathers_58 : decode prog_8_method_47_code 58 = .ok (.iload_n 1, 1) := by decide +kernel
theorem d_R_weathers_59 : decode prog_8_method_47_code 59 = .ok (.iaload, 1) := by decide +kernel
theorem d_R_weathers_60 : decode prog_8_method_47_code 60 = .ok (.aload_n 0, 1) := by decide +kernel
theorem d_R_weathers_61 : decode prog_8_method_47_code 61 = .ok (.getfield 28, 3) := by decide +kernel
theorem d_R_weathers_64 : decode prog_8_method_47_code 64 = .ok (.iload_n 3, 1) := by decide +kernel
theorem d_R_weathers_65 : decode prog_8_method_47_code 65 = .ok (.iaload, 1) := by decide +kernel
theorem d_R_weathers_66 : decode prog_8_method_47_code 66 = .ok (.iconst 2, 1) := by decide +kernel
theorem d_R_weathers_67 : decode prog_8_method_47_code 67 = .ok (.if_icmp .ne (16), 3) := by decide +kernel
theorem d_R_weathers_70 : decode prog_8_method_47_code 70 = .ok (.aload_n 0, 1) := by decide +kernel
theorem d_R_weathers_71 : decode prog_8_method_47_code 71 = .ok (.getfield 31, 3) := by decide +kernel
theorem d_R_weathers_74 : decode prog_8_method_47_code 74 = .ok (.iload_n 1, 1) := by decide +kernel
theorem d_R_weathers_75 : decode prog_8_method_47_code 75 = .ok (.iaload, 1) := by decide +kernel
theorem d_R_weathers_76 : decode prog_8_method_47_code 76 = .ok (.ifCond .le (7), 3) := by decide +kernel
theorem d_R_weathers_79 : decode prog_8_method_47_code 79 = .ok (.iconst 1, 1) := by decide +kernel
theorem d_R_weathers_80 : decode prog_8_method_47_code 80 = .ok (.goto (4), 3) := by decide +kernel
theorem d_R_weathers_83 : decode prog_8_method_47_code 83 = .ok (.iconst 0, 1) := by decide +kernel
theorem d_R_weathers_84 : decode prog_8_method_47_code 84 = .ok (.iadd, 1) := by decide +kernel
theorem d_R_weathers_85 : decode prog_8_method_47_code 85 = .ok (.iadd, 1) := by decide +kernel
theorem d_R_weathers_86 : decode prog_8_method_47_code 86 = .ok (.iastore, 1) := by decide +kernel
theorem d_R_weathers_87 : decode prog_8_method_47_code 87 = .ok (.aload_n 0, 1) := by decide +kernel
theorem d_R_weathers_88 : decode prog_8_method_47_code 88 = .ok (.getfield 46, 3) := by decide +kernel
theorem d_R_weathers_91 : decode prog_8_method_47_code 91 = .ok (.iload_n 3, 1) := by decide +kernel
theorem d_R_weathers_92 : decode prog_8_method_47_code 92 = .ok (.aload_n 0, 1) := by decide +kernel
theorem d_R_weathers_93 : decode prog_8_method_47_code 93 = .ok (.getfield 28, 3) := by decide +kernel
theorem d_R_weathers_96 : decode prog_8_method_47_code 96 = .ok (.iload_n 3, 1) := by decide +kernel
theorem d_R_weathers_97 : decode prog_8_method_47_code 97 = .ok (.iaload, 1) := by decide +kernel
theorem d_R_weathers_98 : decode prog_8_method_47_code 98 = .ok (.ifCond .ne (16), 3) := by decide +kernel
theorem d_R_weathers_101 : decode prog_8_method_47_code 101 = .ok (.iload_n 2, 1) := by decide +kernel
theorem d_R_weathers_102 : decode prog_8_method_47_code 102 = .ok (.aload_n 0, 1) := by decide +kernel
theorem d_R_weathers_103 : decode prog_8_method_47_code 103 = .ok (.getfield 43, 3) := by decide +kernel
theorem d_R_weathers_106 : decode prog_8_method_47_code 106 = .ok (.iload_n 3, 1) := by decide +kernel
theorem d_R_weathers_107 : decode prog_8_method_47_code 107 = .ok (.iaload, 1) := by decide +kernel
theorem d_R_weathers_108 : decode prog_8_method_47_code 108 = .ok (.invokestatic 205, 3) := by decide +kernel
theorem d_R_weathers_111 : decode prog_8_method_47_code 111 = .ok (.goto (4), 3) := by decide +kernel
theorem d_R_weathers_114 : decode prog_8_method_47_code 114 = .ok (.iconst 0, 1) := by decide +kernel
theorem d_R_weathers_115 : decode prog_8_method_47_code 115 = .ok (.iastore, 1) := by decide +kernel
theorem d_R_weathers_116 : decode prog_8_method_47_code 116 = .ok (.iinc 3 1, 3) := by decide +kernel
theorem d_R_weathers_119 : decode prog_8_method_47_code 119 = .ok (.goto (-78), 3) := by decide +kernel
theorem d_R_weathers_122 : decode prog_8_method_47_code 122 = .ok (.iconst 0, 1) := by decide +kernel
theorem d_R_weathers_123 : decode prog_8_method_47_code 123 = .ok (.istore_n 3, 1) := by decide +kernel
theorem d_R_weathers_124 : decode prog_8_method_47_code 124 = .ok (.iload_n 3, 1) := by decide +kernel
theorem d_R_weathers_125 : decode prog_8_method_47_code 125 = .ok (.bipush 12, 2) := by decide +kernel
theorem d_R_weathers_127 : decode prog_8_method_47_code 127 = .ok (.if_icmp .ge (41), 3) := by decide +kernel
theorem d_R_weathers_130 : decode prog_8_method_47_code 130 = .ok (.aload_n 0, 1) := by decide +kernel
theorem d_R_weathers_131 : decode prog_8_method_47_code 131 = .ok (.getfield 43, 3) := by decide +kernel
theorem d_R_weathers_134 : decode prog_8_method_47_code 134 = .ok (.iload_n 3, 1) := by decide +kernel
theorem d_R_weathers_135 : decode prog_8_method_47_code 135 = .ok (.dup2, 1) := by decide +kernel
theorem d_R_weathers_136 : decode prog_8_method_47_code 136 = .ok (.iaload, 1) := by decide +kernel
theorem d_R_weathers_137 : decode prog_8_method_47_code 137 = .ok (.iload_n 3, 1) := by decide +kernel
theorem d_R_weathers_138 : decode prog_8_method_47_code 138 = .ok (.ifCond .le (14), 3) := by decide +kernel
theorem d_R_weathers_141 : decode prog_8_method_47_code 141 = .ok (.aload_n 0, 1) := by decide +kernel
theorem d_R_weathers_142 : decode prog_8_method_47_code 142 = .ok (.getfield 46, 3) := by decide +kernel
theorem d_R_weathers_145 : decode prog_8_method_47_code 145 = .ok (.iload_n 3, 1) := by decide +kernel
theorem d_R_weathers_146 : decode prog_8_method_47_code 146 = .ok (.iconst 1, 1) := by decide +kernel
theorem d_R_weathers_147 : decode prog_8_method_47_code 147 = .ok (.isub, 1) := by decide +kernel
theorem d_R_weathers_148 : decode prog_8_method_47_code 148 = .ok (.iaload, 1) := by decide +kernel
theorem d_R_weathers_149 : decode prog_8_method_47_code 149 = .ok (.goto (4), 3) := by decide +kernel
theorem d_R_weathers_152 : decode prog_8_method_47_code 152 = .ok (.iconst 0, 1) := by decide +kernel
theorem d_R_weathers_153 : decode prog_8_method_47_code 153 = .ok (.aload_n 0, 1) := by decide +kernel
theorem d_R_weathers_154 : decode prog_8_method_47_code 154 = .ok (.getfield 46, 3) := by decide +kernel
theorem d_R_weathers_157 : decode prog_8_method_47_code 157 = .ok (.iload_n 3, 1) := by decide +kernel
theorem d_R_weathers_158 : decode prog_8_method_47_code 158 = .ok (.iaload, 1) := by decide +kernel
theorem d_R_weathers_159 : decode prog_8_method_47_code 159 = .ok (.isub, 1) := by decide +kernel
theorem d_R_weathers_160 : decode prog_8_method_47_code 160 = .ok (.iadd, 1) := by decide +kernel
theorem d_R_weathers_161 : decode prog_8_method_47_code 161 = .ok (.iastore, 1) := by decide +kernel
theorem d_R_weathers_162 : decode prog_8_method_47_code 162 = .ok (.iinc 3 1, 3) := by decide +kernel
theorem d_R_weathers_165 : decode prog_8_method_47_code 165 = .ok (.goto (-41), 3) := by decide +kernel
theorem d_R_weathers_168 : decode prog_8_method_47_code 168 = .ok (.iconst 0, 1) := by decide +kernel
theorem d_R_weathers_169 : decode prog_8_method_47_code 169 = .ok (.istore_n 3, 1) := by decide +kernel
theorem d_R_weathers_170 : decode prog_8_method_47_code 170 = .ok (.iload_n 3, 1) := by decide +kernel
theorem d_R_weathers_171 : decode prog_8_method_47_code 171 = .ok (.aload_n 0, 1) := by decide +kernel
theorem d_R_weathers_172 : decode prog_8_method_47_code 172 = .ok (.getfield 189, 3) := by decide +kernel
theorem d_R_weathers_175 : decode prog_8_method_47_code 175 = .ok (.if_icmp .ge (38), 3) := by decide +kernel
theorem d_R_weathers_178 : decode prog_8_method_47_code 178 = .ok (.aload_n 0, 1) := by decide +kernel
theorem d_R_weathers_179 : decode prog_8_method_47_code 179 = .ok (.iload_n 3, 1) := by decide +kernel
theorem d_R_weathers_180 : decode prog_8_method_47_code 180 = .ok (.iconst 2, 1) := by decide +kernel
theorem d_R_weathers_181 : decode prog_8_method_47_code 181 = .ok (.iload_n 1, 1) := by decide +kernel
theorem d_R_weathers_182 : decode prog_8_method_47_code 182 = .ok (.invokevirtual 201, 3) := by decide +kernel
theorem d_R_weathers_185 : decode prog_8_method_47_code 185 = .ok (.ifCond .eq (22), 3) := by decide +kernel
theorem d_R_weathers_188 : decode prog_8_method_47_code 188 = .ok (.aload_n 0, 1) := by decide +kernel
theorem d_R_weathers_189 : decode prog_8_method_47_code 189 = .ok (.getfield 43, 3) := by decide +kernel
theorem d_R_weathers_192 : decode prog_8_method_47_code 192 = .ok (.aload_n 0, 1) := by decide +kernel
theorem d_R_weathers_193 : decode prog_8_method_47_code 193 = .ok (.getfield 40, 3) := by decide +kernel
theorem d_R_weathers_196 : decode prog_8_method_47_code 196 = .ok (.iconst 3, 1) := by decide +kernel
theorem d_R_weathers_197 : decode prog_8_method_47_code 197 = .ok (.iload_n 3, 1) := by decide +kernel
theorem d_R_weathers_198 : decode prog_8_method_47_code 198 = .ok (.imul, 1) := by decide +kernel
theorem d_R_weathers_199 : decode prog_8_method_47_code 199 = .ok (.iconst 2, 1) := by decide +kernel
theorem d_R_weathers_200 : decode prog_8_method_47_code 200 = .ok (.iadd, 1) := by decide +kernel
theorem d_R_weathers_201 : decode prog_8_method_47_code 201 = .ok (.iaload, 1) := by decide +kernel
theorem d_R_weathers_202 : decode prog_8_method_47_code 202 = .ok (.dup2, 1) := by decide +kernel
theorem d_R_weathers_203 : decode prog_8_method_47_code 203 = .ok (.iaload, 1) := by decide +kernel
theorem d_R_weathers_204 : decode prog_8_method_47_code 204 = .ok (.iconst 2, 1) := by decide +kernel
theorem d_R_weathers_205 : decode prog_8_method_47_code 205 = .ok (.idiv, 1) := by decide +kernel
theorem d_R_weathers_206 : decode prog_8_method_47_code 206 = .ok (.iastore, 1) := by decide +kernel
theorem d_R_weathers_207 : decode prog_8_method_47_code 207 = .ok (.iinc 3 1, 3) := by decide +kernel
theorem d_R_weathers_210 : decode prog_8_method_47_code 210 = .ok (.goto (-40), 3) := by decide +kernel
theorem d_R_weathers_213 : decode prog_8_method_47_code 213 = .ok (.return_, 1) := by decide +kernel
def wp_R_weathers (a1 : Int32) (M : Mem) (post : Mem → Prop) : Prop :=
  (it2 (fun rec1 (i3 : Int32) (i4 : Int32) => ((((M 0 14) ≤ i4) → (it2 (fun rec6 (i8 : Int32) (M9 : Mem) => (((12 ≤ i8) → (it2 (fun rec11 (i13 : Int32) (M14 : Mem) => (((12 ≤ i13) → (it2 (fun rec16 (i18 : Int32) (M19 : Mem) => ((((M19 0 14) ≤ i18) → post M19) ∧ (¬ ((M19 0 14) ≤ i18) → wp_R_isTold i18 2 a1 M19 (fun r21 => (((r21 = 0) → rec16 (i18 + 1) M19) ∧ (¬ (r21 = 0) → vp_in ((3 * i18) + 2) 24 ∧ vp_in (M19 11 (tn ((3 * i18) + 2))) 12 ∧ ∀ M25 : Mem, M25 = upm M19 12 (tn (M19 11 (tn ((3 * i18) + 2)))) ((M19 12 (tn (M19 11 (tn ((3 * i18) + 2))))) / 2) → rec16 (i18 + 1) M25)))))) 4096 0 M14)) ∧ (¬ (12 ≤ i13) → vp_in i13 12 ∧ (((i13 ≤ 0) → True) ∧ (¬ (i13 ≤ 0) → (vp_in (i13 - 1) 12))) ∧ (∀ u29 : Int32, u29 = (if i13 ≤ 0 then 0 else (M14 13 (tn (i13 - 1)))) → ∀ M30 : Mem, M30 = upm M14 12 (tn i13) ((M14 12 (tn i13)) + (u29 - (M14 13 (tn i13)))) → rec11 (i13 + 1) M30)))) 4096 0 M9)) ∧ (¬ (12 ≤ i8) → vp_in i8 12 ∧ vp_in a1 24 ∧ ∀ u37 : Int32, u37 = (if (M9 7 (tn i8)) = 2 then (if (M9 8 (tn a1)) ≤ 0 then 0 else 1) else 0) → ∀ M38 : Mem, M38 = upm M9 12 (tn i8) ((M9 12 (tn i8)) + ((M9 8 (tn a1)) + u37)) → ∀ u41 : Int32, u41 = (if (M38 7 (tn i8)) = 0 then (pf_R_lesser i3 (M38 12 (tn i8))) else 0) → ∀ M42 : Mem, M42 = upm M38 13 (tn i8) u41 → rec6 (i8 + 1) M42))) 4096 0 M)) ∧ (¬ ((M 0 14) ≤ i4) → wp_R_isTold i4 0 a1 M (fun r45 => ∀ u47 : Int32, u47 = (if r45 = 0 then 0 else 3) → rec1 (i3 + u47) (i4 + 1))))) 4096 (M 0 13) 0)
set_option maxHeartbeats 4000000 in
set_option maxRecDepth 100000 in
theorem c_R_weathers (g : GX) {a1 : Int32} {M : Mem} {post : Mem → Prop} (hw : wp_R_weathers a1 M post) : CtV (oR g) y_R_weathers prog_8_method_47_code 4 none (rl 2) [.ref (ax g 0), .int a1] M post := by
  refine z_metV (oR_ok g) (by decide) rfl (fun X C hr => ?_)
  show Zj X 4 (oR g) M 0 [(0, .ref (ax g 0)), (1, .int a1)] []
  unfold wp_R_weathers at hw
  refine z_aload_n C d_R_weathers_0 rfl 0 rfl ?_
  refine gf_R_91 C d_R_weathers_1 ?_
  refine z_istore_n (lv' := [(2, .int (M 0 13)), (0, .ref (ax g 0)), (1, .int a1)]) C d_R_weathers_4 rfl rfl rfl ?_
  refine z_iconst (v := 0) C d_R_weathers_5 (by decide) ?_
  refine z_istore_n (lv' := [(3, .int 0), (2, .int (M 0 13)), (0, .ref (ax g 0)), (1, .int a1)]) C d_R_weathers_6 rfl rfl rfl ?_
  refine z_sub [2, 3, 1, 0] rfl ?_
  refine it2_Z (Z := fun (i3 : Int32) (i4 : Int32) => Zj X 4 (oR g) M 7 [(0, .ref (ax g 0)), (1, .int a1), (2, .int i3), (3, .int i4)] []) (fun rec1 ih2 i3 i4 hw => ?_) _ _ _ hw
  refine z_iload_n C d_R_weathers_7 rfl 3 rfl ?_
  refine z_aload_n C d_R_weathers_8 rfl 0 rfl ?_
  refine gf_R_189 C d_R_weathers_9 ?_
  refine z_ic_ge C 39 d_R_weathers_12 (by decide) (fun h5 => ?_) (fun h5 => ?_)
  · replace hw := hw.1 h5
    refine z_iconst (v := 0) C d_R_weathers_39 (by decide) ?_
    refine z_istore_n (lv' := [(3, .int 0), (0, .ref (ax g 0)), (1, .int a1), (2, .int i3)]) C d_R_weathers_40 rfl rfl rfl ?_
    refine z_sub [1, 2, 3, 0] rfl ?_
    refine it2_Z (Z := fun (i8 : Int32) (M9 : Mem) => Zj X 4 (oR g) M9 41 [(0, .ref (ax g 0)), (1, .int a1), (2, .int i3), (3, .int i8)] []) (fun rec6 ih7 i8 M9 hw => ?_) _ _ _ hw
    refine z_iload_n C d_R_weathers_41 rfl 3 rfl ?_
    refine z_bipush (v := 12) C d_R_weathers_42 (by decide) ?_
    refine z_ic_ge C 122 d_R_weathers_44 (by decide) (fun h10 => ?_) (fun h10 => ?_)
    · replace hw := hw.1 h10
      refine z_iconst (v := 0) C d_R_weathers_122 (by decide) ?_
      refine z_istore_n (lv' := [(3, .int 0), (0, .ref (ax g 0)), (1, .int a1), (2, .int i3)]) C d_R_weathers_123 rfl rfl rfl ?_
      refine z_sub [1, 2, 0] rfl ?_
      refine it2_Z (Z := fun (i13 : Int32) (M14 : Mem) => Zj X 4 (oR g) M14 124 [(0, .ref (ax g 0)), (1, .int a1), (3, .int i13)] []) (fun rec11 ih12 i13 M14 hw => ?_) _ _ _ hw
      refine z_iload_n C d_R_weathers_124 rfl 2 rfl ?_
      refine z_bipush (v := 12) C d_R_weathers_125 (by decide) ?_
      refine z_ic_ge C 168 d_R_weathers_127 (by decide) (fun h15 => ?_) (fun h15 => ?_)
      · replace hw := hw.1 h15
        refine z_iconst (v := 0) C d_R_weathers_168 (by decide) ?_
        refine z_istore_n (lv' := [(3, .int 0), (0, .ref (ax g 0)), (1, .int a1)]) C d_R_weathers_169 rfl rfl rfl ?_
        refine z_sub [1, 2, 0] rfl ?_
        refine it2_Z (Z := fun (i18 : Int32) (M19 : Mem) => Zj X 4 (oR g) M19 170 [(0, .ref (ax g 0)), (1, .int a1), (3, .int i18)] []) (fun rec16 ih17 i18 M19 hw => ?_) _ _ _ hw
        refine z_iload_n C d_R_weathers_170 rfl 2 rfl ?_
        refine z_aload_n C d_R_weathers_171 rfl 0 rfl ?_
        refine gf_R_189 C d_R_weathers_172 ?_
        refine z_ic_ge C 213 d_R_weathers_175 (by decide) (fun h20 => ?_) (fun h20 => ?_)
        · replace hw := hw.1 h20
          exact z_vret C hr hw d_R_weathers_213
        · replace hw := hw.2 h20
          refine z_aload_n C d_R_weathers_178 rfl 0 rfl ?_
          refine z_iload_n C d_R_weathers_179 rfl 2 rfl ?_
          refine z_iconst (v := 2) C d_R_weathers_180 (by decide) ?_
          refine z_iload_n C d_R_weathers_181 rfl 1 rfl ?_
          refine z_callVi C (As := [.int i18, .int 2, .int a1]) (rest := []) m_R_isTold tw_947 0 (le_R) rfl ⟨rfl, rfl⟩ (c_R_isTold g hw) rfl rfl rfl d_R_weathers_182 (fun r21 M2 hq => ?_)
          obtain ⟨rfl, hw⟩ := hq
          refine z_if_eq C 207 d_R_weathers_185 (by decide) (fun h22 => ?_) (fun h22 => ?_)
          · replace hw := hw.1 h22
            refine z_iinc (v := (i18 + 1)) (lv' := [(3, .int (i18 + 1)), (0, .ref (ax g 0)), (1, .int a1)]) C d_R_weathers_207 2 rfl rfl rfl rfl ?_
            refine z_goto C 170 d_R_weathers_210 (by decide) ?_
            refine z_sub [1, 2, 0] rfl ?_
            exact ih17 _ _ hw
          · replace hw := hw.2 h22
            refine z_aload_n C d_R_weathers_188 rfl 0 rfl ?_
            refine gf_R_43 C d_R_weathers_189 ?_
            refine z_aload_n C d_R_weathers_192 rfl 0 rfl ?_
            refine gf_R_40 C d_R_weathers_193 ?_
            refine z_iconst (v := 3) C d_R_weathers_196 (by decide) ?_
            refine z_iload_n C d_R_weathers_197 rfl 2 rfl ?_
            refine z_imul C d_R_weathers_198 ?_
            refine z_iconst (v := 2) C d_R_weathers_199 (by decide) ?_
            refine z_iadd C d_R_weathers_200 ?_
            have hv23 := hw.1
            replace hw := hw.2
            refine z_al (zar_r11) C hv23 d_R_weathers_201 ?_
            refine z_dup2 C d_R_weathers_202 rfl rfl ?_
            have hv24 := hw.1
            replace hw := hw.2
            refine z_al (zar_r12) C hv24 d_R_weathers_203 ?_
            refine z_iconst (v := 2) C d_R_weathers_204 (by decide) ?_
            refine z_idiv C d_R_weathers_205 (by decide) ?_
            refine z_as (zar_r12) C hv24 d_R_weathers_206 (fun M25 hM25 => ?_)
            replace hw := hw M25 hM25
            refine z_iinc (v := (i18 + 1)) (lv' := [(3, .int (i18 + 1)), (0, .ref (ax g 0)), (1, .int a1)]) C d_R_weathers_207 2 rfl rfl rfl rfl ?_
            refine z_goto C 170 d_R_weathers_210 (by decide) ?_
            refine z_sub [1, 2, 0] rfl ?_
            exact ih17 _ _ hw
      · replace hw := hw.2 h15
        refine z_aload_n C d_R_weathers_130 rfl 0 rfl ?_
        refine gf_R_43 C d_R_weathers_131 ?_
        refine z_iload_n C d_R_weathers_134 rfl 2 rfl ?_
        refine z_dup2 C d_R_weathers_135 rfl rfl ?_
        have hv26 := hw.1
        replace hw := hw.2
        refine z_al (zar_r12) C hv26 d_R_weathers_136 ?_
        refine z_iload_n C d_R_weathers_137 rfl 2 rfl ?_
        have hj31 : ∀ u29 : Int32, u29 = (if i13 ≤ 0 then 0 else (M14 13 (tn (i13 - 1)))) → Zj X 4 (oR g) M14 153 [(0, .ref (ax g 0)), (1, .int a1), (3, .int i13)] [.int u29, .int (M14 12 (tn i13)), .int i13, .ref (ax g 12)] := by
          intro u29 hu29
          replace hw := hw.2 u29 hu29
          refine z_aload_n C d_R_weathers_153 rfl 0 rfl ?_
          refine gf_R_46 C d_R_weathers_154 ?_
          refine z_iload_n C d_R_weathers_157 rfl 2 rfl ?_
          refine z_al (zar_r13) C hv26 d_R_weathers_158 ?_
          refine z_isub C d_R_weathers_159 ?_
          refine z_iadd C d_R_weathers_160 ?_
          refine z_as (zar_r12) C hv26 d_R_weathers_161 (fun M30 hM30 => ?_)
          replace hw := hw M30 hM30
          refine z_iinc (v := (i13 + 1)) (lv' := [(3, .int (i13 + 1)), (0, .ref (ax g 0)), (1, .int a1)]) C d_R_weathers_162 2 rfl rfl rfl rfl ?_
          refine z_goto C 124 d_R_weathers_165 (by decide) ?_
          refine z_sub [1, 2, 0] rfl ?_
          exact ih12 _ _ hw
        have ha0 := hw.1
        refine z_if_le C 152 d_R_weathers_138 (by decide) (fun h27 => ?_) (fun h27 => ?_)
        · refine z_iconst (v := 0) C d_R_weathers_152 (by decide) ?_
          refine z_sub [0, 1, 2] rfl ?_
          exact hj31 _ ((if_pos h27)).symm
        · have ha32 := ha0.2 h27
          refine z_aload_n C d_R_weathers_141 rfl 0 rfl ?_
          refine gf_R_46 C d_R_weathers_142 ?_
          refine z_iload_n C d_R_weathers_145 rfl 2 rfl ?_
          refine z_iconst (v := 1) C d_R_weathers_146 (by decide) ?_
          refine z_isub C d_R_weathers_147 ?_
          have hv28 := ha32
          refine z_al (zar_r13) C hv28 d_R_weathers_148 ?_
          refine z_goto C 153 d_R_weathers_149 (by decide) ?_
          refine z_sub [0, 1, 2] rfl ?_
          exact hj31 _ ((if_neg h27)).symm
    · replace hw := hw.2 h10
      refine z_aload_n C d_R_weathers_47 rfl 0 rfl ?_
      refine gf_R_43 C d_R_weathers_48 ?_
      refine z_iload_n C d_R_weathers_51 rfl 3 rfl ?_
      refine z_dup2 C d_R_weathers_52 rfl rfl ?_
      have hv33 := hw.1
      replace hw := hw.2
      refine z_al (zar_r12) C hv33 d_R_weathers_53 ?_
      refine z_aload_n C d_R_weathers_54 rfl 0 rfl ?_
      refine gf_R_31 C d_R_weathers_55 ?_
      refine z_iload_n C d_R_weathers_58 rfl 1 rfl ?_
      have hv34 := hw.1
      replace hw := hw.2
      refine z_al (zar_r8) C hv34 d_R_weathers_59 ?_
      refine z_aload_n C d_R_weathers_60 rfl 0 rfl ?_
      refine gf_R_28 C d_R_weathers_61 ?_
      refine z_iload_n C d_R_weathers_64 rfl 3 rfl ?_
      refine z_al (zar_r7) C hv33 d_R_weathers_65 ?_
      refine z_iconst (v := 2) C d_R_weathers_66 (by decide) ?_
      have hj44 : ∀ u37 : Int32, u37 = (if (M9 7 (tn i8)) = 2 then (if (M9 8 (tn a1)) ≤ 0 then 0 else 1) else 0) → Zj X 4 (oR g) M9 84 [(0, .ref (ax g 0)), (1, .int a1), (2, .int i3), (3, .int i8)] [.int u37, .int (M9 8 (tn a1)), .int (M9 12 (tn i8)), .int i8, .ref (ax g 12)] := by
        intro u37 hu37
        replace hw := hw u37 hu37
        refine z_iadd C d_R_weathers_84 ?_
        refine z_iadd C d_R_weathers_85 ?_
        refine z_as (zar_r12) C hv33 d_R_weathers_86 (fun M38 hM38 => ?_)
        replace hw := hw M38 hM38
        refine z_aload_n C d_R_weathers_87 rfl 0 rfl ?_
        refine gf_R_46 C d_R_weathers_88 ?_
        refine z_iload_n C d_R_weathers_91 rfl 3 rfl ?_
        refine z_aload_n C d_R_weathers_92 rfl 0 rfl ?_
        refine gf_R_28 C d_R_weathers_93 ?_
        refine z_iload_n C d_R_weathers_96 rfl 3 rfl ?_
        refine z_al (zar_r7) C hv33 d_R_weathers_97 ?_
        have hj43 : ∀ u41 : Int32, u41 = (if (M38 7 (tn i8)) = 0 then (pf_R_lesser i3 (M38 12 (tn i8))) else 0) → Zj X 4 (oR g) M38 115 [(0, .ref (ax g 0)), (1, .int a1), (2, .int i3), (3, .int i8)] [.int u41, .int i8, .ref (ax g 13)] := by
          intro u41 hu41
          replace hw := hw u41 hu41
          refine z_as (zar_r13) C hv33 d_R_weathers_115 (fun M42 hM42 => ?_)
          replace hw := hw M42 hM42
          refine z_iinc (v := (i8 + 1)) (lv' := [(3, .int (i8 + 1)), (0, .ref (ax g 0)), (1, .int a1), (2, .int i3)]) C d_R_weathers_116 3 rfl rfl rfl rfl ?_
          refine z_goto C 41 d_R_weathers_119 (by decide) ?_
          refine z_sub [1, 2, 3, 0] rfl ?_
          exact ih7 _ _ hw
        refine z_if_ne C 114 d_R_weathers_98 (by decide) (fun h39 => ?_) (fun h39 => ?_)
        · refine z_iconst (v := 0) C d_R_weathers_114 (by decide) ?_
          refine z_sub [0, 1, 2, 3] rfl ?_
          exact hj43 _ ((if_neg h39)).symm
        · refine z_iload_n C d_R_weathers_101 rfl 2 rfl ?_
          refine z_aload_n C d_R_weathers_102 rfl 0 rfl ?_
          refine gf_R_43 C d_R_weathers_103 ?_
          refine z_iload_n C d_R_weathers_106 rfl 3 rfl ?_
          refine z_al (zar_r12) C hv33 d_R_weathers_107 ?_
          refine z_callSi C (As := [.int i3, .int (M38 12 (tn i8))]) (rest := [.int i8, .ref (ax g 13)]) m_R_lesser tw_954 ⟨rfl, rfl⟩ (c_R_lesser (oR_ok g) _ _ _) rfl rfl rfl d_R_weathers_108 (fun r M2 hq => ?_)
          obtain ⟨rfl, rfl⟩ := hq
          refine z_goto C 115 d_R_weathers_111 (by decide) ?_
          refine z_sub [0, 1, 2, 3] rfl ?_
          exact hj43 _ ((if_pos h39)).symm
      refine z_ic_ne C 83 d_R_weathers_67 (by decide) (fun h35 => ?_) (fun h35 => ?_)
      · refine z_iconst (v := 0) C d_R_weathers_83 (by decide) ?_
        refine z_sub [0, 1, 2, 3] rfl ?_
        exact hj44 _ ((if_neg h35)).symm
      · refine z_aload_n C d_R_weathers_70 rfl 0 rfl ?_
        refine gf_R_31 C d_R_weathers_71 ?_
        refine z_iload_n C d_R_weathers_74 rfl 1 rfl ?_
        refine z_al (zar_r8) C hv34 d_R_weathers_75 ?_
        refine z_if_le C 83 d_R_weathers_76 (by decide) (fun h36 => ?_) (fun h36 => ?_)
        · refine z_iconst (v := 0) C d_R_weathers_83 (by decide) ?_
          refine z_sub [0, 1, 2, 3] rfl ?_
          exact hj44 _ (((if_pos h35).trans (if_pos h36))).symm
        · refine z_iconst (v := 1) C d_R_weathers_79 (by decide) ?_
          refine z_goto C 84 d_R_weathers_80 (by decide) ?_
          refine z_sub [0, 1, 2, 3] rfl ?_
          exact hj44 _ (((if_pos h35).trans (if_neg h36))).symm
  · replace hw := hw.2 h5
    refine z_iload_n C d_R_weathers_15 rfl 2 rfl ?_
    refine z_aload_n C d_R_weathers_16 rfl 0 rfl ?_
    refine z_iload_n C d_R_weathers_17 rfl 3 rfl ?_
    refine z_iconst (v := 0) C d_R_weathers_18 (by decide) ?_
    refine z_iload_n C d_R_weathers_19 rfl 1 rfl ?_
    refine z_callVi C (As := [.int i4, .int 0, .int a1]) (rest := [.int i3]) m_R_isTold tw_947 0 (le_R) rfl ⟨rfl, rfl⟩ (c_R_isTold g hw) rfl rfl rfl d_R_weathers_20 (fun r45 M2 hq => ?_)
    obtain ⟨rfl, hw⟩ := hq
    have hj48 : ∀ u47 : Int32, u47 = (if r45 = 0 then 0 else 3) → Zj X 4 (oR g) M 31 [(0, .ref (ax g 0)), (1, .int a1), (3, .int i4)] [.int u47, .int i3] := by
      intro u47 hu47
      replace hw := hw u47 hu47
      refine z_iadd C d_R_weathers_31 ?_
      refine z_istore_n (lv' := [(2, .int (i3 + u47)), (0, .ref (ax g 0)), (1, .int a1), (3, .int i4)]) C d_R_weathers_32 rfl rfl rfl ?_
      refine z_iinc (v := (i4 + 1)) (lv' := [(3, .int (i4 + 1)), (2, .int (i3 + u47)), (0, .ref (ax g 0)), (1, .int a1)]) C d_R_weathers_33 3 rfl rfl rfl rfl ?_
      refine z_goto C 7 d_R_weathers_36 (by decide) ?_
      refine z_sub [2, 3, 1, 0] rfl ?_
      exact ih2 _ _ hw
    refine z_if_eq C 30 d_R_weathers_23 (by decide) (fun h46 => ?_) (fun h46 => ?_)
    · refine z_iconst (v := 0) C d_R_weathers_30 (by decide) ?_
      refine z_sub [0, 1, 3] rfl ?_
      exact hj48 _ ((if_pos h46)).symm
    · refine z_iconst (v := 3) C d_R_weathers_26 (by decide) ?_
      refine z_goto C 31 d_R_weathers_27 (by decide) ?_
      refine z_sub [0, 1, 3] rfl ?_
      exact hj48 _ ((if_neg h46)).symm
theorem d_R_isBroken_0 : decode prog_8_method_48_code 0 = .ok (.iconst 0, 1) := by decide +kernel
theorem d_R_isBroken_1 : decode prog_8_method_48_code 1 = .ok (.istore_n 3, 1) := by decide +kernel
theorem d_R_isBroken_2 : decode prog_8_method_48_code 2 = .ok (.iconst 0, 1) := by decide +kernel
theorem d_R_isBroken_3 : decode prog_8_method_48_code 3 = .ok (.istore 4, 2) := by decide +kernel
theorem d_R_isBroken_5 : decode prog_8_method_48_code 5 = .ok (.iload 4, 2) := by decide +kernel
theorem d_R_isBroken_7 : decode prog_8_method_48_code 7 = .ok (.aload_n 0, 1) := by decide +kernel
theorem d_R_isBroken_8 : decode prog_8_method_48_code 8 = .ok (.getfield 189, 3) := by decide +kernel
theorem d_R_isBroken_11 : decode prog_8_method_48_code 11 = .ok (.if_icmp .ge (58), 3) := by decide +kernel
theorem d_R_isBroken_14 : decode prog_8_method_48_code 14 = .ok (.iload_n 3, 1) := by decide +kernel
theorem d_R_isBroken_15 : decode prog_8_method_48_code 15 = .ok (.ifCond .ne (42), 3) := by decide +kernel
theorem d_R_isBroken_18 : decode prog_8_method_48_code 18 = .ok (.aload_n 0, 1) := by decide +kernel
theorem d_R_isBroken_19 : decode prog_8_method_48_code 19 = .ok (.iload 4, 2) := by decide +kernel
theorem d_R_isBroken_21 : decode prog_8_method_48_code 21 = .ok (.iconst 1, 1) := by decide +kernel
theorem d_R_isBroken_22 : decode prog_8_method_48_code 22 = .ok (.iload_n 1, 1) := by decide +kernel
theorem d_R_isBroken_23 : decode prog_8_method_48_code 23 = .ok (.invokevirtual 201, 3) := by decide +kernel
theorem d_R_isBroken_26 : decode prog_8_method_48_code 26 = .ok (.ifCond .ne (16), 3) := by decide +kernel
theorem d_R_isBroken_29 : decode prog_8_method_48_code 29 = .ok (.aload_n 0, 1) := by decide +kernel
theorem d_R_isBroken_30 : decode prog_8_method_48_code 30 = .ok (.iload 4, 2) := by decide +kernel
theorem d_R_isBroken_32 : decode prog_8_method_48_code 32 = .ok (.iconst 1, 1) := by decide +kernel
theorem d_R_isBroken_33 : decode prog_8_method_48_code 33 = .ok (.iload_n 1, 1) := by decide +kernel
theorem d_R_isBroken_34 : decode prog_8_method_48_code 34 = .ok (.iconst 1, 1) := by decide +kernel
theorem d_R_isBroken_35 : decode prog_8_method_48_code 35 = .ok (.isub, 1) := by decide +kernel
theorem d_R_isBroken_36 : decode prog_8_method_48_code 36 = .ok (.invokevirtual 201, 3) := by decide +kernel
theorem d_R_isBroken_39 : decode prog_8_method_48_code 39 = .ok (.ifCond .eq (22), 3) := by decide +kernel
theorem d_R_isBroken_42 : decode prog_8_method_48_code 42 = .ok (.aload_n 0, 1) := by decide +kernel
theorem d_R_isBroken_43 : decode prog_8_method_48_code 43 = .ok (.getfield 40, 3) := by decide +kernel
theorem d_R_isBroken_46 : decode prog_8_method_48_code 46 = .ok (.iconst 3, 1) := by decide +kernel
theorem d_R_isBroken_47 : decode prog_8_method_48_code 47 = .ok (.iload 4, 2) := by decide +kernel
theorem d_R_isBroken_49 : decode prog_8_method_48_code 49 = .ok (.imul, 1) := by decide +kernel
theorem d_R_isBroken_50 : decode prog_8_method_48_code 50 = .ok (.iconst 2, 1) := by decide +kernel
theorem d_R_isBroken_51 : decode prog_8_method_48_code 51 = .ok (.iadd, 1) := by decide +kernel
theorem d_R_isBroken_52 : decode prog_8_method_48_code 52 = .ok (.iaload, 1) := by decide +kernel
theorem d_R_isBroken_53 : decode prog_8_method_48_code 53 = .ok (.iload_n 2, 1) := by decide +kernel
theorem d_R_isBroken_54 : decode prog_8_method_48_code 54 = .ok (.if_icmp .ne (7), 3) := by decide +kernel
theorem d_R_isBroken_57 : decode prog_8_method_48_code 57 = .ok (.iconst 1, 1) := by decide +kernel
theorem d_R_isBroken_58 : decode prog_8_method_48_code 58 = .ok (.goto (4), 3) := by decide +kernel
theorem d_R_isBroken_61 : decode prog_8_method_48_code 61 = .ok (.iconst 0, 1) := by decide +kernel
theorem d_R_isBroken_62 : decode prog_8_method_48_code 62 = .ok (.istore_n 3, 1) := by decide +kernel
theorem d_R_isBroken_63 : decode prog_8_method_48_code 63 = .ok (.iinc 4 1, 3) := by decide +kernel
theorem d_R_isBroken_66 : decode prog_8_method_48_code 66 = .ok (.goto (-61), 3) := by decide +kernel
theorem d_R_isBroken_69 : decode prog_8_method_48_code 69 = .ok (.iload_n 3, 1) := by decide +kernel
theorem d_R_isBroken_70 : decode prog_8_method_48_code 70 = .ok (.ireturn, 1) := by decide +kernel
def wp_R_isBroken (a1 : Int32) (a2 : Int32) (M : Mem) (post : Int32 → Prop) : Prop :=
  (it2 (fun rec1 (i3 : Int32) (i4 : Int32) => ((((M 0 14) ≤ i4) → (i3 = 0 ∨ i3 = 1) ∧ post i3) ∧ (¬ ((M 0 14) ≤ i4) → (((i3 = 0) → wp_R_isTold i4 1 a1 M (fun r7 => (((r7 = 0) → wp_R_isTold i4 1 (a1 - 1) M (fun r13 => (((r13 = 0) → True) ∧ (¬ (r13 = 0) → (vp_in ((3 * i4) + 2) 24))) ∧ (∀ u17 : Int32, u17 = (if r13 = 0 then 0 else (if (M 11 (tn ((3 * i4) + 2))) = a2 then 1 else 0)) → rec1 u17 (i4 + 1)))) ∧ (¬ (r7 = 0) → vp_in ((3 * i4) + 2) 24 ∧ ∀ u11 : Int32, u11 = (if (M 11 (tn ((3 * i4) + 2))) = a2 then 1 else 0) → rec1 u11 (i4 + 1))))) ∧ (¬ (i3 = 0) → rec1 1 (i4 + 1)))))) 4096 0 0)
set_option maxHeartbeats 4000000 in
set_option maxRecDepth 100000 in
theorem c_R_isBroken (g : GX) {a1 : Int32} {a2 : Int32} {M : Mem} {post : Int32 → Prop} (hw : wp_R_isBroken a1 a2 M post) : CtI (oR g) y_R_isBroken prog_8_method_48_code 5 (some .boolean) (rl 2) [.ref (ax g 0), .int a1, .int a2] M (fun r M2 => M = M2 ∧ post r) := by
  refine z_metI (oR_ok g) (by decide) rfl (fun X C hr => ?_)
  show Zj X 5 (oR g) M 0 [(0, .ref (ax g 0)), (1, .int a1), (2, .int a2)] []
  unfold wp_R_isBroken at hw
  refine z_iconst (v := 0) C d_R_isBroken_0 (by decide) ?_
  refine z_istore_n (lv' := [(3, .int 0), (0, .ref (ax g 0)), (1, .int a1), (2, .int a2)]) C d_R_isBroken_1 rfl rfl rfl ?_
  refine z_iconst (v := 0) C d_R_isBroken_2 (by decide) ?_
  refine z_istore (lv' := [(4, .int 0), (3, .int 0), (0, .ref (ax g 0)), (1, .int a1), (2, .int a2)]) C d_R_isBroken_3 rfl rfl ?_
  refine z_sub [2, 3, 4, 1, 0] rfl ?_
  refine it2_Z (Z := fun (i3 : Int32) (i4 : Int32) => Zj X 5 (oR g) M 5 [(0, .ref (ax g 0)), (1, .int a1), (2, .int a2), (3, .int i3), (4, .int i4)] []) (fun rec1 ih2 i3 i4 hw => ?_) _ _ _ hw
  refine z_iload C d_R_isBroken_5 4 rfl ?_
  refine z_aload_n C d_R_isBroken_7 rfl 0 rfl ?_
  refine gf_R_189 C d_R_isBroken_8 ?_
  refine z_ic_ge C 69 d_R_isBroken_11 (by decide) (fun h5 => ?_) (fun h5 => ?_)
  · replace hw := hw.1 h5
    refine z_iload_n C d_R_isBroken_69 rfl 3 rfl ?_
    exact z_zret C hr hw.1 ⟨rfl, hw.2⟩ d_R_isBroken_70
  · replace hw := hw.2 h5
    refine z_iload_n C d_R_isBroken_14 rfl 3 rfl ?_
    refine z_if_ne C 57 d_R_isBroken_15 (by decide) (fun h6 => ?_) (fun h6 => ?_)
    · replace hw := hw.2 h6
      refine z_iconst (v := 1) C d_R_isBroken_57 (by decide) ?_
      refine z_goto C 62 d_R_isBroken_58 (by decide) ?_
      refine z_istore_n (lv' := [(3, .int 1), (0, .ref (ax g 0)), (1, .int a1), (2, .int a2), (4, .int i4)]) C d_R_isBroken_62 rfl rfl rfl ?_
      refine z_iinc (v := (i4 + 1)) (lv' := [(4, .int (i4 + 1)), (3, .int 1), (0, .ref (ax g 0)), (1, .int a1), (2, .int a2)]) C d_R_isBroken_63 4 rfl rfl rfl rfl ?_
      refine z_goto C 5 d_R_isBroken_66 (by decide) ?_
      refine z_sub [2, 3, 4, 1, 0] rfl ?_
      exact ih2 _ _ hw
    · replace hw := hw.1 h6
      refine z_aload_n C d_R_isBroken_18 rfl 0 rfl ?_
      refine z_iload C d_R_isBroken_19 4 rfl ?_
      refine z_iconst (v := 1) C d_R_isBroken_21 (by decide) ?_
      refine z_iload_n C d_R_isBroken_22 rfl 1 rfl ?_
      refine z_callVi C (As := [.int i4, .int 1, .int a1]) (rest := []) m_R_isTold tw_947 0 (le_R) rfl ⟨rfl, rfl⟩ (c_R_isTold g hw) rfl rfl rfl d_R_isBroken_23 (fun r7 M2 hq => ?_)
      obtain ⟨rfl, hw⟩ := hq
      refine z_if_ne C 42 d_R_isBroken_26 (by decide) (fun h8 => ?_) (fun h8 => ?_)
      · replace hw := hw.2 h8
        refine z_aload_n C d_R_isBroken_42 rfl 0 rfl ?_
        refine gf_R_40 C d_R_isBroken_43 ?_
        refine z_iconst (v := 3) C d_R_isBroken_46 (by decide) ?_
        refine z_iload C d_R_isBroken_47 4 rfl ?_
        refine z_imul C d_R_isBroken_49 ?_
        refine z_iconst (v := 2) C d_R_isBroken_50 (by decide) ?_
        refine z_iadd C d_R_isBroken_51 ?_
        have hv9 := hw.1
        replace hw := hw.2
        refine z_al (zar_r11) C hv9 d_R_isBroken_52 ?_
        refine z_iload_n C d_R_isBroken_53 rfl 2 rfl ?_
        have hj12 : ∀ u11 : Int32, u11 = (if (M 11 (tn ((3 * i4) + 2))) = a2 then 1 else 0) → Zj X 5 (oR g) M 62 [(0, .ref (ax g 0)), (1, .int a1), (2, .int a2), (4, .int i4)] [.int u11] := by
          intro u11 hu11
          replace hw := hw u11 hu11
          refine z_istore_n (lv' := [(3, .int u11), (0, .ref (ax g 0)), (1, .int a1), (2, .int a2), (4, .int i4)]) C d_R_isBroken_62 rfl rfl rfl ?_
          refine z_iinc (v := (i4 + 1)) (lv' := [(4, .int (i4 + 1)), (3, .int u11), (0, .ref (ax g 0)), (1, .int a1), (2, .int a2)]) C d_R_isBroken_63 4 rfl rfl rfl rfl ?_
          refine z_goto C 5 d_R_isBroken_66 (by decide) ?_
          refine z_sub [2, 3, 4, 1, 0] rfl ?_
          exact ih2 _ _ hw
        refine z_ic_ne C 61 d_R_isBroken_54 (by decide) (fun h10 => ?_) (fun h10 => ?_)
        · refine z_iconst (v := 0) C d_R_isBroken_61 (by decide) ?_
          refine z_sub [0, 1, 2, 4] rfl ?_
          exact hj12 _ ((if_neg h10)).symm
        · refine z_iconst (v := 1) C d_R_isBroken_57 (by decide) ?_
          refine z_goto C 62 d_R_isBroken_58 (by decide) ?_
          refine z_sub [0, 1, 2, 4] rfl ?_
          exact hj12 _ ((if_pos h10)).symm
      · replace hw := hw.1 h8
        refine z_aload_n C d_R_isBroken_29 rfl 0 rfl ?_
        refine z_iload C d_R_isBroken_30 4 rfl ?_
        refine z_iconst (v := 1) C d_R_isBroken_32 (by decide) ?_
        refine z_iload_n C d_R_isBroken_33 rfl 1 rfl ?_
        refine z_iconst (v := 1) C d_R_isBroken_34 (by decide) ?_
        refine z_isub C d_R_isBroken_35 ?_
        refine z_callVi C (As := [.int i4, .int 1, .int (a1 - 1)]) (rest := []) m_R_isTold tw_947 0 (le_R) rfl ⟨rfl, rfl⟩ (c_R_isTold g hw) rfl rfl rfl d_R_isBroken_36 (fun r13 M2 hq => ?_)
        obtain ⟨rfl, hw⟩ := hq
        have hj18 : ∀ u17 : Int32, u17 = (if r13 = 0 then 0 else (if (M 11 (tn ((3 * i4) + 2))) = a2 then 1 else 0)) → Zj X 5 (oR g) M 62 [(0, .ref (ax g 0)), (1, .int a1), (2, .int a2), (4, .int i4)] [.int u17] := by
          intro u17 hu17
          replace hw := hw.2 u17 hu17
          refine z_istore_n (lv' := [(3, .int u17), (0, .ref (ax g 0)), (1, .int a1), (2, .int a2), (4, .int i4)]) C d_R_isBroken_62 rfl rfl rfl ?_
          refine z_iinc (v := (i4 + 1)) (lv' := [(4, .int (i4 + 1)), (3, .int u17), (0, .ref (ax g 0)), (1, .int a1), (2, .int a2)]) C d_R_isBroken_63 4 rfl rfl rfl rfl ?_
          refine z_goto C 5 d_R_isBroken_66 (by decide) ?_
          refine z_sub [2, 3, 4, 1, 0] rfl ?_
          exact ih2 _ _ hw
        have ha0 := hw.1
        refine z_if_eq C 61 d_R_isBroken_39 (by decide) (fun h14 => ?_) (fun h14 => ?_)
        · refine z_iconst (v := 0) C d_R_isBroken_61 (by decide) ?_
          refine z_sub [0, 1, 2, 4] rfl ?_
          exact hj18 _ ((if_pos h14)).symm
        · have ha19 := ha0.2 h14
          refine z_aload_n C d_R_isBroken_42 rfl 0 rfl ?_
          refine gf_R_40 C d_R_isBroken_43 ?_
          refine z_iconst (v := 3) C d_R_isBroken_46 (by decide) ?_
          refine z_iload C d_R_isBroken_47 4 rfl ?_
          refine z_imul C d_R_isBroken_49 ?_
          refine z_iconst (v := 2) C d_R_isBroken_50 (by decide) ?_
          refine z_iadd C d_R_isBroken_51 ?_
          have hv15 := ha19
          refine z_al (zar_r11) C hv15 d_R_isBroken_52 ?_
          refine z_iload_n C d_R_isBroken_53 rfl 2 rfl ?_
          refine z_ic_ne C 61 d_R_isBroken_54 (by decide) (fun h16 => ?_) (fun h16 => ?_)
          · refine z_iconst (v := 0) C d_R_isBroken_61 (by decide) ?_
            refine z_sub [0, 1, 2, 4] rfl ?_
            exact hj18 _ (((if_neg h14).trans (if_neg h16))).symm
          · refine z_iconst (v := 1) C d_R_isBroken_57 (by decide) ?_
            refine z_goto C 62 d_R_isBroken_58 (by decide) ?_
            refine z_sub [0, 1, 2, 4] rfl ?_
            exact hj18 _ (((if_neg h14).trans (if_pos h16))).symm
theorem d_R_seen_0 : decode prog_8_method_80_code 0 = .ok (.iload_n 1, 1) := by decide +kernel
theorem d_R_seen_1 : decode prog_8_method_80_code 1 = .ok (.invokestatic 178, 3) := by decide +kernel
theorem d_R_seen_4 : decode prog_8_method_80_code 4 = .ok (.ifCond .eq (22), 3) := by decide +kernel
theorem d_R_seen_7 : decode prog_8_method_80_code 7 = .ok (.iload_n 2, 1) := by decide +kernel
theorem d_R_seen_8 : decode prog_8_method_80_code 8 = .ok (.invokestatic 175, 3) := by decide +kernel
theorem d_R_seen_11 : decode prog_8_method_80_code 11 = .ok (.ifCond .eq (15), 3) := by decide +kernel
theorem d_R_seen_14 : decode prog_8_method_80_code 14 = .ok (.iload_n 3, 1) := by decide +kernel
theorem d_R_seen_15 : decode prog_8_method_80_code 15 = .ok (.i2l, 1) := by decide +kernel
theorem d_R_seen_16 : decode prog_8_method_80_code 16 = .ok (.lconst 0, 1) := by decide +kernel
theorem d_R_seen_17 : decode prog_8_method_80_code 17 = .ok (.ldc2_w 279, 3) := by decide +kernel
theorem d_R_seen_20 : decode prog_8_method_80_code 20 = .ok (.invokestatic 97, 3) := by decide +kernel
theorem d_R_seen_23 : decode prog_8_method_80_code 23 = .ok (.ifCond .ne (6), 3) := by decide +kernel
theorem d_R_seen_26 : decode prog_8_method_80_code 26 = .ok (.bipush (-2), 2) := by decide +kernel
theorem d_R_seen_28 : decode prog_8_method_80_code 28 = .ok (.ireturn, 1) := by decide +kernel
theorem d_R_seen_29 : decode prog_8_method_80_code 29 = .ok (.aload_n 0, 1) := by decide +kernel
theorem d_R_seen_30 : decode prog_8_method_80_code 30 = .ok (.getfield 281, 3) := by decide +kernel
theorem d_R_seen_33 : decode prog_8_method_80_code 33 = .ok (.bipush 8, 2) := by decide +kernel
theorem d_R_seen_35 : decode prog_8_method_80_code 35 = .ok (.if_icmp .ne (6), 3) := by decide +kernel
theorem d_R_seen_38 : decode prog_8_method_80_code 38 = .ok (.bipush (-4), 2) := by decide +kernel
theorem d_R_seen_40 : decode prog_8_method_80_code 40 = .ok (.ireturn, 1) := by decide +kernel
theorem d_R_seen_41 : decode prog_8_method_80_code 41 = .ok (.aload_n 0, 1) := by decide +kernel
theorem d_R_seen_42 : decode prog_8_method_80_code 42 = .ok (.getfield 85, 3) := by decide +kernel
theorem d_R_seen_45 : decode prog_8_method_80_code 45 = .ok (.iconst 3, 1) := by decide +kernel
theorem d_R_seen_46 : decode prog_8_method_80_code 46 = .ok (.aload_n 0, 1) := by decide +kernel
theorem d_R_seen_47 : decode prog_8_method_80_code 47 = .ok (.getfield 281, 3) := by decide +kernel
theorem d_R_seen_50 : decode prog_8_method_80_code 50 = .ok (.imul, 1) := by decide +kernel
theorem d_R_seen_51 : decode prog_8_method_80_code 51 = .ok (.iload_n 1, 1) := by decide +kernel
theorem d_R_seen_52 : decode prog_8_method_80_code 52 = .ok (.iastore, 1) := by decide +kernel
theorem d_R_seen_53 : decode prog_8_method_80_code 53 = .ok (.aload_n 0, 1) := by decide +kernel
theorem d_R_seen_54 : decode prog_8_method_80_code 54 = .ok (.getfield 85, 3) := by decide +kernel
theorem d_R_seen_57 : decode prog_8_method_80_code 57 = .ok (.iconst 3, 1) := by decide +kernel
theorem d_R_seen_58 : decode prog_8_method_80_code 58 = .ok (.aload_n 0, 1) := by decide +kernel
theorem d_R_seen_59 : decode prog_8_method_80_code 59 = .ok (.getfield 281, 3) := by decide +kernel
theorem d_R_seen_62 : decode prog_8_method_80_code 62 = .ok (.imul, 1) := by decide +kernel
theorem d_R_seen_63 : decode prog_8_method_80_code 63 = .ok (.iconst 1, 1) := by decide +kernel
theorem d_R_seen_64 : decode prog_8_method_80_code 64 = .ok (.iadd, 1) := by decide +kernel
theorem d_R_seen_65 : decode prog_8_method_80_code 65 = .ok (.iload_n 2, 1) := by decide +kernel
theorem d_R_seen_66 : decode prog_8_method_80_code 66 = .ok (.iastore, 1) := by decide +kernel
theorem d_R_seen_67 : decode prog_8_method_80_code 67 = .ok (.aload_n 0, 1) := by decide +kernel
theorem d_R_seen_68 : decode prog_8_method_80_code 68 = .ok (.getfield 85, 3) := by decide +kernel
theorem d_R_seen_71 : decode prog_8_method_80_code 71 = .ok (.iconst 3, 1) := by decide +kernel
theorem d_R_seen_72 : decode prog_8_method_80_code 72 = .ok (.aload_n 0, 1) := by decide +kernel
theorem d_R_seen_73 : decode prog_8_method_80_code 73 = .ok (.getfield 281, 3) := by decide +kernel
theorem d_R_seen_76 : decode prog_8_method_80_code 76 = .ok (.imul, 1) := by decide +kernel
theorem d_R_seen_77 : decode prog_8_method_80_code 77 = .ok (.iconst 2, 1) := by decide +kernel
theorem d_R_seen_78 : decode prog_8_method_80_code 78 = .ok (.iadd, 1) := by decide +kernel
theorem d_R_seen_79 : decode prog_8_method_80_code 79 = .ok (.iload_n 3, 1) := by decide +kernel
theorem d_R_seen_80 : decode prog_8_method_80_code 80 = .ok (.iastore, 1) := by decide +kernel
theorem d_R_seen_81 : decode prog_8_method_80_code 81 = .ok (.aload_n 0, 1) := by decide +kernel
theorem d_R_seen_82 : decode prog_8_method_80_code 82 = .ok (.dup, 1) := by decide +kernel
theorem d_R_seen_83 : decode prog_8_method_80_code 83 = .ok (.getfield 281, 3) := by decide +kernel
theorem d_R_seen_86 : decode prog_8_method_80_code 86 = .ok (.iconst 1, 1) := by decide +kernel
theorem d_R_seen_87 : decode prog_8_method_80_code 87 = .ok (.iadd, 1) := by decide +kernel
theorem d_R_seen_88 : decode prog_8_method_80_code 88 = .ok (.putfield 281, 3) := by decide +kernel
theorem d_R_seen_91 : decode prog_8_method_80_code 91 = .ok (.aload_n 0, 1) := by decide +kernel
theorem d_R_seen_92 : decode prog_8_method_80_code 92 = .ok (.getfield 281, 3) := by decide +kernel
theorem d_R_seen_95 : decode prog_8_method_80_code 95 = .ok (.ireturn, 1) := by decide +kernel
def wp_R_seen (a1 : Int32) (a2 : Int32) (a3 : Int32) (M : Mem) (post : Int32 → Mem → Prop) : Prop :=
  ((((pf_R_isHour a1) = 0) → post (-2) M) ∧ (¬ ((pf_R_isHour a1) = 0) → ((((pf_R_isMile a2) = 0) → post (-2) M) ∧ (¬ ((pf_R_isMile a2) = 0) → ((((pf_R_in (Int32.toInt64 a3) 0 (99)) = 0) → post (-2) M) ∧ (¬ ((pf_R_in (Int32.toInt64 a3) 0 (99)) = 0) → ((((M 0 31) = 8) → post (-4) M) ∧ (¬ ((M 0 31) = 8) → vp_in (3 * (M 0 31)) 24 ∧ ∀ M8 : Mem, M8 = upm M 26 (tn (3 * (M 0 31))) a1 → vp_in ((3 * (M8 0 31)) + 1) 24 ∧ ∀ M10 : Mem, M10 = upm M8 26 (tn ((3 * (M8 0 31)) + 1)) a2 → vp_in ((3 * (M10 0 31)) + 2) 24 ∧ ∀ M12 : Mem, M12 = upm M10 26 (tn ((3 * (M10 0 31)) + 2)) a3 → ∀ M14 : Mem, M14 = upm M12 0 31 ((M12 0 31) + 1) → post (M14 0 31) M14))))))))
set_option maxHeartbeats 4000000 in
set_option maxRecDepth 100000 in
theorem c_R_seen (g : GX) {a1 : Int32} {a2 : Int32} {a3 : Int32} {M : Mem} {post : Int32 → Mem → Prop} (hw : wp_R_seen a1 a2 a3 M post) : CtI (oR g) y_R_seen prog_8_method_80_code 4 (some .int) (rl 2) [.ref (ax g 0), .int a1, .int a2, .int a3] M post := by
  refine z_metI (oR_ok g) (by decide) rfl (fun X C hr => ?_)
  show Zj X 4 (oR g) M 0 [(0, .ref (ax g 0)), (1, .int a1), (2, .int a2), (3, .int a3)] []
  unfold wp_R_seen at hw
  refine z_iload_n C d_R_seen_0 rfl 1 rfl ?_
  refine z_callSi C (As := [.int a1]) (rest := []) m_R_isHour tw_889 ⟨rfl, rfl⟩ (c_R_isHour (oR_ok g) _ _) rfl rfl rfl d_R_seen_1 (fun r M2 hq => ?_)
  obtain ⟨rfl, rfl⟩ := hq
  refine z_if_eq C 26 d_R_seen_4 (by decide) (fun h2 => ?_) (fun h2 => ?_)
  · replace hw := hw.1 h2
    refine z_bipush (v := (-2)) C d_R_seen_26 (by decide) ?_
    exact z_iret C hr hw d_R_seen_28
  · replace hw := hw.2 h2
    refine z_iload_n C d_R_seen_7 rfl 2 rfl ?_
    refine z_callSi C (As := [.int a2]) (rest := []) m_R_isMile tw_881 ⟨rfl, rfl⟩ (c_R_isMile (oR_ok g) _ _) rfl rfl rfl d_R_seen_8 (fun r M2 hq => ?_)
    obtain ⟨rfl, rfl⟩ := hq
    refine z_if_eq C 26 d_R_seen_11 (by decide) (fun h4 => ?_) (fun h4 => ?_)
    · replace hw := hw.1 h4
      refine z_bipush (v := (-2)) C d_R_seen_26 (by decide) ?_
      exact z_iret C hr hw d_R_seen_28
    · replace hw := hw.2 h4
      refine z_iload_n C d_R_seen_14 rfl 3 rfl ?_
      refine z_i2l C d_R_seen_15 ?_
      refine z_lconst (v := 0) C d_R_seen_16 (by decide) ?_
      refine z_ldc2 C d_R_seen_17 tw_1081 ?_
      refine z_callSi C (As := [.long (Int32.toInt64 a3), .long 0, .long (99)]) (rest := []) m_R_in tw_786 ⟨rfl, rfl⟩ (c_R_in (oR_ok g) _ _ _ _) rfl rfl rfl d_R_seen_20 (fun r M2 hq => ?_)
      obtain ⟨rfl, rfl⟩ := hq
      refine z_if_ne C 29 d_R_seen_23 (by decide) (fun h6 => ?_) (fun h6 => ?_)
      · replace hw := hw.2 h6
        refine z_aload_n C d_R_seen_29 rfl 0 rfl ?_
        refine gf_R_281 C d_R_seen_30 ?_
        refine z_bipush (v := 8) C d_R_seen_33 (by decide) ?_
        refine z_ic_ne C 41 d_R_seen_35 (by decide) (fun h7 => ?_) (fun h7 => ?_)
        · replace hw := hw.2 h7
          refine z_aload_n C d_R_seen_41 rfl 0 rfl ?_
          refine gf_R_85 C d_R_seen_42 ?_
          refine z_iconst (v := 3) C d_R_seen_45 (by decide) ?_
          refine z_aload_n C d_R_seen_46 rfl 0 rfl ?_
          refine gf_R_281 C d_R_seen_47 ?_
          refine z_imul C d_R_seen_50 ?_
          refine z_iload_n C d_R_seen_51 rfl 1 rfl ?_
          have hv9 := hw.1
          refine z_as (zar_r26) C hv9 d_R_seen_52 (fun M8 hM8 => ?_)
          replace hw := hw.2 M8 hM8
          refine z_aload_n C d_R_seen_53 rfl 0 rfl ?_
          refine gf_R_85 C d_R_seen_54 ?_
          refine z_iconst (v := 3) C d_R_seen_57 (by decide) ?_
          refine z_aload_n C d_R_seen_58 rfl 0 rfl ?_
          refine gf_R_281 C d_R_seen_59 ?_
          refine z_imul C d_R_seen_62 ?_
          refine z_iconst (v := 1) C d_R_seen_63 (by decide) ?_
          refine z_iadd C d_R_seen_64 ?_
          refine z_iload_n C d_R_seen_65 rfl 2 rfl ?_
          have hv11 := hw.1
          refine z_as (zar_r26) C hv11 d_R_seen_66 (fun M10 hM10 => ?_)
          replace hw := hw.2 M10 hM10
          refine z_aload_n C d_R_seen_67 rfl 0 rfl ?_
          refine gf_R_85 C d_R_seen_68 ?_
          refine z_iconst (v := 3) C d_R_seen_71 (by decide) ?_
          refine z_aload_n C d_R_seen_72 rfl 0 rfl ?_
          refine gf_R_281 C d_R_seen_73 ?_
          refine z_imul C d_R_seen_76 ?_
          refine z_iconst (v := 2) C d_R_seen_77 (by decide) ?_
          refine z_iadd C d_R_seen_78 ?_
          refine z_iload_n C d_R_seen_79 rfl 3 rfl ?_
          have hv13 := hw.1
          refine z_as (zar_r26) C hv13 d_R_seen_80 (fun M12 hM12 => ?_)
          replace hw := hw.2 M12 hM12
          refine z_aload_n C d_R_seen_81 rfl 0 rfl ?_
          refine z_dup C d_R_seen_82 rfl ?_
          refine gf_R_281 C d_R_seen_83 ?_
          refine z_iconst (v := 1) C d_R_seen_86 (by decide) ?_
          refine z_iadd C d_R_seen_87 ?_
          refine pp_R_281 C d_R_seen_88 (fun M14 hM14 => ?_)
          replace hw := hw M14 hM14
          refine z_aload_n C d_R_seen_91 rfl 0 rfl ?_
          refine gf_R_281 C d_R_seen_92 ?_
          exact z_iret C hr hw d_R_seen_95
        · replace hw := hw.1 h7
          refine z_bipush (v := (-4)) C d_R_seen_38 (by decide) ?_
          exact z_iret C hr hw d_R_seen_40
      · replace hw := hw.1 h6
        refine z_bipush (v := (-2)) C d_R_seen_26 (by decide) ?_
        exact z_iret C hr hw d_R_seen_28
