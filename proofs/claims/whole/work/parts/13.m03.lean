theorem d_R_drives_0 : decode prog_8_method_50_code 0 = .ok (.aload_n 0, 1) := by decide +kernel
theorem d_R_drives_1 : decode prog_8_method_50_code 1 = .ok (.getfield 61, 3) := by decide +kernel
theorem d_R_drives_4 : decode prog_8_method_50_code 4 = .ok (.iload_n 2, 1) := by decide +kernel
theorem d_R_drives_5 : decode prog_8_method_50_code 5 = .ok (.iload_n 3, 1) := by decide +kernel
theorem d_R_drives_6 : decode prog_8_method_50_code 6 = .ok (.ifCond .eq (7), 3) := by decide +kernel
theorem d_R_drives_9 : decode prog_8_method_50_code 9 = .ok (.iconst 0, 1) := by decide +kernel
theorem d_R_drives_10 : decode prog_8_method_50_code 10 = .ok (.goto (9), 3) := by decide +kernel
theorem d_R_drives_13 : decode prog_8_method_50_code 13 = .ok (.aload_n 0, 1) := by decide +kernel
theorem d_R_drives_14 : decode prog_8_method_50_code 14 = .ok (.getfield 61, 3) := by decide +kernel
theorem d_R_drives_17 : decode prog_8_method_50_code 17 = .ok (.iload_n 2, 1) := by decide +kernel
theorem d_R_drives_18 : decode prog_8_method_50_code 18 = .ok (.iaload, 1) := by decide +kernel
theorem d_R_drives_19 : decode prog_8_method_50_code 19 = .ok (.iastore, 1) := by decide +kernel
theorem d_R_drives_20 : decode prog_8_method_50_code 20 = .ok (.iconst 0, 1) := by decide +kernel
theorem d_R_drives_21 : decode prog_8_method_50_code 21 = .ok (.istore 4, 2) := by decide +kernel
theorem d_R_drives_23 : decode prog_8_method_50_code 23 = .ok (.iload 4, 2) := by decide +kernel
theorem d_R_drives_25 : decode prog_8_method_50_code 25 = .ok (.iconst 3, 1) := by decide +kernel
theorem d_R_drives_26 : decode prog_8_method_50_code 26 = .ok (.if_icmp .ge (47), 3) := by decide +kernel
theorem d_R_drives_29 : decode prog_8_method_50_code 29 = .ok (.aload_n 0, 1) := by decide +kernel
theorem d_R_drives_30 : decode prog_8_method_50_code 30 = .ok (.getfield 61, 3) := by decide +kernel
theorem d_R_drives_33 : decode prog_8_method_50_code 33 = .ok (.iload_n 2, 1) := by decide +kernel
theorem d_R_drives_34 : decode prog_8_method_50_code 34 = .ok (.iaload, 1) := by decide +kernel
theorem d_R_drives_35 : decode prog_8_method_50_code 35 = .ok (.bipush 11, 2) := by decide +kernel
theorem d_R_drives_37 : decode prog_8_method_50_code 37 = .ok (.if_icmp .ge (36), 3) := by decide +kernel
theorem d_R_drives_40 : decode prog_8_method_50_code 40 = .ok (.aload_n 0, 1) := by decide +kernel
theorem d_R_drives_41 : decode prog_8_method_50_code 41 = .ok (.getfield 43, 3) := by decide +kernel
theorem d_R_drives_44 : decode prog_8_method_50_code 44 = .ok (.aload_n 0, 1) := by decide +kernel
theorem d_R_drives_45 : decode prog_8_method_50_code 45 = .ok (.getfield 61, 3) := by decide +kernel
theorem d_R_drives_48 : decode prog_8_method_50_code 48 = .ok (.iload_n 2, 1) := by decide +kernel
theorem d_R_drives_49 : decode prog_8_method_50_code 49 = .ok (.iaload, 1) := by decide +kernel
theorem d_R_drives_50 : decode prog_8_method_50_code 50 = .ok (.iconst 1, 1) := by decide +kernel
theorem d_R_drives_51 : decode prog_8_method_50_code 51 = .ok (.iadd, 1) := by decide +kernel
theorem d_R_drives_52 : decode prog_8_method_50_code 52 = .ok (.iaload, 1) := by decide +kernel
theorem d_R_drives_53 : decode prog_8_method_50_code 53 = .ok (.iconst 4, 1) := by decide +kernel
theorem d_R_drives_54 : decode prog_8_method_50_code 54 = .ok (.if_icmp .gt (19), 3) := by decide +kernel
theorem d_R_drives_57 : decode prog_8_method_50_code 57 = .ok (.aload_n 0, 1) := by decide +kernel
theorem d_R_drives_58 : decode prog_8_method_50_code 58 = .ok (.getfield 61, 3) := by decide +kernel
theorem d_R_drives_61 : decode prog_8_method_50_code 61 = .ok (.iload_n 2, 1) := by decide +kernel
theorem d_R_drives_62 : decode prog_8_method_50_code 62 = .ok (.dup2, 1) := by decide +kernel
theorem d_R_drives_63 : decode prog_8_method_50_code 63 = .ok (.iaload, 1) := by decide +kernel
theorem d_R_drives_64 : decode prog_8_method_50_code 64 = .ok (.iconst 1, 1) := by decide +kernel
theorem d_R_drives_65 : decode prog_8_method_50_code 65 = .ok (.iadd, 1) := by decide +kernel
theorem d_R_drives_66 : decode prog_8_method_50_code 66 = .ok (.iastore, 1) := by decide +kernel
theorem d_R_drives_67 : decode prog_8_method_50_code 67 = .ok (.iinc 4 1, 3) := by decide +kernel
theorem d_R_drives_70 : decode prog_8_method_50_code 70 = .ok (.goto (-47), 3) := by decide +kernel
theorem d_R_drives_73 : decode prog_8_method_50_code 73 = .ok (.aload_n 0, 1) := by decide +kernel
theorem d_R_drives_74 : decode prog_8_method_50_code 74 = .ok (.getfield 67, 3) := by decide +kernel
theorem d_R_drives_77 : decode prog_8_method_50_code 77 = .ok (.iload_n 2, 1) := by decide +kernel
theorem d_R_drives_78 : decode prog_8_method_50_code 78 = .ok (.dup2, 1) := by decide +kernel
theorem d_R_drives_79 : decode prog_8_method_50_code 79 = .ok (.iaload, 1) := by decide +kernel
theorem d_R_drives_80 : decode prog_8_method_50_code 80 = .ok (.iload 4, 2) := by decide +kernel
theorem d_R_drives_82 : decode prog_8_method_50_code 82 = .ok (.ifCond .ne (7), 3) := by decide +kernel
theorem d_R_drives_85 : decode prog_8_method_50_code 85 = .ok (.iconst 1, 1) := by decide +kernel
theorem d_R_drives_86 : decode prog_8_method_50_code 86 = .ok (.goto (4), 3) := by decide +kernel
theorem d_R_drives_89 : decode prog_8_method_50_code 89 = .ok (.iconst 0, 1) := by decide +kernel
theorem d_R_drives_90 : decode prog_8_method_50_code 90 = .ok (.iadd, 1) := by decide +kernel
theorem d_R_drives_91 : decode prog_8_method_50_code 91 = .ok (.iastore, 1) := by decide +kernel
theorem d_R_drives_92 : decode prog_8_method_50_code 92 = .ok (.aload_n 0, 1) := by decide +kernel
theorem d_R_drives_93 : decode prog_8_method_50_code 93 = .ok (.getfield 64, 3) := by decide +kernel
theorem d_R_drives_96 : decode prog_8_method_50_code 96 = .ok (.iload_n 2, 1) := by decide +kernel
theorem d_R_drives_97 : decode prog_8_method_50_code 97 = .ok (.aload_n 0, 1) := by decide +kernel
theorem d_R_drives_98 : decode prog_8_method_50_code 98 = .ok (.getfield 61, 3) := by decide +kernel
theorem d_R_drives_101 : decode prog_8_method_50_code 101 = .ok (.iload_n 2, 1) := by decide +kernel
theorem d_R_drives_102 : decode prog_8_method_50_code 102 = .ok (.iaload, 1) := by decide +kernel
theorem d_R_drives_103 : decode prog_8_method_50_code 103 = .ok (.bipush 11, 2) := by decide +kernel
theorem d_R_drives_105 : decode prog_8_method_50_code 105 = .ok (.if_icmp .ne (7), 3) := by decide +kernel
theorem d_R_drives_108 : decode prog_8_method_50_code 108 = .ok (.iload_n 1, 1) := by decide +kernel
theorem d_R_drives_109 : decode prog_8_method_50_code 109 = .ok (.goto (4), 3) := by decide +kernel
theorem d_R_drives_112 : decode prog_8_method_50_code 112 = .ok (.iconst (-1), 1) := by decide +kernel
theorem d_R_drives_113 : decode prog_8_method_50_code 113 = .ok (.iastore, 1) := by decide +kernel
theorem d_R_drives_114 : decode prog_8_method_50_code 114 = .ok (.return_, 1) := by decide +kernel
def wp_R_drives (a1 : Int32) (a2 : Int32) (a3 : Int32) (M : Mem) (post : Mem → Prop) : Prop :=
  (((a3 = 0) → (vp_in a2 8)) ∧ (¬ (a3 = 0) → True)) ∧ (∀ u3 : Int32, u3 = (if a3 = 0 then (M 18 (tn a2)) else 0) → vp_in a2 8 ∧ ∀ M4 : Mem, M4 = upm M 18 (tn a2) u3 → (it2 (fun rec6 (i8 : Int32) (M9 : Mem) => (((3 ≤ i8) → ∀ u12 : Int32, u12 = (if i8 = 0 then 1 else 0) → ∀ M13 : Mem, M13 = upm M9 20 (tn a2) ((M9 20 (tn a2)) + u12) → ∀ u15 : Int32, u15 = (if (M13 18 (tn a2)) = 11 then a1 else (-1)) → ∀ M16 : Mem, M16 = upm M13 19 (tn a2) u15 → post M16) ∧ (¬ (3 ≤ i8) → (((11 ≤ (M9 18 (tn a2))) → ∀ u21 : Int32, u21 = (if i8 = 0 then 1 else 0) → ∀ M22 : Mem, M22 = upm M9 20 (tn a2) ((M9 20 (tn a2)) + u21) → ∀ u24 : Int32, u24 = (if (M22 18 (tn a2)) = 11 then a1 else (-1)) → ∀ M25 : Mem, M25 = upm M22 19 (tn a2) u24 → post M25) ∧ (¬ (11 ≤ (M9 18 (tn a2))) → vp_in ((M9 18 (tn a2)) + 1) 12 ∧ (((4 < (M9 12 (tn ((M9 18 (tn a2)) + 1)))) → ∀ u31 : Int32, u31 = (if i8 = 0 then 1 else 0) → ∀ M32 : Mem, M32 = upm M9 20 (tn a2) ((M9 20 (tn a2)) + u31) → ∀ u34 : Int32, u34 = (if (M32 18 (tn a2)) = 11 then a1 else (-1)) → ∀ M35 : Mem, M35 = upm M32 19 (tn a2) u34 → post M35) ∧ (¬ (4 < (M9 12 (tn ((M9 18 (tn a2)) + 1)))) → ∀ M38 : Mem, M38 = upm M9 18 (tn a2) ((M9 18 (tn a2)) + 1) → rec6 (i8 + 1) M38))))))) 4096 0 M4))
set_option maxHeartbeats 4000000 in
set_option maxRecDepth 100000 in
theorem c_R_drives (g : GX) {a1 : Int32} {a2 : Int32} {a3 : Int32} {M : Mem} {post : Mem → Prop} (hw : wp_R_drives a1 a2 a3 M post) : CtV (oR g) y_R_drives prog_8_method_50_code 5 none (rl 0) [.ref (ax g 0), .int a1, .int a2, .int a3] M post := by
  refine z_metV (oR_ok g) (by decide) rfl (fun X C hr => ?_)
  show Zj X 5 (oR g) M 0 [(0, .ref (ax g 0)), (1, .int a1), (2, .int a2), (3, .int a3)] []
  unfold wp_R_drives at hw
  refine z_aload_n C d_R_drives_0 rfl 0 rfl ?_
  refine gf_R_61 C d_R_drives_1 ?_
  refine z_iload_n C d_R_drives_4 rfl 2 rfl ?_
  refine z_iload_n C d_R_drives_5 rfl 3 rfl ?_
  have hj39 : ∀ u3 : Int32, u3 = (if a3 = 0 then (M 18 (tn a2)) else 0) → Zj X 5 (oR g) M 19 [(0, .ref (ax g 0)), (1, .int a1), (2, .int a2)] [.int u3, .int a2, .ref (ax g 18)] := by
    intro u3 hu3
    replace hw := hw.2 u3 hu3
    have hv5 := hw.1
    refine z_as (zar_r18) C hv5 d_R_drives_19 (fun M4 hM4 => ?_)
    replace hw := hw.2 M4 hM4
    refine z_iconst (v := 0) C d_R_drives_20 (by decide) ?_
    refine z_istore (lv' := [(4, .int 0), (0, .ref (ax g 0)), (1, .int a1), (2, .int a2)]) C d_R_drives_21 rfl rfl ?_
    refine z_sub [1, 2, 3, 0] rfl ?_
    refine it2_Z (Z := fun (i8 : Int32) (M9 : Mem) => Zj X 5 (oR g) M9 23 [(0, .ref (ax g 0)), (1, .int a1), (2, .int a2), (4, .int i8)] []) (fun rec6 ih7 i8 M9 hw => ?_) _ _ _ hw
    refine z_iload C d_R_drives_23 3 rfl ?_
    refine z_iconst (v := 3) C d_R_drives_25 (by decide) ?_
    refine z_ic_ge C 73 d_R_drives_26 (by decide) (fun h10 => ?_) (fun h10 => ?_)
    · replace hw := hw.1 h10
      refine z_aload_n C d_R_drives_73 rfl 0 rfl ?_
      refine gf_R_67 C d_R_drives_74 ?_
      refine z_iload_n C d_R_drives_77 rfl 2 rfl ?_
      refine z_dup2 C d_R_drives_78 rfl rfl ?_
      refine z_al (zar_r20) C hv5 d_R_drives_79 ?_
      refine z_iload C d_R_drives_80 3 rfl ?_
      have hj18 : ∀ u12 : Int32, u12 = (if i8 = 0 then 1 else 0) → Zj X 5 (oR g) M9 90 [(0, .ref (ax g 0)), (1, .int a1), (2, .int a2)] [.int u12, .int (M9 20 (tn a2)), .int a2, .ref (ax g 20)] := by
        intro u12 hu12
        replace hw := hw u12 hu12
        refine z_iadd C d_R_drives_90 ?_
        refine z_as (zar_r20) C hv5 d_R_drives_91 (fun M13 hM13 => ?_)
        replace hw := hw M13 hM13
        refine z_aload_n C d_R_drives_92 rfl 0 rfl ?_
        refine gf_R_64 C d_R_drives_93 ?_
        refine z_iload_n C d_R_drives_96 rfl 2 rfl ?_
        refine z_aload_n C d_R_drives_97 rfl 0 rfl ?_
        refine gf_R_61 C d_R_drives_98 ?_
        refine z_iload_n C d_R_drives_101 rfl 2 rfl ?_
        refine z_al (zar_r18) C hv5 d_R_drives_102 ?_
        refine z_bipush (v := 11) C d_R_drives_103 (by decide) ?_
        have hj17 : ∀ u15 : Int32, u15 = (if (M13 18 (tn a2)) = 11 then a1 else (-1)) → Zj X 5 (oR g) M13 113 [] [.int u15, .int a2, .ref (ax g 19)] := by
          intro u15 hu15
          replace hw := hw u15 hu15
          refine z_as (zar_r19) C hv5 d_R_drives_113 (fun M16 hM16 => ?_)
          replace hw := hw M16 hM16
          exact z_vret C hr hw d_R_drives_114
        refine z_ic_ne C 112 d_R_drives_105 (by decide) (fun h14 => ?_) (fun h14 => ?_)
        · refine z_iconst (v := (-1)) C d_R_drives_112 (by decide) ?_
          refine z_sub [] rfl ?_
          exact hj17 _ ((if_neg h14)).symm
        · refine z_iload_n C d_R_drives_108 rfl 1 rfl ?_
          refine z_goto C 113 d_R_drives_109 (by decide) ?_
          refine z_sub [] rfl ?_
          exact hj17 _ ((if_pos h14)).symm
      refine z_if_ne C 89 d_R_drives_82 (by decide) (fun h11 => ?_) (fun h11 => ?_)
      · refine z_iconst (v := 0) C d_R_drives_89 (by decide) ?_
        refine z_sub [0, 1, 2] rfl ?_
        exact hj18 _ ((if_neg h11)).symm
      · refine z_iconst (v := 1) C d_R_drives_85 (by decide) ?_
        refine z_goto C 90 d_R_drives_86 (by decide) ?_
        refine z_sub [0, 1, 2] rfl ?_
        exact hj18 _ ((if_pos h11)).symm
    · replace hw := hw.2 h10
      refine z_aload_n C d_R_drives_29 rfl 0 rfl ?_
      refine gf_R_61 C d_R_drives_30 ?_
      refine z_iload_n C d_R_drives_33 rfl 2 rfl ?_
      refine z_al (zar_r18) C hv5 d_R_drives_34 ?_
      refine z_bipush (v := 11) C d_R_drives_35 (by decide) ?_
      refine z_ic_ge C 73 d_R_drives_37 (by decide) (fun h19 => ?_) (fun h19 => ?_)
      · replace hw := hw.1 h19
        refine z_aload_n C d_R_drives_73 rfl 0 rfl ?_
        refine gf_R_67 C d_R_drives_74 ?_
        refine z_iload_n C d_R_drives_77 rfl 2 rfl ?_
        refine z_dup2 C d_R_drives_78 rfl rfl ?_
        refine z_al (zar_r20) C hv5 d_R_drives_79 ?_
        refine z_iload C d_R_drives_80 3 rfl ?_
        have hj27 : ∀ u21 : Int32, u21 = (if i8 = 0 then 1 else 0) → Zj X 5 (oR g) M9 90 [(0, .ref (ax g 0)), (1, .int a1), (2, .int a2)] [.int u21, .int (M9 20 (tn a2)), .int a2, .ref (ax g 20)] := by
          intro u21 hu21
          replace hw := hw u21 hu21
          refine z_iadd C d_R_drives_90 ?_
          refine z_as (zar_r20) C hv5 d_R_drives_91 (fun M22 hM22 => ?_)
          replace hw := hw M22 hM22
          refine z_aload_n C d_R_drives_92 rfl 0 rfl ?_
          refine gf_R_64 C d_R_drives_93 ?_
          refine z_iload_n C d_R_drives_96 rfl 2 rfl ?_
          refine z_aload_n C d_R_drives_97 rfl 0 rfl ?_
          refine gf_R_61 C d_R_drives_98 ?_
          refine z_iload_n C d_R_drives_101 rfl 2 rfl ?_
          refine z_al (zar_r18) C hv5 d_R_drives_102 ?_
          refine z_bipush (v := 11) C d_R_drives_103 (by decide) ?_
          have hj26 : ∀ u24 : Int32, u24 = (if (M22 18 (tn a2)) = 11 then a1 else (-1)) → Zj X 5 (oR g) M22 113 [] [.int u24, .int a2, .ref (ax g 19)] := by
            intro u24 hu24
            replace hw := hw u24 hu24
            refine z_as (zar_r19) C hv5 d_R_drives_113 (fun M25 hM25 => ?_)
            replace hw := hw M25 hM25
            exact z_vret C hr hw d_R_drives_114
          refine z_ic_ne C 112 d_R_drives_105 (by decide) (fun h23 => ?_) (fun h23 => ?_)
          · refine z_iconst (v := (-1)) C d_R_drives_112 (by decide) ?_
            refine z_sub [] rfl ?_
            exact hj26 _ ((if_neg h23)).symm
          · refine z_iload_n C d_R_drives_108 rfl 1 rfl ?_
            refine z_goto C 113 d_R_drives_109 (by decide) ?_
            refine z_sub [] rfl ?_
            exact hj26 _ ((if_pos h23)).symm
        refine z_if_ne C 89 d_R_drives_82 (by decide) (fun h20 => ?_) (fun h20 => ?_)
        · refine z_iconst (v := 0) C d_R_drives_89 (by decide) ?_
          refine z_sub [0, 1, 2] rfl ?_
          exact hj27 _ ((if_neg h20)).symm
        · refine z_iconst (v := 1) C d_R_drives_85 (by decide) ?_
          refine z_goto C 90 d_R_drives_86 (by decide) ?_
          refine z_sub [0, 1, 2] rfl ?_
          exact hj27 _ ((if_pos h20)).symm
      · replace hw := hw.2 h19
        refine z_aload_n C d_R_drives_40 rfl 0 rfl ?_
        refine gf_R_43 C d_R_drives_41 ?_
        refine z_aload_n C d_R_drives_44 rfl 0 rfl ?_
        refine gf_R_61 C d_R_drives_45 ?_
        refine z_iload_n C d_R_drives_48 rfl 2 rfl ?_
        refine z_al (zar_r18) C hv5 d_R_drives_49 ?_
        refine z_iconst (v := 1) C d_R_drives_50 (by decide) ?_
        refine z_iadd C d_R_drives_51 ?_
        have hv28 := hw.1
        replace hw := hw.2
        refine z_al (zar_r12) C hv28 d_R_drives_52 ?_
        refine z_iconst (v := 4) C d_R_drives_53 (by decide) ?_
        refine z_ic_gt C 73 d_R_drives_54 (by decide) (fun h29 => ?_) (fun h29 => ?_)
        · replace hw := hw.1 h29
          refine z_aload_n C d_R_drives_73 rfl 0 rfl ?_
          refine gf_R_67 C d_R_drives_74 ?_
          refine z_iload_n C d_R_drives_77 rfl 2 rfl ?_
          refine z_dup2 C d_R_drives_78 rfl rfl ?_
          refine z_al (zar_r20) C hv5 d_R_drives_79 ?_
          refine z_iload C d_R_drives_80 3 rfl ?_
          have hj37 : ∀ u31 : Int32, u31 = (if i8 = 0 then 1 else 0) → Zj X 5 (oR g) M9 90 [(0, .ref (ax g 0)), (1, .int a1), (2, .int a2)] [.int u31, .int (M9 20 (tn a2)), .int a2, .ref (ax g 20)] := by
            intro u31 hu31
            replace hw := hw u31 hu31
            refine z_iadd C d_R_drives_90 ?_
            refine z_as (zar_r20) C hv5 d_R_drives_91 (fun M32 hM32 => ?_)
            replace hw := hw M32 hM32
            refine z_aload_n C d_R_drives_92 rfl 0 rfl ?_
            refine gf_R_64 C d_R_drives_93 ?_
            refine z_iload_n C d_R_drives_96 rfl 2 rfl ?_
            refine z_aload_n C d_R_drives_97 rfl 0 rfl ?_
            refine gf_R_61 C d_R_drives_98 ?_
            refine z_iload_n C d_R_drives_101 rfl 2 rfl ?_
            refine z_al (zar_r18) C hv5 d_R_drives_102 ?_
            refine z_bipush (v := 11) C d_R_drives_103 (by decide) ?_
            have hj36 : ∀ u34 : Int32, u34 = (if (M32 18 (tn a2)) = 11 then a1 else (-1)) → Zj X 5 (oR g) M32 113 [] [.int u34, .int a2, .ref (ax g 19)] := by
              intro u34 hu34
              replace hw := hw u34 hu34
              refine z_as (zar_r19) C hv5 d_R_drives_113 (fun M35 hM35 => ?_)
              replace hw := hw M35 hM35
              exact z_vret C hr hw d_R_drives_114
            refine z_ic_ne C 112 d_R_drives_105 (by decide) (fun h33 => ?_) (fun h33 => ?_)
            · refine z_iconst (v := (-1)) C d_R_drives_112 (by decide) ?_
              refine z_sub [] rfl ?_
              exact hj36 _ ((if_neg h33)).symm
            · refine z_iload_n C d_R_drives_108 rfl 1 rfl ?_
              refine z_goto C 113 d_R_drives_109 (by decide) ?_
              refine z_sub [] rfl ?_
              exact hj36 _ ((if_pos h33)).symm
          refine z_if_ne C 89 d_R_drives_82 (by decide) (fun h30 => ?_) (fun h30 => ?_)
          · refine z_iconst (v := 0) C d_R_drives_89 (by decide) ?_
            refine z_sub [0, 1, 2] rfl ?_
            exact hj37 _ ((if_neg h30)).symm
          · refine z_iconst (v := 1) C d_R_drives_85 (by decide) ?_
            refine z_goto C 90 d_R_drives_86 (by decide) ?_
            refine z_sub [0, 1, 2] rfl ?_
            exact hj37 _ ((if_pos h30)).symm
        · replace hw := hw.2 h29
          refine z_aload_n C d_R_drives_57 rfl 0 rfl ?_
          refine gf_R_61 C d_R_drives_58 ?_
          refine z_iload_n C d_R_drives_61 rfl 2 rfl ?_
          refine z_dup2 C d_R_drives_62 rfl rfl ?_
          refine z_al (zar_r18) C hv5 d_R_drives_63 ?_
          refine z_iconst (v := 1) C d_R_drives_64 (by decide) ?_
          refine z_iadd C d_R_drives_65 ?_
          refine z_as (zar_r18) C hv5 d_R_drives_66 (fun M38 hM38 => ?_)
          replace hw := hw M38 hM38
          refine z_iinc (v := (i8 + 1)) (lv' := [(4, .int (i8 + 1)), (0, .ref (ax g 0)), (1, .int a1), (2, .int a2)]) C d_R_drives_67 3 rfl rfl rfl rfl ?_
          refine z_goto C 23 d_R_drives_70 (by decide) ?_
          refine z_sub [1, 2, 3, 0] rfl ?_
          exact ih7 _ _ hw
  have ha0 := hw.1
  refine z_if_eq C 13 d_R_drives_6 (by decide) (fun h1 => ?_) (fun h1 => ?_)
  · have ha40 := ha0.1 h1
    refine z_aload_n C d_R_drives_13 rfl 0 rfl ?_
    refine gf_R_61 C d_R_drives_14 ?_
    refine z_iload_n C d_R_drives_17 rfl 2 rfl ?_
    have hv2 := ha40
    refine z_al (zar_r18) C hv2 d_R_drives_18 ?_
    refine z_sub [0, 1, 2] rfl ?_
    exact hj39 _ ((if_pos h1)).symm
  · refine z_iconst (v := 0) C d_R_drives_9 (by decide) ?_
    refine z_goto C 19 d_R_drives_10 (by decide) ?_
    refine z_sub [0, 1, 2] rfl ?_
    exact hj39 _ ((if_neg h1)).symm
theorem d_R_atBy_0 : decode prog_8_method_55_code 0 = .ok (.iconst 4, 1) := by decide +kernel
theorem d_R_atBy_1 : decode prog_8_method_55_code 1 = .ok (.iload_n 1, 1) := by decide +kernel
theorem d_R_atBy_2 : decode prog_8_method_55_code 2 = .ok (.imul, 1) := by decide +kernel
theorem d_R_atBy_3 : decode prog_8_method_55_code 3 = .ok (.iload_n 2, 1) := by decide +kernel
theorem d_R_atBy_4 : decode prog_8_method_55_code 4 = .ok (.iadd, 1) := by decide +kernel
theorem d_R_atBy_5 : decode prog_8_method_55_code 5 = .ok (.istore 4, 2) := by decide +kernel
theorem d_R_atBy_7 : decode prog_8_method_55_code 7 = .ok (.iload_n 3, 1) := by decide +kernel
theorem d_R_atBy_8 : decode prog_8_method_55_code 8 = .ok (.ifCond .ne (13), 3) := by decide +kernel
theorem d_R_atBy_11 : decode prog_8_method_55_code 11 = .ok (.aload_n 0, 1) := by decide +kernel
theorem d_R_atBy_12 : decode prog_8_method_55_code 12 = .ok (.getfield 73, 3) := by decide +kernel
theorem d_R_atBy_15 : decode prog_8_method_55_code 15 = .ok (.iload 4, 2) := by decide +kernel
theorem d_R_atBy_17 : decode prog_8_method_55_code 17 = .ok (.iaload, 1) := by decide +kernel
theorem d_R_atBy_18 : decode prog_8_method_55_code 18 = .ok (.goto (25), 3) := by decide +kernel
theorem d_R_atBy_21 : decode prog_8_method_55_code 21 = .ok (.iload_n 3, 1) := by decide +kernel
theorem d_R_atBy_22 : decode prog_8_method_55_code 22 = .ok (.iconst 1, 1) := by decide +kernel
theorem d_R_atBy_23 : decode prog_8_method_55_code 23 = .ok (.if_icmp .ne (13), 3) := by decide +kernel
theorem d_R_atBy_26 : decode prog_8_method_55_code 26 = .ok (.aload_n 0, 1) := by decide +kernel
theorem d_R_atBy_27 : decode prog_8_method_55_code 27 = .ok (.getfield 76, 3) := by decide +kernel
theorem d_R_atBy_30 : decode prog_8_method_55_code 30 = .ok (.iload 4, 2) := by decide +kernel
theorem d_R_atBy_32 : decode prog_8_method_55_code 32 = .ok (.iaload, 1) := by decide +kernel
theorem d_R_atBy_33 : decode prog_8_method_55_code 33 = .ok (.goto (10), 3) := by decide +kernel
theorem d_R_atBy_36 : decode prog_8_method_55_code 36 = .ok (.aload_n 0, 1) := by decide +kernel
theorem d_R_atBy_37 : decode prog_8_method_55_code 37 = .ok (.getfield 79, 3) := by decide +kernel
theorem d_R_atBy_40 : decode prog_8_method_55_code 40 = .ok (.iload 4, 2) := by decide +kernel
theorem d_R_atBy_42 : decode prog_8_method_55_code 42 = .ok (.iaload, 1) := by decide +kernel
theorem d_R_atBy_43 : decode prog_8_method_55_code 43 = .ok (.ireturn, 1) := by decide +kernel
def wp_R_atBy (a1 : Int32) (a2 : Int32) (a3 : Int32) (M : Mem) (post : Int32 → Prop) : Prop :=
  ∀ x1 : Int32, x1 = ((4 * a1) + a2) → (((a3 = 0) → (vp_in x1 96)) ∧ (¬ (a3 = 0) → (((a3 = 1) → (vp_in x1 96)) ∧ (¬ (a3 = 1) → (vp_in x1 96))))) ∧ (∀ u7 : Int32, u7 = (if a3 = 0 then (M 22 (tn x1)) else (if a3 = 1 then (M 23 (tn x1)) else (M 24 (tn x1)))) → post u7)
set_option maxHeartbeats 4000000 in
set_option maxRecDepth 100000 in
theorem c_R_atBy (g : GX) {a1 : Int32} {a2 : Int32} {a3 : Int32} {M : Mem} {post : Int32 → Prop} (hw : wp_R_atBy a1 a2 a3 M post) : CtI (oR g) y_R_atBy prog_8_method_55_code 5 (some .int) (rl 0) [.ref (ax g 0), .int a1, .int a2, .int a3] M (fun r M2 => M = M2 ∧ post r) := by
  refine z_metI (oR_ok g) (by decide) rfl (fun X C hr => ?_)
  show Zj X 5 (oR g) M 0 [(0, .ref (ax g 0)), (1, .int a1), (2, .int a2), (3, .int a3)] []
  unfold wp_R_atBy at hw
  refine z_iconst (v := 4) C d_R_atBy_0 (by decide) ?_
  refine z_iload_n C d_R_atBy_1 rfl 1 rfl ?_
  refine z_imul C d_R_atBy_2 ?_
  refine z_iload_n C d_R_atBy_3 rfl 2 rfl ?_
  refine z_iadd C d_R_atBy_4 ?_
  obtain ⟨x1, hx1⟩ : ∃ z : Int32, z = ((4 * a1) + a2) := ⟨_, rfl⟩
  rw [← hx1]
  replace hw := hw x1 hx1
  refine z_istore (lv' := [(4, .int x1), (0, .ref (ax g 0)), (1, .int a1), (2, .int a2), (3, .int a3)]) C d_R_atBy_5 rfl rfl ?_
  refine z_iload_n C d_R_atBy_7 rfl 4 rfl ?_
  have hj8 : ∀ u7 : Int32, u7 = (if a3 = 0 then (M 22 (tn x1)) else (if a3 = 1 then (M 23 (tn x1)) else (M 24 (tn x1)))) → Zj X 5 (oR g) M 43 [] [.int u7] := by
    intro u7 hu7
    replace hw := hw.2 u7 hu7
    exact z_iret C hr ⟨rfl, hw⟩ d_R_atBy_43
  have ha0 := hw.1
  refine z_if_ne C 21 d_R_atBy_8 (by decide) (fun h2 => ?_) (fun h2 => ?_)
  · have ha9 := ha0.2 h2
    refine z_iload_n C d_R_atBy_21 rfl 4 rfl ?_
    refine z_iconst (v := 1) C d_R_atBy_22 (by decide) ?_
    refine z_ic_ne C 36 d_R_atBy_23 (by decide) (fun h3 => ?_) (fun h3 => ?_)
    · have ha10 := ha9.2 h3
      refine z_aload_n C d_R_atBy_36 rfl 1 rfl ?_
      refine gf_R_79 C d_R_atBy_37 ?_
      refine z_iload C d_R_atBy_40 0 rfl ?_
      have hv4 := ha10
      refine z_al (zar_r24) C hv4 d_R_atBy_42 ?_
      refine z_sub [] rfl ?_
      exact hj8 _ (((if_neg h2).trans (if_neg h3))).symm
    · have ha11 := ha9.1 h3
      refine z_aload_n C d_R_atBy_26 rfl 1 rfl ?_
      refine gf_R_76 C d_R_atBy_27 ?_
      refine z_iload C d_R_atBy_30 0 rfl ?_
      have hv5 := ha11
      refine z_al (zar_r23) C hv5 d_R_atBy_32 ?_
      refine z_goto C 43 d_R_atBy_33 (by decide) ?_
      refine z_sub [] rfl ?_
      exact hj8 _ (((if_neg h2).trans (if_pos h3))).symm
  · have ha12 := ha0.1 h2
    refine z_aload_n C d_R_atBy_11 rfl 1 rfl ?_
    refine gf_R_73 C d_R_atBy_12 ?_
    refine z_iload C d_R_atBy_15 0 rfl ?_
    have hv6 := ha12
    refine z_al (zar_r22) C hv6 d_R_atBy_17 ?_
    refine z_goto C 43 d_R_atBy_18 (by decide) ?_
    refine z_sub [] rfl ?_
    exact hj8 _ ((if_pos h2)).symm
theorem d_R_snowBy_0 : decode prog_8_method_58_code 0 = .ok (.iconst 0, 1) := by decide +kernel
theorem d_R_snowBy_1 : decode prog_8_method_58_code 1 = .ok (.istore_n 3, 1) := by decide +kernel
theorem d_R_snowBy_2 : decode prog_8_method_58_code 2 = .ok (.iconst 0, 1) := by decide +kernel
theorem d_R_snowBy_3 : decode prog_8_method_58_code 3 = .ok (.istore 4, 2) := by decide +kernel
theorem d_R_snowBy_5 : decode prog_8_method_58_code 5 = .ok (.iload 4, 2) := by decide +kernel
theorem d_R_snowBy_7 : decode prog_8_method_58_code 7 = .ok (.bipush 12, 2) := by decide +kernel
theorem d_R_snowBy_9 : decode prog_8_method_58_code 9 = .ok (.if_icmp .ge (46), 3) := by decide +kernel
theorem d_R_snowBy_12 : decode prog_8_method_58_code 12 = .ok (.aload_n 0, 1) := by decide +kernel
theorem d_R_snowBy_13 : decode prog_8_method_58_code 13 = .ok (.getfield 70, 3) := by decide +kernel
theorem d_R_snowBy_16 : decode prog_8_method_58_code 16 = .ok (.bipush 12, 2) := by decide +kernel
theorem d_R_snowBy_18 : decode prog_8_method_58_code 18 = .ok (.iload_n 1, 1) := by decide +kernel
theorem d_R_snowBy_19 : decode prog_8_method_58_code 19 = .ok (.imul, 1) := by decide +kernel
theorem d_R_snowBy_20 : decode prog_8_method_58_code 20 = .ok (.iload 4, 2) := by decide +kernel
theorem d_R_snowBy_22 : decode prog_8_method_58_code 22 = .ok (.iadd, 1) := by decide +kernel
theorem d_R_snowBy_23 : decode prog_8_method_58_code 23 = .ok (.iaload, 1) := by decide +kernel
theorem d_R_snowBy_24 : decode prog_8_method_58_code 24 = .ok (.istore 5, 2) := by decide +kernel
theorem d_R_snowBy_26 : decode prog_8_method_58_code 26 = .ok (.iload_n 3, 1) := by decide +kernel
theorem d_R_snowBy_27 : decode prog_8_method_58_code 27 = .ok (.iload_n 2, 1) := by decide +kernel
theorem d_R_snowBy_28 : decode prog_8_method_58_code 28 = .ok (.ifCond .ne (8), 3) := by decide +kernel
theorem d_R_snowBy_31 : decode prog_8_method_58_code 31 = .ok (.iload 5, 2) := by decide +kernel
theorem d_R_snowBy_33 : decode prog_8_method_58_code 33 = .ok (.goto (14), 3) := by decide +kernel
theorem d_R_snowBy_36 : decode prog_8_method_58_code 36 = .ok (.iload 5, 2) := by decide +kernel
theorem d_R_snowBy_38 : decode prog_8_method_58_code 38 = .ok (.iconst 4, 1) := by decide +kernel
theorem d_R_snowBy_39 : decode prog_8_method_58_code 39 = .ok (.if_icmp .le (7), 3) := by decide +kernel
theorem d_R_snowBy_42 : decode prog_8_method_58_code 42 = .ok (.iconst 1, 1) := by decide +kernel
theorem d_R_snowBy_43 : decode prog_8_method_58_code 43 = .ok (.goto (4), 3) := by decide +kernel
theorem d_R_snowBy_46 : decode prog_8_method_58_code 46 = .ok (.iconst 0, 1) := by decide +kernel
theorem d_R_snowBy_47 : decode prog_8_method_58_code 47 = .ok (.iadd, 1) := by decide +kernel
theorem d_R_snowBy_48 : decode prog_8_method_58_code 48 = .ok (.istore_n 3, 1) := by decide +kernel
theorem d_R_snowBy_49 : decode prog_8_method_58_code 49 = .ok (.iinc 4 1, 3) := by decide +kernel
theorem d_R_snowBy_52 : decode prog_8_method_58_code 52 = .ok (.goto (-47), 3) := by decide +kernel
theorem d_R_snowBy_55 : decode prog_8_method_58_code 55 = .ok (.iload_n 3, 1) := by decide +kernel
theorem d_R_snowBy_56 : decode prog_8_method_58_code 56 = .ok (.ireturn, 1) := by decide +kernel
def wp_R_snowBy (a1 : Int32) (a2 : Int32) (M : Mem) (post : Int32 → Prop) : Prop :=
  (it2 (fun rec1 (i3 : Int32) (i4 : Int32) => (((12 ≤ i4) → post i3) ∧ (¬ (12 ≤ i4) → vp_in ((12 * a1) + i4) 288 ∧ ∀ x7 : Int32, x7 = (M 21 (tn ((12 * a1) + i4))) → ∀ u10 : Int32, u10 = (if a2 = 0 then x7 else (if x7 ≤ 4 then 0 else 1)) → rec1 (i3 + u10) (i4 + 1)))) 4096 0 0)
set_option maxHeartbeats 4000000 in
set_option maxRecDepth 100000 in
theorem c_R_snowBy (g : GX) {a1 : Int32} {a2 : Int32} {M : Mem} {post : Int32 → Prop} (hw : wp_R_snowBy a1 a2 M post) : CtI (oR g) y_R_snowBy prog_8_method_58_code 6 (some .int) (rl 0) [.ref (ax g 0), .int a1, .int a2] M (fun r M2 => M = M2 ∧ post r) := by
  refine z_metI (oR_ok g) (by decide) rfl (fun X C hr => ?_)
  show Zj X 6 (oR g) M 0 [(0, .ref (ax g 0)), (1, .int a1), (2, .int a2)] []
  unfold wp_R_snowBy at hw
  refine z_iconst (v := 0) C d_R_snowBy_0 (by decide) ?_
  refine z_istore_n (lv' := [(3, .int 0), (0, .ref (ax g 0)), (1, .int a1), (2, .int a2)]) C d_R_snowBy_1 rfl rfl rfl ?_
  refine z_iconst (v := 0) C d_R_snowBy_2 (by decide) ?_
  refine z_istore (lv' := [(4, .int 0), (3, .int 0), (0, .ref (ax g 0)), (1, .int a1), (2, .int a2)]) C d_R_snowBy_3 rfl rfl ?_
  refine z_sub [2, 3, 4, 1, 0] rfl ?_
  refine it2_Z (Z := fun (i3 : Int32) (i4 : Int32) => Zj X 6 (oR g) M 5 [(0, .ref (ax g 0)), (1, .int a1), (2, .int a2), (3, .int i3), (4, .int i4)] []) (fun rec1 ih2 i3 i4 hw => ?_) _ _ _ hw
  refine z_iload C d_R_snowBy_5 4 rfl ?_
  refine z_bipush (v := 12) C d_R_snowBy_7 (by decide) ?_
  refine z_ic_ge C 55 d_R_snowBy_9 (by decide) (fun h5 => ?_) (fun h5 => ?_)
  · replace hw := hw.1 h5
    refine z_iload_n C d_R_snowBy_55 rfl 3 rfl ?_
    exact z_iret C hr ⟨rfl, hw⟩ d_R_snowBy_56
  · replace hw := hw.2 h5
    refine z_aload_n C d_R_snowBy_12 rfl 0 rfl ?_
    refine gf_R_70 C d_R_snowBy_13 ?_
    refine z_bipush (v := 12) C d_R_snowBy_16 (by decide) ?_
    refine z_iload_n C d_R_snowBy_18 rfl 1 rfl ?_
    refine z_imul C d_R_snowBy_19 ?_
    refine z_iload C d_R_snowBy_20 4 rfl ?_
    refine z_iadd C d_R_snowBy_22 ?_
    have hv6 := hw.1
    replace hw := hw.2
    refine z_al (zar_r21) C hv6 d_R_snowBy_23 ?_
    obtain ⟨x7, hx7⟩ : ∃ z : Int32, z = (M 21 (tn ((12 * a1) + i4))) := ⟨_, rfl⟩
    rw [← hx7]
    replace hw := hw x7 hx7
    refine z_istore (lv' := [(5, .int x7), (0, .ref (ax g 0)), (1, .int a1), (2, .int a2), (3, .int i3), (4, .int i4)]) C d_R_snowBy_24 rfl rfl ?_
    refine z_iload_n C d_R_snowBy_26 rfl 4 rfl ?_
    refine z_iload_n C d_R_snowBy_27 rfl 3 rfl ?_
    have hj11 : ∀ u10 : Int32, u10 = (if a2 = 0 then x7 else (if x7 ≤ 4 then 0 else 1)) → Zj X 6 (oR g) M 47 [(0, .ref (ax g 0)), (1, .int a1), (2, .int a2), (4, .int i4)] [.int u10, .int i3] := by
      intro u10 hu10
      replace hw := hw u10 hu10
      refine z_iadd C d_R_snowBy_47 ?_
      refine z_istore_n (lv' := [(3, .int (i3 + u10)), (0, .ref (ax g 0)), (1, .int a1), (2, .int a2), (4, .int i4)]) C d_R_snowBy_48 rfl rfl rfl ?_
      refine z_iinc (v := (i4 + 1)) (lv' := [(4, .int (i4 + 1)), (3, .int (i3 + u10)), (0, .ref (ax g 0)), (1, .int a1), (2, .int a2)]) C d_R_snowBy_49 4 rfl rfl rfl rfl ?_
      refine z_goto C 5 d_R_snowBy_52 (by decide) ?_
      refine z_sub [2, 3, 4, 1, 0] rfl ?_
      exact ih2 _ _ hw
    refine z_if_ne C 36 d_R_snowBy_28 (by decide) (fun h8 => ?_) (fun h8 => ?_)
    · refine z_iload C d_R_snowBy_36 0 rfl ?_
      refine z_iconst (v := 4) C d_R_snowBy_38 (by decide) ?_
      refine z_ic_le C 46 d_R_snowBy_39 (by decide) (fun h9 => ?_) (fun h9 => ?_)
      · refine z_iconst (v := 0) C d_R_snowBy_46 (by decide) ?_
        refine z_sub [1, 2, 3, 5] rfl ?_
        exact hj11 _ (((if_neg h8).trans (if_pos h9))).symm
      · refine z_iconst (v := 1) C d_R_snowBy_42 (by decide) ?_
        refine z_goto C 47 d_R_snowBy_43 (by decide) ?_
        refine z_sub [1, 2, 3, 5] rfl ?_
        exact hj11 _ (((if_neg h8).trans (if_neg h9))).symm
    · refine z_iload C d_R_snowBy_31 0 rfl ?_
      refine z_goto C 47 d_R_snowBy_33 (by decide) ?_
      refine z_sub [1, 2, 3, 5] rfl ?_
      exact hj11 _ ((if_pos h8)).symm
theorem d_R_overBy_0 : decode prog_8_method_60_code 0 = .ok (.iload_n 2, 1) := by decide +kernel
theorem d_R_overBy_1 : decode prog_8_method_60_code 1 = .ok (.ifCond .ne (12), 3) := by decide +kernel
theorem d_R_overBy_4 : decode prog_8_method_60_code 4 = .ok (.aload_n 0, 1) := by decide +kernel
theorem d_R_overBy_5 : decode prog_8_method_60_code 5 = .ok (.getfield 64, 3) := by decide +kernel
theorem d_R_overBy_8 : decode prog_8_method_60_code 8 = .ok (.iload_n 1, 1) := by decide +kernel
theorem d_R_overBy_9 : decode prog_8_method_60_code 9 = .ok (.iaload, 1) := by decide +kernel
theorem d_R_overBy_10 : decode prog_8_method_60_code 10 = .ok (.goto (9), 3) := by decide +kernel
theorem d_R_overBy_13 : decode prog_8_method_60_code 13 = .ok (.aload_n 0, 1) := by decide +kernel
theorem d_R_overBy_14 : decode prog_8_method_60_code 14 = .ok (.getfield 67, 3) := by decide +kernel
theorem d_R_overBy_17 : decode prog_8_method_60_code 17 = .ok (.iload_n 1, 1) := by decide +kernel
theorem d_R_overBy_18 : decode prog_8_method_60_code 18 = .ok (.iaload, 1) := by decide +kernel
theorem d_R_overBy_19 : decode prog_8_method_60_code 19 = .ok (.ireturn, 1) := by decide +kernel
def wp_R_overBy (a1 : Int32) (a2 : Int32) (M : Mem) (post : Int32 → Prop) : Prop :=
  (((a2 = 0) → (vp_in a1 8)) ∧ (¬ (a2 = 0) → (vp_in a1 8))) ∧ (∀ u4 : Int32, u4 = (if a2 = 0 then (M 19 (tn a1)) else (M 20 (tn a1))) → post u4)
set_option maxHeartbeats 4000000 in
set_option maxRecDepth 100000 in
theorem c_R_overBy (g : GX) {a1 : Int32} {a2 : Int32} {M : Mem} {post : Int32 → Prop} (hw : wp_R_overBy a1 a2 M post) : CtI (oR g) y_R_overBy prog_8_method_60_code 3 (some .int) (rl 0) [.ref (ax g 0), .int a1, .int a2] M (fun r M2 => M = M2 ∧ post r) := by
  refine z_metI (oR_ok g) (by decide) rfl (fun X C hr => ?_)
  show Zj X 3 (oR g) M 0 [(0, .ref (ax g 0)), (1, .int a1), (2, .int a2)] []
  unfold wp_R_overBy at hw
  refine z_iload_n C d_R_overBy_0 rfl 2 rfl ?_
  have hj5 : ∀ u4 : Int32, u4 = (if a2 = 0 then (M 19 (tn a1)) else (M 20 (tn a1))) → Zj X 3 (oR g) M 19 [] [.int u4] := by
    intro u4 hu4
    replace hw := hw.2 u4 hu4
    exact z_iret C hr ⟨rfl, hw⟩ d_R_overBy_19
  have ha0 := hw.1
  refine z_if_ne C 13 d_R_overBy_1 (by decide) (fun h1 => ?_) (fun h1 => ?_)
  · have ha6 := ha0.2 h1
    refine z_aload_n C d_R_overBy_13 rfl 0 rfl ?_
    refine gf_R_67 C d_R_overBy_14 ?_
    refine z_iload_n C d_R_overBy_17 rfl 1 rfl ?_
    have hv2 := ha6
    refine z_al (zar_r20) C hv2 d_R_overBy_18 ?_
    refine z_sub [] rfl ?_
    exact hj5 _ ((if_neg h1)).symm
  · have ha7 := ha0.1 h1
    refine z_aload_n C d_R_overBy_4 rfl 0 rfl ?_
    refine gf_R_64 C d_R_overBy_5 ?_
    refine z_iload_n C d_R_overBy_8 rfl 1 rfl ?_
    have hv3 := ha7
    refine z_al (zar_r19) C hv3 d_R_overBy_9 ?_
    refine z_goto C 19 d_R_overBy_10 (by decide) ?_
    refine z_sub [] rfl ?_
    exact hj5 _ ((if_pos h1)).symm
theorem d_R_clearedBy_0 : decode prog_8_method_62_code 0 = .ok (.iload_n 2, 1) := by decide +kernel
theorem d_R_clearedBy_1 : decode prog_8_method_62_code 1 = .ok (.ifCond .ne (12), 3) := by decide +kernel
theorem d_R_clearedBy_4 : decode prog_8_method_62_code 4 = .ok (.aload_n 0, 1) := by decide +kernel
theorem d_R_clearedBy_5 : decode prog_8_method_62_code 5 = .ok (.getfield 55, 3) := by decide +kernel
theorem d_R_clearedBy_8 : decode prog_8_method_62_code 8 = .ok (.iload_n 1, 1) := by decide +kernel
theorem d_R_clearedBy_9 : decode prog_8_method_62_code 9 = .ok (.iaload, 1) := by decide +kernel
theorem d_R_clearedBy_10 : decode prog_8_method_62_code 10 = .ok (.goto (9), 3) := by decide +kernel
theorem d_R_clearedBy_13 : decode prog_8_method_62_code 13 = .ok (.aload_n 0, 1) := by decide +kernel
theorem d_R_clearedBy_14 : decode prog_8_method_62_code 14 = .ok (.getfield 58, 3) := by decide +kernel
theorem d_R_clearedBy_17 : decode prog_8_method_62_code 17 = .ok (.iload_n 1, 1) := by decide +kernel
theorem d_R_clearedBy_18 : decode prog_8_method_62_code 18 = .ok (.iaload, 1) := by decide +kernel
theorem d_R_clearedBy_19 : decode prog_8_method_62_code 19 = .ok (.ireturn, 1) := by decide +kernel
def wp_R_clearedBy (a1 : Int32) (a2 : Int32) (M : Mem) (post : Int32 → Prop) : Prop :=
  (((a2 = 0) → (vp_in a1 4)) ∧ (¬ (a2 = 0) → (vp_in a1 4))) ∧ (∀ u4 : Int32, u4 = (if a2 = 0 then (M 16 (tn a1)) else (M 17 (tn a1))) → post u4)
set_option maxHeartbeats 4000000 in
set_option maxRecDepth 100000 in
theorem c_R_clearedBy (g : GX) {a1 : Int32} {a2 : Int32} {M : Mem} {post : Int32 → Prop} (hw : wp_R_clearedBy a1 a2 M post) : CtI (oR g) y_R_clearedBy prog_8_method_62_code 3 (some .int) (rl 0) [.ref (ax g 0), .int a1, .int a2] M (fun r M2 => M = M2 ∧ post r) := by
  refine z_metI (oR_ok g) (by decide) rfl (fun X C hr => ?_)
  show Zj X 3 (oR g) M 0 [(0, .ref (ax g 0)), (1, .int a1), (2, .int a2)] []
  unfold wp_R_clearedBy at hw
  refine z_iload_n C d_R_clearedBy_0 rfl 2 rfl ?_
  have hj5 : ∀ u4 : Int32, u4 = (if a2 = 0 then (M 16 (tn a1)) else (M 17 (tn a1))) → Zj X 3 (oR g) M 19 [] [.int u4] := by
    intro u4 hu4
    replace hw := hw.2 u4 hu4
    exact z_iret C hr ⟨rfl, hw⟩ d_R_clearedBy_19
  have ha0 := hw.1
  refine z_if_ne C 13 d_R_clearedBy_1 (by decide) (fun h1 => ?_) (fun h1 => ?_)
  · have ha6 := ha0.2 h1
    refine z_aload_n C d_R_clearedBy_13 rfl 0 rfl ?_
    refine gf_R_58 C d_R_clearedBy_14 ?_
    refine z_iload_n C d_R_clearedBy_17 rfl 1 rfl ?_
    have hv2 := ha6
    refine z_al (zar_r17) C hv2 d_R_clearedBy_18 ?_
    refine z_sub [] rfl ?_
    exact hj5 _ ((if_neg h1)).symm
  · have ha7 := ha0.1 h1
    refine z_aload_n C d_R_clearedBy_4 rfl 0 rfl ?_
    refine gf_R_55 C d_R_clearedBy_5 ?_
    refine z_iload_n C d_R_clearedBy_8 rfl 1 rfl ?_
    have hv3 := ha7
    refine z_al (zar_r16) C hv3 d_R_clearedBy_9 ?_
    refine z_goto C 19 d_R_clearedBy_10 (by decide) ?_
    refine z_sub [] rfl ?_
    exact hj5 _ ((if_pos h1)).symm
theorem d_R_deepestBy_0 : decode prog_8_method_64_code 0 = .ok (.iconst 0, 1) := by decide +kernel
theorem d_R_deepestBy_1 : decode prog_8_method_64_code 1 = .ok (.istore_n 2, 1) := by decide +kernel
theorem d_R_deepestBy_2 : decode prog_8_method_64_code 2 = .ok (.iconst 1, 1) := by decide +kernel
theorem d_R_deepestBy_3 : decode prog_8_method_64_code 3 = .ok (.istore_n 3, 1) := by decide +kernel
theorem d_R_deepestBy_4 : decode prog_8_method_64_code 4 = .ok (.iload_n 3, 1) := by decide +kernel
theorem d_R_deepestBy_5 : decode prog_8_method_64_code 5 = .ok (.sipush 288, 3) := by decide +kernel
theorem d_R_deepestBy_8 : decode prog_8_method_64_code 8 = .ok (.if_icmp .ge (30), 3) := by decide +kernel
theorem d_R_deepestBy_11 : decode prog_8_method_64_code 11 = .ok (.aload_n 0, 1) := by decide +kernel
theorem d_R_deepestBy_12 : decode prog_8_method_64_code 12 = .ok (.getfield 70, 3) := by decide +kernel
theorem d_R_deepestBy_15 : decode prog_8_method_64_code 15 = .ok (.iload_n 3, 1) := by decide +kernel
theorem d_R_deepestBy_16 : decode prog_8_method_64_code 16 = .ok (.iaload, 1) := by decide +kernel
theorem d_R_deepestBy_17 : decode prog_8_method_64_code 17 = .ok (.aload_n 0, 1) := by decide +kernel
theorem d_R_deepestBy_18 : decode prog_8_method_64_code 18 = .ok (.getfield 70, 3) := by decide +kernel
theorem d_R_deepestBy_21 : decode prog_8_method_64_code 21 = .ok (.iload_n 2, 1) := by decide +kernel
theorem d_R_deepestBy_22 : decode prog_8_method_64_code 22 = .ok (.iaload, 1) := by decide +kernel
theorem d_R_deepestBy_23 : decode prog_8_method_64_code 23 = .ok (.if_icmp .le (7), 3) := by decide +kernel
theorem d_R_deepestBy_26 : decode prog_8_method_64_code 26 = .ok (.iload_n 3, 1) := by decide +kernel
theorem d_R_deepestBy_27 : decode prog_8_method_64_code 27 = .ok (.goto (4), 3) := by decide +kernel
theorem d_R_deepestBy_30 : decode prog_8_method_64_code 30 = .ok (.iload_n 2, 1) := by decide +kernel
theorem d_R_deepestBy_31 : decode prog_8_method_64_code 31 = .ok (.istore_n 2, 1) := by decide +kernel
theorem d_R_deepestBy_32 : decode prog_8_method_64_code 32 = .ok (.iinc 3 1, 3) := by decide +kernel
theorem d_R_deepestBy_35 : decode prog_8_method_64_code 35 = .ok (.goto (-31), 3) := by decide +kernel
theorem d_R_deepestBy_38 : decode prog_8_method_64_code 38 = .ok (.iload_n 1, 1) := by decide +kernel
theorem d_R_deepestBy_39 : decode prog_8_method_64_code 39 = .ok (.ifCond .ne (12), 3) := by decide +kernel
theorem d_R_deepestBy_42 : decode prog_8_method_64_code 42 = .ok (.aload_n 0, 1) := by decide +kernel
theorem d_R_deepestBy_43 : decode prog_8_method_64_code 43 = .ok (.getfield 70, 3) := by decide +kernel
theorem d_R_deepestBy_46 : decode prog_8_method_64_code 46 = .ok (.iload_n 2, 1) := by decide +kernel
theorem d_R_deepestBy_47 : decode prog_8_method_64_code 47 = .ok (.iaload, 1) := by decide +kernel
theorem d_R_deepestBy_48 : decode prog_8_method_64_code 48 = .ok (.goto (19), 3) := by decide +kernel
theorem d_R_deepestBy_51 : decode prog_8_method_64_code 51 = .ok (.iload_n 1, 1) := by decide +kernel
theorem d_R_deepestBy_52 : decode prog_8_method_64_code 52 = .ok (.iconst 1, 1) := by decide +kernel
theorem d_R_deepestBy_53 : decode prog_8_method_64_code 53 = .ok (.if_icmp .ne (10), 3) := by decide +kernel
theorem d_R_deepestBy_56 : decode prog_8_method_64_code 56 = .ok (.iload_n 2, 1) := by decide +kernel
theorem d_R_deepestBy_57 : decode prog_8_method_64_code 57 = .ok (.bipush 12, 2) := by decide +kernel
theorem d_R_deepestBy_59 : decode prog_8_method_64_code 59 = .ok (.idiv, 1) := by decide +kernel
theorem d_R_deepestBy_60 : decode prog_8_method_64_code 60 = .ok (.goto (7), 3) := by decide +kernel
theorem d_R_deepestBy_63 : decode prog_8_method_64_code 63 = .ok (.iload_n 2, 1) := by decide +kernel
theorem d_R_deepestBy_64 : decode prog_8_method_64_code 64 = .ok (.bipush 12, 2) := by decide +kernel
theorem d_R_deepestBy_66 : decode prog_8_method_64_code 66 = .ok (.irem, 1) := by decide +kernel
theorem d_R_deepestBy_67 : decode prog_8_method_64_code 67 = .ok (.ireturn, 1) := by decide +kernel
def wp_R_deepestBy (a1 : Int32) (M : Mem) (post : Int32 → Prop) : Prop :=
  (it2 (fun rec1 (i3 : Int32) (i4 : Int32) => (((288 ≤ i4) → (((a1 = 0) → (vp_in i3 288)) ∧ (¬ (a1 = 0) → True)) ∧ (∀ u9 : Int32, u9 = (if a1 = 0 then (M 21 (tn i3)) else (if a1 = 1 then (i3 / 12) else (i3 - i3 / 12 * 12))) → post u9)) ∧ (¬ (288 ≤ i4) → vp_in i4 288 ∧ vp_in i3 288 ∧ ∀ u15 : Int32, u15 = (if (M 21 (tn i4)) ≤ (M 21 (tn i3)) then i3 else i4) → rec1 u15 (i4 + 1)))) 4096 0 1)
set_option maxHeartbeats 4000000 in
set_option maxRecDepth 100000 in
theorem c_R_deepestBy (g : GX) {a1 : Int32} {M : Mem} {post : Int32 → Prop} (hw : wp_R_deepestBy a1 M post) : CtI (oR g) y_R_deepestBy prog_8_method_64_code 4 (some .int) (rl 0) [.ref (ax g 0), .int a1] M (fun r M2 => M = M2 ∧ post r) := by
  refine z_metI (oR_ok g) (by decide) rfl (fun X C hr => ?_)
  show Zj X 4 (oR g) M 0 [(0, .ref (ax g 0)), (1, .int a1)] []
  unfold wp_R_deepestBy at hw
  refine z_iconst (v := 0) C d_R_deepestBy_0 (by decide) ?_
  refine z_istore_n (lv' := [(2, .int 0), (0, .ref (ax g 0)), (1, .int a1)]) C d_R_deepestBy_1 rfl rfl rfl ?_
  refine z_iconst (v := 1) C d_R_deepestBy_2 (by decide) ?_
  refine z_istore_n (lv' := [(3, .int 1), (2, .int 0), (0, .ref (ax g 0)), (1, .int a1)]) C d_R_deepestBy_3 rfl rfl rfl ?_
  refine z_sub [2, 3, 1, 0] rfl ?_
  refine it2_Z (Z := fun (i3 : Int32) (i4 : Int32) => Zj X 4 (oR g) M 4 [(0, .ref (ax g 0)), (1, .int a1), (2, .int i3), (3, .int i4)] []) (fun rec1 ih2 i3 i4 hw => ?_) _ _ _ hw
  refine z_iload_n C d_R_deepestBy_4 rfl 3 rfl ?_
  refine z_sipush (v := 288) C d_R_deepestBy_5 (by decide) ?_
  refine z_ic_ge C 38 d_R_deepestBy_8 (by decide) (fun h5 => ?_) (fun h5 => ?_)
  · replace hw := hw.1 h5
    refine z_iload_n C d_R_deepestBy_38 rfl 1 rfl ?_
    have hj10 : ∀ u9 : Int32, u9 = (if a1 = 0 then (M 21 (tn i3)) else (if a1 = 1 then (i3 / 12) else (i3 - i3 / 12 * 12))) → Zj X 4 (oR g) M 67 [] [.int u9] := by
      intro u9 hu9
      replace hw := hw.2 u9 hu9
      exact z_iret C hr ⟨rfl, hw⟩ d_R_deepestBy_67
    have ha0 := hw.1
    refine z_if_ne C 51 d_R_deepestBy_39 (by decide) (fun h6 => ?_) (fun h6 => ?_)
    · refine z_iload_n C d_R_deepestBy_51 rfl 1 rfl ?_
      refine z_iconst (v := 1) C d_R_deepestBy_52 (by decide) ?_
      refine z_ic_ne C 63 d_R_deepestBy_53 (by decide) (fun h7 => ?_) (fun h7 => ?_)
      · refine z_iload_n C d_R_deepestBy_63 rfl 2 rfl ?_
        refine z_bipush (v := 12) C d_R_deepestBy_64 (by decide) ?_
        refine z_irem C d_R_deepestBy_66 (by decide) ?_
        refine z_sub [] rfl ?_
        exact hj10 _ (((if_neg h6).trans (if_neg h7))).symm
      · refine z_iload_n C d_R_deepestBy_56 rfl 2 rfl ?_
        refine z_bipush (v := 12) C d_R_deepestBy_57 (by decide) ?_
        refine z_idiv C d_R_deepestBy_59 (by decide) ?_
        refine z_goto C 67 d_R_deepestBy_60 (by decide) ?_
        refine z_sub [] rfl ?_
        exact hj10 _ (((if_neg h6).trans (if_pos h7))).symm
    · have ha11 := ha0.1 h6
      refine z_aload_n C d_R_deepestBy_42 rfl 0 rfl ?_
      refine gf_R_70 C d_R_deepestBy_43 ?_
      refine z_iload_n C d_R_deepestBy_46 rfl 2 rfl ?_
      have hv8 := ha11
      refine z_al (zar_r21) C hv8 d_R_deepestBy_47 ?_
      refine z_goto C 67 d_R_deepestBy_48 (by decide) ?_
      refine z_sub [] rfl ?_
      exact hj10 _ ((if_pos h6)).symm
  · replace hw := hw.2 h5
    refine z_aload_n C d_R_deepestBy_11 rfl 0 rfl ?_
    refine gf_R_70 C d_R_deepestBy_12 ?_
    refine z_iload_n C d_R_deepestBy_15 rfl 3 rfl ?_
    have hv12 := hw.1
    replace hw := hw.2
    refine z_al (zar_r21) C hv12 d_R_deepestBy_16 ?_
    refine z_aload_n C d_R_deepestBy_17 rfl 0 rfl ?_
    refine gf_R_70 C d_R_deepestBy_18 ?_
    refine z_iload_n C d_R_deepestBy_21 rfl 2 rfl ?_
    have hv13 := hw.1
    replace hw := hw.2
    refine z_al (zar_r21) C hv13 d_R_deepestBy_22 ?_
    have hj16 : ∀ u15 : Int32, u15 = (if (M 21 (tn i4)) ≤ (M 21 (tn i3)) then i3 else i4) → Zj X 4 (oR g) M 31 [(0, .ref (ax g 0)), (1, .int a1), (3, .int i4)] [.int u15] := by
      intro u15 hu15
      replace hw := hw u15 hu15
      refine z_istore_n (lv' := [(2, .int u15), (0, .ref (ax g 0)), (1, .int a1), (3, .int i4)]) C d_R_deepestBy_31 rfl rfl rfl ?_
      refine z_iinc (v := (i4 + 1)) (lv' := [(3, .int (i4 + 1)), (2, .int u15), (0, .ref (ax g 0)), (1, .int a1)]) C d_R_deepestBy_32 3 rfl rfl rfl rfl ?_
      refine z_goto C 4 d_R_deepestBy_35 (by decide) ?_
      refine z_sub [2, 3, 1, 0] rfl ?_
      exact ih2 _ _ hw
    refine z_ic_le C 30 d_R_deepestBy_23 (by decide) (fun h14 => ?_) (fun h14 => ?_)
    · refine z_iload_n C d_R_deepestBy_30 rfl 2 rfl ?_
      refine z_sub [0, 1, 3] rfl ?_
      exact hj16 _ ((if_pos h14)).symm
    · refine z_iload_n C d_R_deepestBy_26 rfl 3 rfl ?_
      refine z_goto C 31 d_R_deepestBy_27 (by decide) ?_
      refine z_sub [0, 1, 3] rfl ?_
      exact hj16 _ ((if_neg h14)).symm
theorem d_R_manyOver_0 : decode prog_8_method_70_code 0 = .ok (.iconst 0, 1) := by decide +kernel
theorem d_R_manyOver_1 : decode prog_8_method_70_code 1 = .ok (.istore_n 1, 1) := by decide +kernel
theorem d_R_manyOver_2 : decode prog_8_method_70_code 2 = .ok (.iconst 0, 1) := by decide +kernel
theorem d_R_manyOver_3 : decode prog_8_method_70_code 3 = .ok (.istore_n 2, 1) := by decide +kernel
theorem d_R_manyOver_4 : decode prog_8_method_70_code 4 = .ok (.iload_n 2, 1) := by decide +kernel
theorem d_R_manyOver_5 : decode prog_8_method_70_code 5 = .ok (.aload_n 0, 1) := by decide +kernel
theorem d_R_manyOver_6 : decode prog_8_method_70_code 6 = .ok (.getfield 152, 3) := by decide +kernel
theorem d_R_manyOver_9 : decode prog_8_method_70_code 9 = .ok (.if_icmp .ge (27), 3) := by decide +kernel
theorem d_R_manyOver_12 : decode prog_8_method_70_code 12 = .ok (.iload_n 1, 1) := by decide +kernel
theorem d_R_manyOver_13 : decode prog_8_method_70_code 13 = .ok (.aload_n 0, 1) := by decide +kernel
theorem d_R_manyOver_14 : decode prog_8_method_70_code 14 = .ok (.getfield 64, 3) := by decide +kernel
theorem d_R_manyOver_17 : decode prog_8_method_70_code 17 = .ok (.iload_n 2, 1) := by decide +kernel
theorem d_R_manyOver_18 : decode prog_8_method_70_code 18 = .ok (.iaload, 1) := by decide +kernel
theorem d_R_manyOver_19 : decode prog_8_method_70_code 19 = .ok (.iconst (-1), 1) := by decide +kernel
theorem d_R_manyOver_20 : decode prog_8_method_70_code 20 = .ok (.if_icmp .eq (7), 3) := by decide +kernel
theorem d_R_manyOver_23 : decode prog_8_method_70_code 23 = .ok (.iconst 1, 1) := by decide +kernel
theorem d_R_manyOver_24 : decode prog_8_method_70_code 24 = .ok (.goto (4), 3) := by decide +kernel
theorem d_R_manyOver_27 : decode prog_8_method_70_code 27 = .ok (.iconst 0, 1) := by decide +kernel
theorem d_R_manyOver_28 : decode prog_8_method_70_code 28 = .ok (.iadd, 1) := by decide +kernel
theorem d_R_manyOver_29 : decode prog_8_method_70_code 29 = .ok (.istore_n 1, 1) := by decide +kernel
theorem d_R_manyOver_30 : decode prog_8_method_70_code 30 = .ok (.iinc 2 1, 3) := by decide +kernel
theorem d_R_manyOver_33 : decode prog_8_method_70_code 33 = .ok (.goto (-29), 3) := by decide +kernel
theorem d_R_manyOver_36 : decode prog_8_method_70_code 36 = .ok (.iload_n 1, 1) := by decide +kernel
theorem d_R_manyOver_37 : decode prog_8_method_70_code 37 = .ok (.ireturn, 1) := by decide +kernel
def wp_R_manyOver (M : Mem) (post : Int32 → Prop) : Prop :=
  (it2 (fun rec1 (i3 : Int32) (i4 : Int32) => ((((M 0 11) ≤ i4) → post i3) ∧ (¬ ((M 0 11) ≤ i4) → vp_in i4 8 ∧ ∀ u8 : Int32, u8 = (if (M 19 (tn i4)) = (-1) then 0 else 1) → rec1 (i3 + u8) (i4 + 1)))) 4096 0 0)
set_option maxHeartbeats 4000000 in
set_option maxRecDepth 100000 in
theorem c_R_manyOver (g : GX) {M : Mem} {post : Int32 → Prop} (hw : wp_R_manyOver M post) : CtI (oR g) y_R_manyOver prog_8_method_70_code 3 (some .int) (rl 0) [.ref (ax g 0)] M (fun r M2 => M = M2 ∧ post r) := by
  refine z_metI (oR_ok g) (by decide) rfl (fun X C hr => ?_)
  show Zj X 3 (oR g) M 0 [(0, .ref (ax g 0))] []
  unfold wp_R_manyOver at hw
  refine z_iconst (v := 0) C d_R_manyOver_0 (by decide) ?_
  refine z_istore_n (lv' := [(1, .int 0), (0, .ref (ax g 0))]) C d_R_manyOver_1 rfl rfl rfl ?_
  refine z_iconst (v := 0) C d_R_manyOver_2 (by decide) ?_
  refine z_istore_n (lv' := [(2, .int 0), (1, .int 0), (0, .ref (ax g 0))]) C d_R_manyOver_3 rfl rfl rfl ?_
  refine z_sub [2, 1, 0] rfl ?_
  refine it2_Z (Z := fun (i3 : Int32) (i4 : Int32) => Zj X 3 (oR g) M 4 [(0, .ref (ax g 0)), (1, .int i3), (2, .int i4)] []) (fun rec1 ih2 i3 i4 hw => ?_) _ _ _ hw
  refine z_iload_n C d_R_manyOver_4 rfl 2 rfl ?_
  refine z_aload_n C d_R_manyOver_5 rfl 0 rfl ?_
  refine gf_R_152 C d_R_manyOver_6 ?_
  refine z_ic_ge C 36 d_R_manyOver_9 (by decide) (fun h5 => ?_) (fun h5 => ?_)
  · replace hw := hw.1 h5
    refine z_iload_n C d_R_manyOver_36 rfl 1 rfl ?_
    exact z_iret C hr ⟨rfl, hw⟩ d_R_manyOver_37
  · replace hw := hw.2 h5
    refine z_iload_n C d_R_manyOver_12 rfl 1 rfl ?_
    refine z_aload_n C d_R_manyOver_13 rfl 0 rfl ?_
    refine gf_R_64 C d_R_manyOver_14 ?_
    refine z_iload_n C d_R_manyOver_17 rfl 2 rfl ?_
    have hv6 := hw.1
    replace hw := hw.2
    refine z_al (zar_r19) C hv6 d_R_manyOver_18 ?_
    refine z_iconst (v := (-1)) C d_R_manyOver_19 (by decide) ?_
    have hj9 : ∀ u8 : Int32, u8 = (if (M 19 (tn i4)) = (-1) then 0 else 1) → Zj X 3 (oR g) M 28 [(0, .ref (ax g 0)), (2, .int i4)] [.int u8, .int i3] := by
      intro u8 hu8
      replace hw := hw u8 hu8
      refine z_iadd C d_R_manyOver_28 ?_
      refine z_istore_n (lv' := [(1, .int (i3 + u8)), (0, .ref (ax g 0)), (2, .int i4)]) C d_R_manyOver_29 rfl rfl rfl ?_
      refine z_iinc (v := (i4 + 1)) (lv' := [(2, .int (i4 + 1)), (1, .int (i3 + u8)), (0, .ref (ax g 0))]) C d_R_manyOver_30 2 rfl rfl rfl rfl ?_
      refine z_goto C 4 d_R_manyOver_33 (by decide) ?_
      refine z_sub [2, 1, 0] rfl ?_
      exact ih2 _ _ hw
    refine z_ic_eq C 27 d_R_manyOver_20 (by decide) (fun h7 => ?_) (fun h7 => ?_)
    · refine z_iconst (v := 0) C d_R_manyOver_27 (by decide) ?_
      refine z_sub [0, 2] rfl ?_
      exact hj9 _ ((if_pos h7)).symm
    · refine z_iconst (v := 1) C d_R_manyOver_23 (by decide) ?_
      refine z_goto C 28 d_R_manyOver_24 (by decide) ?_
      refine z_sub [0, 2] rfl ?_
      exact hj9 _ ((if_neg h7)).symm
theorem d_R_forget_0 : decode prog_8_method_81_code 0 = .ok (.aload_n 0, 1) := by decide +kernel
theorem d_R_forget_1 : decode prog_8_method_81_code 1 = .ok (.getfield 281, 3) := by decide +kernel
theorem d_R_forget_4 : decode prog_8_method_81_code 4 = .ok (.istore_n 1, 1) := by decide +kernel
theorem d_R_forget_5 : decode prog_8_method_81_code 5 = .ok (.aload_n 0, 1) := by decide +kernel
theorem d_R_forget_6 : decode prog_8_method_81_code 6 = .ok (.iconst 0, 1) := by decide +kernel
theorem d_R_forget_7 : decode prog_8_method_81_code 7 = .ok (.putfield 281, 3) := by decide +kernel
theorem d_R_forget_10 : decode prog_8_method_81_code 10 = .ok (.iload_n 1, 1) := by decide +kernel
theorem d_R_forget_11 : decode prog_8_method_81_code 11 = .ok (.ireturn, 1) := by decide +kernel
def wp_R_forget (M : Mem) (post : Int32 → Mem → Prop) : Prop :=
  ∀ M1 : Mem, M1 = upm M 0 31 0 → post (M 0 31) M1
set_option maxHeartbeats 4000000 in
set_option maxRecDepth 100000 in
theorem c_R_forget (g : GX) {M : Mem} {post : Int32 → Mem → Prop} (hw : wp_R_forget M post) : CtI (oR g) y_R_forget prog_8_method_81_code 2 (some .int) (rl 0) [.ref (ax g 0)] M post := by
  refine z_metI (oR_ok g) (by decide) rfl (fun X C hr => ?_)
  show Zj X 2 (oR g) M 0 [(0, .ref (ax g 0))] []
  unfold wp_R_forget at hw
  refine z_aload_n C d_R_forget_0 rfl 0 rfl ?_
  refine gf_R_281 C d_R_forget_1 ?_
  refine z_istore_n (lv' := [(1, .int (M 0 31)), (0, .ref (ax g 0))]) C d_R_forget_4 rfl rfl rfl ?_
  refine z_aload_n C d_R_forget_5 rfl 1 rfl ?_
  refine z_iconst (v := 0) C d_R_forget_6 (by decide) ?_
  refine pp_R_281 C d_R_forget_7 (fun M1 hM1 => ?_)
  replace hw := hw M1 hM1
  refine z_iload_n C d_R_forget_10 rfl 0 rfl ?_
  exact z_iret C hr hw d_R_forget_11
