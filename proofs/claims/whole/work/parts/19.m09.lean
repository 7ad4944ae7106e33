theorem d_XW_ploughsGo_0 : decode prog_6_method_8_code 0 = .ok (.iconst 0, 1) := by decide +kernel
theorem d_XW_ploughsGo_1 : decode prog_6_method_8_code 1 = .ok (.istore_n 3, 1) := by decide +kernel
theorem d_XW_ploughsGo_2 : decode prog_6_method_8_code 2 = .ok (.iload_n 3, 1) := by decide +kernel
theorem d_XW_ploughsGo_3 : decode prog_6_method_8_code 3 = .ok (.aload_n 1, 1) := by decide +kernel
theorem d_XW_ploughsGo_4 : decode prog_6_method_8_code 4 = .ok (.getfield 64, 3) := by decide +kernel
theorem d_XW_ploughsGo_7 : decode prog_6_method_8_code 7 = .ok (.if_icmp .ge (93), 3) := by decide +kernel
theorem d_XW_ploughsGo_10 : decode prog_6_method_8_code 10 = .ok (.aload_n 0, 1) := by decide +kernel
theorem d_XW_ploughsGo_11 : decode prog_6_method_8_code 11 = .ok (.getfield 33, 3) := by decide +kernel
theorem d_XW_ploughsGo_14 : decode prog_6_method_8_code 14 = .ok (.iload_n 2, 1) := by decide +kernel
theorem d_XW_ploughsGo_15 : decode prog_6_method_8_code 15 = .ok (.iaload, 1) := by decide +kernel
theorem d_XW_ploughsGo_16 : decode prog_6_method_8_code 16 = .ok (.iload_n 3, 1) := by decide +kernel
theorem d_XW_ploughsGo_17 : decode prog_6_method_8_code 17 = .ok (.ishr, 1) := by decide +kernel
theorem d_XW_ploughsGo_18 : decode prog_6_method_8_code 18 = .ok (.iconst 1, 1) := by decide +kernel
theorem d_XW_ploughsGo_19 : decode prog_6_method_8_code 19 = .ok (.iand, 1) := by decide +kernel
theorem d_XW_ploughsGo_20 : decode prog_6_method_8_code 20 = .ok (.iconst 1, 1) := by decide +kernel
theorem d_XW_ploughsGo_21 : decode prog_6_method_8_code 21 = .ok (.if_icmp .ne (7), 3) := by decide +kernel
theorem d_XW_ploughsGo_24 : decode prog_6_method_8_code 24 = .ok (.iconst 0, 1) := by decide +kernel
theorem d_XW_ploughsGo_25 : decode prog_6_method_8_code 25 = .ok (.goto (14), 3) := by decide +kernel
theorem d_XW_ploughsGo_28 : decode prog_6_method_8_code 28 = .ok (.aload_n 0, 1) := by decide +kernel
theorem d_XW_ploughsGo_29 : decode prog_6_method_8_code 29 = .ok (.iload_n 3, 1) := by decide +kernel
theorem d_XW_ploughsGo_30 : decode prog_6_method_8_code 30 = .ok (.aload_n 1, 1) := by decide +kernel
theorem d_XW_ploughsGo_31 : decode prog_6_method_8_code 31 = .ok (.getfield 123, 3) := by decide +kernel
theorem d_XW_ploughsGo_34 : decode prog_6_method_8_code 34 = .ok (.iload_n 3, 1) := by decide +kernel
theorem d_XW_ploughsGo_35 : decode prog_6_method_8_code 35 = .ok (.iaload, 1) := by decide +kernel
theorem d_XW_ploughsGo_36 : decode prog_6_method_8_code 36 = .ok (.invokevirtual 126, 3) := by decide +kernel
theorem d_XW_ploughsGo_39 : decode prog_6_method_8_code 39 = .ok (.istore 4, 2) := by decide +kernel
theorem d_XW_ploughsGo_41 : decode prog_6_method_8_code 41 = .ok (.aload_n 0, 1) := by decide +kernel
theorem d_XW_ploughsGo_42 : decode prog_6_method_8_code 42 = .ok (.getfield 24, 3) := by decide +kernel
theorem d_XW_ploughsGo_45 : decode prog_6_method_8_code 45 = .ok (.iload_n 3, 1) := by decide +kernel
theorem d_XW_ploughsGo_46 : decode prog_6_method_8_code 46 = .ok (.dup2, 1) := by decide +kernel
theorem d_XW_ploughsGo_47 : decode prog_6_method_8_code 47 = .ok (.iaload, 1) := by decide +kernel
theorem d_XW_ploughsGo_48 : decode prog_6_method_8_code 48 = .ok (.iload 4, 2) := by decide +kernel
theorem d_XW_ploughsGo_50 : decode prog_6_method_8_code 50 = .ok (.iadd, 1) := by decide +kernel
theorem d_XW_ploughsGo_51 : decode prog_6_method_8_code 51 = .ok (.iastore, 1) := by decide +kernel
theorem d_XW_ploughsGo_52 : decode prog_6_method_8_code 52 = .ok (.iload_n 2, 1) := by decide +kernel
theorem d_XW_ploughsGo_53 : decode prog_6_method_8_code 53 = .ok (.iconst 4, 1) := by decide +kernel
theorem d_XW_ploughsGo_54 : decode prog_6_method_8_code 54 = .ok (.imul, 1) := by decide +kernel
theorem d_XW_ploughsGo_55 : decode prog_6_method_8_code 55 = .ok (.iload_n 3, 1) := by decide +kernel
theorem d_XW_ploughsGo_56 : decode prog_6_method_8_code 56 = .ok (.iadd, 1) := by decide +kernel
theorem d_XW_ploughsGo_57 : decode prog_6_method_8_code 57 = .ok (.istore 5, 2) := by decide +kernel
theorem d_XW_ploughsGo_59 : decode prog_6_method_8_code 59 = .ok (.aload_n 0, 1) := by decide +kernel
theorem d_XW_ploughsGo_60 : decode prog_6_method_8_code 60 = .ok (.getfield 15, 3) := by decide +kernel
theorem d_XW_ploughsGo_63 : decode prog_6_method_8_code 63 = .ok (.iload 5, 2) := by decide +kernel
theorem d_XW_ploughsGo_65 : decode prog_6_method_8_code 65 = .ok (.aload_n 0, 1) := by decide +kernel
theorem d_XW_ploughsGo_66 : decode prog_6_method_8_code 66 = .ok (.getfield 43, 3) := by decide +kernel
theorem d_XW_ploughsGo_69 : decode prog_6_method_8_code 69 = .ok (.iload_n 3, 1) := by decide +kernel
theorem d_XW_ploughsGo_70 : decode prog_6_method_8_code 70 = .ok (.iaload, 1) := by decide +kernel
theorem d_XW_ploughsGo_71 : decode prog_6_method_8_code 71 = .ok (.iastore, 1) := by decide +kernel
theorem d_XW_ploughsGo_72 : decode prog_6_method_8_code 72 = .ok (.aload_n 0, 1) := by decide +kernel
theorem d_XW_ploughsGo_73 : decode prog_6_method_8_code 73 = .ok (.getfield 18, 3) := by decide +kernel
theorem d_XW_ploughsGo_76 : decode prog_6_method_8_code 76 = .ok (.iload 5, 2) := by decide +kernel
theorem d_XW_ploughsGo_78 : decode prog_6_method_8_code 78 = .ok (.aload_n 0, 1) := by decide +kernel
theorem d_XW_ploughsGo_79 : decode prog_6_method_8_code 79 = .ok (.getfield 46, 3) := by decide +kernel
theorem d_XW_ploughsGo_82 : decode prog_6_method_8_code 82 = .ok (.iload_n 3, 1) := by decide +kernel
theorem d_XW_ploughsGo_83 : decode prog_6_method_8_code 83 = .ok (.iaload, 1) := by decide +kernel
theorem d_XW_ploughsGo_84 : decode prog_6_method_8_code 84 = .ok (.iastore, 1) := by decide +kernel
theorem d_XW_ploughsGo_85 : decode prog_6_method_8_code 85 = .ok (.aload_n 0, 1) := by decide +kernel
theorem d_XW_ploughsGo_86 : decode prog_6_method_8_code 86 = .ok (.getfield 21, 3) := by decide +kernel
theorem d_XW_ploughsGo_89 : decode prog_6_method_8_code 89 = .ok (.iload 5, 2) := by decide +kernel
theorem d_XW_ploughsGo_91 : decode prog_6_method_8_code 91 = .ok (.iload 4, 2) := by decide +kernel
theorem d_XW_ploughsGo_93 : decode prog_6_method_8_code 93 = .ok (.iastore, 1) := by decide +kernel
theorem d_XW_ploughsGo_94 : decode prog_6_method_8_code 94 = .ok (.iinc 3 1, 3) := by decide +kernel
theorem d_XW_ploughsGo_97 : decode prog_6_method_8_code 97 = .ok (.goto (-95), 3) := by decide +kernel
theorem d_XW_ploughsGo_100 : decode prog_6_method_8_code 100 = .ok (.return_, 1) := by decide +kernel
def wp_XW_ploughsGo (c1 : Nat) (a2 : Int32) (M : Mem) (post : Mem → Prop) : Prop :=
  (it2 (fun rec1 (i3 : Int32) (M4 : Mem) => ((((M4 10 2) ≤ i3) → post M4) ∧ (¬ ((M4 10 2) ≤ i3) → vp_in a2 24 ∧ ((((((M4 (c1 + 8) (tn a2)) >>> (i3 &&& 31)) &&& 1) = 1) → vp_in i3 4 ∧ ∀ M18 : Mem, M18 = upm M4 (c1 + 5) (tn i3) ((M4 (c1 + 5) (tn i3)) + 0) → ∀ x19 : Int32, x19 = ((a2 * 4) + i3) → vp_in x19 96 ∧ ∀ M20 : Mem, M20 = upm M18 (c1 + 2) (tn x19) (M18 (c1 + 10) (tn i3)) → ∀ M22 : Mem, M22 = upm M20 (c1 + 3) (tn x19) (M20 (c1 + 11) (tn i3)) → ∀ M23 : Mem, M23 = upm M22 (c1 + 4) (tn x19) 0 → rec1 (i3 + 1) M23) ∧ (¬ ((((M4 (c1 + 8) (tn a2)) >>> (i3 &&& 31)) &&& 1) = 1) → vp_in i3 4 ∧ wp_XW_ploughGoes c1 i3 (M4 14 (tn i3)) M4 (fun r10 M9 => ∀ M11 : Mem, M11 = upm M9 (c1 + 5) (tn i3) ((M9 (c1 + 5) (tn i3)) + r10) → ∀ x12 : Int32, x12 = ((a2 * 4) + i3) → vp_in x12 96 ∧ ∀ M13 : Mem, M13 = upm M11 (c1 + 2) (tn x12) (M11 (c1 + 10) (tn i3)) → ∀ M15 : Mem, M15 = upm M13 (c1 + 3) (tn x12) (M13 (c1 + 11) (tn i3)) → ∀ M16 : Mem, M16 = upm M15 (c1 + 4) (tn x12) r10 → rec1 (i3 + 1) M16)))))) 4096 0 M)
set_option maxHeartbeats 4000000 in
set_option maxRecDepth 100000 in
theorem c_XW_ploughsGo (g : GX) {c1 : Nat} {a2 : Int32} {M : Mem} {post : Mem → Prop} (hc1 : c1 = 32 ∨ c1 = 44) (hw : wp_XW_ploughsGo c1 a2 M post) : CtV (oX g) y_XW_ploughsGo prog_6_method_8_code 6 none (rl 1) [.ref (ax g c1), .ref (ax g 10), .int a2] M post := by
  refine z_metV (oX_ok g) (by decide) rfl (fun X C hr => ?_)
  show Zj X 6 (oX g) M 0 [(0, .ref (ax g c1)), (1, .ref (ax g 10)), (2, .int a2)] []
  unfold wp_XW_ploughsGo at hw
  refine z_iconst (v := 0) C d_XW_ploughsGo_0 (by decide) ?_
  refine z_istore_n (lv' := [(3, .int 0), (0, .ref (ax g c1)), (1, .ref (ax g 10)), (2, .int a2)]) C d_XW_ploughsGo_1 rfl rfl rfl ?_
  refine z_sub [1, 2, 3, 0] rfl ?_
  refine it2_Z (Z := fun (i3 : Int32) (M4 : Mem) => Zj X 6 (oX g) M4 2 [(0, .ref (ax g c1)), (1, .ref (ax g 10)), (2, .int a2), (3, .int i3)] []) (fun rec1 ih2 i3 M4 hw => ?_) _ _ _ hw
  refine z_iload_n C d_XW_ploughsGo_2 rfl 3 rfl ?_
  refine z_aload_n C d_XW_ploughsGo_3 rfl 1 rfl ?_
  refine gf_XW_64 C d_XW_ploughsGo_4 ?_
  refine z_ic_ge C 100 d_XW_ploughsGo_7 (by decide) (fun h5 => ?_) (fun h5 => ?_)
  · replace hw := hw.1 h5
    exact z_vret C hr hw d_XW_ploughsGo_100
  · replace hw := hw.2 h5
    refine z_aload_n C d_XW_ploughsGo_10 rfl 0 rfl ?_
    refine gf_XW_33 hc1 C d_XW_ploughsGo_11 ?_
    refine z_iload_n C d_XW_ploughsGo_14 rfl 2 rfl ?_
    have hv6 := hw.1
    replace hw := hw.2
    refine z_al (zar_xW8 hc1) C hv6 d_XW_ploughsGo_15 ?_
    refine z_iload_n C d_XW_ploughsGo_16 rfl 3 rfl ?_
    refine z_ishr C d_XW_ploughsGo_17 ?_
    refine z_iconst (v := 1) C d_XW_ploughsGo_18 (by decide) ?_
    refine z_iand C d_XW_ploughsGo_19 ?_
    refine z_iconst (v := 1) C d_XW_ploughsGo_20 (by decide) ?_
    refine z_ic_ne C 28 d_XW_ploughsGo_21 (by decide) (fun h7 => ?_) (fun h7 => ?_)
    · replace hw := hw.2 h7
      refine z_aload_n C d_XW_ploughsGo_28 rfl 0 rfl ?_
      refine z_iload_n C d_XW_ploughsGo_29 rfl 3 rfl ?_
      refine z_aload_n C d_XW_ploughsGo_30 rfl 1 rfl ?_
      refine gf_XW_123 C d_XW_ploughsGo_31 ?_
      refine z_iload_n C d_XW_ploughsGo_34 rfl 3 rfl ?_
      have hv8 := hw.1
      replace hw := hw.2
      refine z_al (zar_x14) C hv8 d_XW_ploughsGo_35 ?_
      refine z_callVi C (As := [.int i3, .int (M4 14 (tn i3))]) (rest := []) m_XW_ploughGoes tw_397 c1 (le_XW hc1) rfl ⟨rfl, rfl⟩ (c_XW_ploughGoes g hc1 hw) rfl rfl rfl d_XW_ploughsGo_36 (fun r10 M9 hw => ?_)
      refine z_istore (lv' := [(4, .int r10), (0, .ref (ax g c1)), (1, .ref (ax g 10)), (2, .int a2), (3, .int i3)]) C d_XW_ploughsGo_39 rfl rfl ?_
      refine z_aload_n C d_XW_ploughsGo_41 rfl 1 rfl ?_
      refine gf_XW_24 hc1 C d_XW_ploughsGo_42 ?_
      refine z_iload_n C d_XW_ploughsGo_45 rfl 4 rfl ?_
      refine z_dup2 C d_XW_ploughsGo_46 rfl rfl ?_
      refine z_al (zar_xW5 hc1) C hv8 d_XW_ploughsGo_47 ?_
      refine z_iload C d_XW_ploughsGo_48 0 rfl ?_
      refine z_iadd C d_XW_ploughsGo_50 ?_
      refine z_as (zar_xW5 hc1) C hv8 d_XW_ploughsGo_51 (fun M11 hM11 => ?_)
      replace hw := hw M11 hM11
      refine z_iload_n C d_XW_ploughsGo_52 rfl 3 rfl ?_
      refine z_iconst (v := 4) C d_XW_ploughsGo_53 (by decide) ?_
      refine z_imul C d_XW_ploughsGo_54 ?_
      refine z_iload_n C d_XW_ploughsGo_55 rfl 4 rfl ?_
      refine z_iadd C d_XW_ploughsGo_56 ?_
      obtain ⟨x12, hx12⟩ : ∃ z : Int32, z = ((a2 * 4) + i3) := ⟨_, rfl⟩
      rw [← hx12]
      replace hw := hw x12 hx12
      refine z_istore (lv' := [(5, .int x12), (4, .int r10), (0, .ref (ax g c1)), (1, .ref (ax g 10)), (2, .int a2), (3, .int i3)]) C d_XW_ploughsGo_57 rfl rfl ?_
      refine z_aload_n C d_XW_ploughsGo_59 rfl 2 rfl ?_
      refine gf_XW_15 hc1 C d_XW_ploughsGo_60 ?_
      refine z_iload C d_XW_ploughsGo_63 0 rfl ?_
      refine z_aload_n C d_XW_ploughsGo_65 rfl 2 rfl ?_
      refine gf_XW_43 hc1 C d_XW_ploughsGo_66 ?_
      refine z_iload_n C d_XW_ploughsGo_69 rfl 5 rfl ?_
      refine z_al (zar_xW10 hc1) C hv8 d_XW_ploughsGo_70 ?_
      have hv14 := hw.1
      refine z_as (zar_xW2 hc1) C hv14 d_XW_ploughsGo_71 (fun M13 hM13 => ?_)
      replace hw := hw.2 M13 hM13
      refine z_aload_n C d_XW_ploughsGo_72 rfl 2 rfl ?_
      refine gf_XW_18 hc1 C d_XW_ploughsGo_73 ?_
      refine z_iload C d_XW_ploughsGo_76 0 rfl ?_
      refine z_aload_n C d_XW_ploughsGo_78 rfl 2 rfl ?_
      refine gf_XW_46 hc1 C d_XW_ploughsGo_79 ?_
      refine z_iload_n C d_XW_ploughsGo_82 rfl 5 rfl ?_
      refine z_al (zar_xW11 hc1) C hv8 d_XW_ploughsGo_83 ?_
      refine z_as (zar_xW3 hc1) C hv14 d_XW_ploughsGo_84 (fun M15 hM15 => ?_)
      replace hw := hw M15 hM15
      refine z_aload_n C d_XW_ploughsGo_85 rfl 2 rfl ?_
      refine gf_XW_21 hc1 C d_XW_ploughsGo_86 ?_
      refine z_iload C d_XW_ploughsGo_89 0 rfl ?_
      refine z_iload C d_XW_ploughsGo_91 1 rfl ?_
      refine z_as (zar_xW4 hc1) C hv14 d_XW_ploughsGo_93 (fun M16 hM16 => ?_)
      replace hw := hw M16 hM16
      refine z_iinc (v := (i3 + 1)) (lv' := [(3, .int (i3 + 1)), (5, .int x12), (4, .int r10), (0, .ref (ax g c1)), (1, .ref (ax g 10)), (2, .int a2)]) C d_XW_ploughsGo_94 5 rfl rfl rfl rfl ?_
      refine z_goto C 2 d_XW_ploughsGo_97 (by decide) ?_
      refine z_sub [3, 4, 5, 0] rfl ?_
      exact ih2 _ _ hw
    · replace hw := hw.1 h7
      refine z_iconst (v := 0) C d_XW_ploughsGo_24 (by decide) ?_
      refine z_goto C 39 d_XW_ploughsGo_25 (by decide) ?_
      refine z_istore (lv' := [(4, .int 0), (0, .ref (ax g c1)), (1, .ref (ax g 10)), (2, .int a2), (3, .int i3)]) C d_XW_ploughsGo_39 rfl rfl ?_
      refine z_aload_n C d_XW_ploughsGo_41 rfl 1 rfl ?_
      refine gf_XW_24 hc1 C d_XW_ploughsGo_42 ?_
      refine z_iload_n C d_XW_ploughsGo_45 rfl 4 rfl ?_
      refine z_dup2 C d_XW_ploughsGo_46 rfl rfl ?_
      have hv17 := hw.1
      replace hw := hw.2
      refine z_al (zar_xW5 hc1) C hv17 d_XW_ploughsGo_47 ?_
      refine z_iload C d_XW_ploughsGo_48 0 rfl ?_
      refine z_iadd C d_XW_ploughsGo_50 ?_
      refine z_as (zar_xW5 hc1) C hv17 d_XW_ploughsGo_51 (fun M18 hM18 => ?_)
      replace hw := hw M18 hM18
      refine z_iload_n C d_XW_ploughsGo_52 rfl 3 rfl ?_
      refine z_iconst (v := 4) C d_XW_ploughsGo_53 (by decide) ?_
      refine z_imul C d_XW_ploughsGo_54 ?_
      refine z_iload_n C d_XW_ploughsGo_55 rfl 4 rfl ?_
      refine z_iadd C d_XW_ploughsGo_56 ?_
      obtain ⟨x19, hx19⟩ : ∃ z : Int32, z = ((a2 * 4) + i3) := ⟨_, rfl⟩
      rw [← hx19]
      replace hw := hw x19 hx19
      refine z_istore (lv' := [(5, .int x19), (4, .int 0), (0, .ref (ax g c1)), (1, .ref (ax g 10)), (2, .int a2), (3, .int i3)]) C d_XW_ploughsGo_57 rfl rfl ?_
      refine z_aload_n C d_XW_ploughsGo_59 rfl 2 rfl ?_
      refine gf_XW_15 hc1 C d_XW_ploughsGo_60 ?_
      refine z_iload C d_XW_ploughsGo_63 0 rfl ?_
      refine z_aload_n C d_XW_ploughsGo_65 rfl 2 rfl ?_
      refine gf_XW_43 hc1 C d_XW_ploughsGo_66 ?_
      refine z_iload_n C d_XW_ploughsGo_69 rfl 5 rfl ?_
      refine z_al (zar_xW10 hc1) C hv17 d_XW_ploughsGo_70 ?_
      have hv21 := hw.1
      refine z_as (zar_xW2 hc1) C hv21 d_XW_ploughsGo_71 (fun M20 hM20 => ?_)
      replace hw := hw.2 M20 hM20
      refine z_aload_n C d_XW_ploughsGo_72 rfl 2 rfl ?_
      refine gf_XW_18 hc1 C d_XW_ploughsGo_73 ?_
      refine z_iload C d_XW_ploughsGo_76 0 rfl ?_
      refine z_aload_n C d_XW_ploughsGo_78 rfl 2 rfl ?_
      refine gf_XW_46 hc1 C d_XW_ploughsGo_79 ?_
      refine z_iload_n C d_XW_ploughsGo_82 rfl 5 rfl ?_
      refine z_al (zar_xW11 hc1) C hv17 d_XW_ploughsGo_83 ?_
      refine z_as (zar_xW3 hc1) C hv21 d_XW_ploughsGo_84 (fun M22 hM22 => ?_)
      replace hw := hw M22 hM22
      refine z_aload_n C d_XW_ploughsGo_85 rfl 2 rfl ?_
      refine gf_XW_21 hc1 C d_XW_ploughsGo_86 ?_
      refine z_iload C d_XW_ploughsGo_89 0 rfl ?_
      refine z_iload C d_XW_ploughsGo_91 1 rfl ?_
      refine z_as (zar_xW4 hc1) C hv21 d_XW_ploughsGo_93 (fun M23 hM23 => ?_)
      replace hw := hw M23 hM23
      refine z_iinc (v := (i3 + 1)) (lv' := [(3, .int (i3 + 1)), (5, .int x19), (4, .int 0), (0, .ref (ax g c1)), (1, .ref (ax g 10)), (2, .int a2)]) C d_XW_ploughsGo_94 5 rfl rfl rfl rfl ?_
      refine z_goto C 2 d_XW_ploughsGo_97 (by decide) ?_
      refine z_sub [3, 4, 5, 0] rfl ?_
      exact ih2 _ _ hw
theorem d_XW_ride_0 : decode prog_6_method_10_code 0 = .ok (.aload_n 0, 1) := by decide +kernel
theorem d_XW_ride_1 : decode prog_6_method_10_code 1 = .ok (.iconst (-1), 1) := by decide +kernel
theorem d_XW_ride_2 : decode prog_6_method_10_code 2 = .ok (.putfield 49, 3) := by decide +kernel
theorem d_XW_ride_5 : decode prog_6_method_10_code 5 = .ok (.aload_n 0, 1) := by decide +kernel
theorem d_XW_ride_6 : decode prog_6_method_10_code 6 = .ok (.iconst (-1), 1) := by decide +kernel
theorem d_XW_ride_7 : decode prog_6_method_10_code 7 = .ok (.putfield 52, 3) := by decide +kernel
theorem d_XW_ride_10 : decode prog_6_method_10_code 10 = .ok (.aload_n 0, 1) := by decide +kernel
theorem d_XW_ride_11 : decode prog_6_method_10_code 11 = .ok (.iconst 0, 1) := by decide +kernel
theorem d_XW_ride_12 : decode prog_6_method_10_code 12 = .ok (.putfield 55, 3) := by decide +kernel
theorem d_XW_ride_15 : decode prog_6_method_10_code 15 = .ok (.iload_n 1, 1) := by decide +kernel
theorem d_XW_ride_16 : decode prog_6_method_10_code 16 = .ok (.istore_n 3, 1) := by decide +kernel
theorem d_XW_ride_17 : decode prog_6_method_10_code 17 = .ok (.iload_n 3, 1) := by decide +kernel
theorem d_XW_ride_18 : decode prog_6_method_10_code 18 = .ok (.iload_n 2, 1) := by decide +kernel
theorem d_XW_ride_19 : decode prog_6_method_10_code 19 = .ok (.if_icmp .gt (76), 3) := by decide +kernel
theorem d_XW_ride_22 : decode prog_6_method_10_code 22 = .ok (.aload_n 0, 1) := by decide +kernel
theorem d_XW_ride_23 : decode prog_6_method_10_code 23 = .ok (.getfield 52, 3) := by decide +kernel
theorem d_XW_ride_26 : decode prog_6_method_10_code 26 = .ok (.iconst (-1), 1) := by decide +kernel
theorem d_XW_ride_27 : decode prog_6_method_10_code 27 = .ok (.if_icmp .ne (68), 3) := by decide +kernel
theorem d_XW_ride_30 : decode prog_6_method_10_code 30 = .ok (.iload_n 3, 1) := by decide +kernel
theorem d_XW_ride_31 : decode prog_6_method_10_code 31 = .ok (.iload_n 1, 1) := by decide +kernel
theorem d_XW_ride_32 : decode prog_6_method_10_code 32 = .ok (.if_icmp .ne (7), 3) := by decide +kernel
theorem d_XW_ride_35 : decode prog_6_method_10_code 35 = .ok (.iconst 0, 1) := by decide +kernel
theorem d_XW_ride_36 : decode prog_6_method_10_code 36 = .ok (.goto (7), 3) := by decide +kernel
theorem d_XW_ride_39 : decode prog_6_method_10_code 39 = .ok (.aload_n 0, 1) := by decide +kernel
theorem d_XW_ride_40 : decode prog_6_method_10_code 40 = .ok (.getfield 49, 3) := by decide +kernel
theorem d_XW_ride_43 : decode prog_6_method_10_code 43 = .ok (.istore 4, 2) := by decide +kernel
theorem d_XW_ride_45 : decode prog_6_method_10_code 45 = .ok (.aload_n 0, 1) := by decide +kernel
theorem d_XW_ride_46 : decode prog_6_method_10_code 46 = .ok (.aload_n 0, 1) := by decide +kernel
theorem d_XW_ride_47 : decode prog_6_method_10_code 47 = .ok (.iload 4, 2) := by decide +kernel
theorem d_XW_ride_49 : decode prog_6_method_10_code 49 = .ok (.iload_n 3, 1) := by decide +kernel
theorem d_XW_ride_50 : decode prog_6_method_10_code 50 = .ok (.invokevirtual 130, 3) := by decide +kernel
theorem d_XW_ride_53 : decode prog_6_method_10_code 53 = .ok (.putfield 49, 3) := by decide +kernel
theorem d_XW_ride_56 : decode prog_6_method_10_code 56 = .ok (.aload_n 0, 1) := by decide +kernel
theorem d_XW_ride_57 : decode prog_6_method_10_code 57 = .ok (.getfield 49, 3) := by decide +kernel
theorem d_XW_ride_60 : decode prog_6_method_10_code 60 = .ok (.iload 4, 2) := by decide +kernel
theorem d_XW_ride_62 : decode prog_6_method_10_code 62 = .ok (.if_icmp .ne (13), 3) := by decide +kernel
theorem d_XW_ride_65 : decode prog_6_method_10_code 65 = .ok (.aload_n 0, 1) := by decide +kernel
theorem d_XW_ride_66 : decode prog_6_method_10_code 66 = .ok (.dup, 1) := by decide +kernel
theorem d_XW_ride_67 : decode prog_6_method_10_code 67 = .ok (.getfield 55, 3) := by decide +kernel
theorem d_XW_ride_70 : decode prog_6_method_10_code 70 = .ok (.iconst 1, 1) := by decide +kernel
theorem d_XW_ride_71 : decode prog_6_method_10_code 71 = .ok (.iadd, 1) := by decide +kernel
theorem d_XW_ride_72 : decode prog_6_method_10_code 72 = .ok (.putfield 55, 3) := by decide +kernel
theorem d_XW_ride_75 : decode prog_6_method_10_code 75 = .ok (.aload_n 0, 1) := by decide +kernel
theorem d_XW_ride_76 : decode prog_6_method_10_code 76 = .ok (.getfield 49, 3) := by decide +kernel
theorem d_XW_ride_79 : decode prog_6_method_10_code 79 = .ok (.bipush 11, 2) := by decide +kernel
theorem d_XW_ride_81 : decode prog_6_method_10_code 81 = .ok (.if_icmp .ne (8), 3) := by decide +kernel
theorem d_XW_ride_84 : decode prog_6_method_10_code 84 = .ok (.aload_n 0, 1) := by decide +kernel
theorem d_XW_ride_85 : decode prog_6_method_10_code 85 = .ok (.iload_n 3, 1) := by decide +kernel
theorem d_XW_ride_86 : decode prog_6_method_10_code 86 = .ok (.putfield 52, 3) := by decide +kernel
theorem d_XW_ride_89 : decode prog_6_method_10_code 89 = .ok (.iinc 3 1, 3) := by decide +kernel
theorem d_XW_ride_92 : decode prog_6_method_10_code 92 = .ok (.goto (-75), 3) := by decide +kernel
theorem d_XW_ride_95 : decode prog_6_method_10_code 95 = .ok (.return_, 1) := by decide +kernel
def wp_XW_ride (c1 : Nat) (a1 : Int32) (a2 : Int32) (M : Mem) (post : Mem → Prop) : Prop :=
  ∀ M1 : Mem, M1 = upm M c1 12 (-1) → ∀ M2 : Mem, M2 = upm M1 c1 13 (-1) → ∀ M3 : Mem, M3 = upm M2 c1 14 0 → (it2 (fun rec4 (i6 : Int32) (M7 : Mem) => (((a2 < i6) → post M7) ∧ (¬ (a2 < i6) → ((((M7 c1 13) = (-1)) → ∀ u11 : Int32, u11 = (if i6 = a1 then 0 else (M7 c1 12)) → wp_XW_rideOn c1 u11 i6 M7 (fun r12 => ∀ M13 : Mem, M13 = upm M7 c1 12 r12 → ((((M13 c1 12) = u11) → ∀ M17 : Mem, M17 = upm M13 c1 14 ((M13 c1 14) + 1) → ((((M17 c1 12) = 11) → ∀ M19 : Mem, M19 = upm M17 c1 13 i6 → rec4 (i6 + 1) M19) ∧ (¬ ((M17 c1 12) = 11) → rec4 (i6 + 1) M17))) ∧ (¬ ((M13 c1 12) = u11) → ((((M13 c1 12) = 11) → ∀ M16 : Mem, M16 = upm M13 c1 13 i6 → rec4 (i6 + 1) M16) ∧ (¬ ((M13 c1 12) = 11) → rec4 (i6 + 1) M13)))))) ∧ (¬ ((M7 c1 13) = (-1)) → post M7))))) 4096 a1 M3)
set_option maxHeartbeats 4000000 in
set_option maxRecDepth 100000 in
theorem c_XW_ride (g : GX) {c1 : Nat} {a1 : Int32} {a2 : Int32} {M : Mem} {post : Mem → Prop} (hc1 : c1 = 32 ∨ c1 = 44) (hw : wp_XW_ride c1 a1 a2 M post) : CtV (oX g) y_XW_ride prog_6_method_10_code 5 none (rl 1) [.ref (ax g c1), .int a1, .int a2] M post := by
  refine z_metV (oX_ok g) (by decide) rfl (fun X C hr => ?_)
  show Zj X 5 (oX g) M 0 [(0, .ref (ax g c1)), (1, .int a1), (2, .int a2)] []
  unfold wp_XW_ride at hw
  refine z_aload_n C d_XW_ride_0 rfl 0 rfl ?_
  refine z_iconst (v := (-1)) C d_XW_ride_1 (by decide) ?_
  refine pp_XW_49 hc1 C d_XW_ride_2 (fun M1 hM1 => ?_)
  replace hw := hw M1 hM1
  refine z_aload_n C d_XW_ride_5 rfl 0 rfl ?_
  refine z_iconst (v := (-1)) C d_XW_ride_6 (by decide) ?_
  refine pp_XW_52 hc1 C d_XW_ride_7 (fun M2 hM2 => ?_)
  replace hw := hw M2 hM2
  refine z_aload_n C d_XW_ride_10 rfl 0 rfl ?_
  refine z_iconst (v := 0) C d_XW_ride_11 (by decide) ?_
  refine pp_XW_55 hc1 C d_XW_ride_12 (fun M3 hM3 => ?_)
  replace hw := hw M3 hM3
  refine z_iload_n C d_XW_ride_15 rfl 1 rfl ?_
  refine z_istore_n (lv' := [(3, .int a1), (0, .ref (ax g c1)), (1, .int a1), (2, .int a2)]) C d_XW_ride_16 rfl rfl rfl ?_
  refine z_sub [1, 2, 3, 0] rfl ?_
  refine it2_Z (Z := fun (i6 : Int32) (M7 : Mem) => Zj X 5 (oX g) M7 17 [(0, .ref (ax g c1)), (1, .int a1), (2, .int a2), (3, .int i6)] []) (fun rec4 ih5 i6 M7 hw => ?_) _ _ _ hw
  refine z_iload_n C d_XW_ride_17 rfl 3 rfl ?_
  refine z_iload_n C d_XW_ride_18 rfl 2 rfl ?_
  refine z_ic_gt C 95 d_XW_ride_19 (by decide) (fun h8 => ?_) (fun h8 => ?_)
  · replace hw := hw.1 h8
    exact z_vret C hr hw d_XW_ride_95
  · replace hw := hw.2 h8
    refine z_aload_n C d_XW_ride_22 rfl 0 rfl ?_
    refine gf_XW_52 hc1 C d_XW_ride_23 ?_
    refine z_iconst (v := (-1)) C d_XW_ride_26 (by decide) ?_
    refine z_ic_ne C 95 d_XW_ride_27 (by decide) (fun h9 => ?_) (fun h9 => ?_)
    · replace hw := hw.2 h9
      exact z_vret C hr hw d_XW_ride_95
    · replace hw := hw.1 h9
      refine z_iload_n C d_XW_ride_30 rfl 3 rfl ?_
      refine z_iload_n C d_XW_ride_31 rfl 1 rfl ?_
      have hj20 : ∀ u11 : Int32, u11 = (if i6 = a1 then 0 else (M7 c1 12)) → Zj X 5 (oX g) M7 43 [(0, .ref (ax g c1)), (1, .int a1), (2, .int a2), (3, .int i6)] [.int u11] := by
        intro u11 hu11
        replace hw := hw u11 hu11
        refine z_istore (lv' := [(4, .int u11), (0, .ref (ax g c1)), (1, .int a1), (2, .int a2), (3, .int i6)]) C d_XW_ride_43 rfl rfl ?_
        refine z_aload_n C d_XW_ride_45 rfl 1 rfl ?_
        refine z_aload_n C d_XW_ride_46 rfl 1 rfl ?_
        refine z_iload C d_XW_ride_47 0 rfl ?_
        refine z_iload_n C d_XW_ride_49 rfl 4 rfl ?_
        refine z_callVi C (As := [.int u11, .int i6]) (rest := [.ref (ax g c1)]) m_XW_rideOn tw_416 c1 (le_XW hc1) rfl ⟨rfl, rfl⟩ (c_XW_rideOn g hc1 hw) rfl rfl rfl d_XW_ride_50 (fun r12 M2 hq => ?_)
        obtain ⟨rfl, hw⟩ := hq
        refine pp_XW_49 hc1 C d_XW_ride_53 (fun M13 hM13 => ?_)
        replace hw := hw M13 hM13
        refine z_aload_n C d_XW_ride_56 rfl 1 rfl ?_
        refine gf_XW_49 hc1 C d_XW_ride_57 ?_
        refine z_iload C d_XW_ride_60 0 rfl ?_
        refine z_ic_ne C 75 d_XW_ride_62 (by decide) (fun h14 => ?_) (fun h14 => ?_)
        · replace hw := hw.2 h14
          refine z_aload_n C d_XW_ride_75 rfl 1 rfl ?_
          refine gf_XW_49 hc1 C d_XW_ride_76 ?_
          refine z_bipush (v := 11) C d_XW_ride_79 (by decide) ?_
          refine z_ic_ne C 89 d_XW_ride_81 (by decide) (fun h15 => ?_) (fun h15 => ?_)
          · replace hw := hw.2 h15
            refine z_iinc (v := (i6 + 1)) (lv' := [(3, .int (i6 + 1)), (4, .int u11), (0, .ref (ax g c1)), (1, .int a1), (2, .int a2)]) C d_XW_ride_89 4 rfl rfl rfl rfl ?_
            refine z_goto C 17 d_XW_ride_92 (by decide) ?_
            refine z_sub [2, 3, 4, 0] rfl ?_
            exact ih5 _ _ hw
          · replace hw := hw.1 h15
            refine z_aload_n C d_XW_ride_84 rfl 1 rfl ?_
            refine z_iload_n C d_XW_ride_85 rfl 4 rfl ?_
            refine pp_XW_52 hc1 C d_XW_ride_86 (fun M16 hM16 => ?_)
            replace hw := hw M16 hM16
            refine z_iinc (v := (i6 + 1)) (lv' := [(3, .int (i6 + 1)), (4, .int u11), (0, .ref (ax g c1)), (1, .int a1), (2, .int a2)]) C d_XW_ride_89 4 rfl rfl rfl rfl ?_
            refine z_goto C 17 d_XW_ride_92 (by decide) ?_
            refine z_sub [2, 3, 4, 0] rfl ?_
            exact ih5 _ _ hw
        · replace hw := hw.1 h14
          refine z_aload_n C d_XW_ride_65 rfl 1 rfl ?_
          refine z_dup C d_XW_ride_66 rfl ?_
          refine gf_XW_55 hc1 C d_XW_ride_67 ?_
          refine z_iconst (v := 1) C d_XW_ride_70 (by decide) ?_
          refine z_iadd C d_XW_ride_71 ?_
          refine pp_XW_55 hc1 C d_XW_ride_72 (fun M17 hM17 => ?_)
          replace hw := hw M17 hM17
          refine z_aload_n C d_XW_ride_75 rfl 1 rfl ?_
          refine gf_XW_49 hc1 C d_XW_ride_76 ?_
          refine z_bipush (v := 11) C d_XW_ride_79 (by decide) ?_
          refine z_ic_ne C 89 d_XW_ride_81 (by decide) (fun h18 => ?_) (fun h18 => ?_)
          · replace hw := hw.2 h18
            refine z_iinc (v := (i6 + 1)) (lv' := [(3, .int (i6 + 1)), (4, .int u11), (0, .ref (ax g c1)), (1, .int a1), (2, .int a2)]) C d_XW_ride_89 4 rfl rfl rfl rfl ?_
            refine z_goto C 17 d_XW_ride_92 (by decide) ?_
            refine z_sub [2, 3, 4, 0] rfl ?_
            exact ih5 _ _ hw
          · replace hw := hw.1 h18
            refine z_aload_n C d_XW_ride_84 rfl 1 rfl ?_
            refine z_iload_n C d_XW_ride_85 rfl 4 rfl ?_
            refine pp_XW_52 hc1 C d_XW_ride_86 (fun M19 hM19 => ?_)
            replace hw := hw M19 hM19
            refine z_iinc (v := (i6 + 1)) (lv' := [(3, .int (i6 + 1)), (4, .int u11), (0, .ref (ax g c1)), (1, .int a1), (2, .int a2)]) C d_XW_ride_89 4 rfl rfl rfl rfl ?_
            refine z_goto C 17 d_XW_ride_92 (by decide) ?_
            refine z_sub [2, 3, 4, 0] rfl ?_
            exact ih5 _ _ hw
      refine z_ic_ne C 39 d_XW_ride_32 (by decide) (fun h10 => ?_) (fun h10 => ?_)
      · refine z_aload_n C d_XW_ride_39 rfl 0 rfl ?_
        refine gf_XW_49 hc1 C d_XW_ride_40 ?_
        refine z_sub [0, 1, 2, 3] rfl ?_
        exact hj20 _ ((if_neg h10)).symm
      · refine z_iconst (v := 0) C d_XW_ride_35 (by decide) ?_
        refine z_goto C 43 d_XW_ride_36 (by decide) ?_
        refine z_sub [0, 1, 2, 3] rfl ?_
        exact hj20 _ ((if_pos h10)).symm
theorem d_X_event_0 : decode prog_1_method_11_code 0 = .ok (.iload_n 1, 1) := by decide +kernel
theorem d_X_event_1 : decode prog_1_method_11_code 1 = .ok (.iload_n 2, 1) := by decide +kernel
theorem d_X_event_2 : decode prog_1_method_11_code 2 = .ok (.iload_n 3, 1) := by decide +kernel
theorem d_X_event_3 : decode prog_1_method_11_code 3 = .ok (.invokestatic 118, 3) := by decide +kernel
theorem d_X_event_6 : decode prog_1_method_11_code 6 = .ok (.ifCond .ne (6), 3) := by decide +kernel
theorem d_X_event_9 : decode prog_1_method_11_code 9 = .ok (.bipush (-2), 2) := by decide +kernel
theorem d_X_event_11 : decode prog_1_method_11_code 11 = .ok (.ireturn, 1) := by decide +kernel
theorem d_X_event_12 : decode prog_1_method_11_code 12 = .ok (.aload_n 0, 1) := by decide +kernel
theorem d_X_event_13 : decode prog_1_method_11_code 13 = .ok (.getfield 18, 3) := by decide +kernel
theorem d_X_event_16 : decode prog_1_method_11_code 16 = .ok (.iload_n 1, 1) := by decide +kernel
theorem d_X_event_17 : decode prog_1_method_11_code 17 = .ok (.iload_n 2, 1) := by decide +kernel
theorem d_X_event_18 : decode prog_1_method_11_code 18 = .ok (.iload_n 3, 1) := by decide +kernel
theorem d_X_event_19 : decode prog_1_method_11_code 19 = .ok (.invokevirtual 122, 3) := by decide +kernel
theorem d_X_event_22 : decode prog_1_method_11_code 22 = .ok (.ifCond .ne (6), 3) := by decide +kernel
theorem d_X_event_25 : decode prog_1_method_11_code 25 = .ok (.bipush (-4), 2) := by decide +kernel
theorem d_X_event_27 : decode prog_1_method_11_code 27 = .ok (.ireturn, 1) := by decide +kernel
theorem d_X_event_28 : decode prog_1_method_11_code 28 = .ok (.aload_n 0, 1) := by decide +kernel
theorem d_X_event_29 : decode prog_1_method_11_code 29 = .ok (.invokevirtual 115, 3) := by decide +kernel
theorem d_X_event_32 : decode prog_1_method_11_code 32 = .ok (.aload_n 0, 1) := by decide +kernel
theorem d_X_event_33 : decode prog_1_method_11_code 33 = .ok (.getfield 18, 3) := by decide +kernel
theorem d_X_event_36 : decode prog_1_method_11_code 36 = .ok (.getfield 125, 3) := by decide +kernel
theorem d_X_event_39 : decode prog_1_method_11_code 39 = .ok (.ireturn, 1) := by decide +kernel
def wp_X_event (a1 : Int32) (a2 : Int32) (a3 : Int32) (M : Mem) (post : Int32 → Mem → Prop) : Prop :=
  ((((pf_X_mayBeEvent a1 a2 a3) = 0) → post (-2) M) ∧ (¬ ((pf_X_mayBeEvent a1 a2 a3) = 0) → wp_XO_addEvent a1 a2 a3 M (fun r4 M3 => (((r4 = 0) → post (-4) M3) ∧ (¬ (r4 = 0) → wp_X_changed M3 (fun M6 => post (M6 10 9) M6))))))
set_option maxHeartbeats 4000000 in
set_option maxRecDepth 100000 in
theorem c_X_event (g : GX) {a1 : Int32} {a2 : Int32} {a3 : Int32} {M : Mem} {post : Int32 → Mem → Prop} (hw : wp_X_event a1 a2 a3 M post) : CtI (oX g) y_X_event prog_1_method_11_code 4 (some .int) (rl 2) [.ref (ax g 0), .int a1, .int a2, .int a3] M post := by
  refine z_metI (oX_ok g) (by decide) rfl (fun X C hr => ?_)
  show Zj X 4 (oX g) M 0 [(0, .ref (ax g 0)), (1, .int a1), (2, .int a2), (3, .int a3)] []
  unfold wp_X_event at hw
  refine z_iload_n C d_X_event_0 rfl 1 rfl ?_
  refine z_iload_n C d_X_event_1 rfl 2 rfl ?_
  refine z_iload_n C d_X_event_2 rfl 3 rfl ?_
  refine z_callSi C (As := [.int a1, .int a2, .int a3]) (rest := []) m_X_mayBeEvent tw_334 ⟨rfl, rfl⟩ (c_X_mayBeEvent (oX_ok g) _ _ _ _) rfl rfl rfl d_X_event_3 (fun r M2 hq => ?_)
  obtain ⟨rfl, rfl⟩ := hq
  refine z_if_ne C 12 d_X_event_6 (by decide) (fun h2 => ?_) (fun h2 => ?_)
  · replace hw := hw.2 h2
    refine z_aload_n C d_X_event_12 rfl 0 rfl ?_
    refine gf_X_18 C d_X_event_13 ?_
    refine z_iload_n C d_X_event_16 rfl 1 rfl ?_
    refine z_iload_n C d_X_event_17 rfl 2 rfl ?_
    refine z_iload_n C d_X_event_18 rfl 3 rfl ?_
    refine z_callVi C (As := [.int a1, .int a2, .int a3]) (rest := []) m_XO_addEvent tw_337 10 (le_XO) rfl ⟨rfl, rfl⟩ (c_XO_addEvent g hw) rfl rfl rfl d_X_event_19 (fun r4 M3 hw => ?_)
    refine z_if_ne C 28 d_X_event_22 (by decide) (fun h5 => ?_) (fun h5 => ?_)
    · replace hw := hw.2 h5
      refine z_aload_n C d_X_event_28 rfl 0 rfl ?_
      refine z_callVv C (As := []) (rest := []) m_X_changed tw_293 0 (le_X) rfl ⟨rfl, rfl⟩ (c_X_changed g hw) rfl rfl rfl d_X_event_29 (fun M6 hw => ?_)
      refine z_aload_n C d_X_event_32 rfl 0 rfl ?_
      refine gf_X_18 C d_X_event_33 ?_
      refine gf_X_125 C d_X_event_36 ?_
      exact z_iret C hr hw d_X_event_39
    · replace hw := hw.1 h5
      refine z_bipush (v := (-4)) C d_X_event_25 (by decide) ?_
      exact z_iret C hr hw d_X_event_27
  · replace hw := hw.1 h2
    refine z_bipush (v := (-2)) C d_X_event_9 (by decide) ?_
    exact z_iret C hr hw d_X_event_11
theorem d_X_sheet_0 : decode prog_1_method_35_code 0 = .ok (.iload_n 1, 1) := by decide +kernel
theorem d_X_sheet_1 : decode prog_1_method_35_code 1 = .ok (.iconst 4, 1) := by decide +kernel
theorem d_X_sheet_2 : decode prog_1_method_35_code 2 = .ok (.invokestatic 70, 3) := by decide +kernel
theorem d_X_sheet_5 : decode prog_1_method_35_code 5 = .ok (.ifCond .ne (17), 3) := by decide +kernel
theorem d_X_sheet_8 : decode prog_1_method_35_code 8 = .ok (.iload_n 2, 1) := by decide +kernel
theorem d_X_sheet_9 : decode prog_1_method_35_code 9 = .ok (.iconst 3, 1) := by decide +kernel
theorem d_X_sheet_10 : decode prog_1_method_35_code 10 = .ok (.invokestatic 70, 3) := by decide +kernel
theorem d_X_sheet_13 : decode prog_1_method_35_code 13 = .ok (.ifCond .ne (9), 3) := by decide +kernel
theorem d_X_sheet_16 : decode prog_1_method_35_code 16 = .ok (.iload_n 3, 1) := by decide +kernel
theorem d_X_sheet_17 : decode prog_1_method_35_code 17 = .ok (.bipush 60, 2) := by decide +kernel
theorem d_X_sheet_19 : decode prog_1_method_35_code 19 = .ok (.if_icmp .le (6), 3) := by decide +kernel
theorem d_X_sheet_22 : decode prog_1_method_35_code 22 = .ok (.bipush (-2), 2) := by decide +kernel
theorem d_X_sheet_24 : decode prog_1_method_35_code 24 = .ok (.ireturn, 1) := by decide +kernel
theorem d_X_sheet_25 : decode prog_1_method_35_code 25 = .ok (.iload_n 3, 1) := by decide +kernel
theorem d_X_sheet_26 : decode prog_1_method_35_code 26 = .ok (.ifCond .ge (9), 3) := by decide +kernel
theorem d_X_sheet_29 : decode prog_1_method_35_code 29 = .ok (.aload_n 0, 1) := by decide +kernel
theorem d_X_sheet_30 : decode prog_1_method_35_code 30 = .ok (.iconst 5, 1) := by decide +kernel
theorem d_X_sheet_31 : decode prog_1_method_35_code 31 = .ok (.invokevirtual 131, 3) := by decide +kernel
theorem d_X_sheet_34 : decode prog_1_method_35_code 34 = .ok (.ireturn, 1) := by decide +kernel
theorem d_X_sheet_35 : decode prog_1_method_35_code 35 = .ok (.aload_n 0, 1) := by decide +kernel
theorem d_X_sheet_36 : decode prog_1_method_35_code 36 = .ok (.getfield 31, 3) := by decide +kernel
theorem d_X_sheet_39 : decode prog_1_method_35_code 39 = .ok (.iload_n 1, 1) := by decide +kernel
theorem d_X_sheet_40 : decode prog_1_method_35_code 40 = .ok (.aaload, 1) := by decide +kernel
theorem d_X_sheet_41 : decode prog_1_method_35_code 41 = .ok (.iload_n 2, 1) := by decide +kernel
theorem d_X_sheet_42 : decode prog_1_method_35_code 42 = .ok (.iload_n 3, 1) := by decide +kernel
theorem d_X_sheet_43 : decode prog_1_method_35_code 43 = .ok (.invokevirtual 249, 3) := by decide +kernel
theorem d_X_sheet_46 : decode prog_1_method_35_code 46 = .ok (.iload_n 3, 1) := by decide +kernel
theorem d_X_sheet_47 : decode prog_1_method_35_code 47 = .ok (.ireturn, 1) := by decide +kernel
def wp_X_sheet (a1 : Int32) (a2 : Int32) (a3 : Int32) (M : Mem) (post : Int32 → Mem → Prop) : Prop :=
  ((((pf_X_outside a1 4) = 0) → ((((pf_X_outside a2 3) = 0) → (((a3 ≤ 60) → (((0 ≤ a3) → vp_in a1 4 ∧ wp_XH_renew (tn a1) a2 a3 M (fun M9 => post a3 M9)) ∧ (¬ (0 ≤ a3) → wp_X_found 5 M (fun r12 M11 => post r12 M11)))) ∧ (¬ (a3 ≤ 60) → post (-2) M))) ∧ (¬ ((pf_X_outside a2 3) = 0) → post (-2) M))) ∧ (¬ ((pf_X_outside a1 4) = 0) → post (-2) M))
set_option maxHeartbeats 4000000 in
set_option maxRecDepth 100000 in
theorem c_X_sheet (g : GX) {a1 : Int32} {a2 : Int32} {a3 : Int32} {M : Mem} {post : Int32 → Mem → Prop} (hw : wp_X_sheet a1 a2 a3 M post) : CtI (oX g) y_X_sheet prog_1_method_35_code 4 (some .int) (rl 2) [.ref (ax g 0), .int a1, .int a2, .int a3] M post := by
  refine z_metI (oX_ok g) (by decide) rfl (fun X C hr => ?_)
  show Zj X 4 (oX g) M 0 [(0, .ref (ax g 0)), (1, .int a1), (2, .int a2), (3, .int a3)] []
  unfold wp_X_sheet at hw
  refine z_iload_n C d_X_sheet_0 rfl 1 rfl ?_
  refine z_iconst (v := 4) C d_X_sheet_1 (by decide) ?_
  refine z_callSi C (As := [.int a1, .int 4]) (rest := []) m_X_outside tw_251 ⟨rfl, rfl⟩ (c_X_outside (oX_ok g) _ _ _) rfl rfl rfl d_X_sheet_2 (fun r M2 hq => ?_)
  obtain ⟨rfl, rfl⟩ := hq
  refine z_if_ne C 22 d_X_sheet_5 (by decide) (fun h2 => ?_) (fun h2 => ?_)
  · replace hw := hw.2 h2
    refine z_bipush (v := (-2)) C d_X_sheet_22 (by decide) ?_
    exact z_iret C hr hw d_X_sheet_24
  · replace hw := hw.1 h2
    refine z_iload_n C d_X_sheet_8 rfl 2 rfl ?_
    refine z_iconst (v := 3) C d_X_sheet_9 (by decide) ?_
    refine z_callSi C (As := [.int a2, .int 3]) (rest := []) m_X_outside tw_251 ⟨rfl, rfl⟩ (c_X_outside (oX_ok g) _ _ _) rfl rfl rfl d_X_sheet_10 (fun r M2 hq => ?_)
    obtain ⟨rfl, rfl⟩ := hq
    refine z_if_ne C 22 d_X_sheet_13 (by decide) (fun h4 => ?_) (fun h4 => ?_)
    · replace hw := hw.2 h4
      refine z_bipush (v := (-2)) C d_X_sheet_22 (by decide) ?_
      exact z_iret C hr hw d_X_sheet_24
    · replace hw := hw.1 h4
      refine z_iload_n C d_X_sheet_16 rfl 3 rfl ?_
      refine z_bipush (v := 60) C d_X_sheet_17 (by decide) ?_
      refine z_ic_le C 25 d_X_sheet_19 (by decide) (fun h5 => ?_) (fun h5 => ?_)
      · replace hw := hw.1 h5
        refine z_iload_n C d_X_sheet_25 rfl 3 rfl ?_
        refine z_if_ge C 35 d_X_sheet_26 (by decide) (fun h6 => ?_) (fun h6 => ?_)
        · replace hw := hw.1 h6
          refine z_aload_n C d_X_sheet_35 rfl 0 rfl ?_
          refine gf_X_31 C d_X_sheet_36 ?_
          refine z_iload_n C d_X_sheet_39 rfl 1 rfl ?_
          have hv8 := hw.1
          replace hw := hw.2
          have ht7 := vp_lt hv8
          refine z_aaldSheet C hv8 d_X_sheet_40 ?_
          refine z_iload_n C d_X_sheet_41 rfl 2 rfl ?_
          refine z_iload_n C d_X_sheet_42 rfl 3 rfl ?_
          refine z_callVv C (As := [.int a2, .int a3]) (rest := []) m_XH_renew tw_574 (24 + 2 * (tn a1)) (le_XH ht7) rfl ⟨rfl, rfl⟩ (c_XH_renew g ht7 hw) rfl rfl rfl d_X_sheet_43 (fun M9 hw => ?_)
          refine z_iload_n C d_X_sheet_46 rfl 3 rfl ?_
          exact z_iret C hr hw d_X_sheet_47
        · replace hw := hw.2 h6
          refine z_aload_n C d_X_sheet_29 rfl 0 rfl ?_
          refine z_iconst (v := 5) C d_X_sheet_30 (by decide) ?_
          refine z_callVi C (As := [.int 5]) (rest := []) m_X_found tw_349 0 (le_X) rfl ⟨rfl, rfl⟩ (c_X_found g hw) rfl rfl rfl d_X_sheet_31 (fun r12 M11 hw => ?_)
          exact z_iret C hr hw d_X_sheet_34
      · replace hw := hw.2 h5
        refine z_bipush (v := (-2)) C d_X_sheet_22 (by decide) ?_
        exact z_iret C hr hw d_X_sheet_24
theorem d_X_lay_0 : decode prog_1_method_37_code 0 = .ok (.iload_n 1, 1) := by decide +kernel
theorem d_X_lay_1 : decode prog_1_method_37_code 1 = .ok (.iconst 4, 1) := by decide +kernel
theorem d_X_lay_2 : decode prog_1_method_37_code 2 = .ok (.invokestatic 70, 3) := by decide +kernel
theorem d_X_lay_5 : decode prog_1_method_37_code 5 = .ok (.ifCond .ne (11), 3) := by decide +kernel
theorem d_X_lay_8 : decode prog_1_method_37_code 8 = .ok (.iload_n 2, 1) := by decide +kernel
theorem d_X_lay_9 : decode prog_1_method_37_code 9 = .ok (.iconst 3, 1) := by decide +kernel
theorem d_X_lay_10 : decode prog_1_method_37_code 10 = .ok (.invokestatic 70, 3) := by decide +kernel
theorem d_X_lay_13 : decode prog_1_method_37_code 13 = .ok (.ifCond .eq (6), 3) := by decide +kernel
theorem d_X_lay_16 : decode prog_1_method_37_code 16 = .ok (.bipush (-2), 2) := by decide +kernel
theorem d_X_lay_18 : decode prog_1_method_37_code 18 = .ok (.ireturn, 1) := by decide +kernel
theorem d_X_lay_19 : decode prog_1_method_37_code 19 = .ok (.aload_n 0, 1) := by decide +kernel
theorem d_X_lay_20 : decode prog_1_method_37_code 20 = .ok (.getfield 31, 3) := by decide +kernel
theorem d_X_lay_23 : decode prog_1_method_37_code 23 = .ok (.iload_n 1, 1) := by decide +kernel
theorem d_X_lay_24 : decode prog_1_method_37_code 24 = .ok (.aaload, 1) := by decide +kernel
theorem d_X_lay_25 : decode prog_1_method_37_code 25 = .ok (.iload_n 2, 1) := by decide +kernel
theorem d_X_lay_26 : decode prog_1_method_37_code 26 = .ok (.iload_n 3, 1) := by decide +kernel
theorem d_X_lay_27 : decode prog_1_method_37_code 27 = .ok (.invokestatic 252, 3) := by decide +kernel
theorem d_X_lay_30 : decode prog_1_method_37_code 30 = .ok (.istore 5, 2) := by decide +kernel
theorem d_X_lay_32 : decode prog_1_method_37_code 32 = .ok (.iload 5, 2) := by decide +kernel
theorem d_X_lay_34 : decode prog_1_method_37_code 34 = .ok (.ifCond .eq (10), 3) := by decide +kernel
theorem d_X_lay_37 : decode prog_1_method_37_code 37 = .ok (.aload_n 0, 1) := by decide +kernel
theorem d_X_lay_38 : decode prog_1_method_37_code 38 = .ok (.iload 5, 2) := by decide +kernel
theorem d_X_lay_40 : decode prog_1_method_37_code 40 = .ok (.invokevirtual 131, 3) := by decide +kernel
theorem d_X_lay_43 : decode prog_1_method_37_code 43 = .ok (.ireturn, 1) := by decide +kernel
theorem d_X_lay_44 : decode prog_1_method_37_code 44 = .ok (.aload_n 0, 1) := by decide +kernel
theorem d_X_lay_45 : decode prog_1_method_37_code 45 = .ok (.getfield 31, 3) := by decide +kernel
theorem d_X_lay_48 : decode prog_1_method_37_code 48 = .ok (.iload_n 1, 1) := by decide +kernel
theorem d_X_lay_49 : decode prog_1_method_37_code 49 = .ok (.aaload, 1) := by decide +kernel
theorem d_X_lay_50 : decode prog_1_method_37_code 50 = .ok (.iload_n 3, 1) := by decide +kernel
theorem d_X_lay_51 : decode prog_1_method_37_code 51 = .ok (.iload 4, 2) := by decide +kernel
theorem d_X_lay_53 : decode prog_1_method_37_code 53 = .ok (.invokevirtual 256, 3) := by decide +kernel
theorem d_X_lay_56 : decode prog_1_method_37_code 56 = .ok (.iconst 1, 1) := by decide +kernel
theorem d_X_lay_57 : decode prog_1_method_37_code 57 = .ok (.ireturn, 1) := by decide +kernel
def wp_X_lay (a1 : Int32) (a2 : Int32) (a3 : Int32) (a4 : Int32) (M : Mem) (post : Int32 → Mem → Prop) : Prop :=
  ((((pf_X_outside a1 4) = 0) → ((((pf_X_outside a2 3) = 0) → vp_in a1 4 ∧ wp_X_wrongWith (tn a1) a2 a3 M (fun r7 => (((r7 = 0) → wp_XH_put (tn a1) a3 a4 M (fun M10 => post 1 M10)) ∧ (¬ (r7 = 0) → wp_X_found r7 M (fun r13 M12 => post r13 M12))))) ∧ (¬ ((pf_X_outside a2 3) = 0) → post (-2) M))) ∧ (¬ ((pf_X_outside a1 4) = 0) → post (-2) M))
set_option maxHeartbeats 4000000 in
set_option maxRecDepth 100000 in
theorem c_X_lay (g : GX) {a1 : Int32} {a2 : Int32} {a3 : Int32} {a4 : Int32} {M : Mem} {post : Int32 → Mem → Prop} (hw : wp_X_lay a1 a2 a3 a4 M post) : CtI (oX g) y_X_lay prog_1_method_37_code 6 (some .int) (rl 2) [.ref (ax g 0), .int a1, .int a2, .int a3, .int a4] M post := by
  refine z_metI (oX_ok g) (by decide) rfl (fun X C hr => ?_)
  show Zj X 6 (oX g) M 0 [(0, .ref (ax g 0)), (1, .int a1), (2, .int a2), (3, .int a3), (4, .int a4)] []
  unfold wp_X_lay at hw
  refine z_iload_n C d_X_lay_0 rfl 1 rfl ?_
  refine z_iconst (v := 4) C d_X_lay_1 (by decide) ?_
  refine z_callSi C (As := [.int a1, .int 4]) (rest := []) m_X_outside tw_251 ⟨rfl, rfl⟩ (c_X_outside (oX_ok g) _ _ _) rfl rfl rfl d_X_lay_2 (fun r M2 hq => ?_)
  obtain ⟨rfl, rfl⟩ := hq
  refine z_if_ne C 16 d_X_lay_5 (by decide) (fun h2 => ?_) (fun h2 => ?_)
  · replace hw := hw.2 h2
    refine z_bipush (v := (-2)) C d_X_lay_16 (by decide) ?_
    exact z_iret C hr hw d_X_lay_18
  · replace hw := hw.1 h2
    refine z_iload_n C d_X_lay_8 rfl 2 rfl ?_
    refine z_iconst (v := 3) C d_X_lay_9 (by decide) ?_
    refine z_callSi C (As := [.int a2, .int 3]) (rest := []) m_X_outside tw_251 ⟨rfl, rfl⟩ (c_X_outside (oX_ok g) _ _ _) rfl rfl rfl d_X_lay_10 (fun r M2 hq => ?_)
    obtain ⟨rfl, rfl⟩ := hq
    refine z_if_eq C 19 d_X_lay_13 (by decide) (fun h4 => ?_) (fun h4 => ?_)
    · replace hw := hw.1 h4
      refine z_aload_n C d_X_lay_19 rfl 0 rfl ?_
      refine gf_X_31 C d_X_lay_20 ?_
      refine z_iload_n C d_X_lay_23 rfl 1 rfl ?_
      have hv6 := hw.1
      replace hw := hw.2
      have ht5 := vp_lt hv6
      refine z_aaldSheet C hv6 d_X_lay_24 ?_
      refine z_iload_n C d_X_lay_25 rfl 2 rfl ?_
      refine z_iload_n C d_X_lay_26 rfl 3 rfl ?_
      refine z_callSi C (As := [.ref (ax g (24 + 2 * (tn a1))), .int a2, .int a3]) (rest := []) m_X_wrongWith tw_587 ⟨rfl, rfl⟩ (c_X_wrongWith g ht5 hw) rfl rfl rfl d_X_lay_27 (fun r7 M2 hq => ?_)
      obtain ⟨rfl, hw⟩ := hq
      refine z_istore (lv' := [(5, .int r7), (0, .ref (ax g 0)), (1, .int a1), (2, .int a2), (3, .int a3), (4, .int a4)]) C d_X_lay_30 rfl rfl ?_
      refine z_iload C d_X_lay_32 0 rfl ?_
      refine z_if_eq C 44 d_X_lay_34 (by decide) (fun h8 => ?_) (fun h8 => ?_)
      · replace hw := hw.1 h8
        refine z_aload_n C d_X_lay_44 rfl 1 rfl ?_
        refine gf_X_31 C d_X_lay_45 ?_
        refine z_iload_n C d_X_lay_48 rfl 2 rfl ?_
        have ht9 := vp_lt hv6
        refine z_aaldSheet C hv6 d_X_lay_49 ?_
        refine z_iload_n C d_X_lay_50 rfl 4 rfl ?_
        refine z_iload C d_X_lay_51 5 rfl ?_
        refine z_callVv C (As := [.int a3, .int a4]) (rest := []) m_XH_put tw_590 (24 + 2 * (tn a1)) (le_XH ht9) rfl ⟨rfl, rfl⟩ (c_XH_put g ht9 hw) rfl rfl rfl d_X_lay_53 (fun M10 hw => ?_)
        refine z_iconst (v := 1) C d_X_lay_56 (by decide) ?_
        exact z_iret C hr hw d_X_lay_57
      · replace hw := hw.2 h8
        refine z_aload_n C d_X_lay_37 rfl 1 rfl ?_
        refine z_iload C d_X_lay_38 0 rfl ?_
        refine z_callVi C (As := [.int r7]) (rest := []) m_X_found tw_349 0 (le_X) rfl ⟨rfl, rfl⟩ (c_X_found g hw) rfl rfl rfl d_X_lay_40 (fun r13 M12 hw => ?_)
        exact z_iret C hr hw d_X_lay_43
    · replace hw := hw.2 h4
      refine z_bipush (v := (-2)) C d_X_lay_16 (by decide) ?_
      exact z_iret C hr hw d_X_lay_18
theorem d_X_get_0 : decode prog_1_method_38_code 0 = .ok (.iload_n 1, 1) := by decide +kernel
theorem d_X_get_1 : decode prog_1_method_38_code 1 = .ok (.iconst 4, 1) := by decide +kernel
theorem d_X_get_2 : decode prog_1_method_38_code 2 = .ok (.invokestatic 70, 3) := by decide +kernel
theorem d_X_get_5 : decode prog_1_method_38_code 5 = .ok (.ifCond .ne (11), 3) := by decide +kernel
theorem d_X_get_8 : decode prog_1_method_38_code 8 = .ok (.iload_n 2, 1) := by decide +kernel
theorem d_X_get_9 : decode prog_1_method_38_code 9 = .ok (.iconst 3, 1) := by decide +kernel
theorem d_X_get_10 : decode prog_1_method_38_code 10 = .ok (.invokestatic 70, 3) := by decide +kernel
theorem d_X_get_13 : decode prog_1_method_38_code 13 = .ok (.ifCond .eq (7), 3) := by decide +kernel
theorem d_X_get_16 : decode prog_1_method_38_code 16 = .ok (.ldc_w 259, 3) := by decide +kernel
theorem d_X_get_19 : decode prog_1_method_38_code 19 = .ok (.ireturn, 1) := by decide +kernel
theorem d_X_get_20 : decode prog_1_method_38_code 20 = .ok (.aload_n 0, 1) := by decide +kernel
theorem d_X_get_21 : decode prog_1_method_38_code 21 = .ok (.getfield 31, 3) := by decide +kernel
theorem d_X_get_24 : decode prog_1_method_38_code 24 = .ok (.iload_n 1, 1) := by decide +kernel
theorem d_X_get_25 : decode prog_1_method_38_code 25 = .ok (.aaload, 1) := by decide +kernel
theorem d_X_get_26 : decode prog_1_method_38_code 26 = .ok (.iload_n 2, 1) := by decide +kernel
theorem d_X_get_27 : decode prog_1_method_38_code 27 = .ok (.iload_n 3, 1) := by decide +kernel
theorem d_X_get_28 : decode prog_1_method_38_code 28 = .ok (.invokestatic 252, 3) := by decide +kernel
theorem d_X_get_31 : decode prog_1_method_38_code 31 = .ok (.istore 4, 2) := by decide +kernel
theorem d_X_get_33 : decode prog_1_method_38_code 33 = .ok (.iload 4, 2) := by decide +kernel
theorem d_X_get_35 : decode prog_1_method_38_code 35 = .ok (.ifCond .eq (13), 3) := by decide +kernel
theorem d_X_get_38 : decode prog_1_method_38_code 38 = .ok (.aload_n 0, 1) := by decide +kernel
theorem d_X_get_39 : decode prog_1_method_38_code 39 = .ok (.iload 4, 2) := by decide +kernel
theorem d_X_get_41 : decode prog_1_method_38_code 41 = .ok (.putfield 35, 3) := by decide +kernel
theorem d_X_get_44 : decode prog_1_method_38_code 44 = .ok (.ldc_w 259, 3) := by decide +kernel
theorem d_X_get_47 : decode prog_1_method_38_code 47 = .ok (.ireturn, 1) := by decide +kernel
theorem d_X_get_48 : decode prog_1_method_38_code 48 = .ok (.aload_n 0, 1) := by decide +kernel
theorem d_X_get_49 : decode prog_1_method_38_code 49 = .ok (.getfield 31, 3) := by decide +kernel
theorem d_X_get_52 : decode prog_1_method_38_code 52 = .ok (.iload_n 1, 1) := by decide +kernel
theorem d_X_get_53 : decode prog_1_method_38_code 53 = .ok (.aaload, 1) := by decide +kernel
theorem d_X_get_54 : decode prog_1_method_38_code 54 = .ok (.getfield 138, 3) := by decide +kernel
theorem d_X_get_57 : decode prog_1_method_38_code 57 = .ok (.iload_n 3, 1) := by decide +kernel
theorem d_X_get_58 : decode prog_1_method_38_code 58 = .ok (.iaload, 1) := by decide +kernel
theorem d_X_get_59 : decode prog_1_method_38_code 59 = .ok (.ireturn, 1) := by decide +kernel
def wp_X_get (a1 : Int32) (a2 : Int32) (a3 : Int32) (M : Mem) (post : Int32 → Mem → Prop) : Prop :=
  ((((pf_X_outside a1 4) = 0) → ((((pf_X_outside a2 3) = 0) → vp_in a1 4 ∧ wp_X_wrongWith (tn a1) a2 a3 M (fun r7 => (((r7 = 0) → vp_in a3 60 ∧ post (M (25 + 2 * (tn a1)) (tn a3)) M) ∧ (¬ (r7 = 0) → ∀ M11 : Mem, M11 = upm M 0 4 r7 → post (-2147483648) M11)))) ∧ (¬ ((pf_X_outside a2 3) = 0) → post (-2147483648) M))) ∧ (¬ ((pf_X_outside a1 4) = 0) → post (-2147483648) M))
set_option maxHeartbeats 4000000 in
set_option maxRecDepth 100000 in
theorem c_X_get (g : GX) {a1 : Int32} {a2 : Int32} {a3 : Int32} {M : Mem} {post : Int32 → Mem → Prop} (hw : wp_X_get a1 a2 a3 M post) : CtI (oX g) y_X_get prog_1_method_38_code 5 (some .int) (rl 2) [.ref (ax g 0), .int a1, .int a2, .int a3] M post := by
  refine z_metI (oX_ok g) (by decide) rfl (fun X C hr => ?_)
  show Zj X 5 (oX g) M 0 [(0, .ref (ax g 0)), (1, .int a1), (2, .int a2), (3, .int a3)] []
  unfold wp_X_get at hw
  refine z_iload_n C d_X_get_0 rfl 1 rfl ?_
  refine z_iconst (v := 4) C d_X_get_1 (by decide) ?_
  refine z_callSi C (As := [.int a1, .int 4]) (rest := []) m_X_outside tw_251 ⟨rfl, rfl⟩ (c_X_outside (oX_ok g) _ _ _) rfl rfl rfl d_X_get_2 (fun r M2 hq => ?_)
  obtain ⟨rfl, rfl⟩ := hq
  refine z_if_ne C 16 d_X_get_5 (by decide) (fun h2 => ?_) (fun h2 => ?_)
  · replace hw := hw.2 h2
    refine z_ldcw C d_X_get_16 tw_598 ?_
    exact z_iret C hr hw d_X_get_19
  · replace hw := hw.1 h2
    refine z_iload_n C d_X_get_8 rfl 2 rfl ?_
    refine z_iconst (v := 3) C d_X_get_9 (by decide) ?_
    refine z_callSi C (As := [.int a2, .int 3]) (rest := []) m_X_outside tw_251 ⟨rfl, rfl⟩ (c_X_outside (oX_ok g) _ _ _) rfl rfl rfl d_X_get_10 (fun r M2 hq => ?_)
    obtain ⟨rfl, rfl⟩ := hq
    refine z_if_eq C 20 d_X_get_13 (by decide) (fun h4 => ?_) (fun h4 => ?_)
    · replace hw := hw.1 h4
      refine z_aload_n C d_X_get_20 rfl 0 rfl ?_
      refine gf_X_31 C d_X_get_21 ?_
      refine z_iload_n C d_X_get_24 rfl 1 rfl ?_
      have hv6 := hw.1
      replace hw := hw.2
      have ht5 := vp_lt hv6
      refine z_aaldSheet C hv6 d_X_get_25 ?_
      refine z_iload_n C d_X_get_26 rfl 2 rfl ?_
      refine z_iload_n C d_X_get_27 rfl 3 rfl ?_
      refine z_callSi C (As := [.ref (ax g (24 + 2 * (tn a1))), .int a2, .int a3]) (rest := []) m_X_wrongWith tw_587 ⟨rfl, rfl⟩ (c_X_wrongWith g ht5 hw) rfl rfl rfl d_X_get_28 (fun r7 M2 hq => ?_)
      obtain ⟨rfl, hw⟩ := hq
      refine z_istore (lv' := [(4, .int r7), (0, .ref (ax g 0)), (1, .int a1), (2, .int a2), (3, .int a3)]) C d_X_get_31 rfl rfl ?_
      refine z_iload C d_X_get_33 0 rfl ?_
      refine z_if_eq C 48 d_X_get_35 (by decide) (fun h8 => ?_) (fun h8 => ?_)
      · replace hw := hw.1 h8
        refine z_aload_n C d_X_get_48 rfl 1 rfl ?_
        refine gf_X_31 C d_X_get_49 ?_
        refine z_iload_n C d_X_get_52 rfl 2 rfl ?_
        have ht9 := vp_lt hv6
        refine z_aaldSheet C hv6 d_X_get_53 ?_
        refine gf_X_138 ht9 C d_X_get_54 ?_
        refine z_iload_n C d_X_get_57 rfl 4 rfl ?_
        have hv10 := hw.1
        replace hw := hw.2
        refine z_al (zar_xSI ht9) C hv10 d_X_get_58 ?_
        exact z_iret C hr hw d_X_get_59
      · replace hw := hw.2 h8
        refine z_aload_n C d_X_get_38 rfl 1 rfl ?_
        refine z_iload C d_X_get_39 0 rfl ?_
        refine pp_X_35 C d_X_get_41 (fun M11 hM11 => ?_)
        replace hw := hw M11 hM11
        refine z_ldcw C d_X_get_44 tw_598 ?_
        exact z_iret C hr hw d_X_get_47
    · replace hw := hw.2 h4
      refine z_ldcw C d_X_get_16 tw_598 ?_
      exact z_iret C hr hw d_X_get_19
