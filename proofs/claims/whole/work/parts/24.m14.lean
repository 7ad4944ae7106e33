theorem d_X_begin_0 : decode prog_1_method_23_code 0 = .ok (.iload_n 1, 1) := by decide +kernel
theorem d_X_begin_1 : decode prog_1_method_23_code 1 = .ok (.aload_n 0, 1) := by decide +kernel
theorem d_X_begin_2 : decode prog_1_method_23_code 2 = .ok (.getfield 18, 3) := by decide +kernel
theorem d_X_begin_5 : decode prog_1_method_23_code 5 = .ok (.getfield 94, 3) := by decide +kernel
theorem d_X_begin_8 : decode prog_1_method_23_code 8 = .ok (.invokestatic 70, 3) := by decide +kernel
theorem d_X_begin_11 : decode prog_1_method_23_code 11 = .ok (.ifCond .ne (11), 3) := by decide +kernel
theorem d_X_begin_14 : decode prog_1_method_23_code 14 = .ok (.iload_n 2, 1) := by decide +kernel
theorem d_X_begin_15 : decode prog_1_method_23_code 15 = .ok (.iconst 2, 1) := by decide +kernel
theorem d_X_begin_16 : decode prog_1_method_23_code 16 = .ok (.invokestatic 70, 3) := by decide +kernel
theorem d_X_begin_19 : decode prog_1_method_23_code 19 = .ok (.ifCond .eq (6), 3) := by decide +kernel
theorem d_X_begin_22 : decode prog_1_method_23_code 22 = .ok (.bipush (-2), 2) := by decide +kernel
theorem d_X_begin_24 : decode prog_1_method_23_code 24 = .ok (.ireturn, 1) := by decide +kernel
theorem d_X_begin_25 : decode prog_1_method_23_code 25 = .ok (.aload_n 0, 1) := by decide +kernel
theorem d_X_begin_26 : decode prog_1_method_23_code 26 = .ok (.getfield 18, 3) := by decide +kernel
theorem d_X_begin_29 : decode prog_1_method_23_code 29 = .ok (.getfield 97, 3) := by decide +kernel
theorem d_X_begin_32 : decode prog_1_method_23_code 32 = .ok (.iload_n 1, 1) := by decide +kernel
theorem d_X_begin_33 : decode prog_1_method_23_code 33 = .ok (.iaload, 1) := by decide +kernel
theorem d_X_begin_34 : decode prog_1_method_23_code 34 = .ok (.istore_n 3, 1) := by decide +kernel
theorem d_X_begin_35 : decode prog_1_method_23_code 35 = .ok (.iconst 0, 1) := by decide +kernel
theorem d_X_begin_36 : decode prog_1_method_23_code 36 = .ok (.istore 4, 2) := by decide +kernel
theorem d_X_begin_38 : decode prog_1_method_23_code 38 = .ok (.iconst (-1), 1) := by decide +kernel
theorem d_X_begin_39 : decode prog_1_method_23_code 39 = .ok (.istore 5, 2) := by decide +kernel
theorem d_X_begin_41 : decode prog_1_method_23_code 41 = .ok (.iconst 0, 1) := by decide +kernel
theorem d_X_begin_42 : decode prog_1_method_23_code 42 = .ok (.istore 6, 2) := by decide +kernel
theorem d_X_begin_44 : decode prog_1_method_23_code 44 = .ok (.iload 6, 2) := by decide +kernel
theorem d_X_begin_46 : decode prog_1_method_23_code 46 = .ok (.bipush 12, 2) := by decide +kernel
theorem d_X_begin_48 : decode prog_1_method_23_code 48 = .ok (.if_icmp .ge (63), 3) := by decide +kernel
theorem d_X_begin_51 : decode prog_1_method_23_code 51 = .ok (.aload_n 0, 1) := by decide +kernel
theorem d_X_begin_52 : decode prog_1_method_23_code 52 = .ok (.getfield 18, 3) := by decide +kernel
theorem d_X_begin_55 : decode prog_1_method_23_code 55 = .ok (.getfield 97, 3) := by decide +kernel
theorem d_X_begin_58 : decode prog_1_method_23_code 58 = .ok (.iload_n 1, 1) := by decide +kernel
theorem d_X_begin_59 : decode prog_1_method_23_code 59 = .ok (.iload 6, 2) := by decide +kernel
theorem d_X_begin_61 : decode prog_1_method_23_code 61 = .ok (.iastore, 1) := by decide +kernel
theorem d_X_begin_62 : decode prog_1_method_23_code 62 = .ok (.aload_n 0, 1) := by decide +kernel
theorem d_X_begin_63 : decode prog_1_method_23_code 63 = .ok (.getfield 46, 3) := by decide +kernel
theorem d_X_begin_66 : decode prog_1_method_23_code 66 = .ok (.aload_n 0, 1) := by decide +kernel
theorem d_X_begin_67 : decode prog_1_method_23_code 67 = .ok (.getfield 18, 3) := by decide +kernel
theorem d_X_begin_70 : decode prog_1_method_23_code 70 = .ok (.aload_n 0, 1) := by decide +kernel
theorem d_X_begin_71 : decode prog_1_method_23_code 71 = .ok (.invokevirtual 189, 3) := by decide +kernel
theorem d_X_begin_74 : decode prog_1_method_23_code 74 = .ok (.invokevirtual 192, 3) := by decide +kernel
theorem d_X_begin_77 : decode prog_1_method_23_code 77 = .ok (.aload_n 0, 1) := by decide +kernel
theorem d_X_begin_78 : decode prog_1_method_23_code 78 = .ok (.getfield 46, 3) := by decide +kernel
theorem d_X_begin_81 : decode prog_1_method_23_code 81 = .ok (.aload_n 0, 1) := by decide +kernel
theorem d_X_begin_82 : decode prog_1_method_23_code 82 = .ok (.getfield 18, 3) := by decide +kernel
theorem d_X_begin_85 : decode prog_1_method_23_code 85 = .ok (.invokevirtual 196, 3) := by decide +kernel
theorem d_X_begin_88 : decode prog_1_method_23_code 88 = .ok (.istore 7, 2) := by decide +kernel
theorem d_X_begin_90 : decode prog_1_method_23_code 90 = .ok (.iload 7, 2) := by decide +kernel
theorem d_X_begin_92 : decode prog_1_method_23_code 92 = .ok (.iload 5, 2) := by decide +kernel
theorem d_X_begin_94 : decode prog_1_method_23_code 94 = .ok (.if_icmp .le (11), 3) := by decide +kernel
theorem d_X_begin_97 : decode prog_1_method_23_code 97 = .ok (.iload 7, 2) := by decide +kernel
theorem d_X_begin_99 : decode prog_1_method_23_code 99 = .ok (.istore 5, 2) := by decide +kernel
theorem d_X_begin_101 : decode prog_1_method_23_code 101 = .ok (.iload 6, 2) := by decide +kernel
theorem d_X_begin_103 : decode prog_1_method_23_code 103 = .ok (.istore 4, 2) := by decide +kernel
theorem d_X_begin_105 : decode prog_1_method_23_code 105 = .ok (.iinc 6 1, 3) := by decide +kernel
theorem d_X_begin_108 : decode prog_1_method_23_code 108 = .ok (.goto (-64), 3) := by decide +kernel
theorem d_X_begin_111 : decode prog_1_method_23_code 111 = .ok (.aload_n 0, 1) := by decide +kernel
theorem d_X_begin_112 : decode prog_1_method_23_code 112 = .ok (.getfield 18, 3) := by decide +kernel
theorem d_X_begin_115 : decode prog_1_method_23_code 115 = .ok (.getfield 97, 3) := by decide +kernel
theorem d_X_begin_118 : decode prog_1_method_23_code 118 = .ok (.iload_n 1, 1) := by decide +kernel
theorem d_X_begin_119 : decode prog_1_method_23_code 119 = .ok (.iload_n 3, 1) := by decide +kernel
theorem d_X_begin_120 : decode prog_1_method_23_code 120 = .ok (.iastore, 1) := by decide +kernel
theorem d_X_begin_121 : decode prog_1_method_23_code 121 = .ok (.iload_n 2, 1) := by decide +kernel
theorem d_X_begin_122 : decode prog_1_method_23_code 122 = .ok (.ifCond .ne (8), 3) := by decide +kernel
theorem d_X_begin_125 : decode prog_1_method_23_code 125 = .ok (.iload 4, 2) := by decide +kernel
theorem d_X_begin_127 : decode prog_1_method_23_code 127 = .ok (.goto (5), 3) := by decide +kernel
theorem d_X_begin_130 : decode prog_1_method_23_code 130 = .ok (.iload 5, 2) := by decide +kernel
theorem d_X_begin_132 : decode prog_1_method_23_code 132 = .ok (.ireturn, 1) := by decide +kernel
def wp_X_begin (a1 : Int32) (a2 : Int32) (M : Mem) (post : Int32 → Mem → Prop) : Prop :=
  ((((pf_X_outside a1 (M 10 2)) = 0) → ((((pf_X_outside a2 2) = 0) → vp_in a1 4 ∧ (it4 (fun rec6 (i8 : Int32) (i9 : Int32) (i10 : Int32) (M11 : Mem) => (((12 ≤ i10) → ∀ M13 : Mem, M13 = upm M11 13 (tn a1) (M 13 (tn a1)) → ∀ u15 : Int32, u15 = (if a2 = 0 then i8 else i9) → post u15 M13) ∧ (¬ (12 ≤ i10) → ∀ M17 : Mem, M17 = upm M11 13 (tn a1) i10 → wp_X_allEvents M17 (fun r18 => wp_XW_run 44 r18 M17 (fun M19 => wp_XW_busesOver 44 M19 (fun r22 M21 => ∀ u24 : Int32, u24 = (if r22 ≤ i9 then i8 else i10) → ∀ u25 : Int32, u25 = (if r22 ≤ i9 then i9 else r22) → rec6 u24 u25 (i10 + 1) M21)))))) 4096 0 (-1) 0 M)) ∧ (¬ ((pf_X_outside a2 2) = 0) → post (-2) M))) ∧ (¬ ((pf_X_outside a1 (M 10 2)) = 0) → post (-2) M))
set_option maxHeartbeats 4000000 in
set_option maxRecDepth 100000 in
theorem c_X_begin (g : GX) {a1 : Int32} {a2 : Int32} {M : Mem} {post : Int32 → Mem → Prop} (hw : wp_X_begin a1 a2 M post) : CtI (oX g) y_X_begin prog_1_method_23_code 8 (some .int) (rl 3) [.ref (ax g 0), .int a1, .int a2] M post := by
  refine z_metI (oX_ok g) (by decide) rfl (fun X C hr => ?_)
  show Zj X 8 (oX g) M 0 [(0, .ref (ax g 0)), (1, .int a1), (2, .int a2)] []
  unfold wp_X_begin at hw
  refine z_iload_n C d_X_begin_0 rfl 1 rfl ?_
  refine z_aload_n C d_X_begin_1 rfl 0 rfl ?_
  refine gf_X_18 C d_X_begin_2 ?_
  refine gf_X_94 C d_X_begin_5 ?_
  refine z_callSi C (As := [.int a1, .int (M 10 2)]) (rest := []) m_X_outside tw_251 ⟨rfl, rfl⟩ (c_X_outside (oX_ok g) _ _ _) rfl rfl rfl d_X_begin_8 (fun r M2 hq => ?_)
  obtain ⟨rfl, rfl⟩ := hq
  refine z_if_ne C 22 d_X_begin_11 (by decide) (fun h2 => ?_) (fun h2 => ?_)
  · replace hw := hw.2 h2
    refine z_bipush (v := (-2)) C d_X_begin_22 (by decide) ?_
    exact z_iret C hr hw d_X_begin_24
  · replace hw := hw.1 h2
    refine z_iload_n C d_X_begin_14 rfl 2 rfl ?_
    refine z_iconst (v := 2) C d_X_begin_15 (by decide) ?_
    refine z_callSi C (As := [.int a2, .int 2]) (rest := []) m_X_outside tw_251 ⟨rfl, rfl⟩ (c_X_outside (oX_ok g) _ _ _) rfl rfl rfl d_X_begin_16 (fun r M2 hq => ?_)
    obtain ⟨rfl, rfl⟩ := hq
    refine z_if_eq C 25 d_X_begin_19 (by decide) (fun h4 => ?_) (fun h4 => ?_)
    · replace hw := hw.1 h4
      refine z_aload_n C d_X_begin_25 rfl 0 rfl ?_
      refine gf_X_18 C d_X_begin_26 ?_
      refine gf_X_97 C d_X_begin_29 ?_
      refine z_iload_n C d_X_begin_32 rfl 1 rfl ?_
      have hv5 := hw.1
      replace hw := hw.2
      refine z_al (zar_x13) C hv5 d_X_begin_33 ?_
      refine z_istore_n (lv' := [(3, .int (M 13 (tn a1))), (0, .ref (ax g 0)), (1, .int a1), (2, .int a2)]) C d_X_begin_34 rfl rfl rfl ?_
      refine z_iconst (v := 0) C d_X_begin_35 (by decide) ?_
      refine z_istore (lv' := [(4, .int 0), (3, .int (M 13 (tn a1))), (0, .ref (ax g 0)), (1, .int a1), (2, .int a2)]) C d_X_begin_36 rfl rfl ?_
      refine z_iconst (v := (-1)) C d_X_begin_38 (by decide) ?_
      refine z_istore (lv' := [(5, .int (-1)), (4, .int 0), (3, .int (M 13 (tn a1))), (0, .ref (ax g 0)), (1, .int a1), (2, .int a2)]) C d_X_begin_39 rfl rfl ?_
      refine z_iconst (v := 0) C d_X_begin_41 (by decide) ?_
      refine z_istore (lv' := [(6, .int 0), (5, .int (-1)), (4, .int 0), (3, .int (M 13 (tn a1))), (0, .ref (ax g 0)), (1, .int a1), (2, .int a2)]) C d_X_begin_42 rfl rfl ?_
      refine z_sub [4, 5, 6, 3, 2, 1, 0] rfl ?_
      refine it4_Z (Z := fun (i8 : Int32) (i9 : Int32) (i10 : Int32) (M11 : Mem) => Zj X 8 (oX g) M11 44 [(0, .ref (ax g 0)), (1, .int a1), (2, .int a2), (3, .int (M 13 (tn a1))), (4, .int i8), (5, .int i9), (6, .int i10)] []) (fun rec6 ih7 i8 i9 i10 M11 hw => ?_) _ _ _ _ _ hw
      refine z_iload C d_X_begin_44 6 rfl ?_
      refine z_bipush (v := 12) C d_X_begin_46 (by decide) ?_
      refine z_ic_ge C 111 d_X_begin_48 (by decide) (fun h12 => ?_) (fun h12 => ?_)
      · replace hw := hw.1 h12
        refine z_aload_n C d_X_begin_111 rfl 0 rfl ?_
        refine gf_X_18 C d_X_begin_112 ?_
        refine gf_X_97 C d_X_begin_115 ?_
        refine z_iload_n C d_X_begin_118 rfl 1 rfl ?_
        refine z_iload_n C d_X_begin_119 rfl 3 rfl ?_
        refine z_as (zar_x13) C hv5 d_X_begin_120 (fun M13 hM13 => ?_)
        replace hw := hw M13 hM13
        refine z_iload_n C d_X_begin_121 rfl 2 rfl ?_
        have hj16 : ∀ u15 : Int32, u15 = (if a2 = 0 then i8 else i9) → Zj X 8 (oX g) M13 132 [] [.int u15] := by
          intro u15 hu15
          replace hw := hw u15 hu15
          exact z_iret C hr hw d_X_begin_132
        refine z_if_ne C 130 d_X_begin_122 (by decide) (fun h14 => ?_) (fun h14 => ?_)
        · refine z_iload C d_X_begin_130 5 rfl ?_
          refine z_sub [] rfl ?_
          exact hj16 _ ((if_neg h14)).symm
        · refine z_iload C d_X_begin_125 4 rfl ?_
          refine z_goto C 132 d_X_begin_127 (by decide) ?_
          refine z_sub [] rfl ?_
          exact hj16 _ ((if_pos h14)).symm
      · replace hw := hw.2 h12
        refine z_aload_n C d_X_begin_51 rfl 0 rfl ?_
        refine gf_X_18 C d_X_begin_52 ?_
        refine gf_X_97 C d_X_begin_55 ?_
        refine z_iload_n C d_X_begin_58 rfl 1 rfl ?_
        refine z_iload C d_X_begin_59 6 rfl ?_
        refine z_as (zar_x13) C hv5 d_X_begin_61 (fun M17 hM17 => ?_)
        replace hw := hw M17 hM17
        refine z_aload_n C d_X_begin_62 rfl 0 rfl ?_
        refine gf_X_46 C d_X_begin_63 ?_
        refine z_aload_n C d_X_begin_66 rfl 0 rfl ?_
        refine gf_X_18 C d_X_begin_67 ?_
        refine z_aload_n C d_X_begin_70 rfl 0 rfl ?_
        refine z_callVi C (As := []) (rest := [.ref (ax g 10), .ref (ax g 44)]) m_X_allEvents tw_362 0 (le_X) rfl ⟨rfl, rfl⟩ (c_X_allEvents g hw) rfl rfl rfl d_X_begin_71 (fun r18 M2 hq => ?_)
        obtain ⟨rfl, hw⟩ := hq
        refine z_callVv C (As := [.ref (ax g 10), .int r18]) (rest := []) m_XW_run tw_366 44 (le_XW (Or.inr rfl)) rfl ⟨rfl, rfl⟩ (c_XW_run g (Or.inr rfl) hw) rfl rfl rfl d_X_begin_74 (fun M19 hw => ?_)
        refine z_aload_n C d_X_begin_77 rfl 0 rfl ?_
        refine gf_X_46 C d_X_begin_78 ?_
        refine z_aload_n C d_X_begin_81 rfl 0 rfl ?_
        refine gf_X_18 C d_X_begin_82 ?_
        refine z_callVi C (As := [.ref (ax g 10)]) (rest := []) m_XW_busesOver tw_460 44 (le_XW (Or.inr rfl)) rfl ⟨rfl, rfl⟩ (c_XW_busesOver g (Or.inr rfl) hw) rfl rfl rfl d_X_begin_85 (fun r22 M21 hw => ?_)
        refine z_istore (lv' := [(7, .int r22), (0, .ref (ax g 0)), (1, .int a1), (2, .int a2), (3, .int (M 13 (tn a1))), (4, .int i8), (5, .int i9), (6, .int i10)]) C d_X_begin_88 rfl rfl ?_
        refine z_iload C d_X_begin_90 0 rfl ?_
        refine z_iload C d_X_begin_92 6 rfl ?_
        have hj26 : ∀ u24 : Int32, u24 = (if r22 ≤ i9 then i8 else i10) → ∀ u25 : Int32, u25 = (if r22 ≤ i9 then i9 else r22) → Zj X 8 (oX g) M21 105 [(0, .ref (ax g 0)), (1, .int a1), (2, .int a2), (3, .int (M 13 (tn a1))), (4, .int u24), (5, .int u25), (6, .int i10)] [] := by
          intro u24 hu24
          intro u25 hu25
          replace hw := hw u24 hu24 u25 hu25
          refine z_iinc (v := (i10 + 1)) (lv' := [(6, .int (i10 + 1)), (0, .ref (ax g 0)), (1, .int a1), (2, .int a2), (3, .int (M 13 (tn a1))), (4, .int u24), (5, .int u25)]) C d_X_begin_105 6 rfl rfl rfl rfl ?_
          refine z_goto C 44 d_X_begin_108 (by decide) ?_
          refine z_sub [1, 2, 3, 4, 5, 6, 0] rfl ?_
          exact ih7 _ _ _ _ hw
        refine z_ic_le C 105 d_X_begin_94 (by decide) (fun h23 => ?_) (fun h23 => ?_)
        · refine z_sub [1, 2, 3, 4, 5, 6, 7] rfl ?_
          exact hj26 _ ((if_pos h23)).symm _ ((if_pos h23)).symm
        · refine z_iload C d_X_begin_97 0 rfl ?_
          refine z_istore (lv' := [(5, .int r22), (7, .int r22), (0, .ref (ax g 0)), (1, .int a1), (2, .int a2), (3, .int (M 13 (tn a1))), (4, .int i8), (6, .int i10)]) C d_X_begin_99 rfl rfl ?_
          refine z_iload C d_X_begin_101 7 rfl ?_
          refine z_istore (lv' := [(4, .int i10), (5, .int r22), (7, .int r22), (0, .ref (ax g 0)), (1, .int a1), (2, .int a2), (3, .int (M 13 (tn a1))), (6, .int i10)]) C d_X_begin_103 rfl rfl ?_
          refine z_sub [3, 4, 5, 6, 0, 1, 7] rfl ?_
          exact hj26 _ ((if_neg h23)).symm _ ((if_neg h23)).symm
    · replace hw := hw.2 h4
      refine z_bipush (v := (-2)) C d_X_begin_22 (by decide) ?_
      exact z_iret C hr hw d_X_begin_24
theorem d_X_never_0 : decode prog_1_method_29_code 0 = .ok (.iconst 0, 1) := by decide +kernel
theorem d_X_never_1 : decode prog_1_method_29_code 1 = .ok (.istore_n 1, 1) := by decide +kernel
theorem d_X_never_2 : decode prog_1_method_29_code 2 = .ok (.iconst 0, 1) := by decide +kernel
theorem d_X_never_3 : decode prog_1_method_29_code 3 = .ok (.istore_n 2, 1) := by decide +kernel
theorem d_X_never_4 : decode prog_1_method_29_code 4 = .ok (.iload_n 2, 1) := by decide +kernel
theorem d_X_never_5 : decode prog_1_method_29_code 5 = .ok (.aload_n 0, 1) := by decide +kernel
theorem d_X_never_6 : decode prog_1_method_29_code 6 = .ok (.getfield 18, 3) := by decide +kernel
theorem d_X_never_9 : decode prog_1_method_29_code 9 = .ok (.getfield 125, 3) := by decide +kernel
theorem d_X_never_12 : decode prog_1_method_29_code 12 = .ok (.if_icmp .ge (50), 3) := by decide +kernel
theorem d_X_never_15 : decode prog_1_method_29_code 15 = .ok (.aload_n 0, 1) := by decide +kernel
theorem d_X_never_16 : decode prog_1_method_29_code 16 = .ok (.getfield 46, 3) := by decide +kernel
theorem d_X_never_19 : decode prog_1_method_29_code 19 = .ok (.aload_n 0, 1) := by decide +kernel
theorem d_X_never_20 : decode prog_1_method_29_code 20 = .ok (.getfield 18, 3) := by decide +kernel
theorem d_X_never_23 : decode prog_1_method_29_code 23 = .ok (.aload_n 0, 1) := by decide +kernel
theorem d_X_never_24 : decode prog_1_method_29_code 24 = .ok (.invokevirtual 189, 3) := by decide +kernel
theorem d_X_never_27 : decode prog_1_method_29_code 27 = .ok (.iconst 1, 1) := by decide +kernel
theorem d_X_never_28 : decode prog_1_method_29_code 28 = .ok (.iload_n 2, 1) := by decide +kernel
theorem d_X_never_29 : decode prog_1_method_29_code 29 = .ok (.ishl, 1) := by decide +kernel
theorem d_X_never_30 : decode prog_1_method_29_code 30 = .ok (.iconst (-1), 1) := by decide +kernel
theorem d_X_never_31 : decode prog_1_method_29_code 31 = .ok (.ixor, 1) := by decide +kernel
theorem d_X_never_32 : decode prog_1_method_29_code 32 = .ok (.iand, 1) := by decide +kernel
theorem d_X_never_33 : decode prog_1_method_29_code 33 = .ok (.invokevirtual 192, 3) := by decide +kernel
theorem d_X_never_36 : decode prog_1_method_29_code 36 = .ok (.aload_n 0, 1) := by decide +kernel
theorem d_X_never_37 : decode prog_1_method_29_code 37 = .ok (.getfield 25, 3) := by decide +kernel
theorem d_X_never_40 : decode prog_1_method_29_code 40 = .ok (.aload_n 0, 1) := by decide +kernel
theorem d_X_never_41 : decode prog_1_method_29_code 41 = .ok (.getfield 46, 3) := by decide +kernel
theorem d_X_never_44 : decode prog_1_method_29_code 44 = .ok (.invokevirtual 218, 3) := by decide +kernel
theorem d_X_never_47 : decode prog_1_method_29_code 47 = .ok (.ifCond .eq (9), 3) := by decide +kernel
theorem d_X_never_50 : decode prog_1_method_29_code 50 = .ok (.iload_n 1, 1) := by decide +kernel
theorem d_X_never_51 : decode prog_1_method_29_code 51 = .ok (.iconst 1, 1) := by decide +kernel
theorem d_X_never_52 : decode prog_1_method_29_code 52 = .ok (.iload_n 2, 1) := by decide +kernel
theorem d_X_never_53 : decode prog_1_method_29_code 53 = .ok (.ishl, 1) := by decide +kernel
theorem d_X_never_54 : decode prog_1_method_29_code 54 = .ok (.ior, 1) := by decide +kernel
theorem d_X_never_55 : decode prog_1_method_29_code 55 = .ok (.istore_n 1, 1) := by decide +kernel
theorem d_X_never_56 : decode prog_1_method_29_code 56 = .ok (.iinc 2 1, 3) := by decide +kernel
theorem d_X_never_59 : decode prog_1_method_29_code 59 = .ok (.goto (-55), 3) := by decide +kernel
theorem d_X_never_62 : decode prog_1_method_29_code 62 = .ok (.iload_n 1, 1) := by decide +kernel
theorem d_X_never_63 : decode prog_1_method_29_code 63 = .ok (.ireturn, 1) := by decide +kernel
def wp_X_never (M : Mem) (post : Int32 → Mem → Prop) : Prop :=
  (it3 (fun rec1 (i3 : Int32) (i4 : Int32) (M5 : Mem) => ((((M5 10 9) ≤ i4) → post i3 M5) ∧ (¬ ((M5 10 9) ≤ i4) → wp_X_allEvents M5 (fun r7 => wp_XW_run 44 (r7 &&& (((1 : Int32) <<< (i4 &&& 31)) ^^^ (-1))) M5 (fun M8 => wp_XG_fit 44 M8 (fun r10 => ∀ u12 : Int32, u12 = (if r10 = 0 then i3 else (i3 ||| ((1 : Int32) <<< (i4 &&& 31)))) → rec1 u12 (i4 + 1) M8)))))) 4096 0 0 M)
set_option maxHeartbeats 4000000 in
set_option maxRecDepth 100000 in
theorem c_X_never (g : GX) {M : Mem} {post : Int32 → Mem → Prop} (hw : wp_X_never M post) : CtI (oX g) y_X_never prog_1_method_29_code 3 (some .int) (rl 3) [.ref (ax g 0)] M post := by
  refine z_metI (oX_ok g) (by decide) rfl (fun X C hr => ?_)
  show Zj X 3 (oX g) M 0 [(0, .ref (ax g 0))] []
  unfold wp_X_never at hw
  refine z_iconst (v := 0) C d_X_never_0 (by decide) ?_
  refine z_istore_n (lv' := [(1, .int 0), (0, .ref (ax g 0))]) C d_X_never_1 rfl rfl rfl ?_
  refine z_iconst (v := 0) C d_X_never_2 (by decide) ?_
  refine z_istore_n (lv' := [(2, .int 0), (1, .int 0), (0, .ref (ax g 0))]) C d_X_never_3 rfl rfl rfl ?_
  refine z_sub [2, 1, 0] rfl ?_
  refine it3_Z (Z := fun (i3 : Int32) (i4 : Int32) (M5 : Mem) => Zj X 3 (oX g) M5 4 [(0, .ref (ax g 0)), (1, .int i3), (2, .int i4)] []) (fun rec1 ih2 i3 i4 M5 hw => ?_) _ _ _ _ hw
  refine z_iload_n C d_X_never_4 rfl 2 rfl ?_
  refine z_aload_n C d_X_never_5 rfl 0 rfl ?_
  refine gf_X_18 C d_X_never_6 ?_
  refine gf_X_125 C d_X_never_9 ?_
  refine z_ic_ge C 62 d_X_never_12 (by decide) (fun h6 => ?_) (fun h6 => ?_)
  · replace hw := hw.1 h6
    refine z_iload_n C d_X_never_62 rfl 1 rfl ?_
    exact z_iret C hr hw d_X_never_63
  · replace hw := hw.2 h6
    refine z_aload_n C d_X_never_15 rfl 0 rfl ?_
    refine gf_X_46 C d_X_never_16 ?_
    refine z_aload_n C d_X_never_19 rfl 0 rfl ?_
    refine gf_X_18 C d_X_never_20 ?_
    refine z_aload_n C d_X_never_23 rfl 0 rfl ?_
    refine z_callVi C (As := []) (rest := [.ref (ax g 10), .ref (ax g 44)]) m_X_allEvents tw_362 0 (le_X) rfl ⟨rfl, rfl⟩ (c_X_allEvents g hw) rfl rfl rfl d_X_never_24 (fun r7 M2 hq => ?_)
    obtain ⟨rfl, hw⟩ := hq
    refine z_iconst (v := 1) C d_X_never_27 (by decide) ?_
    refine z_iload_n C d_X_never_28 rfl 2 rfl ?_
    refine z_ishl C d_X_never_29 ?_
    refine z_iconst (v := (-1)) C d_X_never_30 (by decide) ?_
    refine z_ixor C d_X_never_31 ?_
    refine z_iand C d_X_never_32 ?_
    refine z_callVv C (As := [.ref (ax g 10), .int (r7 &&& (((1 : Int32) <<< (i4 &&& 31)) ^^^ (-1)))]) (rest := []) m_XW_run tw_366 44 (le_XW (Or.inr rfl)) rfl ⟨rfl, rfl⟩ (c_XW_run g (Or.inr rfl) hw) rfl rfl rfl d_X_never_33 (fun M8 hw => ?_)
    refine z_aload_n C d_X_never_36 rfl 0 rfl ?_
    refine gf_X_25 C d_X_never_37 ?_
    refine z_aload_n C d_X_never_40 rfl 0 rfl ?_
    refine gf_X_46 C d_X_never_41 ?_
    refine z_callVi C (As := [.ref (ax g 44)]) (rest := []) m_XG_fit tw_515 20 (le_XG) rfl ⟨rfl, rfl⟩ (c_XG_fit g (Or.inr rfl) hw) rfl rfl rfl d_X_never_44 (fun r10 M2 hq => ?_)
    obtain ⟨rfl, hw⟩ := hq
    have hj13 : ∀ u12 : Int32, u12 = (if r10 = 0 then i3 else (i3 ||| ((1 : Int32) <<< (i4 &&& 31)))) → Zj X 3 (oX g) M8 56 [(0, .ref (ax g 0)), (1, .int u12), (2, .int i4)] [] := by
      intro u12 hu12
      replace hw := hw u12 hu12
      refine z_iinc (v := (i4 + 1)) (lv' := [(2, .int (i4 + 1)), (0, .ref (ax g 0)), (1, .int u12)]) C d_X_never_56 2 rfl rfl rfl rfl ?_
      refine z_goto C 4 d_X_never_59 (by decide) ?_
      refine z_sub [1, 2, 0] rfl ?_
      exact ih2 _ _ _ hw
    refine z_if_eq C 56 d_X_never_47 (by decide) (fun h11 => ?_) (fun h11 => ?_)
    · refine z_sub [0, 1, 2] rfl ?_
      exact hj13 _ ((if_pos h11)).symm
    · refine z_iload_n C d_X_never_50 rfl 1 rfl ?_
      refine z_iconst (v := 1) C d_X_never_51 (by decide) ?_
      refine z_iload_n C d_X_never_52 rfl 2 rfl ?_
      refine z_ishl C d_X_never_53 ?_
      refine z_ior C d_X_never_54 ?_
      refine z_istore_n (lv' := [(1, .int (i3 ||| ((1 : Int32) <<< (i4 &&& 31)))), (0, .ref (ax g 0)), (2, .int i4)]) C d_X_never_55 rfl rfl rfl ?_
      refine z_sub [1, 0, 2] rfl ?_
      exact hj13 _ ((if_neg h11)).symm
theorem d_X_winters_0 : decode prog_1_method_34_code 0 = .ok (.iload_n 2, 1) := by decide +kernel
theorem d_X_winters_1 : decode prog_1_method_34_code 1 = .ok (.ifCond .lt (17), 3) := by decide +kernel
theorem d_X_winters_4 : decode prog_1_method_34_code 4 = .ok (.iload_n 2, 1) := by decide +kernel
theorem d_X_winters_5 : decode prog_1_method_34_code 5 = .ok (.bipush 24, 2) := by decide +kernel
theorem d_X_winters_7 : decode prog_1_method_34_code 7 = .ok (.if_icmp .gt (11), 3) := by decide +kernel
theorem d_X_winters_10 : decode prog_1_method_34_code 10 = .ok (.iload_n 3, 1) := by decide +kernel
theorem d_X_winters_11 : decode prog_1_method_34_code 11 = .ok (.iconst 2, 1) := by decide +kernel
theorem d_X_winters_12 : decode prog_1_method_34_code 12 = .ok (.invokestatic 70, 3) := by decide +kernel
theorem d_X_winters_15 : decode prog_1_method_34_code 15 = .ok (.ifCond .eq (6), 3) := by decide +kernel
theorem d_X_winters_18 : decode prog_1_method_34_code 18 = .ok (.bipush (-2), 2) := by decide +kernel
theorem d_X_winters_20 : decode prog_1_method_34_code 20 = .ok (.ireturn, 1) := by decide +kernel
theorem d_X_winters_21 : decode prog_1_method_34_code 21 = .ok (.aload_n 0, 1) := by decide +kernel
theorem d_X_winters_22 : decode prog_1_method_34_code 22 = .ok (.iload_n 1, 1) := by decide +kernel
theorem d_X_winters_23 : decode prog_1_method_34_code 23 = .ok (.iload_n 2, 1) := by decide +kernel
theorem d_X_winters_24 : decode prog_1_method_34_code 24 = .ok (.invokevirtual 246, 3) := by decide +kernel
theorem d_X_winters_27 : decode prog_1_method_34_code 27 = .ok (.aload_n 0, 1) := by decide +kernel
theorem d_X_winters_28 : decode prog_1_method_34_code 28 = .ok (.getfield 18, 3) := by decide +kernel
theorem d_X_winters_31 : decode prog_1_method_34_code 31 = .ok (.getfield 91, 3) := by decide +kernel
theorem d_X_winters_34 : decode prog_1_method_34_code 34 = .ok (.astore 4, 2) := by decide +kernel
theorem d_X_winters_36 : decode prog_1_method_34_code 36 = .ok (.aload_n 0, 1) := by decide +kernel
theorem d_X_winters_37 : decode prog_1_method_34_code 37 = .ok (.getfield 18, 3) := by decide +kernel
theorem d_X_winters_40 : decode prog_1_method_34_code 40 = .ok (.aload_n 0, 1) := by decide +kernel
theorem d_X_winters_41 : decode prog_1_method_34_code 41 = .ok (.getfield 60, 3) := by decide +kernel
theorem d_X_winters_44 : decode prog_1_method_34_code 44 = .ok (.putfield 91, 3) := by decide +kernel
theorem d_X_winters_47 : decode prog_1_method_34_code 47 = .ok (.aload_n 0, 1) := by decide +kernel
theorem d_X_winters_48 : decode prog_1_method_34_code 48 = .ok (.getfield 46, 3) := by decide +kernel
theorem d_X_winters_51 : decode prog_1_method_34_code 51 = .ok (.aload_n 0, 1) := by decide +kernel
theorem d_X_winters_52 : decode prog_1_method_34_code 52 = .ok (.getfield 18, 3) := by decide +kernel
theorem d_X_winters_55 : decode prog_1_method_34_code 55 = .ok (.aload_n 0, 1) := by decide +kernel
theorem d_X_winters_56 : decode prog_1_method_34_code 56 = .ok (.invokevirtual 189, 3) := by decide +kernel
theorem d_X_winters_59 : decode prog_1_method_34_code 59 = .ok (.invokevirtual 192, 3) := by decide +kernel
theorem d_X_winters_62 : decode prog_1_method_34_code 62 = .ok (.aload_n 0, 1) := by decide +kernel
theorem d_X_winters_63 : decode prog_1_method_34_code 63 = .ok (.getfield 18, 3) := by decide +kernel
theorem d_X_winters_66 : decode prog_1_method_34_code 66 = .ok (.aload 4, 2) := by decide +kernel
theorem d_X_winters_68 : decode prog_1_method_34_code 68 = .ok (.putfield 91, 3) := by decide +kernel
theorem d_X_winters_71 : decode prog_1_method_34_code 71 = .ok (.iload_n 3, 1) := by decide +kernel
theorem d_X_winters_72 : decode prog_1_method_34_code 72 = .ok (.ifCond .ne (15), 3) := by decide +kernel
theorem d_X_winters_75 : decode prog_1_method_34_code 75 = .ok (.aload_n 0, 1) := by decide +kernel
theorem d_X_winters_76 : decode prog_1_method_34_code 76 = .ok (.getfield 46, 3) := by decide +kernel
theorem d_X_winters_79 : decode prog_1_method_34_code 79 = .ok (.bipush 23, 2) := by decide +kernel
theorem d_X_winters_81 : decode prog_1_method_34_code 81 = .ok (.invokevirtual 168, 3) := by decide +kernel
theorem d_X_winters_84 : decode prog_1_method_34_code 84 = .ok (.goto (14), 3) := by decide +kernel
theorem d_X_winters_87 : decode prog_1_method_34_code 87 = .ok (.aload_n 0, 1) := by decide +kernel
theorem d_X_winters_88 : decode prog_1_method_34_code 88 = .ok (.getfield 46, 3) := by decide +kernel
theorem d_X_winters_91 : decode prog_1_method_34_code 91 = .ok (.aload_n 0, 1) := by decide +kernel
theorem d_X_winters_92 : decode prog_1_method_34_code 92 = .ok (.getfield 18, 3) := by decide +kernel
theorem d_X_winters_95 : decode prog_1_method_34_code 95 = .ok (.invokevirtual 196, 3) := by decide +kernel
theorem d_X_winters_98 : decode prog_1_method_34_code 98 = .ok (.ireturn, 1) := by decide +kernel
def wp_X_winters (a1 : Int32) (a2 : Int32) (a3 : Int32) (M : Mem) (post : Int32 → Mem → Prop) : Prop :=
  (((a2 < 0) → post (-2) M) ∧ (¬ (a2 < 0) → (((24 < a2) → post (-2) M) ∧ (¬ (24 < a2) → ((((pf_X_outside a3 2) = 0) → wp_X_drawFall a1 a2 M (fun M5 => ∀ M7 : Mem, M7 = upm M5 59 0 1 → wp_X_allEvents M7 (fun r8 => wp_XW_run 44 r8 M7 (fun M9 => ∀ M11 : Mem, M11 = upm M9 59 0 (M5 59 0) → (((a3 = 0) → wp_XW_snowBehind 44 23 M11 (fun r15 => post r15 M11)) ∧ (¬ (a3 = 0) → wp_XW_busesOver 44 M11 (fun r14 M13 => post r14 M13))))))) ∧ (¬ ((pf_X_outside a3 2) = 0) → post (-2) M))))))
set_option maxHeartbeats 4000000 in
set_option maxRecDepth 100000 in
theorem c_X_winters (g : GX) {a1 : Int32} {a2 : Int32} {a3 : Int32} {M : Mem} {post : Int32 → Mem → Prop} (hw : wp_X_winters a1 a2 a3 M post) : CtI (oX g) y_X_winters prog_1_method_34_code 5 (some .int) (rl 3) [.ref (ax g 0), .int a1, .int a2, .int a3] M post := by
  refine z_metI (oX_ok g) (by decide) rfl (fun X C hr => ?_)
  show Zj X 5 (oX g) M 0 [(0, .ref (ax g 0)), (1, .int a1), (2, .int a2), (3, .int a3)] []
  unfold wp_X_winters at hw
  refine z_iload_n C d_X_winters_0 rfl 2 rfl ?_
  refine z_if_lt C 18 d_X_winters_1 (by decide) (fun h1 => ?_) (fun h1 => ?_)
  · replace hw := hw.1 h1
    refine z_bipush (v := (-2)) C d_X_winters_18 (by decide) ?_
    exact z_iret C hr hw d_X_winters_20
  · replace hw := hw.2 h1
    refine z_iload_n C d_X_winters_4 rfl 2 rfl ?_
    refine z_bipush (v := 24) C d_X_winters_5 (by decide) ?_
    refine z_ic_gt C 18 d_X_winters_7 (by decide) (fun h2 => ?_) (fun h2 => ?_)
    · replace hw := hw.1 h2
      refine z_bipush (v := (-2)) C d_X_winters_18 (by decide) ?_
      exact z_iret C hr hw d_X_winters_20
    · replace hw := hw.2 h2
      refine z_iload_n C d_X_winters_10 rfl 3 rfl ?_
      refine z_iconst (v := 2) C d_X_winters_11 (by decide) ?_
      refine z_callSi C (As := [.int a3, .int 2]) (rest := []) m_X_outside tw_251 ⟨rfl, rfl⟩ (c_X_outside (oX_ok g) _ _ _) rfl rfl rfl d_X_winters_12 (fun r M2 hq => ?_)
      obtain ⟨rfl, rfl⟩ := hq
      refine z_if_eq C 21 d_X_winters_15 (by decide) (fun h4 => ?_) (fun h4 => ?_)
      · replace hw := hw.1 h4
        refine z_aload_n C d_X_winters_21 rfl 0 rfl ?_
        refine z_iload_n C d_X_winters_22 rfl 1 rfl ?_
        refine z_iload_n C d_X_winters_23 rfl 2 rfl ?_
        refine z_callVv C (As := [.int a1, .int a2]) (rest := []) m_X_drawFall tw_565 0 (le_X) rfl ⟨rfl, rfl⟩ (c_X_drawFall g hw) rfl rfl rfl d_X_winters_24 (fun M5 hw => ?_)
        refine z_aload_n C d_X_winters_27 rfl 0 rfl ?_
        refine gf_X_18 C d_X_winters_28 ?_
        refine gf_X_91 C d_X_winters_31 ?_
        refine z_astore (lv' := [(4, .ref (ax g (fz M5))), (0, .ref (ax g 0)), (1, .int a1), (2, .int a2), (3, .int a3)]) C d_X_winters_34 rfl rfl ?_
        refine z_aload_n C d_X_winters_36 rfl 1 rfl ?_
        refine gf_X_18 C d_X_winters_37 ?_
        refine z_aload_n C d_X_winters_40 rfl 1 rfl ?_
        refine gf_X_60 C d_X_winters_41 ?_
        refine pp_fallsD C tw_33 d_X_winters_44 (fun M7 hM7 => ?_)
        replace hw := hw M7 hM7
        refine z_aload_n C d_X_winters_47 rfl 1 rfl ?_
        refine gf_X_46 C d_X_winters_48 ?_
        refine z_aload_n C d_X_winters_51 rfl 1 rfl ?_
        refine gf_X_18 C d_X_winters_52 ?_
        refine z_aload_n C d_X_winters_55 rfl 1 rfl ?_
        refine z_callVi C (As := []) (rest := [.ref (ax g 10), .ref (ax g 44)]) m_X_allEvents tw_362 0 (le_X) rfl ⟨rfl, rfl⟩ (c_X_allEvents g hw) rfl rfl rfl d_X_winters_56 (fun r8 M2 hq => ?_)
        obtain ⟨rfl, hw⟩ := hq
        refine z_callVv C (As := [.ref (ax g 10), .int r8]) (rest := []) m_XW_run tw_366 44 (le_XW (Or.inr rfl)) rfl ⟨rfl, rfl⟩ (c_XW_run g (Or.inr rfl) hw) rfl rfl rfl d_X_winters_59 (fun M9 hw => ?_)
        refine z_aload_n C d_X_winters_62 rfl 1 rfl ?_
        refine gf_X_18 C d_X_winters_63 ?_
        refine z_aload C d_X_winters_66 0 rfl ?_
        refine pp_fallsO C tw_33 d_X_winters_68 (fun M11 hM11 => ?_)
        replace hw := hw M11 hM11
        refine z_iload_n C d_X_winters_71 rfl 4 rfl ?_
        refine z_if_ne C 87 d_X_winters_72 (by decide) (fun h12 => ?_) (fun h12 => ?_)
        · replace hw := hw.2 h12
          refine z_aload_n C d_X_winters_87 rfl 1 rfl ?_
          refine gf_X_46 C d_X_winters_88 ?_
          refine z_aload_n C d_X_winters_91 rfl 1 rfl ?_
          refine gf_X_18 C d_X_winters_92 ?_
          refine z_callVi C (As := [.ref (ax g 10)]) (rest := []) m_XW_busesOver tw_460 44 (le_XW (Or.inr rfl)) rfl ⟨rfl, rfl⟩ (c_XW_busesOver g (Or.inr rfl) hw) rfl rfl rfl d_X_winters_95 (fun r14 M13 hw => ?_)
          exact z_iret C hr hw d_X_winters_98
        · replace hw := hw.1 h12
          refine z_aload_n C d_X_winters_75 rfl 1 rfl ?_
          refine gf_X_46 C d_X_winters_76 ?_
          refine z_bipush (v := 23) C d_X_winters_79 (by decide) ?_
          refine z_callVi C (As := [.int 23]) (rest := []) m_XW_snowBehind tw_424 44 (le_XW (Or.inr rfl)) rfl ⟨rfl, rfl⟩ (c_XW_snowBehind g (Or.inr rfl) hw) rfl rfl rfl d_X_winters_81 (fun r15 M2 hq => ?_)
          obtain ⟨rfl, hw⟩ := hq
          refine z_goto C 98 d_X_winters_84 (by decide) ?_
          exact z_iret C hr hw d_X_winters_98
      · replace hw := hw.2 h4
        refine z_bipush (v := (-2)) C d_X_winters_18 (by decide) ?_
        exact z_iret C hr hw d_X_winters_20
theorem d_X_asTold_0 : decode prog_1_method_54_code 0 = .ok (.aload_n 0, 1) := by decide +kernel
theorem d_X_asTold_1 : decode prog_1_method_54_code 1 = .ok (.getfield 49, 3) := by decide +kernel
theorem d_X_asTold_4 : decode prog_1_method_54_code 4 = .ok (.ifCond .eq (23), 3) := by decide +kernel
theorem d_X_asTold_7 : decode prog_1_method_54_code 7 = .ok (.aload_n 0, 1) := by decide +kernel
theorem d_X_asTold_8 : decode prog_1_method_54_code 8 = .ok (.getfield 42, 3) := by decide +kernel
theorem d_X_asTold_11 : decode prog_1_method_54_code 11 = .ok (.aload_n 0, 1) := by decide +kernel
theorem d_X_asTold_12 : decode prog_1_method_54_code 12 = .ok (.getfield 18, 3) := by decide +kernel
theorem d_X_asTold_15 : decode prog_1_method_54_code 15 = .ok (.aload_n 0, 1) := by decide +kernel
theorem d_X_asTold_16 : decode prog_1_method_54_code 16 = .ok (.invokevirtual 189, 3) := by decide +kernel
theorem d_X_asTold_19 : decode prog_1_method_54_code 19 = .ok (.invokevirtual 192, 3) := by decide +kernel
theorem d_X_asTold_22 : decode prog_1_method_54_code 22 = .ok (.aload_n 0, 1) := by decide +kernel
theorem d_X_asTold_23 : decode prog_1_method_54_code 23 = .ok (.iconst 0, 1) := by decide +kernel
theorem d_X_asTold_24 : decode prog_1_method_54_code 24 = .ok (.putfield 49, 3) := by decide +kernel
theorem d_X_asTold_27 : decode prog_1_method_54_code 27 = .ok (.aload_n 0, 1) := by decide +kernel
theorem d_X_asTold_28 : decode prog_1_method_54_code 28 = .ok (.getfield 42, 3) := by decide +kernel
theorem d_X_asTold_31 : decode prog_1_method_54_code 31 = .ok (.areturn, 1) := by decide +kernel
def wp_X_asTold (M : Mem) (post : Mem → Prop) : Prop :=
  ((((M 0 7) = 0) → post M) ∧ (¬ ((M 0 7) = 0) → wp_X_allEvents M (fun r2 => wp_XW_run 32 r2 M (fun M3 => ∀ M5 : Mem, M5 = upm M3 0 7 0 → post M5))))
set_option maxHeartbeats 4000000 in
set_option maxRecDepth 100000 in
theorem c_X_asTold (g : GX) {M : Mem} {post : Mem → Prop} (hw : wp_X_asTold M post) : CtR (oX g) y_X_asTold prog_1_method_54_code 1 (some (.object "SnowRoad$Winter")) (rl 3) [.ref (ax g 0)] M post (ax g 32) := by
  refine z_metR (oX_ok g) (by decide) rfl (fun X C hr => ?_)
  show Zj X 1 (oX g) M 0 [(0, .ref (ax g 0))] []
  unfold wp_X_asTold at hw
  refine z_aload_n C d_X_asTold_0 rfl 0 rfl ?_
  refine gf_X_49 C d_X_asTold_1 ?_
  refine z_if_eq C 27 d_X_asTold_4 (by decide) (fun h1 => ?_) (fun h1 => ?_)
  · replace hw := hw.1 h1
    refine z_aload_n C d_X_asTold_27 rfl 0 rfl ?_
    refine gf_X_42 C d_X_asTold_28 ?_
    exact z_rret C hr hw d_X_asTold_31
  · replace hw := hw.2 h1
    refine z_aload_n C d_X_asTold_7 rfl 0 rfl ?_
    refine gf_X_42 C d_X_asTold_8 ?_
    refine z_aload_n C d_X_asTold_11 rfl 0 rfl ?_
    refine gf_X_18 C d_X_asTold_12 ?_
    refine z_aload_n C d_X_asTold_15 rfl 0 rfl ?_
    refine z_callVi C (As := []) (rest := [.ref (ax g 10), .ref (ax g 32)]) m_X_allEvents tw_362 0 (le_X) rfl ⟨rfl, rfl⟩ (c_X_allEvents g hw) rfl rfl rfl d_X_asTold_16 (fun r2 M2 hq => ?_)
    obtain ⟨rfl, hw⟩ := hq
    refine z_callVv C (As := [.ref (ax g 10), .int r2]) (rest := []) m_XW_run tw_366 32 (le_XW (Or.inl rfl)) rfl ⟨rfl, rfl⟩ (c_XW_run g (Or.inl rfl) hw) rfl rfl rfl d_X_asTold_19 (fun M3 hw => ?_)
    refine z_aload_n C d_X_asTold_22 rfl 0 rfl ?_
    refine z_iconst (v := 0) C d_X_asTold_23 (by decide) ?_
    refine pp_X_49 (Or.inl rfl) C d_X_asTold_24 (fun M5 hM5 => ?_)
    replace hw := hw M5 hM5
    refine z_aload_n C d_X_asTold_27 rfl 0 rfl ?_
    refine gf_X_42 C d_X_asTold_28 ?_
    exact z_rret C hr hw d_X_asTold_31
theorem d_X_tryLand_0 : decode prog_1_method_55_code 0 = .ok (.aload_n 0, 1) := by decide +kernel
theorem d_X_tryLand_1 : decode prog_1_method_55_code 1 = .ok (.getfield 18, 3) := by decide +kernel
theorem d_X_tryLand_4 : decode prog_1_method_55_code 4 = .ok (.getfield 88, 3) := by decide +kernel
theorem d_X_tryLand_7 : decode prog_1_method_55_code 7 = .ok (.iload_n 1, 1) := by decide +kernel
theorem d_X_tryLand_8 : decode prog_1_method_55_code 8 = .ok (.iaload, 1) := by decide +kernel
theorem d_X_tryLand_9 : decode prog_1_method_55_code 9 = .ok (.istore_n 3, 1) := by decide +kernel
theorem d_X_tryLand_10 : decode prog_1_method_55_code 10 = .ok (.aload_n 0, 1) := by decide +kernel
theorem d_X_tryLand_11 : decode prog_1_method_55_code 11 = .ok (.getfield 18, 3) := by decide +kernel
theorem d_X_tryLand_14 : decode prog_1_method_55_code 14 = .ok (.getfield 88, 3) := by decide +kernel
theorem d_X_tryLand_17 : decode prog_1_method_55_code 17 = .ok (.iload_n 1, 1) := by decide +kernel
theorem d_X_tryLand_18 : decode prog_1_method_55_code 18 = .ok (.iload_n 2, 1) := by decide +kernel
theorem d_X_tryLand_19 : decode prog_1_method_55_code 19 = .ok (.iastore, 1) := by decide +kernel
theorem d_X_tryLand_20 : decode prog_1_method_55_code 20 = .ok (.aload_n 0, 1) := by decide +kernel
theorem d_X_tryLand_21 : decode prog_1_method_55_code 21 = .ok (.getfield 46, 3) := by decide +kernel
theorem d_X_tryLand_24 : decode prog_1_method_55_code 24 = .ok (.aload_n 0, 1) := by decide +kernel
theorem d_X_tryLand_25 : decode prog_1_method_55_code 25 = .ok (.getfield 18, 3) := by decide +kernel
theorem d_X_tryLand_28 : decode prog_1_method_55_code 28 = .ok (.aload_n 0, 1) := by decide +kernel
theorem d_X_tryLand_29 : decode prog_1_method_55_code 29 = .ok (.invokevirtual 189, 3) := by decide +kernel
theorem d_X_tryLand_32 : decode prog_1_method_55_code 32 = .ok (.invokevirtual 192, 3) := by decide +kernel
theorem d_X_tryLand_35 : decode prog_1_method_55_code 35 = .ok (.aload_n 0, 1) := by decide +kernel
theorem d_X_tryLand_36 : decode prog_1_method_55_code 36 = .ok (.getfield 18, 3) := by decide +kernel
theorem d_X_tryLand_39 : decode prog_1_method_55_code 39 = .ok (.getfield 88, 3) := by decide +kernel
theorem d_X_tryLand_42 : decode prog_1_method_55_code 42 = .ok (.iload_n 1, 1) := by decide +kernel
theorem d_X_tryLand_43 : decode prog_1_method_55_code 43 = .ok (.iload_n 3, 1) := by decide +kernel
theorem d_X_tryLand_44 : decode prog_1_method_55_code 44 = .ok (.iastore, 1) := by decide +kernel
theorem d_X_tryLand_45 : decode prog_1_method_55_code 45 = .ok (.return_, 1) := by decide +kernel
def wp_X_tryLand (a1 : Int32) (a2 : Int32) (M : Mem) (post : Mem → Prop) : Prop :=
  vp_in a1 12 ∧ ∀ M2 : Mem, M2 = upm M 11 (tn a1) a2 → wp_X_allEvents M2 (fun r3 => wp_XW_run 44 r3 M2 (fun M4 => ∀ M6 : Mem, M6 = upm M4 11 (tn a1) (M 11 (tn a1)) → post M6))
set_option maxHeartbeats 4000000 in
set_option maxRecDepth 100000 in
theorem c_X_tryLand (g : GX) {a1 : Int32} {a2 : Int32} {M : Mem} {post : Mem → Prop} (hw : wp_X_tryLand a1 a2 M post) : CtV (oX g) y_X_tryLand prog_1_method_55_code 4 none (rl 3) [.ref (ax g 0), .int a1, .int a2] M post := by
  refine z_metV (oX_ok g) (by decide) rfl (fun X C hr => ?_)
  show Zj X 4 (oX g) M 0 [(0, .ref (ax g 0)), (1, .int a1), (2, .int a2)] []
  unfold wp_X_tryLand at hw
  refine z_aload_n C d_X_tryLand_0 rfl 0 rfl ?_
  refine gf_X_18 C d_X_tryLand_1 ?_
  refine gf_X_88 C d_X_tryLand_4 ?_
  refine z_iload_n C d_X_tryLand_7 rfl 1 rfl ?_
  have hv1 := hw.1
  replace hw := hw.2
  refine z_al (zar_x11) C hv1 d_X_tryLand_8 ?_
  refine z_istore_n (lv' := [(3, .int (M 11 (tn a1))), (0, .ref (ax g 0)), (1, .int a1), (2, .int a2)]) C d_X_tryLand_9 rfl rfl rfl ?_
  refine z_aload_n C d_X_tryLand_10 rfl 1 rfl ?_
  refine gf_X_18 C d_X_tryLand_11 ?_
  refine gf_X_88 C d_X_tryLand_14 ?_
  refine z_iload_n C d_X_tryLand_17 rfl 2 rfl ?_
  refine z_iload_n C d_X_tryLand_18 rfl 3 rfl ?_
  refine z_as (zar_x11) C hv1 d_X_tryLand_19 (fun M2 hM2 => ?_)
  replace hw := hw M2 hM2
  refine z_aload_n C d_X_tryLand_20 rfl 1 rfl ?_
  refine gf_X_46 C d_X_tryLand_21 ?_
  refine z_aload_n C d_X_tryLand_24 rfl 1 rfl ?_
  refine gf_X_18 C d_X_tryLand_25 ?_
  refine z_aload_n C d_X_tryLand_28 rfl 1 rfl ?_
  refine z_callVi C (As := []) (rest := [.ref (ax g 10), .ref (ax g 44)]) m_X_allEvents tw_362 0 (le_X) rfl ⟨rfl, rfl⟩ (c_X_allEvents g hw) rfl rfl rfl d_X_tryLand_29 (fun r3 M2 hq => ?_)
  obtain ⟨rfl, hw⟩ := hq
  refine z_callVv C (As := [.ref (ax g 10), .int r3]) (rest := []) m_XW_run tw_366 44 (le_XW (Or.inr rfl)) rfl ⟨rfl, rfl⟩ (c_XW_run g (Or.inr rfl) hw) rfl rfl rfl d_X_tryLand_32 (fun M4 hw => ?_)
  refine z_aload_n C d_X_tryLand_35 rfl 1 rfl ?_
  refine gf_X_18 C d_X_tryLand_36 ?_
  refine gf_X_88 C d_X_tryLand_39 ?_
  refine z_iload_n C d_X_tryLand_42 rfl 2 rfl ?_
  refine z_iload_n C d_X_tryLand_43 rfl 0 rfl ?_
  refine z_as (zar_x11) C hv1 d_X_tryLand_44 (fun M6 hM6 => ?_)
  replace hw := hw M6 hM6
  exact z_vret C hr hw d_X_tryLand_45
theorem d_X_tryStrength_0 : decode prog_1_method_56_code 0 = .ok (.aload_n 0, 1) := by decide +kernel
theorem d_X_tryStrength_1 : decode prog_1_method_56_code 1 = .ok (.getfield 18, 3) := by decide +kernel
theorem d_X_tryStrength_4 : decode prog_1_method_56_code 4 = .ok (.getfield 100, 3) := by decide +kernel
theorem d_X_tryStrength_7 : decode prog_1_method_56_code 7 = .ok (.iload_n 1, 1) := by decide +kernel
theorem d_X_tryStrength_8 : decode prog_1_method_56_code 8 = .ok (.iaload, 1) := by decide +kernel
theorem d_X_tryStrength_9 : decode prog_1_method_56_code 9 = .ok (.istore_n 3, 1) := by decide +kernel
theorem d_X_tryStrength_10 : decode prog_1_method_56_code 10 = .ok (.aload_n 0, 1) := by decide +kernel
theorem d_X_tryStrength_11 : decode prog_1_method_56_code 11 = .ok (.getfield 18, 3) := by decide +kernel
theorem d_X_tryStrength_14 : decode prog_1_method_56_code 14 = .ok (.getfield 100, 3) := by decide +kernel
theorem d_X_tryStrength_17 : decode prog_1_method_56_code 17 = .ok (.iload_n 1, 1) := by decide +kernel
theorem d_X_tryStrength_18 : decode prog_1_method_56_code 18 = .ok (.iload_n 2, 1) := by decide +kernel
theorem d_X_tryStrength_19 : decode prog_1_method_56_code 19 = .ok (.iastore, 1) := by decide +kernel
theorem d_X_tryStrength_20 : decode prog_1_method_56_code 20 = .ok (.aload_n 0, 1) := by decide +kernel
theorem d_X_tryStrength_21 : decode prog_1_method_56_code 21 = .ok (.getfield 46, 3) := by decide +kernel
theorem d_X_tryStrength_24 : decode prog_1_method_56_code 24 = .ok (.aload_n 0, 1) := by decide +kernel
theorem d_X_tryStrength_25 : decode prog_1_method_56_code 25 = .ok (.getfield 18, 3) := by decide +kernel
theorem d_X_tryStrength_28 : decode prog_1_method_56_code 28 = .ok (.aload_n 0, 1) := by decide +kernel
theorem d_X_tryStrength_29 : decode prog_1_method_56_code 29 = .ok (.invokevirtual 189, 3) := by decide +kernel
theorem d_X_tryStrength_32 : decode prog_1_method_56_code 32 = .ok (.invokevirtual 192, 3) := by decide +kernel
theorem d_X_tryStrength_35 : decode prog_1_method_56_code 35 = .ok (.aload_n 0, 1) := by decide +kernel
theorem d_X_tryStrength_36 : decode prog_1_method_56_code 36 = .ok (.getfield 18, 3) := by decide +kernel
theorem d_X_tryStrength_39 : decode prog_1_method_56_code 39 = .ok (.getfield 100, 3) := by decide +kernel
theorem d_X_tryStrength_42 : decode prog_1_method_56_code 42 = .ok (.iload_n 1, 1) := by decide +kernel
theorem d_X_tryStrength_43 : decode prog_1_method_56_code 43 = .ok (.iload_n 3, 1) := by decide +kernel
theorem d_X_tryStrength_44 : decode prog_1_method_56_code 44 = .ok (.iastore, 1) := by decide +kernel
theorem d_X_tryStrength_45 : decode prog_1_method_56_code 45 = .ok (.return_, 1) := by decide +kernel
def wp_X_tryStrength (a1 : Int32) (a2 : Int32) (M : Mem) (post : Mem → Prop) : Prop :=
  vp_in a1 4 ∧ ∀ M2 : Mem, M2 = upm M 14 (tn a1) a2 → wp_X_allEvents M2 (fun r3 => wp_XW_run 44 r3 M2 (fun M4 => ∀ M6 : Mem, M6 = upm M4 14 (tn a1) (M 14 (tn a1)) → post M6))
set_option maxHeartbeats 4000000 in
set_option maxRecDepth 100000 in
theorem c_X_tryStrength (g : GX) {a1 : Int32} {a2 : Int32} {M : Mem} {post : Mem → Prop} (hw : wp_X_tryStrength a1 a2 M post) : CtV (oX g) y_X_tryStrength prog_1_method_56_code 4 none (rl 3) [.ref (ax g 0), .int a1, .int a2] M post := by
  refine z_metV (oX_ok g) (by decide) rfl (fun X C hr => ?_)
  show Zj X 4 (oX g) M 0 [(0, .ref (ax g 0)), (1, .int a1), (2, .int a2)] []
  unfold wp_X_tryStrength at hw
  refine z_aload_n C d_X_tryStrength_0 rfl 0 rfl ?_
  refine gf_X_18 C d_X_tryStrength_1 ?_
  refine gf_X_100 C d_X_tryStrength_4 ?_
  refine z_iload_n C d_X_tryStrength_7 rfl 1 rfl ?_
  have hv1 := hw.1
  replace hw := hw.2
  refine z_al (zar_x14) C hv1 d_X_tryStrength_8 ?_
  refine z_istore_n (lv' := [(3, .int (M 14 (tn a1))), (0, .ref (ax g 0)), (1, .int a1), (2, .int a2)]) C d_X_tryStrength_9 rfl rfl rfl ?_
  refine z_aload_n C d_X_tryStrength_10 rfl 1 rfl ?_
  refine gf_X_18 C d_X_tryStrength_11 ?_
  refine gf_X_100 C d_X_tryStrength_14 ?_
  refine z_iload_n C d_X_tryStrength_17 rfl 2 rfl ?_
  refine z_iload_n C d_X_tryStrength_18 rfl 3 rfl ?_
  refine z_as (zar_x14) C hv1 d_X_tryStrength_19 (fun M2 hM2 => ?_)
  replace hw := hw M2 hM2
  refine z_aload_n C d_X_tryStrength_20 rfl 1 rfl ?_
  refine gf_X_46 C d_X_tryStrength_21 ?_
  refine z_aload_n C d_X_tryStrength_24 rfl 1 rfl ?_
  refine gf_X_18 C d_X_tryStrength_25 ?_
  refine z_aload_n C d_X_tryStrength_28 rfl 1 rfl ?_
  refine z_callVi C (As := []) (rest := [.ref (ax g 10), .ref (ax g 44)]) m_X_allEvents tw_362 0 (le_X) rfl ⟨rfl, rfl⟩ (c_X_allEvents g hw) rfl rfl rfl d_X_tryStrength_29 (fun r3 M2 hq => ?_)
  obtain ⟨rfl, hw⟩ := hq
  refine z_callVv C (As := [.ref (ax g 10), .int r3]) (rest := []) m_XW_run tw_366 44 (le_XW (Or.inr rfl)) rfl ⟨rfl, rfl⟩ (c_XW_run g (Or.inr rfl) hw) rfl rfl rfl d_X_tryStrength_32 (fun M4 hw => ?_)
  refine z_aload_n C d_X_tryStrength_35 rfl 1 rfl ?_
  refine gf_X_18 C d_X_tryStrength_36 ?_
  refine gf_X_100 C d_X_tryStrength_39 ?_
  refine z_iload_n C d_X_tryStrength_42 rfl 2 rfl ?_
  refine z_iload_n C d_X_tryStrength_43 rfl 0 rfl ?_
  refine z_as (zar_x14) C hv1 d_X_tryStrength_44 (fun M6 hM6 => ?_)
  replace hw := hw M6 hM6
  exact z_vret C hr hw d_X_tryStrength_45
theorem d_X_allOverBut_0 : decode prog_1_method_57_code 0 = .ok (.aload_n 0, 1) := by decide +kernel
theorem d_X_allOverBut_1 : decode prog_1_method_57_code 1 = .ok (.getfield 46, 3) := by decide +kernel
theorem d_X_allOverBut_4 : decode prog_1_method_57_code 4 = .ok (.aload_n 0, 1) := by decide +kernel
theorem d_X_allOverBut_5 : decode prog_1_method_57_code 5 = .ok (.getfield 18, 3) := by decide +kernel
theorem d_X_allOverBut_8 : decode prog_1_method_57_code 8 = .ok (.aload_n 0, 1) := by decide +kernel
theorem d_X_allOverBut_9 : decode prog_1_method_57_code 9 = .ok (.invokevirtual 189, 3) := by decide +kernel
theorem d_X_allOverBut_12 : decode prog_1_method_57_code 12 = .ok (.iload_n 1, 1) := by decide +kernel
theorem d_X_allOverBut_13 : decode prog_1_method_57_code 13 = .ok (.iconst (-1), 1) := by decide +kernel
theorem d_X_allOverBut_14 : decode prog_1_method_57_code 14 = .ok (.ixor, 1) := by decide +kernel
theorem d_X_allOverBut_15 : decode prog_1_method_57_code 15 = .ok (.iand, 1) := by decide +kernel
theorem d_X_allOverBut_16 : decode prog_1_method_57_code 16 = .ok (.invokevirtual 192, 3) := by decide +kernel
theorem d_X_allOverBut_19 : decode prog_1_method_57_code 19 = .ok (.aload_n 0, 1) := by decide +kernel
theorem d_X_allOverBut_20 : decode prog_1_method_57_code 20 = .ok (.getfield 46, 3) := by decide +kernel
theorem d_X_allOverBut_23 : decode prog_1_method_57_code 23 = .ok (.aload_n 0, 1) := by decide +kernel
theorem d_X_allOverBut_24 : decode prog_1_method_57_code 24 = .ok (.getfield 18, 3) := by decide +kernel
theorem d_X_allOverBut_27 : decode prog_1_method_57_code 27 = .ok (.invokevirtual 196, 3) := by decide +kernel
theorem d_X_allOverBut_30 : decode prog_1_method_57_code 30 = .ok (.aload_n 0, 1) := by decide +kernel
theorem d_X_allOverBut_31 : decode prog_1_method_57_code 31 = .ok (.getfield 18, 3) := by decide +kernel
theorem d_X_allOverBut_34 : decode prog_1_method_57_code 34 = .ok (.getfield 106, 3) := by decide +kernel
theorem d_X_allOverBut_37 : decode prog_1_method_57_code 37 = .ok (.if_icmp .ne (7), 3) := by decide +kernel
theorem d_X_allOverBut_40 : decode prog_1_method_57_code 40 = .ok (.iconst 1, 1) := by decide +kernel
theorem d_X_allOverBut_41 : decode prog_1_method_57_code 41 = .ok (.goto (4), 3) := by decide +kernel
theorem d_X_allOverBut_44 : decode prog_1_method_57_code 44 = .ok (.iconst 0, 1) := by decide +kernel
theorem d_X_allOverBut_45 : decode prog_1_method_57_code 45 = .ok (.ireturn, 1) := by decide +kernel
def wp_X_allOverBut (a1 : Int32) (M : Mem) (post : Int32 → Mem → Prop) : Prop :=
  wp_X_allEvents M (fun r1 => wp_XW_run 44 (r1 &&& (a1 ^^^ (-1))) M (fun M2 => wp_XW_busesOver 44 M2 (fun r5 M4 => ∀ u7 : Int32, u7 = (if r5 = (M4 10 6) then 1 else 0) → (u7 = 0 ∨ u7 = 1) ∧ post u7 M4)))
set_option maxHeartbeats 4000000 in
set_option maxRecDepth 100000 in
theorem c_X_allOverBut (g : GX) {a1 : Int32} {M : Mem} {post : Int32 → Mem → Prop} (hw : wp_X_allOverBut a1 M post) : CtI (oX g) y_X_allOverBut prog_1_method_57_code 2 (some .boolean) (rl 3) [.ref (ax g 0), .int a1] M post := by
  refine z_metI (oX_ok g) (by decide) rfl (fun X C hr => ?_)
  show Zj X 2 (oX g) M 0 [(0, .ref (ax g 0)), (1, .int a1)] []
  unfold wp_X_allOverBut at hw
  refine z_aload_n C d_X_allOverBut_0 rfl 0 rfl ?_
  refine gf_X_46 C d_X_allOverBut_1 ?_
  refine z_aload_n C d_X_allOverBut_4 rfl 0 rfl ?_
  refine gf_X_18 C d_X_allOverBut_5 ?_
  refine z_aload_n C d_X_allOverBut_8 rfl 0 rfl ?_
  refine z_callVi C (As := []) (rest := [.ref (ax g 10), .ref (ax g 44)]) m_X_allEvents tw_362 0 (le_X) rfl ⟨rfl, rfl⟩ (c_X_allEvents g hw) rfl rfl rfl d_X_allOverBut_9 (fun r1 M2 hq => ?_)
  obtain ⟨rfl, hw⟩ := hq
  refine z_iload_n C d_X_allOverBut_12 rfl 1 rfl ?_
  refine z_iconst (v := (-1)) C d_X_allOverBut_13 (by decide) ?_
  refine z_ixor C d_X_allOverBut_14 ?_
  refine z_iand C d_X_allOverBut_15 ?_
  refine z_callVv C (As := [.ref (ax g 10), .int (r1 &&& (a1 ^^^ (-1)))]) (rest := []) m_XW_run tw_366 44 (le_XW (Or.inr rfl)) rfl ⟨rfl, rfl⟩ (c_XW_run g (Or.inr rfl) hw) rfl rfl rfl d_X_allOverBut_16 (fun M2 hw => ?_)
  refine z_aload_n C d_X_allOverBut_19 rfl 0 rfl ?_
  refine gf_X_46 C d_X_allOverBut_20 ?_
  refine z_aload_n C d_X_allOverBut_23 rfl 0 rfl ?_
  refine gf_X_18 C d_X_allOverBut_24 ?_
  refine z_callVi C (As := [.ref (ax g 10)]) (rest := []) m_XW_busesOver tw_460 44 (le_XW (Or.inr rfl)) rfl ⟨rfl, rfl⟩ (c_XW_busesOver g (Or.inr rfl) hw) rfl rfl rfl d_X_allOverBut_27 (fun r5 M4 hw => ?_)
  refine z_aload_n C d_X_allOverBut_30 rfl 0 rfl ?_
  refine gf_X_18 C d_X_allOverBut_31 ?_
  refine gf_X_106 C d_X_allOverBut_34 ?_
  have hj8 : ∀ u7 : Int32, u7 = (if r5 = (M4 10 6) then 1 else 0) → Zj X 2 (oX g) M4 45 [] [.int u7] := by
    intro u7 hu7
    replace hw := hw u7 hu7
    exact z_zret C hr hw.1 hw.2 d_X_allOverBut_45
  refine z_ic_ne C 44 d_X_allOverBut_37 (by decide) (fun h6 => ?_) (fun h6 => ?_)
  · refine z_iconst (v := 0) C d_X_allOverBut_44 (by decide) ?_
    refine z_sub [] rfl ?_
    exact hj8 _ ((if_neg h6)).symm
  · refine z_iconst (v := 1) C d_X_allOverBut_40 (by decide) ?_
    refine z_goto C 45 d_X_allOverBut_41 (by decide) ?_
    refine z_sub [] rfl ?_
    exact hj8 _ ((if_pos h6)).symm
