theorem d_X_write_0 : decode prog_1_method_40_code 0 = .ok (.iload_n 1, 1) := by decide +kernel
theorem d_X_write_1 : decode prog_1_method_40_code 1 = .ok (.bipush 12, 2) := by decide +kernel
theorem d_X_write_3 : decode prog_1_method_40_code 3 = .ok (.invokestatic 70, 3) := by decide +kernel
theorem d_X_write_6 : decode prog_1_method_40_code 6 = .ok (.ifCond .ne (11), 3) := by decide +kernel
theorem d_X_write_9 : decode prog_1_method_40_code 9 = .ok (.iload_n 2, 1) := by decide +kernel
theorem d_X_write_10 : decode prog_1_method_40_code 10 = .ok (.iconst 4, 1) := by decide +kernel
theorem d_X_write_11 : decode prog_1_method_40_code 11 = .ok (.invokestatic 70, 3) := by decide +kernel
theorem d_X_write_14 : decode prog_1_method_40_code 14 = .ok (.ifCond .eq (6), 3) := by decide +kernel
theorem d_X_write_17 : decode prog_1_method_40_code 17 = .ok (.bipush (-2), 2) := by decide +kernel
theorem d_X_write_19 : decode prog_1_method_40_code 19 = .ok (.ireturn, 1) := by decide +kernel
theorem d_X_write_20 : decode prog_1_method_40_code 20 = .ok (.aload_n 0, 1) := by decide +kernel
theorem d_X_write_21 : decode prog_1_method_40_code 21 = .ok (.getfield 31, 3) := by decide +kernel
theorem d_X_write_24 : decode prog_1_method_40_code 24 = .ok (.iload_n 2, 1) := by decide +kernel
theorem d_X_write_25 : decode prog_1_method_40_code 25 = .ok (.aaload, 1) := by decide +kernel
theorem d_X_write_26 : decode prog_1_method_40_code 26 = .ok (.astore_n 3, 1) := by decide +kernel
theorem d_X_write_27 : decode prog_1_method_40_code 27 = .ok (.aload_n 3, 1) := by decide +kernel
theorem d_X_write_28 : decode prog_1_method_40_code 28 = .ok (.getfield 128, 3) := by decide +kernel
theorem d_X_write_31 : decode prog_1_method_40_code 31 = .ok (.iconst (-1), 1) := by decide +kernel
theorem d_X_write_32 : decode prog_1_method_40_code 32 = .ok (.if_icmp .ne (9), 3) := by decide +kernel
theorem d_X_write_35 : decode prog_1_method_40_code 35 = .ok (.aload_n 0, 1) := by decide +kernel
theorem d_X_write_36 : decode prog_1_method_40_code 36 = .ok (.iconst 1, 1) := by decide +kernel
theorem d_X_write_37 : decode prog_1_method_40_code 37 = .ok (.invokevirtual 131, 3) := by decide +kernel
theorem d_X_write_40 : decode prog_1_method_40_code 40 = .ok (.ireturn, 1) := by decide +kernel
theorem d_X_write_41 : decode prog_1_method_40_code 41 = .ok (.aload_n 3, 1) := by decide +kernel
theorem d_X_write_42 : decode prog_1_method_40_code 42 = .ok (.getfield 135, 3) := by decide +kernel
theorem d_X_write_45 : decode prog_1_method_40_code 45 = .ok (.bipush 24, 2) := by decide +kernel
theorem d_X_write_47 : decode prog_1_method_40_code 47 = .ok (.invokestatic 263, 3) := by decide +kernel
theorem d_X_write_50 : decode prog_1_method_40_code 50 = .ok (.istore 4, 2) := by decide +kernel
theorem d_X_write_52 : decode prog_1_method_40_code 52 = .ok (.iconst 0, 1) := by decide +kernel
theorem d_X_write_53 : decode prog_1_method_40_code 53 = .ok (.istore 5, 2) := by decide +kernel
theorem d_X_write_55 : decode prog_1_method_40_code 55 = .ok (.iload 5, 2) := by decide +kernel
theorem d_X_write_57 : decode prog_1_method_40_code 57 = .ok (.iload 4, 2) := by decide +kernel
theorem d_X_write_59 : decode prog_1_method_40_code 59 = .ok (.if_icmp .ge (30), 3) := by decide +kernel
theorem d_X_write_62 : decode prog_1_method_40_code 62 = .ok (.aload_n 3, 1) := by decide +kernel
theorem d_X_write_63 : decode prog_1_method_40_code 63 = .ok (.iload 5, 2) := by decide +kernel
theorem d_X_write_65 : decode prog_1_method_40_code 65 = .ok (.aload_n 0, 1) := by decide +kernel
theorem d_X_write_66 : decode prog_1_method_40_code 66 = .ok (.invokevirtual 145, 3) := by decide +kernel
theorem d_X_write_69 : decode prog_1_method_40_code 69 = .ok (.getfield 149, 3) := by decide +kernel
theorem d_X_write_72 : decode prog_1_method_40_code 72 = .ok (.iload 5, 2) := by decide +kernel
theorem d_X_write_74 : decode prog_1_method_40_code 74 = .ok (.bipush 12, 2) := by decide +kernel
theorem d_X_write_76 : decode prog_1_method_40_code 76 = .ok (.imul, 1) := by decide +kernel
theorem d_X_write_77 : decode prog_1_method_40_code 77 = .ok (.iload_n 1, 1) := by decide +kernel
theorem d_X_write_78 : decode prog_1_method_40_code 78 = .ok (.iadd, 1) := by decide +kernel
theorem d_X_write_79 : decode prog_1_method_40_code 79 = .ok (.iaload, 1) := by decide +kernel
theorem d_X_write_80 : decode prog_1_method_40_code 80 = .ok (.invokevirtual 256, 3) := by decide +kernel
theorem d_X_write_83 : decode prog_1_method_40_code 83 = .ok (.iinc 5 1, 3) := by decide +kernel
theorem d_X_write_86 : decode prog_1_method_40_code 86 = .ok (.goto (-31), 3) := by decide +kernel
theorem d_X_write_89 : decode prog_1_method_40_code 89 = .ok (.iload 4, 2) := by decide +kernel
theorem d_X_write_91 : decode prog_1_method_40_code 91 = .ok (.ireturn, 1) := by decide +kernel
def wp_X_write (a1 : Int32) (a2 : Int32) (M : Mem) (post : Int32 → Mem → Prop) : Prop :=
  ((((pf_X_outside a1 12) = 0) → ((((pf_X_outside a2 4) = 0) → vp_in a2 4 ∧ ((((M (24 + 2 * (tn a2)) 1) = (-1)) → wp_X_found 1 M (fun r20 M19 => post r20 M19)) ∧ (¬ ((M (24 + 2 * (tn a2)) 1) = (-1)) → ∀ x8 : Int32, x8 = (pf_J_min (M (24 + 2 * (tn a2)) 2) 24) → (it2 (fun rec9 (i11 : Int32) (M12 : Mem) => (((x8 ≤ i11) → post x8 M12) ∧ (¬ (x8 ≤ i11) → wp_X_asTold M12 (fun M14 => vp_in ((i11 * 12) + a1) 288 ∧ wp_XH_put (tn a2) i11 (M14 (32 + 1) (tn ((i11 * 12) + a1))) M14 (fun M17 => rec9 (i11 + 1) M17))))) 4096 0 M)))) ∧ (¬ ((pf_X_outside a2 4) = 0) → post (-2) M))) ∧ (¬ ((pf_X_outside a1 12) = 0) → post (-2) M))
set_option maxHeartbeats 4000000 in
set_option maxRecDepth 100000 in
theorem c_X_write (g : GX) {a1 : Int32} {a2 : Int32} {M : Mem} {post : Int32 → Mem → Prop} (hw : wp_X_write a1 a2 M post) : CtI (oX g) y_X_write prog_1_method_40_code 6 (some .int) (rl 4) [.ref (ax g 0), .int a1, .int a2] M post := by
  refine z_metI (oX_ok g) (by decide) rfl (fun X C hr => ?_)
  show Zj X 6 (oX g) M 0 [(0, .ref (ax g 0)), (1, .int a1), (2, .int a2)] []
  unfold wp_X_write at hw
  refine z_iload_n C d_X_write_0 rfl 1 rfl ?_
  refine z_bipush (v := 12) C d_X_write_1 (by decide) ?_
  refine z_callSi C (As := [.int a1, .int 12]) (rest := []) m_X_outside tw_251 ⟨rfl, rfl⟩ (c_X_outside (oX_ok g) _ _ _) rfl rfl rfl d_X_write_3 (fun r M2 hq => ?_)
  obtain ⟨rfl, rfl⟩ := hq
  refine z_if_ne C 17 d_X_write_6 (by decide) (fun h2 => ?_) (fun h2 => ?_)
  · replace hw := hw.2 h2
    refine z_bipush (v := (-2)) C d_X_write_17 (by decide) ?_
    exact z_iret C hr hw d_X_write_19
  · replace hw := hw.1 h2
    refine z_iload_n C d_X_write_9 rfl 2 rfl ?_
    refine z_iconst (v := 4) C d_X_write_10 (by decide) ?_
    refine z_callSi C (As := [.int a2, .int 4]) (rest := []) m_X_outside tw_251 ⟨rfl, rfl⟩ (c_X_outside (oX_ok g) _ _ _) rfl rfl rfl d_X_write_11 (fun r M2 hq => ?_)
    obtain ⟨rfl, rfl⟩ := hq
    refine z_if_eq C 20 d_X_write_14 (by decide) (fun h4 => ?_) (fun h4 => ?_)
    · replace hw := hw.1 h4
      refine z_aload_n C d_X_write_20 rfl 0 rfl ?_
      refine gf_X_31 C d_X_write_21 ?_
      refine z_iload_n C d_X_write_24 rfl 2 rfl ?_
      have hv6 := hw.1
      replace hw := hw.2
      have ht5 := vp_lt hv6
      refine z_aaldSheet C hv6 d_X_write_25 ?_
      refine z_astore_n (lv' := [(3, .ref (ax g (24 + 2 * (tn a2)))), (0, .ref (ax g 0)), (1, .int a1), (2, .int a2)]) C d_X_write_26 rfl rfl rfl ?_
      refine z_aload_n C d_X_write_27 rfl 0 rfl ?_
      refine gf_X_128 ht5 C d_X_write_28 ?_
      refine z_iconst (v := (-1)) C d_X_write_31 (by decide) ?_
      refine z_ic_ne C 41 d_X_write_32 (by decide) (fun h7 => ?_) (fun h7 => ?_)
      · replace hw := hw.2 h7
        refine z_aload_n C d_X_write_41 rfl 0 rfl ?_
        refine gf_X_135 ht5 C d_X_write_42 ?_
        refine z_bipush (v := 24) C d_X_write_45 (by decide) ?_
        refine z_mmin C tw_611 rfl rfl d_X_write_47 ?_
        obtain ⟨x8, hx8⟩ : ∃ z : Int32, z = (pf_J_min (M (24 + 2 * (tn a2)) 2) 24) := ⟨_, rfl⟩
        rw [← hx8]
        replace hw := hw x8 hx8
        refine z_istore (lv' := [(4, .int x8), (3, .ref (ax g (24 + 2 * (tn a2)))), (0, .ref (ax g 0)), (1, .int a1), (2, .int a2)]) C d_X_write_50 rfl rfl ?_
        refine z_iconst (v := 0) C d_X_write_52 (by decide) ?_
        refine z_istore (lv' := [(5, .int 0), (4, .int x8), (3, .ref (ax g (24 + 2 * (tn a2)))), (0, .ref (ax g 0)), (1, .int a1), (2, .int a2)]) C d_X_write_53 rfl rfl ?_
        refine z_sub [3, 4, 2, 1, 0] rfl ?_
        refine it2_Z (Z := fun (i11 : Int32) (M12 : Mem) => Zj X 6 (oX g) M12 55 [(0, .ref (ax g 0)), (1, .int a1), (3, .ref (ax g (24 + 2 * (tn a2)))), (4, .int x8), (5, .int i11)] []) (fun rec9 ih10 i11 M12 hw => ?_) _ _ _ hw
        refine z_iload C d_X_write_55 4 rfl ?_
        refine z_iload C d_X_write_57 3 rfl ?_
        refine z_ic_ge C 89 d_X_write_59 (by decide) (fun h13 => ?_) (fun h13 => ?_)
        · replace hw := hw.1 h13
          refine z_iload C d_X_write_89 3 rfl ?_
          exact z_iret C hr hw d_X_write_91
        · replace hw := hw.2 h13
          refine z_aload_n C d_X_write_62 rfl 2 rfl ?_
          refine z_iload C d_X_write_63 4 rfl ?_
          refine z_aload_n C d_X_write_65 rfl 0 rfl ?_
          refine z_callVr C (As := []) (rest := [.int i11, .ref (ax g (24 + 2 * (tn a2)))]) m_X_asTold tw_358 0 (le_X) rfl ⟨rfl, rfl⟩ (c_X_asTold g hw) rfl rfl rfl d_X_write_66 (fun M14 hw => ?_)
          refine gf_X_149 (Or.inl rfl) C d_X_write_69 ?_
          refine z_iload C d_X_write_72 4 rfl ?_
          refine z_bipush (v := 12) C d_X_write_74 (by decide) ?_
          refine z_imul C d_X_write_76 ?_
          refine z_iload_n C d_X_write_77 rfl 1 rfl ?_
          refine z_iadd C d_X_write_78 ?_
          have hv16 := hw.1
          replace hw := hw.2
          refine z_al (zar_xW1 (Or.inl rfl)) C hv16 d_X_write_79 ?_
          refine z_callVv C (As := [.int i11, .int (M14 (32 + 1) (tn ((i11 * 12) + a1)))]) (rest := []) m_XH_put tw_590 (24 + 2 * (tn a2)) (le_XH ht5) rfl ⟨rfl, rfl⟩ (c_XH_put g ht5 hw) rfl rfl rfl d_X_write_80 (fun M17 hw => ?_)
          refine z_iinc (v := (i11 + 1)) (lv' := [(5, .int (i11 + 1)), (0, .ref (ax g 0)), (1, .int a1), (3, .ref (ax g (24 + 2 * (tn a2)))), (4, .int x8)]) C d_X_write_83 4 rfl rfl rfl rfl ?_
          refine z_goto C 55 d_X_write_86 (by decide) ?_
          refine z_sub [1, 2, 3, 4, 0] rfl ?_
          exact ih10 _ _ hw
      · replace hw := hw.1 h7
        refine z_aload_n C d_X_write_35 rfl 1 rfl ?_
        refine z_iconst (v := 1) C d_X_write_36 (by decide) ?_
        refine z_callVi C (As := [.int 1]) (rest := []) m_X_found tw_349 0 (le_X) rfl ⟨rfl, rfl⟩ (c_X_found g hw) rfl rfl rfl d_X_write_37 (fun r20 M19 hw => ?_)
        exact z_iret C hr hw d_X_write_40
    · replace hw := hw.2 h4
      refine z_bipush (v := (-2)) C d_X_write_17 (by decide) ?_
      exact z_iret C hr hw d_X_write_19
theorem d_X_count_0 : decode prog_1_method_41_code 0 = .ok (.iload_n 1, 1) := by decide +kernel
theorem d_X_count_1 : decode prog_1_method_41_code 1 = .ok (.tableswitch 123 0 8 #[51, 59, 67, 72, 80, 88, 98, 110, 118], 51) := by decide +kernel
theorem d_X_count_52 : decode prog_1_method_41_code 52 = .ok (.aload_n 0, 1) := by decide +kernel
theorem d_X_count_53 : decode prog_1_method_41_code 53 = .ok (.getfield 18, 3) := by decide +kernel
theorem d_X_count_56 : decode prog_1_method_41_code 56 = .ok (.getfield 94, 3) := by decide +kernel
theorem d_X_count_59 : decode prog_1_method_41_code 59 = .ok (.ireturn, 1) := by decide +kernel
theorem d_X_count_60 : decode prog_1_method_41_code 60 = .ok (.aload_n 0, 1) := by decide +kernel
theorem d_X_count_61 : decode prog_1_method_41_code 61 = .ok (.getfield 18, 3) := by decide +kernel
theorem d_X_count_64 : decode prog_1_method_41_code 64 = .ok (.getfield 106, 3) := by decide +kernel
theorem d_X_count_67 : decode prog_1_method_41_code 67 = .ok (.ireturn, 1) := by decide +kernel
theorem d_X_count_68 : decode prog_1_method_41_code 68 = .ok (.aload_n 0, 1) := by decide +kernel
theorem d_X_count_69 : decode prog_1_method_41_code 69 = .ok (.invokevirtual 268, 3) := by decide +kernel
theorem d_X_count_72 : decode prog_1_method_41_code 72 = .ok (.ireturn, 1) := by decide +kernel
theorem d_X_count_73 : decode prog_1_method_41_code 73 = .ok (.aload_n 0, 1) := by decide +kernel
theorem d_X_count_74 : decode prog_1_method_41_code 74 = .ok (.getfield 18, 3) := by decide +kernel
theorem d_X_count_77 : decode prog_1_method_41_code 77 = .ok (.getfield 112, 3) := by decide +kernel
theorem d_X_count_80 : decode prog_1_method_41_code 80 = .ok (.ireturn, 1) := by decide +kernel
theorem d_X_count_81 : decode prog_1_method_41_code 81 = .ok (.aload_n 0, 1) := by decide +kernel
theorem d_X_count_82 : decode prog_1_method_41_code 82 = .ok (.getfield 18, 3) := by decide +kernel
theorem d_X_count_85 : decode prog_1_method_41_code 85 = .ok (.getfield 125, 3) := by decide +kernel
theorem d_X_count_88 : decode prog_1_method_41_code 88 = .ok (.ireturn, 1) := by decide +kernel
theorem d_X_count_89 : decode prog_1_method_41_code 89 = .ok (.aload_n 0, 1) := by decide +kernel
theorem d_X_count_90 : decode prog_1_method_41_code 90 = .ok (.invokevirtual 145, 3) := by decide +kernel
theorem d_X_count_93 : decode prog_1_method_41_code 93 = .ok (.bipush 23, 2) := by decide +kernel
theorem d_X_count_95 : decode prog_1_method_41_code 95 = .ok (.invokevirtual 168, 3) := by decide +kernel
theorem d_X_count_98 : decode prog_1_method_41_code 98 = .ok (.ireturn, 1) := by decide +kernel
theorem d_X_count_99 : decode prog_1_method_41_code 99 = .ok (.aload_n 0, 1) := by decide +kernel
theorem d_X_count_100 : decode prog_1_method_41_code 100 = .ok (.invokevirtual 145, 3) := by decide +kernel
theorem d_X_count_103 : decode prog_1_method_41_code 103 = .ok (.aload_n 0, 1) := by decide +kernel
theorem d_X_count_104 : decode prog_1_method_41_code 104 = .ok (.getfield 18, 3) := by decide +kernel
theorem d_X_count_107 : decode prog_1_method_41_code 107 = .ok (.invokevirtual 196, 3) := by decide +kernel
theorem d_X_count_110 : decode prog_1_method_41_code 110 = .ok (.ireturn, 1) := by decide +kernel
theorem d_X_count_111 : decode prog_1_method_41_code 111 = .ok (.aload_n 0, 1) := by decide +kernel
theorem d_X_count_112 : decode prog_1_method_41_code 112 = .ok (.getfield 25, 3) := by decide +kernel
theorem d_X_count_115 : decode prog_1_method_41_code 115 = .ok (.getfield 217, 3) := by decide +kernel
theorem d_X_count_118 : decode prog_1_method_41_code 118 = .ok (.ireturn, 1) := by decide +kernel
theorem d_X_count_119 : decode prog_1_method_41_code 119 = .ok (.aload_n 0, 1) := by decide +kernel
theorem d_X_count_120 : decode prog_1_method_41_code 120 = .ok (.getfield 35, 3) := by decide +kernel
theorem d_X_count_123 : decode prog_1_method_41_code 123 = .ok (.ireturn, 1) := by decide +kernel
theorem d_X_count_124 : decode prog_1_method_41_code 124 = .ok (.bipush (-2), 2) := by decide +kernel
theorem d_X_count_126 : decode prog_1_method_41_code 126 = .ok (.ireturn, 1) := by decide +kernel
def wp_X_count (a1 : Int32) (M : Mem) (post : Int32 → Mem → Prop) : Prop :=
  (((a1 = 0) → post (M 10 2) M) ∧ ((a1 = 1) → post (M 10 6) M) ∧ ((a1 = 2) → wp_X_allBytes M (fun r1 => post r1 M)) ∧ ((a1 = 3) → post (M 10 8) M) ∧ ((a1 = 4) → post (M 10 9) M) ∧ ((a1 = 5) → wp_X_asTold M (fun M2 => wp_XW_snowBehind 32 23 M2 (fun r4 => post r4 M2))) ∧ ((a1 = 6) → wp_X_asTold M (fun M5 => wp_XW_busesOver 32 M5 (fun r8 M7 => post r8 M7))) ∧ ((a1 = 7) → post (M 20 2) M) ∧ ((a1 = 8) → post (M 0 4) M) ∧ ((¬ a1 = 0) → (¬ a1 = 1) → (¬ a1 = 2) → (¬ a1 = 3) → (¬ a1 = 4) → (¬ a1 = 5) → (¬ a1 = 6) → (¬ a1 = 7) → (¬ a1 = 8) → post (-2) M))
set_option maxHeartbeats 4000000 in
set_option maxRecDepth 100000 in
theorem c_X_count (g : GX) {a1 : Int32} {M : Mem} {post : Int32 → Mem → Prop} (hw : wp_X_count a1 M post) : CtI (oX g) y_X_count prog_1_method_41_code 2 (some .int) (rl 4) [.ref (ax g 0), .int a1] M post := by
  refine z_metI (oX_ok g) (by decide) rfl (fun X C hr => ?_)
  show Zj X 2 (oX g) M 0 [(0, .ref (ax g 0)), (1, .int a1)] []
  unfold wp_X_count at hw
  refine z_iload_n C d_X_count_0 rfl 1 rfl ?_
  refine z_table C [52, 60, 68, 73, 81, 89, 99, 111, 119] 124 d_X_count_1 rfl rfl rfl (by decide) (fun k t hk hx => ?_) (fun hx => ?_)
  · rcases k with _ | _ | _ | _ | _ | _ | _ | _ | _ | k
    · cases hk
      replace hw := hw.1 hx
      refine z_aload_n C d_X_count_52 rfl 0 rfl ?_
      refine gf_X_18 C d_X_count_53 ?_
      refine gf_X_94 C d_X_count_56 ?_
      exact z_iret C hr hw d_X_count_59
    · cases hk
      replace hw := hw.2.1 hx
      refine z_aload_n C d_X_count_60 rfl 0 rfl ?_
      refine gf_X_18 C d_X_count_61 ?_
      refine gf_X_106 C d_X_count_64 ?_
      exact z_iret C hr hw d_X_count_67
    · cases hk
      replace hw := hw.2.2.1 hx
      refine z_aload_n C d_X_count_68 rfl 0 rfl ?_
      refine z_callVi C (As := []) (rest := []) m_X_allBytes tw_618 0 (le_X) rfl ⟨rfl, rfl⟩ (c_X_allBytes g hw) rfl rfl rfl d_X_count_69 (fun r1 M2 hq => ?_)
      obtain ⟨rfl, hw⟩ := hq
      exact z_iret C hr hw d_X_count_72
    · cases hk
      replace hw := hw.2.2.2.1 hx
      refine z_aload_n C d_X_count_73 rfl 0 rfl ?_
      refine gf_X_18 C d_X_count_74 ?_
      refine gf_X_112 C d_X_count_77 ?_
      exact z_iret C hr hw d_X_count_80
    · cases hk
      replace hw := hw.2.2.2.2.1 hx
      refine z_aload_n C d_X_count_81 rfl 0 rfl ?_
      refine gf_X_18 C d_X_count_82 ?_
      refine gf_X_125 C d_X_count_85 ?_
      exact z_iret C hr hw d_X_count_88
    · cases hk
      replace hw := hw.2.2.2.2.2.1 hx
      refine z_aload_n C d_X_count_89 rfl 0 rfl ?_
      refine z_callVr C (As := []) (rest := []) m_X_asTold tw_358 0 (le_X) rfl ⟨rfl, rfl⟩ (c_X_asTold g hw) rfl rfl rfl d_X_count_90 (fun M2 hw => ?_)
      refine z_bipush (v := 23) C d_X_count_93 (by decide) ?_
      refine z_callVi C (As := [.int 23]) (rest := []) m_XW_snowBehind tw_424 32 (le_XW (Or.inl rfl)) rfl ⟨rfl, rfl⟩ (c_XW_snowBehind g (Or.inl rfl) hw) rfl rfl rfl d_X_count_95 (fun r4 M2 hq => ?_)
      obtain ⟨rfl, hw⟩ := hq
      exact z_iret C hr hw d_X_count_98
    · cases hk
      replace hw := hw.2.2.2.2.2.2.1 hx
      refine z_aload_n C d_X_count_99 rfl 0 rfl ?_
      refine z_callVr C (As := []) (rest := []) m_X_asTold tw_358 0 (le_X) rfl ⟨rfl, rfl⟩ (c_X_asTold g hw) rfl rfl rfl d_X_count_100 (fun M5 hw => ?_)
      refine z_aload_n C d_X_count_103 rfl 0 rfl ?_
      refine gf_X_18 C d_X_count_104 ?_
      refine z_callVi C (As := [.ref (ax g 10)]) (rest := []) m_XW_busesOver tw_460 32 (le_XW (Or.inl rfl)) rfl ⟨rfl, rfl⟩ (c_XW_busesOver g (Or.inl rfl) hw) rfl rfl rfl d_X_count_107 (fun r8 M7 hw => ?_)
      exact z_iret C hr hw d_X_count_110
    · cases hk
      replace hw := hw.2.2.2.2.2.2.2.1 hx
      refine z_aload_n C d_X_count_111 rfl 0 rfl ?_
      refine gf_X_25 C d_X_count_112 ?_
      refine gf_X_217 C d_X_count_115 ?_
      exact z_iret C hr hw d_X_count_118
    · cases hk
      replace hw := hw.2.2.2.2.2.2.2.2.1 hx
      refine z_aload_n C d_X_count_119 rfl 0 rfl ?_
      refine gf_X_35 C d_X_count_120 ?_
      exact z_iret C hr hw d_X_count_123
    · simp at hk
  · replace hw := hw.2.2.2.2.2.2.2.2.2 (hx 0 (by decide)) (hx 1 (by decide)) (hx 2 (by decide)) (hx 3 (by decide)) (hx 4 (by decide)) (hx 5 (by decide)) (hx 6 (by decide)) (hx 7 (by decide)) (hx 8 (by decide))
    refine z_bipush (v := (-2)) C d_X_count_124 (by decide) ?_
    exact z_iret C hr hw d_X_count_126
theorem d_X_sparedEvents_0 : decode prog_1_method_58_code 0 = .ok (.aload_n 0, 1) := by decide +kernel
theorem d_X_sparedEvents_1 : decode prog_1_method_58_code 1 = .ok (.iconst 0, 1) := by decide +kernel
theorem d_X_sparedEvents_2 : decode prog_1_method_58_code 2 = .ok (.invokevirtual 378, 3) := by decide +kernel
theorem d_X_sparedEvents_5 : decode prog_1_method_58_code 5 = .ok (.ifCond .eq (5), 3) := by decide +kernel
theorem d_X_sparedEvents_8 : decode prog_1_method_58_code 8 = .ok (.iconst 0, 1) := by decide +kernel
theorem d_X_sparedEvents_9 : decode prog_1_method_58_code 9 = .ok (.ireturn, 1) := by decide +kernel
theorem d_X_sparedEvents_10 : decode prog_1_method_58_code 10 = .ok (.iconst 0, 1) := by decide +kernel
theorem d_X_sparedEvents_11 : decode prog_1_method_58_code 11 = .ok (.istore_n 1, 1) := by decide +kernel
theorem d_X_sparedEvents_12 : decode prog_1_method_58_code 12 = .ok (.iload_n 1, 1) := by decide +kernel
theorem d_X_sparedEvents_13 : decode prog_1_method_58_code 13 = .ok (.aload_n 0, 1) := by decide +kernel
theorem d_X_sparedEvents_14 : decode prog_1_method_58_code 14 = .ok (.getfield 18, 3) := by decide +kernel
theorem d_X_sparedEvents_17 : decode prog_1_method_58_code 17 = .ok (.getfield 125, 3) := by decide +kernel
theorem d_X_sparedEvents_20 : decode prog_1_method_58_code 20 = .ok (.if_icmp .ge (23), 3) := by decide +kernel
theorem d_X_sparedEvents_23 : decode prog_1_method_58_code 23 = .ok (.aload_n 0, 1) := by decide +kernel
theorem d_X_sparedEvents_24 : decode prog_1_method_58_code 24 = .ok (.iconst 1, 1) := by decide +kernel
theorem d_X_sparedEvents_25 : decode prog_1_method_58_code 25 = .ok (.iload_n 1, 1) := by decide +kernel
theorem d_X_sparedEvents_26 : decode prog_1_method_58_code 26 = .ok (.ishl, 1) := by decide +kernel
theorem d_X_sparedEvents_27 : decode prog_1_method_58_code 27 = .ok (.invokevirtual 378, 3) := by decide +kernel
theorem d_X_sparedEvents_30 : decode prog_1_method_58_code 30 = .ok (.ifCond .eq (7), 3) := by decide +kernel
theorem d_X_sparedEvents_33 : decode prog_1_method_58_code 33 = .ok (.iconst 1, 1) := by decide +kernel
theorem d_X_sparedEvents_34 : decode prog_1_method_58_code 34 = .ok (.iload_n 1, 1) := by decide +kernel
theorem d_X_sparedEvents_35 : decode prog_1_method_58_code 35 = .ok (.ishl, 1) := by decide +kernel
theorem d_X_sparedEvents_36 : decode prog_1_method_58_code 36 = .ok (.ireturn, 1) := by decide +kernel
theorem d_X_sparedEvents_37 : decode prog_1_method_58_code 37 = .ok (.iinc 1 1, 3) := by decide +kernel
theorem d_X_sparedEvents_40 : decode prog_1_method_58_code 40 = .ok (.goto (-28), 3) := by decide +kernel
theorem d_X_sparedEvents_43 : decode prog_1_method_58_code 43 = .ok (.iconst 0, 1) := by decide +kernel
theorem d_X_sparedEvents_44 : decode prog_1_method_58_code 44 = .ok (.istore_n 1, 1) := by decide +kernel
theorem d_X_sparedEvents_45 : decode prog_1_method_58_code 45 = .ok (.iload_n 1, 1) := by decide +kernel
theorem d_X_sparedEvents_46 : decode prog_1_method_58_code 46 = .ok (.aload_n 0, 1) := by decide +kernel
theorem d_X_sparedEvents_47 : decode prog_1_method_58_code 47 = .ok (.getfield 18, 3) := by decide +kernel
theorem d_X_sparedEvents_50 : decode prog_1_method_58_code 50 = .ok (.getfield 125, 3) := by decide +kernel
theorem d_X_sparedEvents_53 : decode prog_1_method_58_code 53 = .ok (.if_icmp .ge (52), 3) := by decide +kernel
theorem d_X_sparedEvents_56 : decode prog_1_method_58_code 56 = .ok (.iload_n 1, 1) := by decide +kernel
theorem d_X_sparedEvents_57 : decode prog_1_method_58_code 57 = .ok (.iconst 1, 1) := by decide +kernel
theorem d_X_sparedEvents_58 : decode prog_1_method_58_code 58 = .ok (.iadd, 1) := by decide +kernel
theorem d_X_sparedEvents_59 : decode prog_1_method_58_code 59 = .ok (.istore_n 2, 1) := by decide +kernel
theorem d_X_sparedEvents_60 : decode prog_1_method_58_code 60 = .ok (.iload_n 2, 1) := by decide +kernel
theorem d_X_sparedEvents_61 : decode prog_1_method_58_code 61 = .ok (.aload_n 0, 1) := by decide +kernel
theorem d_X_sparedEvents_62 : decode prog_1_method_58_code 62 = .ok (.getfield 18, 3) := by decide +kernel
theorem d_X_sparedEvents_65 : decode prog_1_method_58_code 65 = .ok (.getfield 125, 3) := by decide +kernel
theorem d_X_sparedEvents_68 : decode prog_1_method_58_code 68 = .ok (.if_icmp .ge (31), 3) := by decide +kernel
theorem d_X_sparedEvents_71 : decode prog_1_method_58_code 71 = .ok (.aload_n 0, 1) := by decide +kernel
theorem d_X_sparedEvents_72 : decode prog_1_method_58_code 72 = .ok (.iconst 1, 1) := by decide +kernel
theorem d_X_sparedEvents_73 : decode prog_1_method_58_code 73 = .ok (.iload_n 1, 1) := by decide +kernel
theorem d_X_sparedEvents_74 : decode prog_1_method_58_code 74 = .ok (.ishl, 1) := by decide +kernel
theorem d_X_sparedEvents_75 : decode prog_1_method_58_code 75 = .ok (.iconst 1, 1) := by decide +kernel
theorem d_X_sparedEvents_76 : decode prog_1_method_58_code 76 = .ok (.iload_n 2, 1) := by decide +kernel
theorem d_X_sparedEvents_77 : decode prog_1_method_58_code 77 = .ok (.ishl, 1) := by decide +kernel
theorem d_X_sparedEvents_78 : decode prog_1_method_58_code 78 = .ok (.ior, 1) := by decide +kernel
theorem d_X_sparedEvents_79 : decode prog_1_method_58_code 79 = .ok (.invokevirtual 378, 3) := by decide +kernel
theorem d_X_sparedEvents_82 : decode prog_1_method_58_code 82 = .ok (.ifCond .eq (11), 3) := by decide +kernel
theorem d_X_sparedEvents_85 : decode prog_1_method_58_code 85 = .ok (.iconst 1, 1) := by decide +kernel
theorem d_X_sparedEvents_86 : decode prog_1_method_58_code 86 = .ok (.iload_n 1, 1) := by decide +kernel
theorem d_X_sparedEvents_87 : decode prog_1_method_58_code 87 = .ok (.ishl, 1) := by decide +kernel
theorem d_X_sparedEvents_88 : decode prog_1_method_58_code 88 = .ok (.iconst 1, 1) := by decide +kernel
theorem d_X_sparedEvents_89 : decode prog_1_method_58_code 89 = .ok (.iload_n 2, 1) := by decide +kernel
theorem d_X_sparedEvents_90 : decode prog_1_method_58_code 90 = .ok (.ishl, 1) := by decide +kernel
theorem d_X_sparedEvents_91 : decode prog_1_method_58_code 91 = .ok (.ior, 1) := by decide +kernel
theorem d_X_sparedEvents_92 : decode prog_1_method_58_code 92 = .ok (.ireturn, 1) := by decide +kernel
theorem d_X_sparedEvents_93 : decode prog_1_method_58_code 93 = .ok (.iinc 2 1, 3) := by decide +kernel
theorem d_X_sparedEvents_96 : decode prog_1_method_58_code 96 = .ok (.goto (-36), 3) := by decide +kernel
theorem d_X_sparedEvents_99 : decode prog_1_method_58_code 99 = .ok (.iinc 1 1, 3) := by decide +kernel
theorem d_X_sparedEvents_102 : decode prog_1_method_58_code 102 = .ok (.goto (-57), 3) := by decide +kernel
theorem d_X_sparedEvents_105 : decode prog_1_method_58_code 105 = .ok (.iconst (-1), 1) := by decide +kernel
theorem d_X_sparedEvents_106 : decode prog_1_method_58_code 106 = .ok (.ireturn, 1) := by decide +kernel
def wp_X_sparedEvents (M : Mem) (post : Int32 → Mem → Prop) : Prop :=
  wp_X_allOverBut 0 M (fun r2 M1 => (((r2 = 0) → (it2 (fun rec4 (i6 : Int32) (M7 : Mem) => ((((M7 10 9) ≤ i6) → (it2 (fun rec9 (i11 : Int32) (M12 : Mem) => ((((M12 10 9) ≤ i11) → post (-1) M12) ∧ (¬ ((M12 10 9) ≤ i11) → (it2 (fun rec14 (i16 : Int32) (M17 : Mem) => ((((M17 10 9) ≤ i16) → rec9 (i11 + 1) M17) ∧ (¬ ((M17 10 9) ≤ i16) → wp_X_allOverBut (((1 : Int32) <<< (i11 &&& 31)) ||| ((1 : Int32) <<< (i16 &&& 31))) M17 (fun r20 M19 => (((r20 = 0) → rec14 (i16 + 1) M19) ∧ (¬ (r20 = 0) → post (((1 : Int32) <<< (i11 &&& 31)) ||| ((1 : Int32) <<< (i16 &&& 31))) M19)))))) 4096 (i11 + 1) M12)))) 4096 0 M7)) ∧ (¬ ((M7 10 9) ≤ i6) → wp_X_allOverBut ((1 : Int32) <<< (i6 &&& 31)) M7 (fun r23 M22 => (((r23 = 0) → rec4 (i6 + 1) M22) ∧ (¬ (r23 = 0) → post ((1 : Int32) <<< (i6 &&& 31)) M22)))))) 4096 0 M1)) ∧ (¬ (r2 = 0) → post 0 M1)))
set_option maxHeartbeats 4000000 in
set_option maxRecDepth 100000 in
theorem c_X_sparedEvents (g : GX) {M : Mem} {post : Int32 → Mem → Prop} (hw : wp_X_sparedEvents M post) : CtI (oX g) y_X_sparedEvents prog_1_method_58_code 3 (some .int) (rl 4) [.ref (ax g 0)] M post := by
  refine z_metI (oX_ok g) (by decide) rfl (fun X C hr => ?_)
  show Zj X 3 (oX g) M 0 [(0, .ref (ax g 0))] []
  unfold wp_X_sparedEvents at hw
  refine z_aload_n C d_X_sparedEvents_0 rfl 0 rfl ?_
  refine z_iconst (v := 0) C d_X_sparedEvents_1 (by decide) ?_
  refine z_callVi C (As := [.int 0]) (rest := []) m_X_allOverBut tw_485 0 (le_X) rfl ⟨rfl, rfl⟩ (c_X_allOverBut g hw) rfl rfl rfl d_X_sparedEvents_2 (fun r2 M1 hw => ?_)
  refine z_if_eq C 10 d_X_sparedEvents_5 (by decide) (fun h3 => ?_) (fun h3 => ?_)
  · replace hw := hw.1 h3
    refine z_iconst (v := 0) C d_X_sparedEvents_10 (by decide) ?_
    refine z_istore_n (lv' := [(1, .int 0), (0, .ref (ax g 0))]) C d_X_sparedEvents_11 rfl rfl rfl ?_
    refine z_sub [1, 0] rfl ?_
    refine it2_Z (Z := fun (i6 : Int32) (M7 : Mem) => Zj X 3 (oX g) M7 12 [(0, .ref (ax g 0)), (1, .int i6)] []) (fun rec4 ih5 i6 M7 hw => ?_) _ _ _ hw
    refine z_iload_n C d_X_sparedEvents_12 rfl 1 rfl ?_
    refine z_aload_n C d_X_sparedEvents_13 rfl 0 rfl ?_
    refine gf_X_18 C d_X_sparedEvents_14 ?_
    refine gf_X_125 C d_X_sparedEvents_17 ?_
    refine z_ic_ge C 43 d_X_sparedEvents_20 (by decide) (fun h8 => ?_) (fun h8 => ?_)
    · replace hw := hw.1 h8
      refine z_iconst (v := 0) C d_X_sparedEvents_43 (by decide) ?_
      refine z_istore_n (lv' := [(1, .int 0), (0, .ref (ax g 0))]) C d_X_sparedEvents_44 rfl rfl rfl ?_
      refine z_sub [1, 0] rfl ?_
      refine it2_Z (Z := fun (i11 : Int32) (M12 : Mem) => Zj X 3 (oX g) M12 45 [(0, .ref (ax g 0)), (1, .int i11)] []) (fun rec9 ih10 i11 M12 hw => ?_) _ _ _ hw
      refine z_iload_n C d_X_sparedEvents_45 rfl 1 rfl ?_
      refine z_aload_n C d_X_sparedEvents_46 rfl 0 rfl ?_
      refine gf_X_18 C d_X_sparedEvents_47 ?_
      refine gf_X_125 C d_X_sparedEvents_50 ?_
      refine z_ic_ge C 105 d_X_sparedEvents_53 (by decide) (fun h13 => ?_) (fun h13 => ?_)
      · replace hw := hw.1 h13
        refine z_iconst (v := (-1)) C d_X_sparedEvents_105 (by decide) ?_
        exact z_iret C hr hw d_X_sparedEvents_106
      · replace hw := hw.2 h13
        refine z_iload_n C d_X_sparedEvents_56 rfl 1 rfl ?_
        refine z_iconst (v := 1) C d_X_sparedEvents_57 (by decide) ?_
        refine z_iadd C d_X_sparedEvents_58 ?_
        refine z_istore_n (lv' := [(2, .int (i11 + 1)), (0, .ref (ax g 0)), (1, .int i11)]) C d_X_sparedEvents_59 rfl rfl rfl ?_
        refine z_sub [1, 2, 0] rfl ?_
        refine it2_Z (Z := fun (i16 : Int32) (M17 : Mem) => Zj X 3 (oX g) M17 60 [(0, .ref (ax g 0)), (1, .int i11), (2, .int i16)] []) (fun rec14 ih15 i16 M17 hw => ?_) _ _ _ hw
        refine z_iload_n C d_X_sparedEvents_60 rfl 2 rfl ?_
        refine z_aload_n C d_X_sparedEvents_61 rfl 0 rfl ?_
        refine gf_X_18 C d_X_sparedEvents_62 ?_
        refine gf_X_125 C d_X_sparedEvents_65 ?_
        refine z_ic_ge C 99 d_X_sparedEvents_68 (by decide) (fun h18 => ?_) (fun h18 => ?_)
        · replace hw := hw.1 h18
          refine z_iinc (v := (i11 + 1)) (lv' := [(1, .int (i11 + 1)), (0, .ref (ax g 0)), (2, .int i16)]) C d_X_sparedEvents_99 1 rfl rfl rfl rfl ?_
          refine z_goto C 45 d_X_sparedEvents_102 (by decide) ?_
          refine z_sub [1, 0] rfl ?_
          exact ih10 _ _ hw
        · replace hw := hw.2 h18
          refine z_aload_n C d_X_sparedEvents_71 rfl 0 rfl ?_
          refine z_iconst (v := 1) C d_X_sparedEvents_72 (by decide) ?_
          refine z_iload_n C d_X_sparedEvents_73 rfl 1 rfl ?_
          refine z_ishl C d_X_sparedEvents_74 ?_
          refine z_iconst (v := 1) C d_X_sparedEvents_75 (by decide) ?_
          refine z_iload_n C d_X_sparedEvents_76 rfl 2 rfl ?_
          refine z_ishl C d_X_sparedEvents_77 ?_
          refine z_ior C d_X_sparedEvents_78 ?_
          refine z_callVi C (As := [.int (((1 : Int32) <<< (i11 &&& 31)) ||| ((1 : Int32) <<< (i16 &&& 31)))]) (rest := []) m_X_allOverBut tw_485 0 (le_X) rfl ⟨rfl, rfl⟩ (c_X_allOverBut g hw) rfl rfl rfl d_X_sparedEvents_79 (fun r20 M19 hw => ?_)
          refine z_if_eq C 93 d_X_sparedEvents_82 (by decide) (fun h21 => ?_) (fun h21 => ?_)
          · replace hw := hw.1 h21
            refine z_iinc (v := (i16 + 1)) (lv' := [(2, .int (i16 + 1)), (0, .ref (ax g 0)), (1, .int i11)]) C d_X_sparedEvents_93 2 rfl rfl rfl rfl ?_
            refine z_goto C 60 d_X_sparedEvents_96 (by decide) ?_
            refine z_sub [1, 2, 0] rfl ?_
            exact ih15 _ _ hw
          · replace hw := hw.2 h21
            refine z_iconst (v := 1) C d_X_sparedEvents_85 (by decide) ?_
            refine z_iload_n C d_X_sparedEvents_86 rfl 1 rfl ?_
            refine z_ishl C d_X_sparedEvents_87 ?_
            refine z_iconst (v := 1) C d_X_sparedEvents_88 (by decide) ?_
            refine z_iload_n C d_X_sparedEvents_89 rfl 2 rfl ?_
            refine z_ishl C d_X_sparedEvents_90 ?_
            refine z_ior C d_X_sparedEvents_91 ?_
            exact z_iret C hr hw d_X_sparedEvents_92
    · replace hw := hw.2 h8
      refine z_aload_n C d_X_sparedEvents_23 rfl 0 rfl ?_
      refine z_iconst (v := 1) C d_X_sparedEvents_24 (by decide) ?_
      refine z_iload_n C d_X_sparedEvents_25 rfl 1 rfl ?_
      refine z_ishl C d_X_sparedEvents_26 ?_
      refine z_callVi C (As := [.int ((1 : Int32) <<< (i6 &&& 31))]) (rest := []) m_X_allOverBut tw_485 0 (le_X) rfl ⟨rfl, rfl⟩ (c_X_allOverBut g hw) rfl rfl rfl d_X_sparedEvents_27 (fun r23 M22 hw => ?_)
      refine z_if_eq C 37 d_X_sparedEvents_30 (by decide) (fun h24 => ?_) (fun h24 => ?_)
      · replace hw := hw.1 h24
        refine z_iinc (v := (i6 + 1)) (lv' := [(1, .int (i6 + 1)), (0, .ref (ax g 0))]) C d_X_sparedEvents_37 1 rfl rfl rfl rfl ?_
        refine z_goto C 12 d_X_sparedEvents_40 (by decide) ?_
        refine z_sub [1, 0] rfl ?_
        exact ih5 _ _ hw
      · replace hw := hw.2 h24
        refine z_iconst (v := 1) C d_X_sparedEvents_33 (by decide) ?_
        refine z_iload_n C d_X_sparedEvents_34 rfl 1 rfl ?_
        refine z_ishl C d_X_sparedEvents_35 ?_
        exact z_iret C hr hw d_X_sparedEvents_36
  · replace hw := hw.2 h3
    refine z_iconst (v := 0) C d_X_sparedEvents_8 (by decide) ?_
    exact z_iret C hr hw d_X_sparedEvents_9
theorem d_R_readsText_0 : decode prog_8_method_32_code 0 = .ok (.iload_n 1, 1) := by decide +kernel
theorem d_R_readsText_1 : decode prog_8_method_32_code 1 = .ok (.tableswitch 42 0 2 #[27, 32, 37], 27) := by decide +kernel
theorem d_R_readsText_28 : decode prog_8_method_32_code 28 = .ok (.aload_n 0, 1) := by decide +kernel
theorem d_R_readsText_29 : decode prog_8_method_32_code 29 = .ok (.invokevirtual 155, 3) := by decide +kernel
theorem d_R_readsText_32 : decode prog_8_method_32_code 32 = .ok (.ireturn, 1) := by decide +kernel
theorem d_R_readsText_33 : decode prog_8_method_32_code 33 = .ok (.aload_n 0, 1) := by decide +kernel
theorem d_R_readsText_34 : decode prog_8_method_32_code 34 = .ok (.invokevirtual 159, 3) := by decide +kernel
theorem d_R_readsText_37 : decode prog_8_method_32_code 37 = .ok (.ireturn, 1) := by decide +kernel
theorem d_R_readsText_38 : decode prog_8_method_32_code 38 = .ok (.aload_n 0, 1) := by decide +kernel
theorem d_R_readsText_39 : decode prog_8_method_32_code 39 = .ok (.invokevirtual 162, 3) := by decide +kernel
theorem d_R_readsText_42 : decode prog_8_method_32_code 42 = .ok (.ireturn, 1) := by decide +kernel
theorem d_R_readsText_43 : decode prog_8_method_32_code 43 = .ok (.aload_n 0, 1) := by decide +kernel
theorem d_R_readsText_44 : decode prog_8_method_32_code 44 = .ok (.invokevirtual 165, 3) := by decide +kernel
theorem d_R_readsText_47 : decode prog_8_method_32_code 47 = .ok (.ireturn, 1) := by decide +kernel
def wp_R_readsText (a1 : Int32) (M : Mem) (post : Int32 → Mem → Prop) : Prop :=
  (((a1 = 0) → wp_R_readsLand M (fun r2 M1 => post r2 M1)) ∧ ((a1 = 1) → wp_R_readsFall M (fun r4 M3 => post r4 M3)) ∧ ((a1 = 2) → wp_R_readsPloughs M (fun r6 M5 => post r6 M5)) ∧ ((¬ a1 = 0) → (¬ a1 = 1) → (¬ a1 = 2) → wp_R_readsBuses M (fun r8 M7 => post r8 M7)))
set_option maxHeartbeats 4000000 in
set_option maxRecDepth 100000 in
theorem c_R_readsText (g : GX) {a1 : Int32} {M : Mem} {post : Int32 → Mem → Prop} (hw : wp_R_readsText a1 M post) : CtI (oR g) y_R_readsText prog_8_method_32_code 2 (some .int) (rl 4) [.ref (ax g 0), .int a1] M post := by
  refine z_metI (oR_ok g) (by decide) rfl (fun X C hr => ?_)
  show Zj X 2 (oR g) M 0 [(0, .ref (ax g 0)), (1, .int a1)] []
  unfold wp_R_readsText at hw
  refine z_iload_n C d_R_readsText_0 rfl 1 rfl ?_
  refine z_table C [28, 33, 38] 43 d_R_readsText_1 rfl rfl rfl (by decide) (fun k t hk hx => ?_) (fun hx => ?_)
  · rcases k with _ | _ | _ | k
    · cases hk
      replace hw := hw.1 hx
      refine z_aload_n C d_R_readsText_28 rfl 0 rfl ?_
      refine z_callVi C (As := []) (rest := []) m_R_readsLand tw_842 0 (le_R) rfl ⟨rfl, rfl⟩ (c_R_readsLand g hw) rfl rfl rfl d_R_readsText_29 (fun r2 M1 hw => ?_)
      exact z_iret C hr hw d_R_readsText_32
    · cases hk
      replace hw := hw.2.1 hx
      refine z_aload_n C d_R_readsText_33 rfl 0 rfl ?_
      refine z_callVi C (As := []) (rest := []) m_R_readsFall tw_850 0 (le_R) rfl ⟨rfl, rfl⟩ (c_R_readsFall g hw) rfl rfl rfl d_R_readsText_34 (fun r4 M3 hw => ?_)
      exact z_iret C hr hw d_R_readsText_37
    · cases hk
      replace hw := hw.2.2.1 hx
      refine z_aload_n C d_R_readsText_38 rfl 0 rfl ?_
      refine z_callVi C (As := []) (rest := []) m_R_readsPloughs tw_862 0 (le_R) rfl ⟨rfl, rfl⟩ (c_R_readsPloughs g hw) rfl rfl rfl d_R_readsText_39 (fun r6 M5 hw => ?_)
      exact z_iret C hr hw d_R_readsText_42
    · simp at hk
  · replace hw := hw.2.2.2 (hx 0 (by decide)) (hx 1 (by decide)) (hx 2 (by decide))
    refine z_aload_n C d_R_readsText_43 rfl 0 rfl ?_
    refine z_callVi C (As := []) (rest := []) m_R_readsBuses tw_873 0 (le_R) rfl ⟨rfl, rfl⟩ (c_R_readsBuses g hw) rfl rfl rfl d_R_readsText_44 (fun r8 M7 hw => ?_)
    exact z_iret C hr hw d_R_readsText_47
theorem d_R_plough_0 : decode prog_8_method_40_code 0 = .ok (.aload_n 0, 1) := by decide +kernel
theorem d_R_plough_1 : decode prog_8_method_40_code 1 = .ok (.invokevirtual 162, 3) := by decide +kernel
theorem d_R_plough_4 : decode prog_8_method_40_code 4 = .ok (.pop, 1) := by decide +kernel
theorem d_R_plough_5 : decode prog_8_method_40_code 5 = .ok (.aload_n 0, 1) := by decide +kernel
theorem d_R_plough_6 : decode prog_8_method_40_code 6 = .ok (.iload_n 1, 1) := by decide +kernel
theorem d_R_plough_7 : decode prog_8_method_40_code 7 = .ok (.invokevirtual 181, 3) := by decide +kernel
theorem d_R_plough_10 : decode prog_8_method_40_code 10 = .ok (.ifCond .eq (28), 3) := by decide +kernel
theorem d_R_plough_13 : decode prog_8_method_40_code 13 = .ok (.iload_n 2, 1) := by decide +kernel
theorem d_R_plough_14 : decode prog_8_method_40_code 14 = .ok (.i2l, 1) := by decide +kernel
theorem d_R_plough_15 : decode prog_8_method_40_code 15 = .ok (.lconst 0, 1) := by decide +kernel
theorem d_R_plough_16 : decode prog_8_method_40_code 16 = .ok (.ldc2_w 110, 3) := by decide +kernel
theorem d_R_plough_19 : decode prog_8_method_40_code 19 = .ok (.invokestatic 97, 3) := by decide +kernel
theorem d_R_plough_22 : decode prog_8_method_40_code 22 = .ok (.ifCond .eq (16), 3) := by decide +kernel
theorem d_R_plough_25 : decode prog_8_method_40_code 25 = .ok (.aload_n 0, 1) := by decide +kernel
theorem d_R_plough_26 : decode prog_8_method_40_code 26 = .ok (.getfield 34, 3) := by decide +kernel
theorem d_R_plough_29 : decode prog_8_method_40_code 29 = .ok (.iconst 3, 1) := by decide +kernel
theorem d_R_plough_30 : decode prog_8_method_40_code 30 = .ok (.iload_n 1, 1) := by decide +kernel
theorem d_R_plough_31 : decode prog_8_method_40_code 31 = .ok (.imul, 1) := by decide +kernel
theorem d_R_plough_32 : decode prog_8_method_40_code 32 = .ok (.iload_n 2, 1) := by decide +kernel
theorem d_R_plough_33 : decode prog_8_method_40_code 33 = .ok (.iadd, 1) := by decide +kernel
theorem d_R_plough_34 : decode prog_8_method_40_code 34 = .ok (.iaload, 1) := by decide +kernel
theorem d_R_plough_35 : decode prog_8_method_40_code 35 = .ok (.goto (5), 3) := by decide +kernel
theorem d_R_plough_38 : decode prog_8_method_40_code 38 = .ok (.bipush (-2), 2) := by decide +kernel
theorem d_R_plough_40 : decode prog_8_method_40_code 40 = .ok (.ireturn, 1) := by decide +kernel
def wp_R_plough (a1 : Int32) (a2 : Int32) (M : Mem) (post : Int32 → Mem → Prop) : Prop :=
  wp_R_readsPloughs M (fun r2 M1 => wp_R_isPlough a1 M1 (fun r3 => (((r3 = 0) → True) ∧ (¬ (r3 = 0) → ((((pf_R_in (Int32.toInt64 a2) 0 (2)) = 0) → True) ∧ (¬ ((pf_R_in (Int32.toInt64 a2) 0 (2)) = 0) → (vp_in ((3 * a1) + a2) 12))))) ∧ (∀ u8 : Int32, u8 = (if r3 = 0 then (-2) else (if (pf_R_in (Int32.toInt64 a2) 0 (2)) = 0 then (-2) else (M1 9 (tn ((3 * a1) + a2))))) → post u8 M1)))
set_option maxHeartbeats 4000000 in
set_option maxRecDepth 100000 in
theorem c_R_plough (g : GX) {a1 : Int32} {a2 : Int32} {M : Mem} {post : Int32 → Mem → Prop} (hw : wp_R_plough a1 a2 M post) : CtI (oR g) y_R_plough prog_8_method_40_code 3 (some .int) (rl 4) [.ref (ax g 0), .int a1, .int a2] M post := by
  refine z_metI (oR_ok g) (by decide) rfl (fun X C hr => ?_)
  show Zj X 3 (oR g) M 0 [(0, .ref (ax g 0)), (1, .int a1), (2, .int a2)] []
  unfold wp_R_plough at hw
  refine z_aload_n C d_R_plough_0 rfl 0 rfl ?_
  refine z_callVi C (As := []) (rest := []) m_R_readsPloughs tw_862 0 (le_R) rfl ⟨rfl, rfl⟩ (c_R_readsPloughs g hw) rfl rfl rfl d_R_plough_1 (fun r2 M1 hw => ?_)
  refine z_pop C d_R_plough_4 rfl ?_
  refine z_aload_n C d_R_plough_5 rfl 0 rfl ?_
  refine z_iload_n C d_R_plough_6 rfl 1 rfl ?_
  refine z_callVi C (As := [.int a1]) (rest := []) m_R_isPlough tw_897 0 (le_R) rfl ⟨rfl, rfl⟩ (c_R_isPlough g hw) rfl rfl rfl d_R_plough_7 (fun r3 M2 hq => ?_)
  obtain ⟨rfl, hw⟩ := hq
  have hj9 : ∀ u8 : Int32, u8 = (if r3 = 0 then (-2) else (if (pf_R_in (Int32.toInt64 a2) 0 (2)) = 0 then (-2) else (M1 9 (tn ((3 * a1) + a2))))) → Zj X 3 (oR g) M1 40 [] [.int u8] := by
    intro u8 hu8
    replace hw := hw.2 u8 hu8
    exact z_iret C hr hw d_R_plough_40
  have ha0 := hw.1
  refine z_if_eq C 38 d_R_plough_10 (by decide) (fun h4 => ?_) (fun h4 => ?_)
  · refine z_bipush (v := (-2)) C d_R_plough_38 (by decide) ?_
    refine z_sub [] rfl ?_
    exact hj9 _ ((if_pos h4)).symm
  · have ha10 := ha0.2 h4
    refine z_iload_n C d_R_plough_13 rfl 2 rfl ?_
    refine z_i2l C d_R_plough_14 ?_
    refine z_lconst (v := 0) C d_R_plough_15 (by decide) ?_
    refine z_ldc2 C d_R_plough_16 tw_789 ?_
    refine z_callSi C (As := [.long (Int32.toInt64 a2), .long 0, .long (2)]) (rest := []) m_R_in tw_786 ⟨rfl, rfl⟩ (c_R_in (oR_ok g) _ _ _ _) rfl rfl rfl d_R_plough_19 (fun r M2 hq => ?_)
    obtain ⟨rfl, rfl⟩ := hq
    refine z_if_eq C 38 d_R_plough_22 (by decide) (fun h6 => ?_) (fun h6 => ?_)
    · refine z_bipush (v := (-2)) C d_R_plough_38 (by decide) ?_
      refine z_sub [] rfl ?_
      exact hj9 _ (((if_neg h4).trans (if_pos h6))).symm
    · have ha11 := ha10.2 h6
      refine z_aload_n C d_R_plough_25 rfl 0 rfl ?_
      refine gf_R_34 C d_R_plough_26 ?_
      refine z_iconst (v := 3) C d_R_plough_29 (by decide) ?_
      refine z_iload_n C d_R_plough_30 rfl 1 rfl ?_
      refine z_imul C d_R_plough_31 ?_
      refine z_iload_n C d_R_plough_32 rfl 2 rfl ?_
      refine z_iadd C d_R_plough_33 ?_
      have hv7 := ha11
      refine z_al (zar_r9) C hv7 d_R_plough_34 ?_
      refine z_goto C 40 d_R_plough_35 (by decide) ?_
      refine z_sub [] rfl ?_
      exact hj9 _ (((if_neg h4).trans (if_neg h6))).symm
theorem d_R_lives_0 : decode prog_8_method_52_code 0 = .ok (.iconst 0, 1) := by decide +kernel
theorem d_R_lives_1 : decode prog_8_method_52_code 1 = .ok (.istore_n 1, 1) := by decide +kernel
theorem d_R_lives_2 : decode prog_8_method_52_code 2 = .ok (.iload_n 1, 1) := by decide +kernel
theorem d_R_lives_3 : decode prog_8_method_52_code 3 = .ok (.bipush 12, 2) := by decide +kernel
theorem d_R_lives_5 : decode prog_8_method_52_code 5 = .ok (.if_icmp .ge (16), 3) := by decide +kernel
theorem d_R_lives_8 : decode prog_8_method_52_code 8 = .ok (.aload_n 0, 1) := by decide +kernel
theorem d_R_lives_9 : decode prog_8_method_52_code 9 = .ok (.getfield 43, 3) := by decide +kernel
theorem d_R_lives_12 : decode prog_8_method_52_code 12 = .ok (.iload_n 1, 1) := by decide +kernel
theorem d_R_lives_13 : decode prog_8_method_52_code 13 = .ok (.iconst 0, 1) := by decide +kernel
theorem d_R_lives_14 : decode prog_8_method_52_code 14 = .ok (.iastore, 1) := by decide +kernel
theorem d_R_lives_15 : decode prog_8_method_52_code 15 = .ok (.iinc 1 1, 3) := by decide +kernel
theorem d_R_lives_18 : decode prog_8_method_52_code 18 = .ok (.goto (-16), 3) := by decide +kernel
theorem d_R_lives_21 : decode prog_8_method_52_code 21 = .ok (.iconst 0, 1) := by decide +kernel
theorem d_R_lives_22 : decode prog_8_method_52_code 22 = .ok (.istore_n 1, 1) := by decide +kernel
theorem d_R_lives_23 : decode prog_8_method_52_code 23 = .ok (.iload_n 1, 1) := by decide +kernel
theorem d_R_lives_24 : decode prog_8_method_52_code 24 = .ok (.aload_n 0, 1) := by decide +kernel
theorem d_R_lives_25 : decode prog_8_method_52_code 25 = .ok (.getfield 146, 3) := by decide +kernel
theorem d_R_lives_28 : decode prog_8_method_52_code 28 = .ok (.if_icmp .ge (53), 3) := by decide +kernel
theorem d_R_lives_31 : decode prog_8_method_52_code 31 = .ok (.aload_n 0, 1) := by decide +kernel
theorem d_R_lives_32 : decode prog_8_method_52_code 32 = .ok (.getfield 49, 3) := by decide +kernel
theorem d_R_lives_35 : decode prog_8_method_52_code 35 = .ok (.iload_n 1, 1) := by decide +kernel
theorem d_R_lives_36 : decode prog_8_method_52_code 36 = .ok (.aload_n 0, 1) := by decide +kernel
theorem d_R_lives_37 : decode prog_8_method_52_code 37 = .ok (.getfield 34, 3) := by decide +kernel
theorem d_R_lives_40 : decode prog_8_method_52_code 40 = .ok (.iconst 3, 1) := by decide +kernel
theorem d_R_lives_41 : decode prog_8_method_52_code 41 = .ok (.iload_n 1, 1) := by decide +kernel
theorem d_R_lives_42 : decode prog_8_method_52_code 42 = .ok (.imul, 1) := by decide +kernel
theorem d_R_lives_43 : decode prog_8_method_52_code 43 = .ok (.iaload, 1) := by decide +kernel
theorem d_R_lives_44 : decode prog_8_method_52_code 44 = .ok (.iastore, 1) := by decide +kernel
theorem d_R_lives_45 : decode prog_8_method_52_code 45 = .ok (.aload_n 0, 1) := by decide +kernel
theorem d_R_lives_46 : decode prog_8_method_52_code 46 = .ok (.getfield 52, 3) := by decide +kernel
theorem d_R_lives_49 : decode prog_8_method_52_code 49 = .ok (.iload_n 1, 1) := by decide +kernel
theorem d_R_lives_50 : decode prog_8_method_52_code 50 = .ok (.aload_n 0, 1) := by decide +kernel
theorem d_R_lives_51 : decode prog_8_method_52_code 51 = .ok (.getfield 34, 3) := by decide +kernel
theorem d_R_lives_54 : decode prog_8_method_52_code 54 = .ok (.iconst 3, 1) := by decide +kernel
theorem d_R_lives_55 : decode prog_8_method_52_code 55 = .ok (.iload_n 1, 1) := by decide +kernel
theorem d_R_lives_56 : decode prog_8_method_52_code 56 = .ok (.imul, 1) := by decide +kernel
theorem d_R_lives_57 : decode prog_8_method_52_code 57 = .ok (.iconst 2, 1) := by decide +kernel
theorem d_R_lives_58 : decode prog_8_method_52_code 58 = .ok (.iadd, 1) := by decide +kernel
theorem d_R_lives_59 : decode prog_8_method_52_code 59 = .ok (.iaload, 1) := by decide +kernel
theorem d_R_lives_60 : decode prog_8_method_52_code 60 = .ok (.iastore, 1) := by decide +kernel
theorem d_R_lives_61 : decode prog_8_method_52_code 61 = .ok (.aload_n 0, 1) := by decide +kernel
theorem d_R_lives_62 : decode prog_8_method_52_code 62 = .ok (.getfield 55, 3) := by decide +kernel
theorem d_R_lives_65 : decode prog_8_method_52_code 65 = .ok (.iload_n 1, 1) := by decide +kernel
theorem d_R_lives_66 : decode prog_8_method_52_code 66 = .ok (.iconst 0, 1) := by decide +kernel
theorem d_R_lives_67 : decode prog_8_method_52_code 67 = .ok (.iastore, 1) := by decide +kernel
theorem d_R_lives_68 : decode prog_8_method_52_code 68 = .ok (.aload_n 0, 1) := by decide +kernel
theorem d_R_lives_69 : decode prog_8_method_52_code 69 = .ok (.getfield 58, 3) := by decide +kernel
theorem d_R_lives_72 : decode prog_8_method_52_code 72 = .ok (.iload_n 1, 1) := by decide +kernel
theorem d_R_lives_73 : decode prog_8_method_52_code 73 = .ok (.iconst 0, 1) := by decide +kernel
theorem d_R_lives_74 : decode prog_8_method_52_code 74 = .ok (.iastore, 1) := by decide +kernel
theorem d_R_lives_75 : decode prog_8_method_52_code 75 = .ok (.iinc 1 1, 3) := by decide +kernel
theorem d_R_lives_78 : decode prog_8_method_52_code 78 = .ok (.goto (-55), 3) := by decide +kernel
theorem d_R_lives_81 : decode prog_8_method_52_code 81 = .ok (.iconst 0, 1) := by decide +kernel
theorem d_R_lives_82 : decode prog_8_method_52_code 82 = .ok (.istore_n 1, 1) := by decide +kernel
theorem d_R_lives_83 : decode prog_8_method_52_code 83 = .ok (.iload_n 1, 1) := by decide +kernel
theorem d_R_lives_84 : decode prog_8_method_52_code 84 = .ok (.aload_n 0, 1) := by decide +kernel
theorem d_R_lives_85 : decode prog_8_method_52_code 85 = .ok (.getfield 152, 3) := by decide +kernel
theorem d_R_lives_88 : decode prog_8_method_52_code 88 = .ok (.if_icmp .ge (30), 3) := by decide +kernel
theorem d_R_lives_91 : decode prog_8_method_52_code 91 = .ok (.aload_n 0, 1) := by decide +kernel
theorem d_R_lives_92 : decode prog_8_method_52_code 92 = .ok (.getfield 61, 3) := by decide +kernel
theorem d_R_lives_95 : decode prog_8_method_52_code 95 = .ok (.iload_n 1, 1) := by decide +kernel
theorem d_R_lives_96 : decode prog_8_method_52_code 96 = .ok (.iconst (-1), 1) := by decide +kernel
theorem d_R_lives_97 : decode prog_8_method_52_code 97 = .ok (.iastore, 1) := by decide +kernel
theorem d_R_lives_98 : decode prog_8_method_52_code 98 = .ok (.aload_n 0, 1) := by decide +kernel
theorem d_R_lives_99 : decode prog_8_method_52_code 99 = .ok (.getfield 64, 3) := by decide +kernel
theorem d_R_lives_102 : decode prog_8_method_52_code 102 = .ok (.iload_n 1, 1) := by decide +kernel
theorem d_R_lives_103 : decode prog_8_method_52_code 103 = .ok (.iconst (-1), 1) := by decide +kernel
theorem d_R_lives_104 : decode prog_8_method_52_code 104 = .ok (.iastore, 1) := by decide +kernel
theorem d_R_lives_105 : decode prog_8_method_52_code 105 = .ok (.aload_n 0, 1) := by decide +kernel
theorem d_R_lives_106 : decode prog_8_method_52_code 106 = .ok (.getfield 67, 3) := by decide +kernel
theorem d_R_lives_109 : decode prog_8_method_52_code 109 = .ok (.iload_n 1, 1) := by decide +kernel
theorem d_R_lives_110 : decode prog_8_method_52_code 110 = .ok (.iconst 0, 1) := by decide +kernel
theorem d_R_lives_111 : decode prog_8_method_52_code 111 = .ok (.iastore, 1) := by decide +kernel
theorem d_R_lives_112 : decode prog_8_method_52_code 112 = .ok (.iinc 1 1, 3) := by decide +kernel
theorem d_R_lives_115 : decode prog_8_method_52_code 115 = .ok (.goto (-32), 3) := by decide +kernel
theorem d_R_lives_118 : decode prog_8_method_52_code 118 = .ok (.iconst 0, 1) := by decide +kernel
theorem d_R_lives_119 : decode prog_8_method_52_code 119 = .ok (.istore_n 1, 1) := by decide +kernel
theorem d_R_lives_120 : decode prog_8_method_52_code 120 = .ok (.iload_n 1, 1) := by decide +kernel
theorem d_R_lives_121 : decode prog_8_method_52_code 121 = .ok (.bipush 24, 2) := by decide +kernel
theorem d_R_lives_123 : decode prog_8_method_52_code 123 = .ok (.if_icmp .ge (14), 3) := by decide +kernel
theorem d_R_lives_126 : decode prog_8_method_52_code 126 = .ok (.aload_n 0, 1) := by decide +kernel
theorem d_R_lives_127 : decode prog_8_method_52_code 127 = .ok (.iload_n 1, 1) := by decide +kernel
theorem d_R_lives_128 : decode prog_8_method_52_code 128 = .ok (.invokevirtual 222, 3) := by decide +kernel
theorem d_R_lives_131 : decode prog_8_method_52_code 131 = .ok (.iinc 1 1, 3) := by decide +kernel
theorem d_R_lives_134 : decode prog_8_method_52_code 134 = .ok (.goto (-14), 3) := by decide +kernel
theorem d_R_lives_137 : decode prog_8_method_52_code 137 = .ok (.return_, 1) := by decide +kernel
def wp_R_lives (M : Mem) (post : Mem → Prop) : Prop :=
  (it2 (fun rec1 (i3 : Int32) (M4 : Mem) => (((12 ≤ i3) → (it2 (fun rec6 (i8 : Int32) (M9 : Mem) => ((((M9 0 9) ≤ i8) → (it2 (fun rec11 (i13 : Int32) (M14 : Mem) => ((((M14 0 11) ≤ i13) → (it2 (fun rec16 (i18 : Int32) (M19 : Mem) => (((24 ≤ i18) → post M19) ∧ (¬ (24 ≤ i18) → wp_R_passes i18 M19 (fun M21 => rec16 (i18 + 1) M21)))) 4096 0 M14)) ∧ (¬ ((M14 0 11) ≤ i13) → vp_in i13 8 ∧ ∀ M23 : Mem, M23 = upm M14 18 (tn i13) (-1) → ∀ M25 : Mem, M25 = upm M23 19 (tn i13) (-1) → ∀ M26 : Mem, M26 = upm M25 20 (tn i13) 0 → rec11 (i13 + 1) M26))) 4096 0 M9)) ∧ (¬ ((M9 0 9) ≤ i8) → vp_in (3 * i8) 12 ∧ vp_in i8 4 ∧ ∀ M28 : Mem, M28 = upm M9 14 (tn i8) (M9 9 (tn (3 * i8))) → vp_in ((3 * i8) + 2) 12 ∧ ∀ M31 : Mem, M31 = upm M28 15 (tn i8) (M28 9 (tn ((3 * i8) + 2))) → ∀ M32 : Mem, M32 = upm M31 16 (tn i8) 0 → ∀ M33 : Mem, M33 = upm M32 17 (tn i8) 0 → rec6 (i8 + 1) M33))) 4096 0 M4)) ∧ (¬ (12 ≤ i3) → vp_in i3 12 ∧ ∀ M34 : Mem, M34 = upm M4 12 (tn i3) 0 → rec1 (i3 + 1) M34))) 4096 0 M)
set_option maxHeartbeats 4000000 in
set_option maxRecDepth 100000 in
theorem c_R_lives (g : GX) {M : Mem} {post : Mem → Prop} (hw : wp_R_lives M post) : CtV (oR g) y_R_lives prog_8_method_52_code 2 none (rl 4) [.ref (ax g 0)] M post := by
  refine z_metV (oR_ok g) (by decide) rfl (fun X C hr => ?_)
  show Zj X 2 (oR g) M 0 [(0, .ref (ax g 0))] []
  unfold wp_R_lives at hw
  refine z_iconst (v := 0) C d_R_lives_0 (by decide) ?_
  refine z_istore_n (lv' := [(1, .int 0), (0, .ref (ax g 0))]) C d_R_lives_1 rfl rfl rfl ?_
  refine z_sub [1, 0] rfl ?_
  refine it2_Z (Z := fun (i3 : Int32) (M4 : Mem) => Zj X 2 (oR g) M4 2 [(0, .ref (ax g 0)), (1, .int i3)] []) (fun rec1 ih2 i3 M4 hw => ?_) _ _ _ hw
  refine z_iload_n C d_R_lives_2 rfl 1 rfl ?_
  refine z_bipush (v := 12) C d_R_lives_3 (by decide) ?_
  refine z_ic_ge C 21 d_R_lives_5 (by decide) (fun h5 => ?_) (fun h5 => ?_)
  · replace hw := hw.1 h5
    refine z_iconst (v := 0) C d_R_lives_21 (by decide) ?_
    refine z_istore_n (lv' := [(1, .int 0), (0, .ref (ax g 0))]) C d_R_lives_22 rfl rfl rfl ?_
    refine z_sub [1, 0] rfl ?_
    refine it2_Z (Z := fun (i8 : Int32) (M9 : Mem) => Zj X 2 (oR g) M9 23 [(0, .ref (ax g 0)), (1, .int i8)] []) (fun rec6 ih7 i8 M9 hw => ?_) _ _ _ hw
    refine z_iload_n C d_R_lives_23 rfl 1 rfl ?_
    refine z_aload_n C d_R_lives_24 rfl 0 rfl ?_
    refine gf_R_146 C d_R_lives_25 ?_
    refine z_ic_ge C 81 d_R_lives_28 (by decide) (fun h10 => ?_) (fun h10 => ?_)
    · replace hw := hw.1 h10
      refine z_iconst (v := 0) C d_R_lives_81 (by decide) ?_
      refine z_istore_n (lv' := [(1, .int 0), (0, .ref (ax g 0))]) C d_R_lives_82 rfl rfl rfl ?_
      refine z_sub [1, 0] rfl ?_
      refine it2_Z (Z := fun (i13 : Int32) (M14 : Mem) => Zj X 2 (oR g) M14 83 [(0, .ref (ax g 0)), (1, .int i13)] []) (fun rec11 ih12 i13 M14 hw => ?_) _ _ _ hw
      refine z_iload_n C d_R_lives_83 rfl 1 rfl ?_
      refine z_aload_n C d_R_lives_84 rfl 0 rfl ?_
      refine gf_R_152 C d_R_lives_85 ?_
      refine z_ic_ge C 118 d_R_lives_88 (by decide) (fun h15 => ?_) (fun h15 => ?_)
      · replace hw := hw.1 h15
        refine z_iconst (v := 0) C d_R_lives_118 (by decide) ?_
        refine z_istore_n (lv' := [(1, .int 0), (0, .ref (ax g 0))]) C d_R_lives_119 rfl rfl rfl ?_
        refine z_sub [1, 0] rfl ?_
        refine it2_Z (Z := fun (i18 : Int32) (M19 : Mem) => Zj X 2 (oR g) M19 120 [(0, .ref (ax g 0)), (1, .int i18)] []) (fun rec16 ih17 i18 M19 hw => ?_) _ _ _ hw
        refine z_iload_n C d_R_lives_120 rfl 1 rfl ?_
        refine z_bipush (v := 24) C d_R_lives_121 (by decide) ?_
        refine z_ic_ge C 137 d_R_lives_123 (by decide) (fun h20 => ?_) (fun h20 => ?_)
        · replace hw := hw.1 h20
          exact z_vret C hr hw d_R_lives_137
        · replace hw := hw.2 h20
          refine z_aload_n C d_R_lives_126 rfl 0 rfl ?_
          refine z_iload_n C d_R_lives_127 rfl 1 rfl ?_
          refine z_callVv C (As := [.int i18]) (rest := []) m_R_passes tw_939 0 (le_R) rfl ⟨rfl, rfl⟩ (c_R_passes g hw) rfl rfl rfl d_R_lives_128 (fun M21 hw => ?_)
          refine z_iinc (v := (i18 + 1)) (lv' := [(1, .int (i18 + 1)), (0, .ref (ax g 0))]) C d_R_lives_131 1 rfl rfl rfl rfl ?_
          refine z_goto C 120 d_R_lives_134 (by decide) ?_
          refine z_sub [1, 0] rfl ?_
          exact ih17 _ _ hw
      · replace hw := hw.2 h15
        refine z_aload_n C d_R_lives_91 rfl 0 rfl ?_
        refine gf_R_61 C d_R_lives_92 ?_
        refine z_iload_n C d_R_lives_95 rfl 1 rfl ?_
        refine z_iconst (v := (-1)) C d_R_lives_96 (by decide) ?_
        have hv24 := hw.1
        refine z_as (zar_r18) C hv24 d_R_lives_97 (fun M23 hM23 => ?_)
        replace hw := hw.2 M23 hM23
        refine z_aload_n C d_R_lives_98 rfl 0 rfl ?_
        refine gf_R_64 C d_R_lives_99 ?_
        refine z_iload_n C d_R_lives_102 rfl 1 rfl ?_
        refine z_iconst (v := (-1)) C d_R_lives_103 (by decide) ?_
        refine z_as (zar_r19) C hv24 d_R_lives_104 (fun M25 hM25 => ?_)
        replace hw := hw M25 hM25
        refine z_aload_n C d_R_lives_105 rfl 0 rfl ?_
        refine gf_R_67 C d_R_lives_106 ?_
        refine z_iload_n C d_R_lives_109 rfl 1 rfl ?_
        refine z_iconst (v := 0) C d_R_lives_110 (by decide) ?_
        refine z_as (zar_r20) C hv24 d_R_lives_111 (fun M26 hM26 => ?_)
        replace hw := hw M26 hM26
        refine z_iinc (v := (i13 + 1)) (lv' := [(1, .int (i13 + 1)), (0, .ref (ax g 0))]) C d_R_lives_112 1 rfl rfl rfl rfl ?_
        refine z_goto C 83 d_R_lives_115 (by decide) ?_
        refine z_sub [1, 0] rfl ?_
        exact ih12 _ _ hw
    · replace hw := hw.2 h10
      refine z_aload_n C d_R_lives_31 rfl 0 rfl ?_
      refine gf_R_49 C d_R_lives_32 ?_
      refine z_iload_n C d_R_lives_35 rfl 1 rfl ?_
      refine z_aload_n C d_R_lives_36 rfl 0 rfl ?_
      refine gf_R_34 C d_R_lives_37 ?_
      refine z_iconst (v := 3) C d_R_lives_40 (by decide) ?_
      refine z_iload_n C d_R_lives_41 rfl 1 rfl ?_
      refine z_imul C d_R_lives_42 ?_
      have hv27 := hw.1
      replace hw := hw.2
      refine z_al (zar_r9) C hv27 d_R_lives_43 ?_
      have hv29 := hw.1
      refine z_as (zar_r14) C hv29 d_R_lives_44 (fun M28 hM28 => ?_)
      replace hw := hw.2 M28 hM28
      refine z_aload_n C d_R_lives_45 rfl 0 rfl ?_
      refine gf_R_52 C d_R_lives_46 ?_
      refine z_iload_n C d_R_lives_49 rfl 1 rfl ?_
      refine z_aload_n C d_R_lives_50 rfl 0 rfl ?_
      refine gf_R_34 C d_R_lives_51 ?_
      refine z_iconst (v := 3) C d_R_lives_54 (by decide) ?_
      refine z_iload_n C d_R_lives_55 rfl 1 rfl ?_
      refine z_imul C d_R_lives_56 ?_
      refine z_iconst (v := 2) C d_R_lives_57 (by decide) ?_
      refine z_iadd C d_R_lives_58 ?_
      have hv30 := hw.1
      replace hw := hw.2
      refine z_al (zar_r9) C hv30 d_R_lives_59 ?_
      refine z_as (zar_r15) C hv29 d_R_lives_60 (fun M31 hM31 => ?_)
      replace hw := hw M31 hM31
      refine z_aload_n C d_R_lives_61 rfl 0 rfl ?_
      refine gf_R_55 C d_R_lives_62 ?_
      refine z_iload_n C d_R_lives_65 rfl 1 rfl ?_
      refine z_iconst (v := 0) C d_R_lives_66 (by decide) ?_
      refine z_as (zar_r16) C hv29 d_R_lives_67 (fun M32 hM32 => ?_)
      replace hw := hw M32 hM32
      refine z_aload_n C d_R_lives_68 rfl 0 rfl ?_
      refine gf_R_58 C d_R_lives_69 ?_
      refine z_iload_n C d_R_lives_72 rfl 1 rfl ?_
      refine z_iconst (v := 0) C d_R_lives_73 (by decide) ?_
      refine z_as (zar_r17) C hv29 d_R_lives_74 (fun M33 hM33 => ?_)
      replace hw := hw M33 hM33
      refine z_iinc (v := (i8 + 1)) (lv' := [(1, .int (i8 + 1)), (0, .ref (ax g 0))]) C d_R_lives_75 1 rfl rfl rfl rfl ?_
      refine z_goto C 23 d_R_lives_78 (by decide) ?_
      refine z_sub [1, 0] rfl ?_
      exact ih7 _ _ hw
  · replace hw := hw.2 h5
    refine z_aload_n C d_R_lives_8 rfl 0 rfl ?_
    refine gf_R_43 C d_R_lives_9 ?_
    refine z_iload_n C d_R_lives_12 rfl 1 rfl ?_
    refine z_iconst (v := 0) C d_R_lives_13 (by decide) ?_
    have hv35 := hw.1
    refine z_as (zar_r12) C hv35 d_R_lives_14 (fun M34 hM34 => ?_)
    replace hw := hw.2 M34 hM34
    refine z_iinc (v := (i3 + 1)) (lv' := [(1, .int (i3 + 1)), (0, .ref (ax g 0))]) C d_R_lives_15 1 rfl rfl rfl rfl ?_
    refine z_goto C 2 d_R_lives_18 (by decide) ?_
    refine z_sub [1, 0] rfl ?_
    exact ih2 _ _ hw
