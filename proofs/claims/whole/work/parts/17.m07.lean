theorem d_X_copy_0 : decode prog_1_method_39_code 0 = .ok (.iload_n 1, 1) := by decide +kernel
theorem d_X_copy_1 : decode prog_1_method_39_code 1 = .ok (.iconst 4, 1) := by decide +kernel
theorem d_X_copy_2 : decode prog_1_method_39_code 2 = .ok (.invokestatic 70, 3) := by decide +kernel
theorem d_X_copy_5 : decode prog_1_method_39_code 5 = .ok (.ifCond .ne (11), 3) := by decide +kernel
theorem d_X_copy_8 : decode prog_1_method_39_code 8 = .ok (.iload_n 3, 1) := by decide +kernel
theorem d_X_copy_9 : decode prog_1_method_39_code 9 = .ok (.iconst 4, 1) := by decide +kernel
theorem d_X_copy_10 : decode prog_1_method_39_code 10 = .ok (.invokestatic 70, 3) := by decide +kernel
theorem d_X_copy_13 : decode prog_1_method_39_code 13 = .ok (.ifCond .eq (6), 3) := by decide +kernel
theorem d_X_copy_16 : decode prog_1_method_39_code 16 = .ok (.bipush (-2), 2) := by decide +kernel
theorem d_X_copy_18 : decode prog_1_method_39_code 18 = .ok (.ireturn, 1) := by decide +kernel
theorem d_X_copy_19 : decode prog_1_method_39_code 19 = .ok (.aload_n 0, 1) := by decide +kernel
theorem d_X_copy_20 : decode prog_1_method_39_code 20 = .ok (.getfield 31, 3) := by decide +kernel
theorem d_X_copy_23 : decode prog_1_method_39_code 23 = .ok (.iload_n 1, 1) := by decide +kernel
theorem d_X_copy_24 : decode prog_1_method_39_code 24 = .ok (.aaload, 1) := by decide +kernel
theorem d_X_copy_25 : decode prog_1_method_39_code 25 = .ok (.astore 6, 2) := by decide +kernel
theorem d_X_copy_27 : decode prog_1_method_39_code 27 = .ok (.aload_n 0, 1) := by decide +kernel
theorem d_X_copy_28 : decode prog_1_method_39_code 28 = .ok (.getfield 31, 3) := by decide +kernel
theorem d_X_copy_31 : decode prog_1_method_39_code 31 = .ok (.iload_n 3, 1) := by decide +kernel
theorem d_X_copy_32 : decode prog_1_method_39_code 32 = .ok (.aaload, 1) := by decide +kernel
theorem d_X_copy_33 : decode prog_1_method_39_code 33 = .ok (.astore 7, 2) := by decide +kernel
theorem d_X_copy_35 : decode prog_1_method_39_code 35 = .ok (.aload 6, 2) := by decide +kernel
theorem d_X_copy_37 : decode prog_1_method_39_code 37 = .ok (.getfield 128, 3) := by decide +kernel
theorem d_X_copy_40 : decode prog_1_method_39_code 40 = .ok (.iconst (-1), 1) := by decide +kernel
theorem d_X_copy_41 : decode prog_1_method_39_code 41 = .ok (.if_icmp .eq (12), 3) := by decide +kernel
theorem d_X_copy_44 : decode prog_1_method_39_code 44 = .ok (.aload 7, 2) := by decide +kernel
theorem d_X_copy_46 : decode prog_1_method_39_code 46 = .ok (.getfield 128, 3) := by decide +kernel
theorem d_X_copy_49 : decode prog_1_method_39_code 49 = .ok (.iconst (-1), 1) := by decide +kernel
theorem d_X_copy_50 : decode prog_1_method_39_code 50 = .ok (.if_icmp .ne (9), 3) := by decide +kernel
theorem d_X_copy_53 : decode prog_1_method_39_code 53 = .ok (.aload_n 0, 1) := by decide +kernel
theorem d_X_copy_54 : decode prog_1_method_39_code 54 = .ok (.iconst 1, 1) := by decide +kernel
theorem d_X_copy_55 : decode prog_1_method_39_code 55 = .ok (.invokevirtual 131, 3) := by decide +kernel
theorem d_X_copy_58 : decode prog_1_method_39_code 58 = .ok (.ireturn, 1) := by decide +kernel
theorem d_X_copy_59 : decode prog_1_method_39_code 59 = .ok (.aload 6, 2) := by decide +kernel
theorem d_X_copy_61 : decode prog_1_method_39_code 61 = .ok (.getfield 128, 3) := by decide +kernel
theorem d_X_copy_64 : decode prog_1_method_39_code 64 = .ok (.aload 7, 2) := by decide +kernel
theorem d_X_copy_66 : decode prog_1_method_39_code 66 = .ok (.getfield 128, 3) := by decide +kernel
theorem d_X_copy_69 : decode prog_1_method_39_code 69 = .ok (.if_icmp .eq (9), 3) := by decide +kernel
theorem d_X_copy_72 : decode prog_1_method_39_code 72 = .ok (.aload_n 0, 1) := by decide +kernel
theorem d_X_copy_73 : decode prog_1_method_39_code 73 = .ok (.iconst 4, 1) := by decide +kernel
theorem d_X_copy_74 : decode prog_1_method_39_code 74 = .ok (.invokevirtual 131, 3) := by decide +kernel
theorem d_X_copy_77 : decode prog_1_method_39_code 77 = .ok (.ireturn, 1) := by decide +kernel
theorem d_X_copy_78 : decode prog_1_method_39_code 78 = .ok (.aload 6, 2) := by decide +kernel
theorem d_X_copy_80 : decode prog_1_method_39_code 80 = .ok (.iload_n 2, 1) := by decide +kernel
theorem d_X_copy_81 : decode prog_1_method_39_code 81 = .ok (.iload 5, 2) := by decide +kernel
theorem d_X_copy_83 : decode prog_1_method_39_code 83 = .ok (.invokevirtual 260, 3) := by decide +kernel
theorem d_X_copy_86 : decode prog_1_method_39_code 86 = .ok (.ifCond .eq (15), 3) := by decide +kernel
theorem d_X_copy_89 : decode prog_1_method_39_code 89 = .ok (.aload 7, 2) := by decide +kernel
theorem d_X_copy_91 : decode prog_1_method_39_code 91 = .ok (.iload 4, 2) := by decide +kernel
theorem d_X_copy_93 : decode prog_1_method_39_code 93 = .ok (.iload 5, 2) := by decide +kernel
theorem d_X_copy_95 : decode prog_1_method_39_code 95 = .ok (.invokevirtual 260, 3) := by decide +kernel
theorem d_X_copy_98 : decode prog_1_method_39_code 98 = .ok (.ifCond .ne (9), 3) := by decide +kernel
theorem d_X_copy_101 : decode prog_1_method_39_code 101 = .ok (.aload_n 0, 1) := by decide +kernel
theorem d_X_copy_102 : decode prog_1_method_39_code 102 = .ok (.iconst 2, 1) := by decide +kernel
theorem d_X_copy_103 : decode prog_1_method_39_code 103 = .ok (.invokevirtual 131, 3) := by decide +kernel
theorem d_X_copy_106 : decode prog_1_method_39_code 106 = .ok (.ireturn, 1) := by decide +kernel
theorem d_X_copy_107 : decode prog_1_method_39_code 107 = .ok (.aload 6, 2) := by decide +kernel
theorem d_X_copy_109 : decode prog_1_method_39_code 109 = .ok (.getfield 138, 3) := by decide +kernel
theorem d_X_copy_112 : decode prog_1_method_39_code 112 = .ok (.iload_n 2, 1) := by decide +kernel
theorem d_X_copy_113 : decode prog_1_method_39_code 113 = .ok (.aload 7, 2) := by decide +kernel
theorem d_X_copy_115 : decode prog_1_method_39_code 115 = .ok (.getfield 138, 3) := by decide +kernel
theorem d_X_copy_118 : decode prog_1_method_39_code 118 = .ok (.iload 4, 2) := by decide +kernel
theorem d_X_copy_120 : decode prog_1_method_39_code 120 = .ok (.iload 5, 2) := by decide +kernel
theorem d_X_copy_122 : decode prog_1_method_39_code 122 = .ok (.invokestatic 225, 3) := by decide +kernel
theorem d_X_copy_125 : decode prog_1_method_39_code 125 = .ok (.iconst 1, 1) := by decide +kernel
theorem d_X_copy_126 : decode prog_1_method_39_code 126 = .ok (.ireturn, 1) := by decide +kernel
def wp_X_copy (a1 : Int32) (a2 : Int32) (a3 : Int32) (a4 : Int32) (a5 : Int32) (M : Mem) (post : Int32 → Mem → Prop) : Prop :=
  ((((pf_X_outside a1 4) = 0) → ((((pf_X_outside a3 4) = 0) → vp_in a1 4 ∧ vp_in a3 4 ∧ ((((M (24 + 2 * (tn a1)) 1) = (-1)) → wp_X_found 1 M (fun r11 M10 => post r11 M10)) ∧ (¬ ((M (24 + 2 * (tn a1)) 1) = (-1)) → ((((M (24 + 2 * (tn a3)) 1) = (-1)) → wp_X_found 1 M (fun r26 M25 => post r26 M25)) ∧ (¬ ((M (24 + 2 * (tn a3)) 1) = (-1)) → ((((M (24 + 2 * (tn a1)) 1) = (M (24 + 2 * (tn a3)) 1)) → wp_XH_hasItems (tn a1) a2 a5 M (fun r14 => (((r14 = 0) → wp_X_found 2 M (fun r17 M16 => post r17 M16)) ∧ (¬ (r14 = 0) → wp_XH_hasItems (tn a3) a4 a5 M (fun r18 => (((r18 = 0) → wp_X_found 2 M (fun r22 M21 => post r22 M21)) ∧ (¬ (r18 = 0) → (¬ (a2 : Int32) < 0 ∧ ¬ (a4 : Int32) < 0 ∧ ¬ (a5 : Int32) < 0 ∧ tn a2 + tn a5 ≤ 60 ∧ tn a4 + tn a5 ≤ 60) ∧ ∀ M20 : Mem, M20 = upr M (25 + 2 * (tn a3)) (va_cpy (M (25 + 2 * (tn a1))) (M (25 + 2 * (tn a3))) (tn a2) (tn a4) (tn a5)) → post 1 M20))))))) ∧ (¬ ((M (24 + 2 * (tn a1)) 1) = (M (24 + 2 * (tn a3)) 1)) → wp_X_found 4 M (fun r24 M23 => post r24 M23)))))))) ∧ (¬ ((pf_X_outside a3 4) = 0) → post (-2) M))) ∧ (¬ ((pf_X_outside a1 4) = 0) → post (-2) M))
set_option maxHeartbeats 4000000 in
set_option maxRecDepth 100000 in
theorem c_X_copy (g : GX) {a1 : Int32} {a2 : Int32} {a3 : Int32} {a4 : Int32} {a5 : Int32} {M : Mem} {post : Int32 → Mem → Prop} (hw : wp_X_copy a1 a2 a3 a4 a5 M post) : CtI (oX g) y_X_copy prog_1_method_39_code 8 (some .int) (rl 1) [.ref (ax g 0), .int a1, .int a2, .int a3, .int a4, .int a5] M post := by
  refine z_metI (oX_ok g) (by decide) rfl (fun X C hr => ?_)
  show Zj X 8 (oX g) M 0 [(0, .ref (ax g 0)), (1, .int a1), (2, .int a2), (3, .int a3), (4, .int a4), (5, .int a5)] []
  unfold wp_X_copy at hw
  refine z_iload_n C d_X_copy_0 rfl 1 rfl ?_
  refine z_iconst (v := 4) C d_X_copy_1 (by decide) ?_
  refine z_callSi C (As := [.int a1, .int 4]) (rest := []) m_X_outside tw_251 ⟨rfl, rfl⟩ (c_X_outside (oX_ok g) _ _ _) rfl rfl rfl d_X_copy_2 (fun r M2 hq => ?_)
  obtain ⟨rfl, rfl⟩ := hq
  refine z_if_ne C 16 d_X_copy_5 (by decide) (fun h2 => ?_) (fun h2 => ?_)
  · replace hw := hw.2 h2
    refine z_bipush (v := (-2)) C d_X_copy_16 (by decide) ?_
    exact z_iret C hr hw d_X_copy_18
  · replace hw := hw.1 h2
    refine z_iload_n C d_X_copy_8 rfl 3 rfl ?_
    refine z_iconst (v := 4) C d_X_copy_9 (by decide) ?_
    refine z_callSi C (As := [.int a3, .int 4]) (rest := []) m_X_outside tw_251 ⟨rfl, rfl⟩ (c_X_outside (oX_ok g) _ _ _) rfl rfl rfl d_X_copy_10 (fun r M2 hq => ?_)
    obtain ⟨rfl, rfl⟩ := hq
    refine z_if_eq C 19 d_X_copy_13 (by decide) (fun h4 => ?_) (fun h4 => ?_)
    · replace hw := hw.1 h4
      refine z_aload_n C d_X_copy_19 rfl 0 rfl ?_
      refine gf_X_31 C d_X_copy_20 ?_
      refine z_iload_n C d_X_copy_23 rfl 1 rfl ?_
      have hv6 := hw.1
      replace hw := hw.2
      have ht5 := vp_lt hv6
      refine z_aaldSheet C hv6 d_X_copy_24 ?_
      refine z_astore (lv' := [(6, .ref (ax g (24 + 2 * (tn a1)))), (0, .ref (ax g 0)), (1, .int a1), (2, .int a2), (3, .int a3), (4, .int a4), (5, .int a5)]) C d_X_copy_25 rfl rfl ?_
      refine z_aload_n C d_X_copy_27 rfl 1 rfl ?_
      refine gf_X_31 C d_X_copy_28 ?_
      refine z_iload_n C d_X_copy_31 rfl 4 rfl ?_
      have hv8 := hw.1
      replace hw := hw.2
      have ht7 := vp_lt hv8
      refine z_aaldSheet C hv8 d_X_copy_32 ?_
      refine z_astore (lv' := [(7, .ref (ax g (24 + 2 * (tn a3)))), (6, .ref (ax g (24 + 2 * (tn a1)))), (0, .ref (ax g 0)), (1, .int a1), (2, .int a2), (3, .int a3), (4, .int a4), (5, .int a5)]) C d_X_copy_33 rfl rfl ?_
      refine z_aload C d_X_copy_35 1 rfl ?_
      refine gf_X_128 ht5 C d_X_copy_37 ?_
      refine z_iconst (v := (-1)) C d_X_copy_40 (by decide) ?_
      refine z_ic_eq C 53 d_X_copy_41 (by decide) (fun h9 => ?_) (fun h9 => ?_)
      · replace hw := hw.1 h9
        refine z_aload_n C d_X_copy_53 rfl 2 rfl ?_
        refine z_iconst (v := 1) C d_X_copy_54 (by decide) ?_
        refine z_callVi C (As := [.int 1]) (rest := []) m_X_found tw_349 0 (le_X) rfl ⟨rfl, rfl⟩ (c_X_found g hw) rfl rfl rfl d_X_copy_55 (fun r11 M10 hw => ?_)
        exact z_iret C hr hw d_X_copy_58
      · replace hw := hw.2 h9
        refine z_aload C d_X_copy_44 0 rfl ?_
        refine gf_X_128 ht7 C d_X_copy_46 ?_
        refine z_iconst (v := (-1)) C d_X_copy_49 (by decide) ?_
        refine z_ic_ne C 59 d_X_copy_50 (by decide) (fun h12 => ?_) (fun h12 => ?_)
        · replace hw := hw.2 h12
          refine z_aload C d_X_copy_59 1 rfl ?_
          refine gf_X_128 ht5 C d_X_copy_61 ?_
          refine z_aload C d_X_copy_64 0 rfl ?_
          refine gf_X_128 ht7 C d_X_copy_66 ?_
          refine z_ic_eq C 78 d_X_copy_69 (by decide) (fun h13 => ?_) (fun h13 => ?_)
          · replace hw := hw.1 h13
            refine z_aload C d_X_copy_78 1 rfl ?_
            refine z_iload_n C d_X_copy_80 rfl 4 rfl ?_
            refine z_iload C d_X_copy_81 7 rfl ?_
            refine z_callVi C (As := [.int a2, .int a5]) (rest := []) m_XH_hasItems tw_603 (24 + 2 * (tn a1)) (le_XH ht5) rfl ⟨rfl, rfl⟩ (c_XH_hasItems g ht5 hw) rfl rfl rfl d_X_copy_83 (fun r14 M2 hq => ?_)
            obtain ⟨rfl, hw⟩ := hq
            refine z_if_eq C 101 d_X_copy_86 (by decide) (fun h15 => ?_) (fun h15 => ?_)
            · replace hw := hw.1 h15
              refine z_aload_n C d_X_copy_101 rfl 2 rfl ?_
              refine z_iconst (v := 2) C d_X_copy_102 (by decide) ?_
              refine z_callVi C (As := [.int 2]) (rest := []) m_X_found tw_349 0 (le_X) rfl ⟨rfl, rfl⟩ (c_X_found g hw) rfl rfl rfl d_X_copy_103 (fun r17 M16 hw => ?_)
              exact z_iret C hr hw d_X_copy_106
            · replace hw := hw.2 h15
              refine z_aload C d_X_copy_89 0 rfl ?_
              refine z_iload C d_X_copy_91 6 rfl ?_
              refine z_iload C d_X_copy_93 7 rfl ?_
              refine z_callVi C (As := [.int a4, .int a5]) (rest := []) m_XH_hasItems tw_603 (24 + 2 * (tn a3)) (le_XH ht7) rfl ⟨rfl, rfl⟩ (c_XH_hasItems g ht7 hw) rfl rfl rfl d_X_copy_95 (fun r18 M2 hq => ?_)
              obtain ⟨rfl, hw⟩ := hq
              refine z_if_ne C 107 d_X_copy_98 (by decide) (fun h19 => ?_) (fun h19 => ?_)
              · replace hw := hw.2 h19
                refine z_aload C d_X_copy_107 1 rfl ?_
                refine gf_X_138 ht5 C d_X_copy_109 ?_
                refine z_iload_n C d_X_copy_112 rfl 4 rfl ?_
                refine z_aload C d_X_copy_113 0 rfl ?_
                refine gf_X_138 ht7 C d_X_copy_115 ?_
                refine z_iload C d_X_copy_118 6 rfl ?_
                refine z_iload C d_X_copy_120 7 rfl ?_
                refine z_acopy C tw_535 (zar_xSI ht5) (zar_xSI ht7) hw.1 (by decide) (by decide) d_X_copy_122 (fun M20 hM20 => ?_)
                replace hw := hw.2 M20 hM20
                refine z_iconst (v := 1) C d_X_copy_125 (by decide) ?_
                exact z_iret C hr hw d_X_copy_126
              · replace hw := hw.1 h19
                refine z_aload_n C d_X_copy_101 rfl 2 rfl ?_
                refine z_iconst (v := 2) C d_X_copy_102 (by decide) ?_
                refine z_callVi C (As := [.int 2]) (rest := []) m_X_found tw_349 0 (le_X) rfl ⟨rfl, rfl⟩ (c_X_found g hw) rfl rfl rfl d_X_copy_103 (fun r22 M21 hw => ?_)
                exact z_iret C hr hw d_X_copy_106
          · replace hw := hw.2 h13
            refine z_aload_n C d_X_copy_72 rfl 2 rfl ?_
            refine z_iconst (v := 4) C d_X_copy_73 (by decide) ?_
            refine z_callVi C (As := [.int 4]) (rest := []) m_X_found tw_349 0 (le_X) rfl ⟨rfl, rfl⟩ (c_X_found g hw) rfl rfl rfl d_X_copy_74 (fun r24 M23 hw => ?_)
            exact z_iret C hr hw d_X_copy_77
        · replace hw := hw.1 h12
          refine z_aload_n C d_X_copy_53 rfl 2 rfl ?_
          refine z_iconst (v := 1) C d_X_copy_54 (by decide) ?_
          refine z_callVi C (As := [.int 1]) (rest := []) m_X_found tw_349 0 (le_X) rfl ⟨rfl, rfl⟩ (c_X_found g hw) rfl rfl rfl d_X_copy_55 (fun r26 M25 hw => ?_)
          exact z_iret C hr hw d_X_copy_58
    · replace hw := hw.2 h4
      refine z_bipush (v := (-2)) C d_X_copy_16 (by decide) ?_
      exact z_iret C hr hw d_X_copy_18
theorem d_X_wrongWith_0 : decode prog_1_method_48_code 0 = .ok (.aload_n 0, 1) := by decide +kernel
theorem d_X_wrongWith_1 : decode prog_1_method_48_code 1 = .ok (.getfield 128, 3) := by decide +kernel
theorem d_X_wrongWith_4 : decode prog_1_method_48_code 4 = .ok (.iconst (-1), 1) := by decide +kernel
theorem d_X_wrongWith_5 : decode prog_1_method_48_code 5 = .ok (.if_icmp .ne (5), 3) := by decide +kernel
theorem d_X_wrongWith_8 : decode prog_1_method_48_code 8 = .ok (.iconst 1, 1) := by decide +kernel
theorem d_X_wrongWith_9 : decode prog_1_method_48_code 9 = .ok (.ireturn, 1) := by decide +kernel
theorem d_X_wrongWith_10 : decode prog_1_method_48_code 10 = .ok (.aload_n 0, 1) := by decide +kernel
theorem d_X_wrongWith_11 : decode prog_1_method_48_code 11 = .ok (.getfield 128, 3) := by decide +kernel
theorem d_X_wrongWith_14 : decode prog_1_method_48_code 14 = .ok (.iload_n 1, 1) := by decide +kernel
theorem d_X_wrongWith_15 : decode prog_1_method_48_code 15 = .ok (.if_icmp .eq (5), 3) := by decide +kernel
theorem d_X_wrongWith_18 : decode prog_1_method_48_code 18 = .ok (.iconst 3, 1) := by decide +kernel
theorem d_X_wrongWith_19 : decode prog_1_method_48_code 19 = .ok (.ireturn, 1) := by decide +kernel
theorem d_X_wrongWith_20 : decode prog_1_method_48_code 20 = .ok (.iload_n 2, 1) := by decide +kernel
theorem d_X_wrongWith_21 : decode prog_1_method_48_code 21 = .ok (.aload_n 0, 1) := by decide +kernel
theorem d_X_wrongWith_22 : decode prog_1_method_48_code 22 = .ok (.getfield 135, 3) := by decide +kernel
theorem d_X_wrongWith_25 : decode prog_1_method_48_code 25 = .ok (.invokestatic 70, 3) := by decide +kernel
theorem d_X_wrongWith_28 : decode prog_1_method_48_code 28 = .ok (.ifCond .eq (7), 3) := by decide +kernel
theorem d_X_wrongWith_31 : decode prog_1_method_48_code 31 = .ok (.iconst 2, 1) := by decide +kernel
theorem d_X_wrongWith_32 : decode prog_1_method_48_code 32 = .ok (.goto (4), 3) := by decide +kernel
theorem d_X_wrongWith_35 : decode prog_1_method_48_code 35 = .ok (.iconst 0, 1) := by decide +kernel
theorem d_X_wrongWith_36 : decode prog_1_method_48_code 36 = .ok (.ireturn, 1) := by decide +kernel
def wp_X_wrongWith (c1 : Nat) (a1 : Int32) (a2 : Int32) (M : Mem) (post : Int32 → Prop) : Prop :=
  ((((M (24 + 2 * c1) 1) = (-1)) → post 1) ∧ (¬ ((M (24 + 2 * c1) 1) = (-1)) → ((((M (24 + 2 * c1) 1) = a1) → ∀ u5 : Int32, u5 = (if (pf_X_outside a2 (M (24 + 2 * c1) 2)) = 0 then 0 else 2) → post u5) ∧ (¬ ((M (24 + 2 * c1) 1) = a1) → post 3))))
set_option maxHeartbeats 4000000 in
set_option maxRecDepth 100000 in
theorem c_X_wrongWith (g : GX) {c1 : Nat} {a1 : Int32} {a2 : Int32} {M : Mem} {post : Int32 → Prop} (hc1 : c1 < 4) (hw : wp_X_wrongWith c1 a1 a2 M post) : CtI (oX g) y_X_wrongWith prog_1_method_48_code 3 (some .int) (rl 1) [.ref (ax g (24 + 2 * c1)), .int a1, .int a2] M (fun r M2 => M = M2 ∧ post r) := by
  refine z_metI (oX_ok g) (by decide) rfl (fun X C hr => ?_)
  show Zj X 3 (oX g) M 0 [(0, .ref (ax g (24 + 2 * c1))), (1, .int a1), (2, .int a2)] []
  unfold wp_X_wrongWith at hw
  refine z_aload_n C d_X_wrongWith_0 rfl 0 rfl ?_
  refine gf_X_128 hc1 C d_X_wrongWith_1 ?_
  refine z_iconst (v := (-1)) C d_X_wrongWith_4 (by decide) ?_
  refine z_ic_ne C 10 d_X_wrongWith_5 (by decide) (fun h1 => ?_) (fun h1 => ?_)
  · replace hw := hw.2 h1
    refine z_aload_n C d_X_wrongWith_10 rfl 0 rfl ?_
    refine gf_X_128 hc1 C d_X_wrongWith_11 ?_
    refine z_iload_n C d_X_wrongWith_14 rfl 1 rfl ?_
    refine z_ic_eq C 20 d_X_wrongWith_15 (by decide) (fun h2 => ?_) (fun h2 => ?_)
    · replace hw := hw.1 h2
      refine z_iload_n C d_X_wrongWith_20 rfl 2 rfl ?_
      refine z_aload_n C d_X_wrongWith_21 rfl 0 rfl ?_
      refine gf_X_135 hc1 C d_X_wrongWith_22 ?_
      refine z_callSi C (As := [.int a2, .int (M (24 + 2 * c1) 2)]) (rest := []) m_X_outside tw_251 ⟨rfl, rfl⟩ (c_X_outside (oX_ok g) _ _ _) rfl rfl rfl d_X_wrongWith_25 (fun r M2 hq => ?_)
      obtain ⟨rfl, rfl⟩ := hq
      have hj6 : ∀ u5 : Int32, u5 = (if (pf_X_outside a2 (M (24 + 2 * c1) 2)) = 0 then 0 else 2) → Zj X 3 (oX g) M 36 [] [.int u5] := by
        intro u5 hu5
        replace hw := hw u5 hu5
        exact z_iret C hr ⟨rfl, hw⟩ d_X_wrongWith_36
      refine z_if_eq C 35 d_X_wrongWith_28 (by decide) (fun h4 => ?_) (fun h4 => ?_)
      · refine z_iconst (v := 0) C d_X_wrongWith_35 (by decide) ?_
        refine z_sub [] rfl ?_
        exact hj6 _ ((if_pos h4)).symm
      · refine z_iconst (v := 2) C d_X_wrongWith_31 (by decide) ?_
        refine z_goto C 36 d_X_wrongWith_32 (by decide) ?_
        refine z_sub [] rfl ?_
        exact hj6 _ ((if_neg h4)).symm
    · replace hw := hw.2 h2
      refine z_iconst (v := 3) C d_X_wrongWith_18 (by decide) ?_
      exact z_iret C hr ⟨rfl, hw⟩ d_X_wrongWith_19
  · replace hw := hw.1 h1
    refine z_iconst (v := 1) C d_X_wrongWith_8 (by decide) ?_
    exact z_iret C hr ⟨rfl, hw⟩ d_X_wrongWith_9
theorem d_X_mostAlike_0 : decode prog_1_method_59_code 0 = .ok (.iconst 0, 1) := by decide +kernel
theorem d_X_mostAlike_1 : decode prog_1_method_59_code 1 = .ok (.istore_n 3, 1) := by decide +kernel
theorem d_X_mostAlike_2 : decode prog_1_method_59_code 2 = .ok (.iconst 0, 1) := by decide +kernel
theorem d_X_mostAlike_3 : decode prog_1_method_59_code 3 = .ok (.istore 4, 2) := by decide +kernel
theorem d_X_mostAlike_5 : decode prog_1_method_59_code 5 = .ok (.iload 4, 2) := by decide +kernel
theorem d_X_mostAlike_7 : decode prog_1_method_59_code 7 = .ok (.iload_n 2, 1) := by decide +kernel
theorem d_X_mostAlike_8 : decode prog_1_method_59_code 8 = .ok (.if_icmp .ge (52), 3) := by decide +kernel
theorem d_X_mostAlike_11 : decode prog_1_method_59_code 11 = .ok (.iconst 1, 1) := by decide +kernel
theorem d_X_mostAlike_12 : decode prog_1_method_59_code 12 = .ok (.istore 5, 2) := by decide +kernel
theorem d_X_mostAlike_14 : decode prog_1_method_59_code 14 = .ok (.iload 4, 2) := by decide +kernel
theorem d_X_mostAlike_16 : decode prog_1_method_59_code 16 = .ok (.iconst 1, 1) := by decide +kernel
theorem d_X_mostAlike_17 : decode prog_1_method_59_code 17 = .ok (.iadd, 1) := by decide +kernel
theorem d_X_mostAlike_18 : decode prog_1_method_59_code 18 = .ok (.istore 6, 2) := by decide +kernel
theorem d_X_mostAlike_20 : decode prog_1_method_59_code 20 = .ok (.iload 6, 2) := by decide +kernel
theorem d_X_mostAlike_22 : decode prog_1_method_59_code 22 = .ok (.iload_n 2, 1) := by decide +kernel
theorem d_X_mostAlike_23 : decode prog_1_method_59_code 23 = .ok (.if_icmp .ge (24), 3) := by decide +kernel
theorem d_X_mostAlike_26 : decode prog_1_method_59_code 26 = .ok (.aload_n 0, 1) := by decide +kernel
theorem d_X_mostAlike_27 : decode prog_1_method_59_code 27 = .ok (.iload_n 1, 1) := by decide +kernel
theorem d_X_mostAlike_28 : decode prog_1_method_59_code 28 = .ok (.iload 4, 2) := by decide +kernel
theorem d_X_mostAlike_30 : decode prog_1_method_59_code 30 = .ok (.iload 6, 2) := by decide +kernel
theorem d_X_mostAlike_32 : decode prog_1_method_59_code 32 = .ok (.invokevirtual 381, 3) := by decide +kernel
theorem d_X_mostAlike_35 : decode prog_1_method_59_code 35 = .ok (.ifCond .eq (6), 3) := by decide +kernel
theorem d_X_mostAlike_38 : decode prog_1_method_59_code 38 = .ok (.iinc 5 1, 3) := by decide +kernel
theorem d_X_mostAlike_41 : decode prog_1_method_59_code 41 = .ok (.iinc 6 1, 3) := by decide +kernel
theorem d_X_mostAlike_44 : decode prog_1_method_59_code 44 = .ok (.goto (-24), 3) := by decide +kernel
theorem d_X_mostAlike_47 : decode prog_1_method_59_code 47 = .ok (.iload_n 3, 1) := by decide +kernel
theorem d_X_mostAlike_48 : decode prog_1_method_59_code 48 = .ok (.iload 5, 2) := by decide +kernel
theorem d_X_mostAlike_50 : decode prog_1_method_59_code 50 = .ok (.invokestatic 384, 3) := by decide +kernel
theorem d_X_mostAlike_53 : decode prog_1_method_59_code 53 = .ok (.istore_n 3, 1) := by decide +kernel
theorem d_X_mostAlike_54 : decode prog_1_method_59_code 54 = .ok (.iinc 4 1, 3) := by decide +kernel
theorem d_X_mostAlike_57 : decode prog_1_method_59_code 57 = .ok (.goto (-52), 3) := by decide +kernel
theorem d_X_mostAlike_60 : decode prog_1_method_59_code 60 = .ok (.iload_n 3, 1) := by decide +kernel
theorem d_X_mostAlike_61 : decode prog_1_method_59_code 61 = .ok (.ireturn, 1) := by decide +kernel
def wp_X_mostAlike (a1 : Int32) (a2 : Int32) (M : Mem) (post : Int32 → Prop) : Prop :=
  (it2 (fun rec1 (i3 : Int32) (i4 : Int32) => (((a2 ≤ i4) → post i3) ∧ (¬ (a2 ≤ i4) → (it2 (fun rec6 (i8 : Int32) (i9 : Int32) => (((a2 ≤ i9) → ∀ x11 : Int32, x11 = (pf_J_max i3 i8) → rec1 x11 (i4 + 1)) ∧ (¬ (a2 ≤ i9) → wp_X_sameDrift a1 i4 i9 M (fun r12 => ∀ u14 : Int32, u14 = (if r12 = 0 then i8 else (i8 + 1)) → rec6 u14 (i9 + 1))))) 4096 1 (i4 + 1))))) 4096 0 0)
set_option maxHeartbeats 4000000 in
set_option maxRecDepth 100000 in
theorem c_X_mostAlike (g : GX) {a1 : Int32} {a2 : Int32} {M : Mem} {post : Int32 → Prop} (hw : wp_X_mostAlike a1 a2 M post) : CtI (oX g) y_X_mostAlike prog_1_method_59_code 7 (some .int) (rl 1) [.ref (ax g 0), .int a1, .int a2] M (fun r M2 => M = M2 ∧ post r) := by
  refine z_metI (oX_ok g) (by decide) rfl (fun X C hr => ?_)
  show Zj X 7 (oX g) M 0 [(0, .ref (ax g 0)), (1, .int a1), (2, .int a2)] []
  unfold wp_X_mostAlike at hw
  refine z_iconst (v := 0) C d_X_mostAlike_0 (by decide) ?_
  refine z_istore_n (lv' := [(3, .int 0), (0, .ref (ax g 0)), (1, .int a1), (2, .int a2)]) C d_X_mostAlike_1 rfl rfl rfl ?_
  refine z_iconst (v := 0) C d_X_mostAlike_2 (by decide) ?_
  refine z_istore (lv' := [(4, .int 0), (3, .int 0), (0, .ref (ax g 0)), (1, .int a1), (2, .int a2)]) C d_X_mostAlike_3 rfl rfl ?_
  refine z_sub [2, 3, 4, 1, 0] rfl ?_
  refine it2_Z (Z := fun (i3 : Int32) (i4 : Int32) => Zj X 7 (oX g) M 5 [(0, .ref (ax g 0)), (1, .int a1), (2, .int a2), (3, .int i3), (4, .int i4)] []) (fun rec1 ih2 i3 i4 hw => ?_) _ _ _ hw
  refine z_iload C d_X_mostAlike_5 4 rfl ?_
  refine z_iload_n C d_X_mostAlike_7 rfl 2 rfl ?_
  refine z_ic_ge C 60 d_X_mostAlike_8 (by decide) (fun h5 => ?_) (fun h5 => ?_)
  · replace hw := hw.1 h5
    refine z_iload_n C d_X_mostAlike_60 rfl 3 rfl ?_
    exact z_iret C hr ⟨rfl, hw⟩ d_X_mostAlike_61
  · replace hw := hw.2 h5
    refine z_iconst (v := 1) C d_X_mostAlike_11 (by decide) ?_
    refine z_istore (lv' := [(5, .int 1), (0, .ref (ax g 0)), (1, .int a1), (2, .int a2), (3, .int i3), (4, .int i4)]) C d_X_mostAlike_12 rfl rfl ?_
    refine z_iload C d_X_mostAlike_14 5 rfl ?_
    refine z_iconst (v := 1) C d_X_mostAlike_16 (by decide) ?_
    refine z_iadd C d_X_mostAlike_17 ?_
    refine z_istore (lv' := [(6, .int (i4 + 1)), (5, .int 1), (0, .ref (ax g 0)), (1, .int a1), (2, .int a2), (3, .int i3), (4, .int i4)]) C d_X_mostAlike_18 rfl rfl ?_
    refine z_sub [2, 3, 4, 5, 6, 1, 0] rfl ?_
    refine it2_Z (Z := fun (i8 : Int32) (i9 : Int32) => Zj X 7 (oX g) M 20 [(0, .ref (ax g 0)), (1, .int a1), (2, .int a2), (3, .int i3), (4, .int i4), (5, .int i8), (6, .int i9)] []) (fun rec6 ih7 i8 i9 hw => ?_) _ _ _ hw
    refine z_iload C d_X_mostAlike_20 6 rfl ?_
    refine z_iload_n C d_X_mostAlike_22 rfl 2 rfl ?_
    refine z_ic_ge C 47 d_X_mostAlike_23 (by decide) (fun h10 => ?_) (fun h10 => ?_)
    · replace hw := hw.1 h10
      refine z_iload_n C d_X_mostAlike_47 rfl 3 rfl ?_
      refine z_iload C d_X_mostAlike_48 5 rfl ?_
      refine z_mmax C tw_544 rfl rfl d_X_mostAlike_50 ?_
      obtain ⟨x11, hx11⟩ : ∃ z : Int32, z = (pf_J_max i3 i8) := ⟨_, rfl⟩
      rw [← hx11]
      replace hw := hw x11 hx11
      refine z_istore_n (lv' := [(3, .int x11), (0, .ref (ax g 0)), (1, .int a1), (2, .int a2), (4, .int i4), (5, .int i8), (6, .int i9)]) C d_X_mostAlike_53 rfl rfl rfl ?_
      refine z_iinc (v := (i4 + 1)) (lv' := [(4, .int (i4 + 1)), (3, .int x11), (0, .ref (ax g 0)), (1, .int a1), (2, .int a2), (5, .int i8), (6, .int i9)]) C d_X_mostAlike_54 4 rfl rfl rfl rfl ?_
      refine z_goto C 5 d_X_mostAlike_57 (by decide) ?_
      refine z_sub [2, 3, 4, 1, 0] rfl ?_
      exact ih2 _ _ hw
    · replace hw := hw.2 h10
      refine z_aload_n C d_X_mostAlike_26 rfl 0 rfl ?_
      refine z_iload_n C d_X_mostAlike_27 rfl 1 rfl ?_
      refine z_iload C d_X_mostAlike_28 4 rfl ?_
      refine z_iload C d_X_mostAlike_30 6 rfl ?_
      refine z_callVi C (As := [.int a1, .int i4, .int i9]) (rest := []) m_X_sameDrift tw_540 0 (le_X) rfl ⟨rfl, rfl⟩ (c_X_sameDrift g hw) rfl rfl rfl d_X_mostAlike_32 (fun r12 M2 hq => ?_)
      obtain ⟨rfl, hw⟩ := hq
      have hj15 : ∀ u14 : Int32, u14 = (if r12 = 0 then i8 else (i8 + 1)) → Zj X 7 (oX g) M 41 [(0, .ref (ax g 0)), (1, .int a1), (2, .int a2), (3, .int i3), (4, .int i4), (5, .int u14), (6, .int i9)] [] := by
        intro u14 hu14
        replace hw := hw u14 hu14
        refine z_iinc (v := (i9 + 1)) (lv' := [(6, .int (i9 + 1)), (0, .ref (ax g 0)), (1, .int a1), (2, .int a2), (3, .int i3), (4, .int i4), (5, .int u14)]) C d_X_mostAlike_41 6 rfl rfl rfl rfl ?_
        refine z_goto C 20 d_X_mostAlike_44 (by decide) ?_
        refine z_sub [1, 2, 3, 4, 5, 6, 0] rfl ?_
        exact ih7 _ _ hw
      refine z_if_eq C 41 d_X_mostAlike_35 (by decide) (fun h13 => ?_) (fun h13 => ?_)
      · refine z_sub [0, 1, 2, 3, 4, 5, 6] rfl ?_
        exact hj15 _ ((if_pos h13)).symm
      · refine z_iinc (v := (i8 + 1)) (lv' := [(5, .int (i8 + 1)), (0, .ref (ax g 0)), (1, .int a1), (2, .int a2), (3, .int i3), (4, .int i4), (6, .int i9)]) C d_X_mostAlike_38 5 rfl rfl rfl rfl ?_
        refine z_sub [1, 2, 3, 4, 5, 0, 6] rfl ?_
        exact hj15 _ ((if_neg h13)).symm
theorem d_X_drawFall_0 : decode prog_1_method_63_code 0 = .ok (.aload_n 0, 1) := by decide +kernel
theorem d_X_drawFall_1 : decode prog_1_method_63_code 1 = .ok (.getfield 60, 3) := by decide +kernel
theorem d_X_drawFall_4 : decode prog_1_method_63_code 4 = .ok (.iconst 0, 1) := by decide +kernel
theorem d_X_drawFall_5 : decode prog_1_method_63_code 5 = .ok (.invokestatic 387, 3) := by decide +kernel
theorem d_X_drawFall_8 : decode prog_1_method_63_code 8 = .ok (.iconst 0, 1) := by decide +kernel
theorem d_X_drawFall_9 : decode prog_1_method_63_code 9 = .ok (.istore_n 3, 1) := by decide +kernel
theorem d_X_drawFall_10 : decode prog_1_method_63_code 10 = .ok (.iload_n 3, 1) := by decide +kernel
theorem d_X_drawFall_11 : decode prog_1_method_63_code 11 = .ok (.iload_n 2, 1) := by decide +kernel
theorem d_X_drawFall_12 : decode prog_1_method_63_code 12 = .ok (.if_icmp .ge (31), 3) := by decide +kernel
theorem d_X_drawFall_15 : decode prog_1_method_63_code 15 = .ok (.ldc_w 393, 3) := by decide +kernel
theorem d_X_drawFall_18 : decode prog_1_method_63_code 18 = .ok (.iload_n 1, 1) := by decide +kernel
theorem d_X_drawFall_19 : decode prog_1_method_63_code 19 = .ok (.imul, 1) := by decide +kernel
theorem d_X_drawFall_20 : decode prog_1_method_63_code 20 = .ok (.sipush 12345, 3) := by decide +kernel
theorem d_X_drawFall_23 : decode prog_1_method_63_code 23 = .ok (.iadd, 1) := by decide +kernel
theorem d_X_drawFall_24 : decode prog_1_method_63_code 24 = .ok (.istore_n 1, 1) := by decide +kernel
theorem d_X_drawFall_25 : decode prog_1_method_63_code 25 = .ok (.aload_n 0, 1) := by decide +kernel
theorem d_X_drawFall_26 : decode prog_1_method_63_code 26 = .ok (.getfield 60, 3) := by decide +kernel
theorem d_X_drawFall_29 : decode prog_1_method_63_code 29 = .ok (.iload_n 3, 1) := by decide +kernel
theorem d_X_drawFall_30 : decode prog_1_method_63_code 30 = .ok (.iload_n 1, 1) := by decide +kernel
theorem d_X_drawFall_31 : decode prog_1_method_63_code 31 = .ok (.bipush 16, 2) := by decide +kernel
theorem d_X_drawFall_33 : decode prog_1_method_63_code 33 = .ok (.iushr, 1) := by decide +kernel
theorem d_X_drawFall_34 : decode prog_1_method_63_code 34 = .ok (.iconst 5, 1) := by decide +kernel
theorem d_X_drawFall_35 : decode prog_1_method_63_code 35 = .ok (.irem, 1) := by decide +kernel
theorem d_X_drawFall_36 : decode prog_1_method_63_code 36 = .ok (.iastore, 1) := by decide +kernel
theorem d_X_drawFall_37 : decode prog_1_method_63_code 37 = .ok (.iinc 3 1, 3) := by decide +kernel
theorem d_X_drawFall_40 : decode prog_1_method_63_code 40 = .ok (.goto (-30), 3) := by decide +kernel
theorem d_X_drawFall_43 : decode prog_1_method_63_code 43 = .ok (.return_, 1) := by decide +kernel
def wp_X_drawFall (a1 : Int32) (a2 : Int32) (M : Mem) (post : Mem → Prop) : Prop :=
  ∀ M1 : Mem, M1 = upr M 57 (zfill 24 0 (M 57)) → (it3 (fun rec2 (i4 : Int32) (i5 : Int32) (M6 : Mem) => (((a2 ≤ i5) → post M6) ∧ (¬ (a2 ≤ i5) → ∀ x8 : Int32, x8 = (((1103515245) * i4) + 12345) → vp_in i5 24 ∧ ∀ M9 : Mem, M9 = upm M6 57 (tn i5) ((ushr32 x8 16) - (ushr32 x8 16) / 5 * 5) → rec2 x8 (i5 + 1) M9))) 4096 a1 0 M1)
set_option maxHeartbeats 4000000 in
set_option maxRecDepth 100000 in
theorem c_X_drawFall (g : GX) {a1 : Int32} {a2 : Int32} {M : Mem} {post : Mem → Prop} (hw : wp_X_drawFall a1 a2 M post) : CtV (oX g) y_X_drawFall prog_1_method_63_code 4 none (rl 1) [.ref (ax g 0), .int a1, .int a2] M post := by
  refine z_metV (oX_ok g) (by decide) rfl (fun X C hr => ?_)
  show Zj X 4 (oX g) M 0 [(0, .ref (ax g 0)), (1, .int a1), (2, .int a2)] []
  unfold wp_X_drawFall at hw
  refine z_aload_n C d_X_drawFall_0 rfl 0 rfl ?_
  refine gf_X_60 C d_X_drawFall_1 ?_
  refine z_iconst (v := 0) C d_X_drawFall_4 (by decide) ?_
  refine z_fill C tw_556 (zar_x57) rfl rfl d_X_drawFall_5 (fun M1 hM1 => ?_)
  replace hw := hw M1 hM1
  refine z_iconst (v := 0) C d_X_drawFall_8 (by decide) ?_
  refine z_istore_n (lv' := [(3, .int 0), (0, .ref (ax g 0)), (1, .int a1), (2, .int a2)]) C d_X_drawFall_9 rfl rfl rfl ?_
  refine z_sub [1, 2, 3, 0] rfl ?_
  refine it3_Z (Z := fun (i4 : Int32) (i5 : Int32) (M6 : Mem) => Zj X 4 (oX g) M6 10 [(0, .ref (ax g 0)), (1, .int i4), (2, .int a2), (3, .int i5)] []) (fun rec2 ih3 i4 i5 M6 hw => ?_) _ _ _ _ hw
  refine z_iload_n C d_X_drawFall_10 rfl 3 rfl ?_
  refine z_iload_n C d_X_drawFall_11 rfl 2 rfl ?_
  refine z_ic_ge C 43 d_X_drawFall_12 (by decide) (fun h7 => ?_) (fun h7 => ?_)
  · replace hw := hw.1 h7
    exact z_vret C hr hw d_X_drawFall_43
  · replace hw := hw.2 h7
    refine z_ldcw C d_X_drawFall_15 tw_569 ?_
    refine z_iload_n C d_X_drawFall_18 rfl 1 rfl ?_
    refine z_imul C d_X_drawFall_19 ?_
    refine z_sipush (v := 12345) C d_X_drawFall_20 (by decide) ?_
    refine z_iadd C d_X_drawFall_23 ?_
    obtain ⟨x8, hx8⟩ : ∃ z : Int32, z = (((1103515245) * i4) + 12345) := ⟨_, rfl⟩
    rw [← hx8]
    replace hw := hw x8 hx8
    refine z_istore_n (lv' := [(1, .int x8), (0, .ref (ax g 0)), (2, .int a2), (3, .int i5)]) C d_X_drawFall_24 rfl rfl rfl ?_
    refine z_aload_n C d_X_drawFall_25 rfl 1 rfl ?_
    refine gf_X_60 C d_X_drawFall_26 ?_
    refine z_iload_n C d_X_drawFall_29 rfl 3 rfl ?_
    refine z_iload_n C d_X_drawFall_30 rfl 0 rfl ?_
    refine z_bipush (v := 16) C d_X_drawFall_31 (by decide) ?_
    refine z_iushr C d_X_drawFall_33 ?_
    refine z_iconst (v := 5) C d_X_drawFall_34 (by decide) ?_
    refine z_irem C d_X_drawFall_35 (by decide) ?_
    have hv10 := hw.1
    refine z_as (zar_x57) C hv10 d_X_drawFall_36 (fun M9 hM9 => ?_)
    replace hw := hw.2 M9 hM9
    refine z_iinc (v := (i5 + 1)) (lv' := [(3, .int (i5 + 1)), (1, .int x8), (0, .ref (ax g 0)), (2, .int a2)]) C d_X_drawFall_37 3 rfl rfl rfl rfl ?_
    refine z_goto C 10 d_X_drawFall_40 (by decide) ?_
    refine z_sub [2, 1, 3, 0] rfl ?_
    exact ih3 _ _ _ hw
theorem d_R_lacks_0 : decode prog_8_method_14_code 0 = .ok (.aload_n 0, 1) := by decide +kernel
theorem d_R_lacks_1 : decode prog_8_method_14_code 1 = .ok (.getfield 7, 3) := by decide +kernel
theorem d_R_lacks_4 : decode prog_8_method_14_code 4 = .ok (.iload_n 1, 1) := by decide +kernel
theorem d_R_lacks_5 : decode prog_8_method_14_code 5 = .ok (.iaload, 1) := by decide +kernel
theorem d_R_lacks_6 : decode prog_8_method_14_code 6 = .ok (.ifCond .ge (9), 3) := by decide +kernel
theorem d_R_lacks_9 : decode prog_8_method_14_code 9 = .ok (.aload_n 0, 1) := by decide +kernel
theorem d_R_lacks_10 : decode prog_8_method_14_code 10 = .ok (.iconst 1, 1) := by decide +kernel
theorem d_R_lacks_11 : decode prog_8_method_14_code 11 = .ok (.invokevirtual 112, 3) := by decide +kernel
theorem d_R_lacks_14 : decode prog_8_method_14_code 14 = .ok (.ireturn, 1) := by decide +kernel
theorem d_R_lacks_15 : decode prog_8_method_14_code 15 = .ok (.aload_n 0, 1) := by decide +kernel
theorem d_R_lacks_16 : decode prog_8_method_14_code 16 = .ok (.getfield 7, 3) := by decide +kernel
theorem d_R_lacks_19 : decode prog_8_method_14_code 19 = .ok (.iload_n 1, 1) := by decide +kernel
theorem d_R_lacks_20 : decode prog_8_method_14_code 20 = .ok (.iaload, 1) := by decide +kernel
theorem d_R_lacks_21 : decode prog_8_method_14_code 21 = .ok (.iload_n 2, 1) := by decide +kernel
theorem d_R_lacks_22 : decode prog_8_method_14_code 22 = .ok (.if_icmp .eq (9), 3) := by decide +kernel
theorem d_R_lacks_25 : decode prog_8_method_14_code 25 = .ok (.aload_n 0, 1) := by decide +kernel
theorem d_R_lacks_26 : decode prog_8_method_14_code 26 = .ok (.iconst 3, 1) := by decide +kernel
theorem d_R_lacks_27 : decode prog_8_method_14_code 27 = .ok (.invokevirtual 112, 3) := by decide +kernel
theorem d_R_lacks_30 : decode prog_8_method_14_code 30 = .ok (.ireturn, 1) := by decide +kernel
theorem d_R_lacks_31 : decode prog_8_method_14_code 31 = .ok (.iload_n 3, 1) := by decide +kernel
theorem d_R_lacks_32 : decode prog_8_method_14_code 32 = .ok (.i2l, 1) := by decide +kernel
theorem d_R_lacks_33 : decode prog_8_method_14_code 33 = .ok (.lconst 0, 1) := by decide +kernel
theorem d_R_lacks_34 : decode prog_8_method_14_code 34 = .ok (.aload_n 0, 1) := by decide +kernel
theorem d_R_lacks_35 : decode prog_8_method_14_code 35 = .ok (.getfield 13, 3) := by decide +kernel
theorem d_R_lacks_38 : decode prog_8_method_14_code 38 = .ok (.iload_n 1, 1) := by decide +kernel
theorem d_R_lacks_39 : decode prog_8_method_14_code 39 = .ok (.iaload, 1) := by decide +kernel
theorem d_R_lacks_40 : decode prog_8_method_14_code 40 = .ok (.iconst 1, 1) := by decide +kernel
theorem d_R_lacks_41 : decode prog_8_method_14_code 41 = .ok (.isub, 1) := by decide +kernel
theorem d_R_lacks_42 : decode prog_8_method_14_code 42 = .ok (.i2l, 1) := by decide +kernel
theorem d_R_lacks_43 : decode prog_8_method_14_code 43 = .ok (.invokestatic 97, 3) := by decide +kernel
theorem d_R_lacks_46 : decode prog_8_method_14_code 46 = .ok (.ifCond .eq (7), 3) := by decide +kernel
theorem d_R_lacks_49 : decode prog_8_method_14_code 49 = .ok (.iconst 0, 1) := by decide +kernel
theorem d_R_lacks_50 : decode prog_8_method_14_code 50 = .ok (.goto (8), 3) := by decide +kernel
theorem d_R_lacks_53 : decode prog_8_method_14_code 53 = .ok (.aload_n 0, 1) := by decide +kernel
theorem d_R_lacks_54 : decode prog_8_method_14_code 54 = .ok (.iconst 2, 1) := by decide +kernel
theorem d_R_lacks_55 : decode prog_8_method_14_code 55 = .ok (.invokevirtual 112, 3) := by decide +kernel
theorem d_R_lacks_58 : decode prog_8_method_14_code 58 = .ok (.ireturn, 1) := by decide +kernel
def wp_R_lacks (a1 : Int32) (a2 : Int32) (a3 : Int32) (M : Mem) (post : Int32 → Mem → Prop) : Prop :=
  vp_in a1 4 ∧ (((0 ≤ (M 1 (tn a1))) → ((((M 1 (tn a1)) = a2) → ((((pf_R_in (Int32.toInt64 a3) 0 (Int32.toInt64 ((M 2 (tn a1)) - 1))) = 0) → wp_R_finds 2 M (fun r7 M6 => post r7 M6)) ∧ (¬ ((pf_R_in (Int32.toInt64 a3) 0 (Int32.toInt64 ((M 2 (tn a1)) - 1))) = 0) → post 0 M))) ∧ (¬ ((M 1 (tn a1)) = a2) → wp_R_finds 3 M (fun r9 M8 => post r9 M8)))) ∧ (¬ (0 ≤ (M 1 (tn a1))) → wp_R_finds 1 M (fun r11 M10 => post r11 M10)))
set_option maxHeartbeats 4000000 in
set_option maxRecDepth 100000 in
theorem c_R_lacks (g : GX) {a1 : Int32} {a2 : Int32} {a3 : Int32} {M : Mem} {post : Int32 → Mem → Prop} (hw : wp_R_lacks a1 a2 a3 M post) : CtI (oR g) y_R_lacks prog_8_method_14_code 4 (some .int) (rl 1) [.ref (ax g 0), .int a1, .int a2, .int a3] M post := by
  refine z_metI (oR_ok g) (by decide) rfl (fun X C hr => ?_)
  show Zj X 4 (oR g) M 0 [(0, .ref (ax g 0)), (1, .int a1), (2, .int a2), (3, .int a3)] []
  unfold wp_R_lacks at hw
  refine z_aload_n C d_R_lacks_0 rfl 0 rfl ?_
  refine gf_R_7 C d_R_lacks_1 ?_
  refine z_iload_n C d_R_lacks_4 rfl 1 rfl ?_
  have hv1 := hw.1
  replace hw := hw.2
  refine z_al (zar_r1) C hv1 d_R_lacks_5 ?_
  refine z_if_ge C 15 d_R_lacks_6 (by decide) (fun h2 => ?_) (fun h2 => ?_)
  · replace hw := hw.1 h2
    refine z_aload_n C d_R_lacks_15 rfl 0 rfl ?_
    refine gf_R_7 C d_R_lacks_16 ?_
    refine z_iload_n C d_R_lacks_19 rfl 1 rfl ?_
    refine z_al (zar_r1) C hv1 d_R_lacks_20 ?_
    refine z_iload_n C d_R_lacks_21 rfl 2 rfl ?_
    refine z_ic_eq C 31 d_R_lacks_22 (by decide) (fun h3 => ?_) (fun h3 => ?_)
    · replace hw := hw.1 h3
      refine z_iload_n C d_R_lacks_31 rfl 3 rfl ?_
      refine z_i2l C d_R_lacks_32 ?_
      refine z_lconst (v := 0) C d_R_lacks_33 (by decide) ?_
      refine z_aload_n C d_R_lacks_34 rfl 0 rfl ?_
      refine gf_R_13 C d_R_lacks_35 ?_
      refine z_iload_n C d_R_lacks_38 rfl 1 rfl ?_
      refine z_al (zar_r2) C hv1 d_R_lacks_39 ?_
      refine z_iconst (v := 1) C d_R_lacks_40 (by decide) ?_
      refine z_isub C d_R_lacks_41 ?_
      refine z_i2l C d_R_lacks_42 ?_
      refine z_callSi C (As := [.long (Int32.toInt64 a3), .long 0, .long (Int32.toInt64 ((M 2 (tn a1)) - 1))]) (rest := []) m_R_in tw_786 ⟨rfl, rfl⟩ (c_R_in (oR_ok g) _ _ _ _) rfl rfl rfl d_R_lacks_43 (fun r M2 hq => ?_)
      obtain ⟨rfl, rfl⟩ := hq
      refine z_if_eq C 53 d_R_lacks_46 (by decide) (fun h5 => ?_) (fun h5 => ?_)
      · replace hw := hw.1 h5
        refine z_aload_n C d_R_lacks_53 rfl 0 rfl ?_
        refine z_iconst (v := 2) C d_R_lacks_54 (by decide) ?_
        refine z_callVi C (As := [.int 2]) (rest := []) m_R_finds tw_790 0 (le_R) rfl ⟨rfl, rfl⟩ (c_R_finds g hw) rfl rfl rfl d_R_lacks_55 (fun r7 M6 hw => ?_)
        exact z_iret C hr hw d_R_lacks_58
      · replace hw := hw.2 h5
        refine z_iconst (v := 0) C d_R_lacks_49 (by decide) ?_
        refine z_goto C 58 d_R_lacks_50 (by decide) ?_
        exact z_iret C hr hw d_R_lacks_58
    · replace hw := hw.2 h3
      refine z_aload_n C d_R_lacks_25 rfl 0 rfl ?_
      refine z_iconst (v := 3) C d_R_lacks_26 (by decide) ?_
      refine z_callVi C (As := [.int 3]) (rest := []) m_R_finds tw_790 0 (le_R) rfl ⟨rfl, rfl⟩ (c_R_finds g hw) rfl rfl rfl d_R_lacks_27 (fun r9 M8 hw => ?_)
      exact z_iret C hr hw d_R_lacks_30
  · replace hw := hw.2 h2
    refine z_aload_n C d_R_lacks_9 rfl 0 rfl ?_
    refine z_iconst (v := 1) C d_R_lacks_10 (by decide) ?_
    refine z_callVi C (As := [.int 1]) (rest := []) m_R_finds tw_790 0 (le_R) rfl ⟨rfl, rfl⟩ (c_R_finds g hw) rfl rfl rfl d_R_lacks_11 (fun r11 M10 hw => ?_)
    exact z_iret C hr hw d_R_lacks_14
theorem d_R_readsLand_0 : decode prog_8_method_26_code 0 = .ok (.aload_n 0, 1) := by decide +kernel
theorem d_R_readsLand_1 : decode prog_8_method_26_code 1 = .ok (.invokevirtual 134, 3) := by decide +kernel
theorem d_R_readsLand_4 : decode prog_8_method_26_code 4 = .ok (.iconst 0, 1) := by decide +kernel
theorem d_R_readsLand_5 : decode prog_8_method_26_code 5 = .ok (.istore_n 1, 1) := by decide +kernel
theorem d_R_readsLand_6 : decode prog_8_method_26_code 6 = .ok (.iload_n 1, 1) := by decide +kernel
theorem d_R_readsLand_7 : decode prog_8_method_26_code 7 = .ok (.aload_n 0, 1) := by decide +kernel
theorem d_R_readsLand_8 : decode prog_8_method_26_code 8 = .ok (.getfield 25, 3) := by decide +kernel
theorem d_R_readsLand_11 : decode prog_8_method_26_code 11 = .ok (.iconst 0, 1) := by decide +kernel
theorem d_R_readsLand_12 : decode prog_8_method_26_code 12 = .ok (.iaload, 1) := by decide +kernel
theorem d_R_readsLand_13 : decode prog_8_method_26_code 13 = .ok (.if_icmp .ge (68), 3) := by decide +kernel
theorem d_R_readsLand_16 : decode prog_8_method_26_code 16 = .ok (.aload_n 0, 1) := by decide +kernel
theorem d_R_readsLand_17 : decode prog_8_method_26_code 17 = .ok (.getfield 22, 3) := by decide +kernel
theorem d_R_readsLand_20 : decode prog_8_method_26_code 20 = .ok (.iload_n 1, 1) := by decide +kernel
theorem d_R_readsLand_21 : decode prog_8_method_26_code 21 = .ok (.iaload, 1) := by decide +kernel
theorem d_R_readsLand_22 : decode prog_8_method_26_code 22 = .ok (.istore_n 2, 1) := by decide +kernel
theorem d_R_readsLand_23 : decode prog_8_method_26_code 23 = .ok (.iload_n 2, 1) := by decide +kernel
theorem d_R_readsLand_24 : decode prog_8_method_26_code 24 = .ok (.bipush 111, 2) := by decide +kernel
theorem d_R_readsLand_26 : decode prog_8_method_26_code 26 = .ok (.if_icmp .ne (7), 3) := by decide +kernel
theorem d_R_readsLand_29 : decode prog_8_method_26_code 29 = .ok (.iconst 0, 1) := by decide +kernel
theorem d_R_readsLand_30 : decode prog_8_method_26_code 30 = .ok (.goto (25), 3) := by decide +kernel
theorem d_R_readsLand_33 : decode prog_8_method_26_code 33 = .ok (.iload_n 2, 1) := by decide +kernel
theorem d_R_readsLand_34 : decode prog_8_method_26_code 34 = .ok (.bipush 104, 2) := by decide +kernel
theorem d_R_readsLand_36 : decode prog_8_method_26_code 36 = .ok (.if_icmp .ne (7), 3) := by decide +kernel
theorem d_R_readsLand_39 : decode prog_8_method_26_code 39 = .ok (.iconst 1, 1) := by decide +kernel
theorem d_R_readsLand_40 : decode prog_8_method_26_code 40 = .ok (.goto (15), 3) := by decide +kernel
theorem d_R_readsLand_43 : decode prog_8_method_26_code 43 = .ok (.iload_n 2, 1) := by decide +kernel
theorem d_R_readsLand_44 : decode prog_8_method_26_code 44 = .ok (.bipush 99, 2) := by decide +kernel
theorem d_R_readsLand_46 : decode prog_8_method_26_code 46 = .ok (.if_icmp .ne (7), 3) := by decide +kernel
theorem d_R_readsLand_49 : decode prog_8_method_26_code 49 = .ok (.iconst 2, 1) := by decide +kernel
theorem d_R_readsLand_50 : decode prog_8_method_26_code 50 = .ok (.goto (5), 3) := by decide +kernel
theorem d_R_readsLand_53 : decode prog_8_method_26_code 53 = .ok (.bipush (-9), 2) := by decide +kernel
theorem d_R_readsLand_55 : decode prog_8_method_26_code 55 = .ok (.istore_n 3, 1) := by decide +kernel
theorem d_R_readsLand_56 : decode prog_8_method_26_code 56 = .ok (.iload_n 3, 1) := by decide +kernel
theorem d_R_readsLand_57 : decode prog_8_method_26_code 57 = .ok (.bipush (-9), 2) := by decide +kernel
theorem d_R_readsLand_59 : decode prog_8_method_26_code 59 = .ok (.if_icmp .ne (9), 3) := by decide +kernel
theorem d_R_readsLand_62 : decode prog_8_method_26_code 62 = .ok (.aload_n 0, 1) := by decide +kernel
theorem d_R_readsLand_63 : decode prog_8_method_26_code 63 = .ok (.invokevirtual 134, 3) := by decide +kernel
theorem d_R_readsLand_66 : decode prog_8_method_26_code 66 = .ok (.iload_n 1, 1) := by decide +kernel
theorem d_R_readsLand_67 : decode prog_8_method_26_code 67 = .ok (.ireturn, 1) := by decide +kernel
theorem d_R_readsLand_68 : decode prog_8_method_26_code 68 = .ok (.aload_n 0, 1) := by decide +kernel
theorem d_R_readsLand_69 : decode prog_8_method_26_code 69 = .ok (.getfield 28, 3) := by decide +kernel
theorem d_R_readsLand_72 : decode prog_8_method_26_code 72 = .ok (.iload_n 1, 1) := by decide +kernel
theorem d_R_readsLand_73 : decode prog_8_method_26_code 73 = .ok (.iload_n 3, 1) := by decide +kernel
theorem d_R_readsLand_74 : decode prog_8_method_26_code 74 = .ok (.iastore, 1) := by decide +kernel
theorem d_R_readsLand_75 : decode prog_8_method_26_code 75 = .ok (.iinc 1 1, 3) := by decide +kernel
theorem d_R_readsLand_78 : decode prog_8_method_26_code 78 = .ok (.goto (-72), 3) := by decide +kernel
theorem d_R_readsLand_81 : decode prog_8_method_26_code 81 = .ok (.iconst (-1), 1) := by decide +kernel
theorem d_R_readsLand_82 : decode prog_8_method_26_code 82 = .ok (.ireturn, 1) := by decide +kernel
def wp_R_readsLand (M : Mem) (post : Int32 → Mem → Prop) : Prop :=
  wp_R_plains M (fun M1 => (it2 (fun rec3 (i5 : Int32) (M6 : Mem) => vp_in 0 4 ∧ ((((M6 6 (tn 0)) ≤ i5) → post (-1) M6) ∧ (¬ ((M6 6 (tn 0)) ≤ i5) → vp_in i5 96 ∧ ∀ u13 : Int32, u13 = (if (M6 5 (tn i5)) = 111 then 0 else (if (M6 5 (tn i5)) = 104 then 1 else (if (M6 5 (tn i5)) = 99 then 2 else (-9)))) → (((u13 = (-9)) → wp_R_plains M6 (fun M17 => post i5 M17)) ∧ (¬ (u13 = (-9)) → vp_in i5 12 ∧ ∀ M15 : Mem, M15 = upm M6 7 (tn i5) u13 → rec3 (i5 + 1) M15))))) 4096 0 M1))
set_option maxHeartbeats 4000000 in
set_option maxRecDepth 100000 in
theorem c_R_readsLand (g : GX) {M : Mem} {post : Int32 → Mem → Prop} (hw : wp_R_readsLand M post) : CtI (oR g) y_R_readsLand prog_8_method_26_code 4 (some .int) (rl 1) [.ref (ax g 0)] M post := by
  refine z_metI (oR_ok g) (by decide) rfl (fun X C hr => ?_)
  show Zj X 4 (oR g) M 0 [(0, .ref (ax g 0))] []
  unfold wp_R_readsLand at hw
  refine z_aload_n C d_R_readsLand_0 rfl 0 rfl ?_
  refine z_callVv C (As := []) (rest := []) m_R_plains tw_846 0 (le_R) rfl ⟨rfl, rfl⟩ (c_R_plains g hw) rfl rfl rfl d_R_readsLand_1 (fun M1 hw => ?_)
  refine z_iconst (v := 0) C d_R_readsLand_4 (by decide) ?_
  refine z_istore_n (lv' := [(1, .int 0), (0, .ref (ax g 0))]) C d_R_readsLand_5 rfl rfl rfl ?_
  refine z_sub [1, 0] rfl ?_
  refine it2_Z (Z := fun (i5 : Int32) (M6 : Mem) => Zj X 4 (oR g) M6 6 [(0, .ref (ax g 0)), (1, .int i5)] []) (fun rec3 ih4 i5 M6 hw => ?_) _ _ _ hw
  refine z_iload_n C d_R_readsLand_6 rfl 1 rfl ?_
  refine z_aload_n C d_R_readsLand_7 rfl 0 rfl ?_
  refine gf_R_25 C d_R_readsLand_8 ?_
  refine z_iconst (v := 0) C d_R_readsLand_11 (by decide) ?_
  have hv7 := hw.1
  replace hw := hw.2
  refine z_al (zar_r6) C hv7 d_R_readsLand_12 ?_
  refine z_ic_ge C 81 d_R_readsLand_13 (by decide) (fun h8 => ?_) (fun h8 => ?_)
  · replace hw := hw.1 h8
    refine z_iconst (v := (-1)) C d_R_readsLand_81 (by decide) ?_
    exact z_iret C hr hw d_R_readsLand_82
  · replace hw := hw.2 h8
    refine z_aload_n C d_R_readsLand_16 rfl 0 rfl ?_
    refine gf_R_22 C d_R_readsLand_17 ?_
    refine z_iload_n C d_R_readsLand_20 rfl 1 rfl ?_
    have hv9 := hw.1
    replace hw := hw.2
    refine z_al (zar_r5) C hv9 d_R_readsLand_21 ?_
    refine z_istore_n (lv' := [(2, .int (M6 5 (tn i5))), (0, .ref (ax g 0)), (1, .int i5)]) C d_R_readsLand_22 rfl rfl rfl ?_
    refine z_iload_n C d_R_readsLand_23 rfl 0 rfl ?_
    refine z_bipush (v := 111) C d_R_readsLand_24 (by decide) ?_
    have hj19 : ∀ u13 : Int32, u13 = (if (M6 5 (tn i5)) = 111 then 0 else (if (M6 5 (tn i5)) = 104 then 1 else (if (M6 5 (tn i5)) = 99 then 2 else (-9)))) → Zj X 4 (oR g) M6 55 [(0, .ref (ax g 0)), (1, .int i5)] [.int u13] := by
      intro u13 hu13
      replace hw := hw u13 hu13
      refine z_istore_n (lv' := [(3, .int u13), (0, .ref (ax g 0)), (1, .int i5)]) C d_R_readsLand_55 rfl rfl rfl ?_
      refine z_iload_n C d_R_readsLand_56 rfl 0 rfl ?_
      refine z_bipush (v := (-9)) C d_R_readsLand_57 (by decide) ?_
      refine z_ic_ne C 68 d_R_readsLand_59 (by decide) (fun h14 => ?_) (fun h14 => ?_)
      · replace hw := hw.2 h14
        refine z_aload_n C d_R_readsLand_68 rfl 1 rfl ?_
        refine gf_R_28 C d_R_readsLand_69 ?_
        refine z_iload_n C d_R_readsLand_72 rfl 2 rfl ?_
        refine z_iload_n C d_R_readsLand_73 rfl 0 rfl ?_
        have hv16 := hw.1
        refine z_as (zar_r7) C hv16 d_R_readsLand_74 (fun M15 hM15 => ?_)
        replace hw := hw.2 M15 hM15
        refine z_iinc (v := (i5 + 1)) (lv' := [(1, .int (i5 + 1)), (3, .int u13), (0, .ref (ax g 0))]) C d_R_readsLand_75 2 rfl rfl rfl rfl ?_
        refine z_goto C 6 d_R_readsLand_78 (by decide) ?_
        refine z_sub [2, 0] rfl ?_
        exact ih4 _ _ hw
      · replace hw := hw.1 h14
        refine z_aload_n C d_R_readsLand_62 rfl 1 rfl ?_
        refine z_callVv C (As := []) (rest := []) m_R_plains tw_846 0 (le_R) rfl ⟨rfl, rfl⟩ (c_R_plains g hw) rfl rfl rfl d_R_readsLand_63 (fun M17 hw => ?_)
        refine z_iload_n C d_R_readsLand_66 rfl 2 rfl ?_
        exact z_iret C hr hw d_R_readsLand_67
    refine z_ic_ne C 33 d_R_readsLand_26 (by decide) (fun h10 => ?_) (fun h10 => ?_)
    · refine z_iload_n C d_R_readsLand_33 rfl 0 rfl ?_
      refine z_bipush (v := 104) C d_R_readsLand_34 (by decide) ?_
      refine z_ic_ne C 43 d_R_readsLand_36 (by decide) (fun h11 => ?_) (fun h11 => ?_)
      · refine z_iload_n C d_R_readsLand_43 rfl 0 rfl ?_
        refine z_bipush (v := 99) C d_R_readsLand_44 (by decide) ?_
        refine z_ic_ne C 53 d_R_readsLand_46 (by decide) (fun h12 => ?_) (fun h12 => ?_)
        · refine z_bipush (v := (-9)) C d_R_readsLand_53 (by decide) ?_
          refine z_sub [1, 2] rfl ?_
          exact hj19 _ (((if_neg h10).trans ((if_neg h11).trans (if_neg h12)))).symm
        · refine z_iconst (v := 2) C d_R_readsLand_49 (by decide) ?_
          refine z_goto C 55 d_R_readsLand_50 (by decide) ?_
          refine z_sub [1, 2] rfl ?_
          exact hj19 _ (((if_neg h10).trans ((if_neg h11).trans (if_pos h12)))).symm
      · refine z_iconst (v := 1) C d_R_readsLand_39 (by decide) ?_
        refine z_goto C 55 d_R_readsLand_40 (by decide) ?_
        refine z_sub [1, 2] rfl ?_
        exact hj19 _ (((if_neg h10).trans (if_pos h11))).symm
    · refine z_iconst (v := 0) C d_R_readsLand_29 (by decide) ?_
      refine z_goto C 55 d_R_readsLand_30 (by decide) ?_
      refine z_sub [1, 2] rfl ?_
      exact hj19 _ ((if_pos h10)).symm
theorem d_R_isPlough_0 : decode prog_8_method_36_code 0 = .ok (.iload_n 1, 1) := by decide +kernel
theorem d_R_isPlough_1 : decode prog_8_method_36_code 1 = .ok (.i2l, 1) := by decide +kernel
theorem d_R_isPlough_2 : decode prog_8_method_36_code 2 = .ok (.lconst 0, 1) := by decide +kernel
theorem d_R_isPlough_3 : decode prog_8_method_36_code 3 = .ok (.aload_n 0, 1) := by decide +kernel
theorem d_R_isPlough_4 : decode prog_8_method_36_code 4 = .ok (.getfield 146, 3) := by decide +kernel
theorem d_R_isPlough_7 : decode prog_8_method_36_code 7 = .ok (.iconst 1, 1) := by decide +kernel
theorem d_R_isPlough_8 : decode prog_8_method_36_code 8 = .ok (.isub, 1) := by decide +kernel
theorem d_R_isPlough_9 : decode prog_8_method_36_code 9 = .ok (.i2l, 1) := by decide +kernel
theorem d_R_isPlough_10 : decode prog_8_method_36_code 10 = .ok (.invokestatic 97, 3) := by decide +kernel
theorem d_R_isPlough_13 : decode prog_8_method_36_code 13 = .ok (.ireturn, 1) := by decide +kernel
def wp_R_isPlough (a1 : Int32) (M : Mem) (post : Int32 → Prop) : Prop :=
  ((pf_R_in (Int32.toInt64 a1) 0 (Int32.toInt64 ((M 0 9) - 1))) = 0 ∨ (pf_R_in (Int32.toInt64 a1) 0 (Int32.toInt64 ((M 0 9) - 1))) = 1) ∧ post (pf_R_in (Int32.toInt64 a1) 0 (Int32.toInt64 ((M 0 9) - 1)))
set_option maxHeartbeats 4000000 in
set_option maxRecDepth 100000 in
theorem c_R_isPlough (g : GX) {a1 : Int32} {M : Mem} {post : Int32 → Prop} (hw : wp_R_isPlough a1 M post) : CtI (oR g) y_R_isPlough prog_8_method_36_code 2 (some .boolean) (rl 1) [.ref (ax g 0), .int a1] M (fun r M2 => M = M2 ∧ post r) := by
  refine z_metI (oR_ok g) (by decide) rfl (fun X C hr => ?_)
  show Zj X 2 (oR g) M 0 [(0, .ref (ax g 0)), (1, .int a1)] []
  unfold wp_R_isPlough at hw
  refine z_iload_n C d_R_isPlough_0 rfl 1 rfl ?_
  refine z_i2l C d_R_isPlough_1 ?_
  refine z_lconst (v := 0) C d_R_isPlough_2 (by decide) ?_
  refine z_aload_n C d_R_isPlough_3 rfl 0 rfl ?_
  refine gf_R_146 C d_R_isPlough_4 ?_
  refine z_iconst (v := 1) C d_R_isPlough_7 (by decide) ?_
  refine z_isub C d_R_isPlough_8 ?_
  refine z_i2l C d_R_isPlough_9 ?_
  refine z_callSi C (As := [.long (Int32.toInt64 a1), .long 0, .long (Int32.toInt64 ((M 0 9) - 1))]) (rest := []) m_R_in tw_786 ⟨rfl, rfl⟩ (c_R_in (oR_ok g) _ _ _ _) rfl rfl rfl d_R_isPlough_10 (fun r M2 hq => ?_)
  obtain ⟨rfl, rfl⟩ := hq
  exact z_zret C hr hw.1 ⟨rfl, hw.2⟩ d_R_isPlough_13
theorem d_R_isBus_0 : decode prog_8_method_37_code 0 = .ok (.iload_n 1, 1) := by decide +kernel
theorem d_R_isBus_1 : decode prog_8_method_37_code 1 = .ok (.i2l, 1) := by decide +kernel
theorem d_R_isBus_2 : decode prog_8_method_37_code 2 = .ok (.lconst 0, 1) := by decide +kernel
theorem d_R_isBus_3 : decode prog_8_method_37_code 3 = .ok (.aload_n 0, 1) := by decide +kernel
theorem d_R_isBus_4 : decode prog_8_method_37_code 4 = .ok (.getfield 152, 3) := by decide +kernel
theorem d_R_isBus_7 : decode prog_8_method_37_code 7 = .ok (.iconst 1, 1) := by decide +kernel
theorem d_R_isBus_8 : decode prog_8_method_37_code 8 = .ok (.isub, 1) := by decide +kernel
theorem d_R_isBus_9 : decode prog_8_method_37_code 9 = .ok (.i2l, 1) := by decide +kernel
theorem d_R_isBus_10 : decode prog_8_method_37_code 10 = .ok (.invokestatic 97, 3) := by decide +kernel
theorem d_R_isBus_13 : decode prog_8_method_37_code 13 = .ok (.ireturn, 1) := by decide +kernel
def wp_R_isBus (a1 : Int32) (M : Mem) (post : Int32 → Prop) : Prop :=
  ((pf_R_in (Int32.toInt64 a1) 0 (Int32.toInt64 ((M 0 11) - 1))) = 0 ∨ (pf_R_in (Int32.toInt64 a1) 0 (Int32.toInt64 ((M 0 11) - 1))) = 1) ∧ post (pf_R_in (Int32.toInt64 a1) 0 (Int32.toInt64 ((M 0 11) - 1)))
set_option maxHeartbeats 4000000 in
set_option maxRecDepth 100000 in
theorem c_R_isBus (g : GX) {a1 : Int32} {M : Mem} {post : Int32 → Prop} (hw : wp_R_isBus a1 M post) : CtI (oR g) y_R_isBus prog_8_method_37_code 2 (some .boolean) (rl 1) [.ref (ax g 0), .int a1] M (fun r M2 => M = M2 ∧ post r) := by
  refine z_metI (oR_ok g) (by decide) rfl (fun X C hr => ?_)
  show Zj X 2 (oR g) M 0 [(0, .ref (ax g 0)), (1, .int a1)] []
  unfold wp_R_isBus at hw
  refine z_iload_n C d_R_isBus_0 rfl 1 rfl ?_
  refine z_i2l C d_R_isBus_1 ?_
  refine z_lconst (v := 0) C d_R_isBus_2 (by decide) ?_
  refine z_aload_n C d_R_isBus_3 rfl 0 rfl ?_
  refine gf_R_152 C d_R_isBus_4 ?_
  refine z_iconst (v := 1) C d_R_isBus_7 (by decide) ?_
  refine z_isub C d_R_isBus_8 ?_
  refine z_i2l C d_R_isBus_9 ?_
  refine z_callSi C (As := [.long (Int32.toInt64 a1), .long 0, .long (Int32.toInt64 ((M 0 11) - 1))]) (rest := []) m_R_in tw_786 ⟨rfl, rfl⟩ (c_R_in (oR_ok g) _ _ _ _) rfl rfl rfl d_R_isBus_10 (fun r M2 hq => ?_)
  obtain ⟨rfl, rfl⟩ := hq
  exact z_zret C hr hw.1 ⟨rfl, hw.2⟩ d_R_isBus_13
theorem d_R_wind_0 : decode prog_8_method_42_code 0 = .ok (.iload_n 1, 1) := by decide +kernel
theorem d_R_wind_1 : decode prog_8_method_42_code 1 = .ok (.i2l, 1) := by decide +kernel
theorem d_R_wind_2 : decode prog_8_method_42_code 2 = .ok (.lconst 0, 1) := by decide +kernel
theorem d_R_wind_3 : decode prog_8_method_42_code 3 = .ok (.ldc2_w 187, 3) := by decide +kernel
theorem d_R_wind_6 : decode prog_8_method_42_code 6 = .ok (.invokestatic 97, 3) := by decide +kernel
theorem d_R_wind_9 : decode prog_8_method_42_code 9 = .ok (.ifCond .ne (6), 3) := by decide +kernel
theorem d_R_wind_12 : decode prog_8_method_42_code 12 = .ok (.bipush (-2), 2) := by decide +kernel
theorem d_R_wind_14 : decode prog_8_method_42_code 14 = .ok (.ireturn, 1) := by decide +kernel
theorem d_R_wind_15 : decode prog_8_method_42_code 15 = .ok (.aload_n 0, 1) := by decide +kernel
theorem d_R_wind_16 : decode prog_8_method_42_code 16 = .ok (.getfield 91, 3) := by decide +kernel
theorem d_R_wind_19 : decode prog_8_method_42_code 19 = .ok (.istore_n 2, 1) := by decide +kernel
theorem d_R_wind_20 : decode prog_8_method_42_code 20 = .ok (.aload_n 0, 1) := by decide +kernel
theorem d_R_wind_21 : decode prog_8_method_42_code 21 = .ok (.iload_n 1, 1) := by decide +kernel
theorem d_R_wind_22 : decode prog_8_method_42_code 22 = .ok (.putfield 91, 3) := by decide +kernel
theorem d_R_wind_25 : decode prog_8_method_42_code 25 = .ok (.iload_n 2, 1) := by decide +kernel
theorem d_R_wind_26 : decode prog_8_method_42_code 26 = .ok (.ireturn, 1) := by decide +kernel
def wp_R_wind (a1 : Int32) (M : Mem) (post : Int32 → Mem → Prop) : Prop :=
  ((((pf_R_in (Int32.toInt64 a1) 0 (9)) = 0) → post (-2) M) ∧ (¬ ((pf_R_in (Int32.toInt64 a1) 0 (9)) = 0) → ∀ M3 : Mem, M3 = upm M 0 13 a1 → post (M 0 13) M3))
set_option maxHeartbeats 4000000 in
set_option maxRecDepth 100000 in
theorem c_R_wind (g : GX) {a1 : Int32} {M : Mem} {post : Int32 → Mem → Prop} (hw : wp_R_wind a1 M post) : CtI (oR g) y_R_wind prog_8_method_42_code 3 (some .int) (rl 1) [.ref (ax g 0), .int a1] M post := by
  refine z_metI (oR_ok g) (by decide) rfl (fun X C hr => ?_)
  show Zj X 3 (oR g) M 0 [(0, .ref (ax g 0)), (1, .int a1)] []
  unfold wp_R_wind at hw
  refine z_iload_n C d_R_wind_0 rfl 1 rfl ?_
  refine z_i2l C d_R_wind_1 ?_
  refine z_lconst (v := 0) C d_R_wind_2 (by decide) ?_
  refine z_ldc2 C d_R_wind_3 tw_913 ?_
  refine z_callSi C (As := [.long (Int32.toInt64 a1), .long 0, .long (9)]) (rest := []) m_R_in tw_786 ⟨rfl, rfl⟩ (c_R_in (oR_ok g) _ _ _ _) rfl rfl rfl d_R_wind_6 (fun r M2 hq => ?_)
  obtain ⟨rfl, rfl⟩ := hq
  refine z_if_ne C 15 d_R_wind_9 (by decide) (fun h2 => ?_) (fun h2 => ?_)
  · replace hw := hw.2 h2
    refine z_aload_n C d_R_wind_15 rfl 0 rfl ?_
    refine gf_R_91 C d_R_wind_16 ?_
    refine z_istore_n (lv' := [(2, .int (M 0 13)), (0, .ref (ax g 0)), (1, .int a1)]) C d_R_wind_19 rfl rfl rfl ?_
    refine z_aload_n C d_R_wind_20 rfl 1 rfl ?_
    refine z_iload_n C d_R_wind_21 rfl 2 rfl ?_
    refine pp_R_91 C d_R_wind_22 (fun M3 hM3 => ?_)
    replace hw := hw M3 hM3
    refine z_iload_n C d_R_wind_25 rfl 0 rfl ?_
    exact z_iret C hr hw d_R_wind_26
  · replace hw := hw.1 h2
    refine z_bipush (v := (-2)) C d_R_wind_12 (by decide) ?_
    exact z_iret C hr hw d_R_wind_14
