theorem d_XW_windCarries_0 : decode prog_6_method_6_code 0 = .ok (.bipush 11, 2) := by decide +kernel
theorem d_XW_windCarries_2 : decode prog_6_method_6_code 2 = .ok (.istore_n 3, 1) := by decide +kernel
theorem d_XW_windCarries_3 : decode prog_6_method_6_code 3 = .ok (.iload_n 3, 1) := by decide +kernel
theorem d_XW_windCarries_4 : decode prog_6_method_6_code 4 = .ok (.ifCond .lt (76), 3) := by decide +kernel
theorem d_XW_windCarries_7 : decode prog_6_method_6_code 7 = .ok (.aload_n 1, 1) := by decide +kernel
theorem d_XW_windCarries_8 : decode prog_6_method_6_code 8 = .ok (.iload_n 3, 1) := by decide +kernel
theorem d_XW_windCarries_9 : decode prog_6_method_6_code 9 = .ok (.iaload, 1) := by decide +kernel
theorem d_XW_windCarries_10 : decode prog_6_method_6_code 10 = .ok (.ifCond .ne (64), 3) := by decide +kernel
theorem d_XW_windCarries_13 : decode prog_6_method_6_code 13 = .ok (.aload_n 0, 1) := by decide +kernel
theorem d_XW_windCarries_14 : decode prog_6_method_6_code 14 = .ok (.getfield 40, 3) := by decide +kernel
theorem d_XW_windCarries_17 : decode prog_6_method_6_code 17 = .ok (.iload_n 3, 1) := by decide +kernel
theorem d_XW_windCarries_18 : decode prog_6_method_6_code 18 = .ok (.iaload, 1) := by decide +kernel
theorem d_XW_windCarries_19 : decode prog_6_method_6_code 19 = .ok (.ifCond .le (55), 3) := by decide +kernel
theorem d_XW_windCarries_22 : decode prog_6_method_6_code 22 = .ok (.aload_n 0, 1) := by decide +kernel
theorem d_XW_windCarries_23 : decode prog_6_method_6_code 23 = .ok (.getfield 40, 3) := by decide +kernel
theorem d_XW_windCarries_26 : decode prog_6_method_6_code 26 = .ok (.iload_n 3, 1) := by decide +kernel
theorem d_XW_windCarries_27 : decode prog_6_method_6_code 27 = .ok (.iaload, 1) := by decide +kernel
theorem d_XW_windCarries_28 : decode prog_6_method_6_code 28 = .ok (.iload_n 2, 1) := by decide +kernel
theorem d_XW_windCarries_29 : decode prog_6_method_6_code 29 = .ok (.if_icmp .ge (12), 3) := by decide +kernel
theorem d_XW_windCarries_32 : decode prog_6_method_6_code 32 = .ok (.aload_n 0, 1) := by decide +kernel
theorem d_XW_windCarries_33 : decode prog_6_method_6_code 33 = .ok (.getfield 40, 3) := by decide +kernel
theorem d_XW_windCarries_36 : decode prog_6_method_6_code 36 = .ok (.iload_n 3, 1) := by decide +kernel
theorem d_XW_windCarries_37 : decode prog_6_method_6_code 37 = .ok (.iaload, 1) := by decide +kernel
theorem d_XW_windCarries_38 : decode prog_6_method_6_code 38 = .ok (.goto (4), 3) := by decide +kernel
theorem d_XW_windCarries_41 : decode prog_6_method_6_code 41 = .ok (.iload_n 2, 1) := by decide +kernel
theorem d_XW_windCarries_42 : decode prog_6_method_6_code 42 = .ok (.istore 4, 2) := by decide +kernel
theorem d_XW_windCarries_44 : decode prog_6_method_6_code 44 = .ok (.aload_n 0, 1) := by decide +kernel
theorem d_XW_windCarries_45 : decode prog_6_method_6_code 45 = .ok (.getfield 40, 3) := by decide +kernel
theorem d_XW_windCarries_48 : decode prog_6_method_6_code 48 = .ok (.iload_n 3, 1) := by decide +kernel
theorem d_XW_windCarries_49 : decode prog_6_method_6_code 49 = .ok (.dup2, 1) := by decide +kernel
theorem d_XW_windCarries_50 : decode prog_6_method_6_code 50 = .ok (.iaload, 1) := by decide +kernel
theorem d_XW_windCarries_51 : decode prog_6_method_6_code 51 = .ok (.iload 4, 2) := by decide +kernel
theorem d_XW_windCarries_53 : decode prog_6_method_6_code 53 = .ok (.isub, 1) := by decide +kernel
theorem d_XW_windCarries_54 : decode prog_6_method_6_code 54 = .ok (.iastore, 1) := by decide +kernel
theorem d_XW_windCarries_55 : decode prog_6_method_6_code 55 = .ok (.iload_n 3, 1) := by decide +kernel
theorem d_XW_windCarries_56 : decode prog_6_method_6_code 56 = .ok (.bipush 11, 2) := by decide +kernel
theorem d_XW_windCarries_58 : decode prog_6_method_6_code 58 = .ok (.if_icmp .ge (16), 3) := by decide +kernel
theorem d_XW_windCarries_61 : decode prog_6_method_6_code 61 = .ok (.aload_n 0, 1) := by decide +kernel
theorem d_XW_windCarries_62 : decode prog_6_method_6_code 62 = .ok (.getfield 40, 3) := by decide +kernel
theorem d_XW_windCarries_65 : decode prog_6_method_6_code 65 = .ok (.iload_n 3, 1) := by decide +kernel
theorem d_XW_windCarries_66 : decode prog_6_method_6_code 66 = .ok (.iconst 1, 1) := by decide +kernel
theorem d_XW_windCarries_67 : decode prog_6_method_6_code 67 = .ok (.iadd, 1) := by decide +kernel
theorem d_XW_windCarries_68 : decode prog_6_method_6_code 68 = .ok (.dup2, 1) := by decide +kernel
theorem d_XW_windCarries_69 : decode prog_6_method_6_code 69 = .ok (.iaload, 1) := by decide +kernel
theorem d_XW_windCarries_70 : decode prog_6_method_6_code 70 = .ok (.iload 4, 2) := by decide +kernel
theorem d_XW_windCarries_72 : decode prog_6_method_6_code 72 = .ok (.iadd, 1) := by decide +kernel
theorem d_XW_windCarries_73 : decode prog_6_method_6_code 73 = .ok (.iastore, 1) := by decide +kernel
theorem d_XW_windCarries_74 : decode prog_6_method_6_code 74 = .ok (.iinc 3 (-1), 3) := by decide +kernel
theorem d_XW_windCarries_77 : decode prog_6_method_6_code 77 = .ok (.goto (-74), 3) := by decide +kernel
theorem d_XW_windCarries_80 : decode prog_6_method_6_code 80 = .ok (.return_, 1) := by decide +kernel
def wp_XW_windCarries (c1 : Nat) (a2 : Int32) (M : Mem) (post : Mem → Prop) : Prop :=
  (it2 (fun rec1 (i3 : Int32) (M4 : Mem) => (((i3 < 0) → post M4) ∧ (¬ (i3 < 0) → vp_in i3 12 ∧ ((((M4 11 (tn i3)) = 0) → ((((M4 (c1 + 9) (tn i3)) ≤ 0) → rec1 (i3 + (-1)) M4) ∧ (¬ ((M4 (c1 + 9) (tn i3)) ≤ 0) → ∀ u10 : Int32, u10 = (if a2 ≤ (M4 (c1 + 9) (tn i3)) then a2 else (M4 (c1 + 9) (tn i3))) → ∀ M11 : Mem, M11 = upm M4 (c1 + 9) (tn i3) ((M4 (c1 + 9) (tn i3)) - u10) → (((11 ≤ i3) → rec1 (i3 + (-1)) M11) ∧ (¬ (11 ≤ i3) → vp_in (i3 + 1) 12 ∧ ∀ M14 : Mem, M14 = upm M11 (c1 + 9) (tn (i3 + 1)) ((M11 (c1 + 9) (tn (i3 + 1))) + u10) → rec1 (i3 + (-1)) M14))))) ∧ (¬ ((M4 11 (tn i3)) = 0) → rec1 (i3 + (-1)) M4))))) 4096 11 M)
set_option maxHeartbeats 4000000 in
set_option maxRecDepth 100000 in
theorem c_XW_windCarries (g : GX) {c1 : Nat} {a2 : Int32} {M : Mem} {post : Mem → Prop} (hc1 : c1 = 32 ∨ c1 = 44) (hw : wp_XW_windCarries c1 a2 M post) : CtV (oX g) y_XW_windCarries prog_6_method_6_code 5 none (rl 0) [.ref (ax g c1), .ref (ax g 11), .int a2] M post := by
  refine z_metV (oX_ok g) (by decide) rfl (fun X C hr => ?_)
  show Zj X 5 (oX g) M 0 [(0, .ref (ax g c1)), (1, .ref (ax g 11)), (2, .int a2)] []
  unfold wp_XW_windCarries at hw
  refine z_bipush (v := 11) C d_XW_windCarries_0 (by decide) ?_
  refine z_istore_n (lv' := [(3, .int 11), (0, .ref (ax g c1)), (1, .ref (ax g 11)), (2, .int a2)]) C d_XW_windCarries_2 rfl rfl rfl ?_
  refine z_sub [1, 2, 3, 0] rfl ?_
  refine it2_Z (Z := fun (i3 : Int32) (M4 : Mem) => Zj X 5 (oX g) M4 3 [(0, .ref (ax g c1)), (1, .ref (ax g 11)), (2, .int a2), (3, .int i3)] []) (fun rec1 ih2 i3 M4 hw => ?_) _ _ _ hw
  refine z_iload_n C d_XW_windCarries_3 rfl 3 rfl ?_
  refine z_if_lt C 80 d_XW_windCarries_4 (by decide) (fun h5 => ?_) (fun h5 => ?_)
  · replace hw := hw.1 h5
    exact z_vret C hr hw d_XW_windCarries_80
  · replace hw := hw.2 h5
    refine z_aload_n C d_XW_windCarries_7 rfl 1 rfl ?_
    refine z_iload_n C d_XW_windCarries_8 rfl 3 rfl ?_
    have hv6 := hw.1
    replace hw := hw.2
    refine z_al (zar_x11) C hv6 d_XW_windCarries_9 ?_
    refine z_if_ne C 74 d_XW_windCarries_10 (by decide) (fun h7 => ?_) (fun h7 => ?_)
    · replace hw := hw.2 h7
      refine z_iinc (v := (i3 + (-1))) (lv' := [(3, .int (i3 + (-1))), (0, .ref (ax g c1)), (1, .ref (ax g 11)), (2, .int a2)]) C d_XW_windCarries_74 3 rfl rfl rfl rfl ?_
      refine z_goto C 3 d_XW_windCarries_77 (by decide) ?_
      refine z_sub [1, 2, 3, 0] rfl ?_
      exact ih2 _ _ hw
    · replace hw := hw.1 h7
      refine z_aload_n C d_XW_windCarries_13 rfl 0 rfl ?_
      refine gf_XW_40 hc1 C d_XW_windCarries_14 ?_
      refine z_iload_n C d_XW_windCarries_17 rfl 3 rfl ?_
      refine z_al (zar_xW9 hc1) C hv6 d_XW_windCarries_18 ?_
      refine z_if_le C 74 d_XW_windCarries_19 (by decide) (fun h8 => ?_) (fun h8 => ?_)
      · replace hw := hw.1 h8
        refine z_iinc (v := (i3 + (-1))) (lv' := [(3, .int (i3 + (-1))), (0, .ref (ax g c1)), (1, .ref (ax g 11)), (2, .int a2)]) C d_XW_windCarries_74 3 rfl rfl rfl rfl ?_
        refine z_goto C 3 d_XW_windCarries_77 (by decide) ?_
        refine z_sub [1, 2, 3, 0] rfl ?_
        exact ih2 _ _ hw
      · replace hw := hw.2 h8
        refine z_aload_n C d_XW_windCarries_22 rfl 0 rfl ?_
        refine gf_XW_40 hc1 C d_XW_windCarries_23 ?_
        refine z_iload_n C d_XW_windCarries_26 rfl 3 rfl ?_
        refine z_al (zar_xW9 hc1) C hv6 d_XW_windCarries_27 ?_
        refine z_iload_n C d_XW_windCarries_28 rfl 2 rfl ?_
        have hj15 : ∀ u10 : Int32, u10 = (if a2 ≤ (M4 (c1 + 9) (tn i3)) then a2 else (M4 (c1 + 9) (tn i3))) → Zj X 5 (oX g) M4 42 [(0, .ref (ax g c1)), (1, .ref (ax g 11)), (2, .int a2), (3, .int i3)] [.int u10] := by
          intro u10 hu10
          replace hw := hw u10 hu10
          refine z_istore (lv' := [(4, .int u10), (0, .ref (ax g c1)), (1, .ref (ax g 11)), (2, .int a2), (3, .int i3)]) C d_XW_windCarries_42 rfl rfl ?_
          refine z_aload_n C d_XW_windCarries_44 rfl 1 rfl ?_
          refine gf_XW_40 hc1 C d_XW_windCarries_45 ?_
          refine z_iload_n C d_XW_windCarries_48 rfl 4 rfl ?_
          refine z_dup2 C d_XW_windCarries_49 rfl rfl ?_
          refine z_al (zar_xW9 hc1) C hv6 d_XW_windCarries_50 ?_
          refine z_iload C d_XW_windCarries_51 0 rfl ?_
          refine z_isub C d_XW_windCarries_53 ?_
          refine z_as (zar_xW9 hc1) C hv6 d_XW_windCarries_54 (fun M11 hM11 => ?_)
          replace hw := hw M11 hM11
          refine z_iload_n C d_XW_windCarries_55 rfl 4 rfl ?_
          refine z_bipush (v := 11) C d_XW_windCarries_56 (by decide) ?_
          refine z_ic_ge C 74 d_XW_windCarries_58 (by decide) (fun h12 => ?_) (fun h12 => ?_)
          · replace hw := hw.1 h12
            refine z_iinc (v := (i3 + (-1))) (lv' := [(3, .int (i3 + (-1))), (4, .int u10), (0, .ref (ax g c1)), (1, .ref (ax g 11)), (2, .int a2)]) C d_XW_windCarries_74 4 rfl rfl rfl rfl ?_
            refine z_goto C 3 d_XW_windCarries_77 (by decide) ?_
            refine z_sub [2, 3, 4, 0] rfl ?_
            exact ih2 _ _ hw
          · replace hw := hw.2 h12
            refine z_aload_n C d_XW_windCarries_61 rfl 1 rfl ?_
            refine gf_XW_40 hc1 C d_XW_windCarries_62 ?_
            refine z_iload_n C d_XW_windCarries_65 rfl 4 rfl ?_
            refine z_iconst (v := 1) C d_XW_windCarries_66 (by decide) ?_
            refine z_iadd C d_XW_windCarries_67 ?_
            refine z_dup2 C d_XW_windCarries_68 rfl rfl ?_
            have hv13 := hw.1
            replace hw := hw.2
            refine z_al (zar_xW9 hc1) C hv13 d_XW_windCarries_69 ?_
            refine z_iload C d_XW_windCarries_70 0 rfl ?_
            refine z_iadd C d_XW_windCarries_72 ?_
            refine z_as (zar_xW9 hc1) C hv13 d_XW_windCarries_73 (fun M14 hM14 => ?_)
            replace hw := hw M14 hM14
            refine z_iinc (v := (i3 + (-1))) (lv' := [(3, .int (i3 + (-1))), (4, .int u10), (0, .ref (ax g c1)), (1, .ref (ax g 11)), (2, .int a2)]) C d_XW_windCarries_74 4 rfl rfl rfl rfl ?_
            refine z_goto C 3 d_XW_windCarries_77 (by decide) ?_
            refine z_sub [2, 3, 4, 0] rfl ?_
            exact ih2 _ _ hw
        refine z_ic_ge C 41 d_XW_windCarries_29 (by decide) (fun h9 => ?_) (fun h9 => ?_)
        · refine z_iload_n C d_XW_windCarries_41 rfl 2 rfl ?_
          refine z_sub [0, 1, 2, 3] rfl ?_
          exact hj15 _ ((if_pos h9)).symm
        · refine z_aload_n C d_XW_windCarries_32 rfl 0 rfl ?_
          refine gf_XW_40 hc1 C d_XW_windCarries_33 ?_
          refine z_iload_n C d_XW_windCarries_36 rfl 3 rfl ?_
          refine z_al (zar_xW9 hc1) C hv6 d_XW_windCarries_37 ?_
          refine z_goto C 42 d_XW_windCarries_38 (by decide) ?_
          refine z_sub [0, 1, 2, 3] rfl ?_
          exact hj15 _ ((if_neg h9)).symm
theorem d_XW_snowThaws_0 : decode prog_6_method_7_code 0 = .ok (.iconst 0, 1) := by decide +kernel
theorem d_XW_snowThaws_1 : decode prog_6_method_7_code 1 = .ok (.istore 4, 2) := by decide +kernel
theorem d_XW_snowThaws_3 : decode prog_6_method_7_code 3 = .ok (.iload 4, 2) := by decide +kernel
theorem d_XW_snowThaws_5 : decode prog_6_method_7_code 5 = .ok (.aload_n 1, 1) := by decide +kernel
theorem d_XW_snowThaws_6 : decode prog_6_method_7_code 6 = .ok (.getfield 107, 3) := by decide +kernel
theorem d_XW_snowThaws_9 : decode prog_6_method_7_code 9 = .ok (.if_icmp .ge (57), 3) := by decide +kernel
theorem d_XW_snowThaws_12 : decode prog_6_method_7_code 12 = .ok (.aload_n 1, 1) := by decide +kernel
theorem d_XW_snowThaws_13 : decode prog_6_method_7_code 13 = .ok (.getfield 110, 3) := by decide +kernel
theorem d_XW_snowThaws_16 : decode prog_6_method_7_code 16 = .ok (.iload 4, 2) := by decide +kernel
theorem d_XW_snowThaws_18 : decode prog_6_method_7_code 18 = .ok (.iaload, 1) := by decide +kernel
theorem d_XW_snowThaws_19 : decode prog_6_method_7_code 19 = .ok (.iconst 2, 1) := by decide +kernel
theorem d_XW_snowThaws_20 : decode prog_6_method_7_code 20 = .ok (.if_icmp .ne (40), 3) := by decide +kernel
theorem d_XW_snowThaws_23 : decode prog_6_method_7_code 23 = .ok (.aload_n 1, 1) := by decide +kernel
theorem d_XW_snowThaws_24 : decode prog_6_method_7_code 24 = .ok (.getfield 113, 3) := by decide +kernel
theorem d_XW_snowThaws_27 : decode prog_6_method_7_code 27 = .ok (.iload 4, 2) := by decide +kernel
theorem d_XW_snowThaws_29 : decode prog_6_method_7_code 29 = .ok (.iaload, 1) := by decide +kernel
theorem d_XW_snowThaws_30 : decode prog_6_method_7_code 30 = .ok (.iload_n 2, 1) := by decide +kernel
theorem d_XW_snowThaws_31 : decode prog_6_method_7_code 31 = .ok (.if_icmp .ne (29), 3) := by decide +kernel
theorem d_XW_snowThaws_34 : decode prog_6_method_7_code 34 = .ok (.iload_n 3, 1) := by decide +kernel
theorem d_XW_snowThaws_35 : decode prog_6_method_7_code 35 = .ok (.iload 4, 2) := by decide +kernel
theorem d_XW_snowThaws_37 : decode prog_6_method_7_code 37 = .ok (.ishr, 1) := by decide +kernel
theorem d_XW_snowThaws_38 : decode prog_6_method_7_code 38 = .ok (.iconst 1, 1) := by decide +kernel
theorem d_XW_snowThaws_39 : decode prog_6_method_7_code 39 = .ok (.iand, 1) := by decide +kernel
theorem d_XW_snowThaws_40 : decode prog_6_method_7_code 40 = .ok (.iconst 1, 1) := by decide +kernel
theorem d_XW_snowThaws_41 : decode prog_6_method_7_code 41 = .ok (.if_icmp .ne (19), 3) := by decide +kernel
theorem d_XW_snowThaws_44 : decode prog_6_method_7_code 44 = .ok (.aload_n 0, 1) := by decide +kernel
theorem d_XW_snowThaws_45 : decode prog_6_method_7_code 45 = .ok (.getfield 40, 3) := by decide +kernel
theorem d_XW_snowThaws_48 : decode prog_6_method_7_code 48 = .ok (.aload_n 1, 1) := by decide +kernel
theorem d_XW_snowThaws_49 : decode prog_6_method_7_code 49 = .ok (.getfield 116, 3) := by decide +kernel
theorem d_XW_snowThaws_52 : decode prog_6_method_7_code 52 = .ok (.iload 4, 2) := by decide +kernel
theorem d_XW_snowThaws_54 : decode prog_6_method_7_code 54 = .ok (.iaload, 1) := by decide +kernel
theorem d_XW_snowThaws_55 : decode prog_6_method_7_code 55 = .ok (.dup2, 1) := by decide +kernel
theorem d_XW_snowThaws_56 : decode prog_6_method_7_code 56 = .ok (.iaload, 1) := by decide +kernel
theorem d_XW_snowThaws_57 : decode prog_6_method_7_code 57 = .ok (.iconst 2, 1) := by decide +kernel
theorem d_XW_snowThaws_58 : decode prog_6_method_7_code 58 = .ok (.idiv, 1) := by decide +kernel
theorem d_XW_snowThaws_59 : decode prog_6_method_7_code 59 = .ok (.iastore, 1) := by decide +kernel
theorem d_XW_snowThaws_60 : decode prog_6_method_7_code 60 = .ok (.iinc 4 1, 3) := by decide +kernel
theorem d_XW_snowThaws_63 : decode prog_6_method_7_code 63 = .ok (.goto (-60), 3) := by decide +kernel
theorem d_XW_snowThaws_66 : decode prog_6_method_7_code 66 = .ok (.return_, 1) := by decide +kernel
def wp_XW_snowThaws (c1 : Nat) (a2 : Int32) (a3 : Int32) (M : Mem) (post : Mem → Prop) : Prop :=
  (it2 (fun rec1 (i3 : Int32) (M4 : Mem) => ((((M4 10 9) ≤ i3) → post M4) ∧ (¬ ((M4 10 9) ≤ i3) → vp_in i3 8 ∧ ((((M4 17 (tn i3)) = 2) → ((((M4 18 (tn i3)) = a2) → (((((a3 >>> (i3 &&& 31)) &&& 1) = 1) → vp_in (M4 19 (tn i3)) 12 ∧ ∀ M11 : Mem, M11 = upm M4 (c1 + 9) (tn (M4 19 (tn i3))) ((M4 (c1 + 9) (tn (M4 19 (tn i3)))) / 2) → rec1 (i3 + 1) M11) ∧ (¬ (((a3 >>> (i3 &&& 31)) &&& 1) = 1) → rec1 (i3 + 1) M4))) ∧ (¬ ((M4 18 (tn i3)) = a2) → rec1 (i3 + 1) M4))) ∧ (¬ ((M4 17 (tn i3)) = 2) → rec1 (i3 + 1) M4))))) 4096 0 M)
set_option maxHeartbeats 4000000 in
set_option maxRecDepth 100000 in
theorem c_XW_snowThaws (g : GX) {c1 : Nat} {a2 : Int32} {a3 : Int32} {M : Mem} {post : Mem → Prop} (hc1 : c1 = 32 ∨ c1 = 44) (hw : wp_XW_snowThaws c1 a2 a3 M post) : CtV (oX g) y_XW_snowThaws prog_6_method_7_code 5 none (rl 0) [.ref (ax g c1), .ref (ax g 10), .int a2, .int a3] M post := by
  refine z_metV (oX_ok g) (by decide) rfl (fun X C hr => ?_)
  show Zj X 5 (oX g) M 0 [(0, .ref (ax g c1)), (1, .ref (ax g 10)), (2, .int a2), (3, .int a3)] []
  unfold wp_XW_snowThaws at hw
  refine z_iconst (v := 0) C d_XW_snowThaws_0 (by decide) ?_
  refine z_istore (lv' := [(4, .int 0), (0, .ref (ax g c1)), (1, .ref (ax g 10)), (2, .int a2), (3, .int a3)]) C d_XW_snowThaws_1 rfl rfl ?_
  refine z_sub [1, 2, 3, 4, 0] rfl ?_
  refine it2_Z (Z := fun (i3 : Int32) (M4 : Mem) => Zj X 5 (oX g) M4 3 [(0, .ref (ax g c1)), (1, .ref (ax g 10)), (2, .int a2), (3, .int a3), (4, .int i3)] []) (fun rec1 ih2 i3 M4 hw => ?_) _ _ _ hw
  refine z_iload C d_XW_snowThaws_3 4 rfl ?_
  refine z_aload_n C d_XW_snowThaws_5 rfl 1 rfl ?_
  refine gf_XW_107 C d_XW_snowThaws_6 ?_
  refine z_ic_ge C 66 d_XW_snowThaws_9 (by decide) (fun h5 => ?_) (fun h5 => ?_)
  · replace hw := hw.1 h5
    exact z_vret C hr hw d_XW_snowThaws_66
  · replace hw := hw.2 h5
    refine z_aload_n C d_XW_snowThaws_12 rfl 1 rfl ?_
    refine gf_XW_110 C d_XW_snowThaws_13 ?_
    refine z_iload C d_XW_snowThaws_16 4 rfl ?_
    have hv6 := hw.1
    replace hw := hw.2
    refine z_al (zar_x17) C hv6 d_XW_snowThaws_18 ?_
    refine z_iconst (v := 2) C d_XW_snowThaws_19 (by decide) ?_
    refine z_ic_ne C 60 d_XW_snowThaws_20 (by decide) (fun h7 => ?_) (fun h7 => ?_)
    · replace hw := hw.2 h7
      refine z_iinc (v := (i3 + 1)) (lv' := [(4, .int (i3 + 1)), (0, .ref (ax g c1)), (1, .ref (ax g 10)), (2, .int a2), (3, .int a3)]) C d_XW_snowThaws_60 4 rfl rfl rfl rfl ?_
      refine z_goto C 3 d_XW_snowThaws_63 (by decide) ?_
      refine z_sub [1, 2, 3, 4, 0] rfl ?_
      exact ih2 _ _ hw
    · replace hw := hw.1 h7
      refine z_aload_n C d_XW_snowThaws_23 rfl 1 rfl ?_
      refine gf_XW_113 C d_XW_snowThaws_24 ?_
      refine z_iload C d_XW_snowThaws_27 4 rfl ?_
      refine z_al (zar_x18) C hv6 d_XW_snowThaws_29 ?_
      refine z_iload_n C d_XW_snowThaws_30 rfl 2 rfl ?_
      refine z_ic_ne C 60 d_XW_snowThaws_31 (by decide) (fun h8 => ?_) (fun h8 => ?_)
      · replace hw := hw.2 h8
        refine z_iinc (v := (i3 + 1)) (lv' := [(4, .int (i3 + 1)), (0, .ref (ax g c1)), (1, .ref (ax g 10)), (2, .int a2), (3, .int a3)]) C d_XW_snowThaws_60 4 rfl rfl rfl rfl ?_
        refine z_goto C 3 d_XW_snowThaws_63 (by decide) ?_
        refine z_sub [1, 2, 3, 4, 0] rfl ?_
        exact ih2 _ _ hw
      · replace hw := hw.1 h8
        refine z_iload_n C d_XW_snowThaws_34 rfl 3 rfl ?_
        refine z_iload C d_XW_snowThaws_35 4 rfl ?_
        refine z_ishr C d_XW_snowThaws_37 ?_
        refine z_iconst (v := 1) C d_XW_snowThaws_38 (by decide) ?_
        refine z_iand C d_XW_snowThaws_39 ?_
        refine z_iconst (v := 1) C d_XW_snowThaws_40 (by decide) ?_
        refine z_ic_ne C 60 d_XW_snowThaws_41 (by decide) (fun h9 => ?_) (fun h9 => ?_)
        · replace hw := hw.2 h9
          refine z_iinc (v := (i3 + 1)) (lv' := [(4, .int (i3 + 1)), (0, .ref (ax g c1)), (1, .ref (ax g 10)), (2, .int a2), (3, .int a3)]) C d_XW_snowThaws_60 4 rfl rfl rfl rfl ?_
          refine z_goto C 3 d_XW_snowThaws_63 (by decide) ?_
          refine z_sub [1, 2, 3, 4, 0] rfl ?_
          exact ih2 _ _ hw
        · replace hw := hw.1 h9
          refine z_aload_n C d_XW_snowThaws_44 rfl 0 rfl ?_
          refine gf_XW_40 hc1 C d_XW_snowThaws_45 ?_
          refine z_aload_n C d_XW_snowThaws_48 rfl 1 rfl ?_
          refine gf_XW_116 C d_XW_snowThaws_49 ?_
          refine z_iload C d_XW_snowThaws_52 4 rfl ?_
          refine z_al (zar_x19) C hv6 d_XW_snowThaws_54 ?_
          refine z_dup2 C d_XW_snowThaws_55 rfl rfl ?_
          have hv10 := hw.1
          replace hw := hw.2
          refine z_al (zar_xW9 hc1) C hv10 d_XW_snowThaws_56 ?_
          refine z_iconst (v := 2) C d_XW_snowThaws_57 (by decide) ?_
          refine z_idiv C d_XW_snowThaws_58 (by decide) ?_
          refine z_as (zar_xW9 hc1) C hv10 d_XW_snowThaws_59 (fun M11 hM11 => ?_)
          replace hw := hw M11 hM11
          refine z_iinc (v := (i3 + 1)) (lv' := [(4, .int (i3 + 1)), (0, .ref (ax g c1)), (1, .ref (ax g 10)), (2, .int a2), (3, .int a3)]) C d_XW_snowThaws_60 4 rfl rfl rfl rfl ?_
          refine z_goto C 3 d_XW_snowThaws_63 (by decide) ?_
          refine z_sub [1, 2, 3, 4, 0] rfl ?_
          exact ih2 _ _ hw
theorem d_XW_ploughGoes_0 : decode prog_6_method_9_code 0 = .ok (.aload_n 0, 1) := by decide +kernel
theorem d_XW_ploughGoes_1 : decode prog_6_method_9_code 1 = .ok (.getfield 43, 3) := by decide +kernel
theorem d_XW_ploughGoes_4 : decode prog_6_method_9_code 4 = .ok (.iload_n 1, 1) := by decide +kernel
theorem d_XW_ploughGoes_5 : decode prog_6_method_9_code 5 = .ok (.iaload, 1) := by decide +kernel
theorem d_XW_ploughGoes_6 : decode prog_6_method_9_code 6 = .ok (.ifCond .gt (13), 3) := by decide +kernel
theorem d_XW_ploughGoes_9 : decode prog_6_method_9_code 9 = .ok (.aload_n 0, 1) := by decide +kernel
theorem d_XW_ploughGoes_10 : decode prog_6_method_9_code 10 = .ok (.getfield 46, 3) := by decide +kernel
theorem d_XW_ploughGoes_13 : decode prog_6_method_9_code 13 = .ok (.iload_n 1, 1) := by decide +kernel
theorem d_XW_ploughGoes_14 : decode prog_6_method_9_code 14 = .ok (.iconst 0, 1) := by decide +kernel
theorem d_XW_ploughGoes_15 : decode prog_6_method_9_code 15 = .ok (.iastore, 1) := by decide +kernel
theorem d_XW_ploughGoes_16 : decode prog_6_method_9_code 16 = .ok (.goto (21), 3) := by decide +kernel
theorem d_XW_ploughGoes_19 : decode prog_6_method_9_code 19 = .ok (.aload_n 0, 1) := by decide +kernel
theorem d_XW_ploughGoes_20 : decode prog_6_method_9_code 20 = .ok (.getfield 43, 3) := by decide +kernel
theorem d_XW_ploughGoes_23 : decode prog_6_method_9_code 23 = .ok (.iload_n 1, 1) := by decide +kernel
theorem d_XW_ploughGoes_24 : decode prog_6_method_9_code 24 = .ok (.iaload, 1) := by decide +kernel
theorem d_XW_ploughGoes_25 : decode prog_6_method_9_code 25 = .ok (.bipush 11, 2) := by decide +kernel
theorem d_XW_ploughGoes_27 : decode prog_6_method_9_code 27 = .ok (.if_icmp .lt (10), 3) := by decide +kernel
theorem d_XW_ploughGoes_30 : decode prog_6_method_9_code 30 = .ok (.aload_n 0, 1) := by decide +kernel
theorem d_XW_ploughGoes_31 : decode prog_6_method_9_code 31 = .ok (.getfield 46, 3) := by decide +kernel
theorem d_XW_ploughGoes_34 : decode prog_6_method_9_code 34 = .ok (.iload_n 1, 1) := by decide +kernel
theorem d_XW_ploughGoes_35 : decode prog_6_method_9_code 35 = .ok (.iconst 1, 1) := by decide +kernel
theorem d_XW_ploughGoes_36 : decode prog_6_method_9_code 36 = .ok (.iastore, 1) := by decide +kernel
theorem d_XW_ploughGoes_37 : decode prog_6_method_9_code 37 = .ok (.aload_n 0, 1) := by decide +kernel
theorem d_XW_ploughGoes_38 : decode prog_6_method_9_code 38 = .ok (.getfield 46, 3) := by decide +kernel
theorem d_XW_ploughGoes_41 : decode prog_6_method_9_code 41 = .ok (.iload_n 1, 1) := by decide +kernel
theorem d_XW_ploughGoes_42 : decode prog_6_method_9_code 42 = .ok (.iaload, 1) := by decide +kernel
theorem d_XW_ploughGoes_43 : decode prog_6_method_9_code 43 = .ok (.ifCond .ne (14), 3) := by decide +kernel
theorem d_XW_ploughGoes_46 : decode prog_6_method_9_code 46 = .ok (.aload_n 0, 1) := by decide +kernel
theorem d_XW_ploughGoes_47 : decode prog_6_method_9_code 47 = .ok (.getfield 43, 3) := by decide +kernel
theorem d_XW_ploughGoes_50 : decode prog_6_method_9_code 50 = .ok (.iload_n 1, 1) := by decide +kernel
theorem d_XW_ploughGoes_51 : decode prog_6_method_9_code 51 = .ok (.iaload, 1) := by decide +kernel
theorem d_XW_ploughGoes_52 : decode prog_6_method_9_code 52 = .ok (.iconst 1, 1) := by decide +kernel
theorem d_XW_ploughGoes_53 : decode prog_6_method_9_code 53 = .ok (.iadd, 1) := by decide +kernel
theorem d_XW_ploughGoes_54 : decode prog_6_method_9_code 54 = .ok (.goto (11), 3) := by decide +kernel
theorem d_XW_ploughGoes_57 : decode prog_6_method_9_code 57 = .ok (.aload_n 0, 1) := by decide +kernel
theorem d_XW_ploughGoes_58 : decode prog_6_method_9_code 58 = .ok (.getfield 43, 3) := by decide +kernel
theorem d_XW_ploughGoes_61 : decode prog_6_method_9_code 61 = .ok (.iload_n 1, 1) := by decide +kernel
theorem d_XW_ploughGoes_62 : decode prog_6_method_9_code 62 = .ok (.iaload, 1) := by decide +kernel
theorem d_XW_ploughGoes_63 : decode prog_6_method_9_code 63 = .ok (.iconst 1, 1) := by decide +kernel
theorem d_XW_ploughGoes_64 : decode prog_6_method_9_code 64 = .ok (.isub, 1) := by decide +kernel
theorem d_XW_ploughGoes_65 : decode prog_6_method_9_code 65 = .ok (.istore_n 3, 1) := by decide +kernel
theorem d_XW_ploughGoes_66 : decode prog_6_method_9_code 66 = .ok (.aload_n 0, 1) := by decide +kernel
theorem d_XW_ploughGoes_67 : decode prog_6_method_9_code 67 = .ok (.getfield 40, 3) := by decide +kernel
theorem d_XW_ploughGoes_70 : decode prog_6_method_9_code 70 = .ok (.iload_n 3, 1) := by decide +kernel
theorem d_XW_ploughGoes_71 : decode prog_6_method_9_code 71 = .ok (.iaload, 1) := by decide +kernel
theorem d_XW_ploughGoes_72 : decode prog_6_method_9_code 72 = .ok (.istore 4, 2) := by decide +kernel
theorem d_XW_ploughGoes_74 : decode prog_6_method_9_code 74 = .ok (.iload 4, 2) := by decide +kernel
theorem d_XW_ploughGoes_76 : decode prog_6_method_9_code 76 = .ok (.iconst 3, 1) := by decide +kernel
theorem d_XW_ploughGoes_77 : decode prog_6_method_9_code 77 = .ok (.iload_n 2, 1) := by decide +kernel
theorem d_XW_ploughGoes_78 : decode prog_6_method_9_code 78 = .ok (.imul, 1) := by decide +kernel
theorem d_XW_ploughGoes_79 : decode prog_6_method_9_code 79 = .ok (.if_icmp .le (25), 3) := by decide +kernel
theorem d_XW_ploughGoes_82 : decode prog_6_method_9_code 82 = .ok (.aload_n 0, 1) := by decide +kernel
theorem d_XW_ploughGoes_83 : decode prog_6_method_9_code 83 = .ok (.getfield 27, 3) := by decide +kernel
theorem d_XW_ploughGoes_86 : decode prog_6_method_9_code 86 = .ok (.iload_n 1, 1) := by decide +kernel
theorem d_XW_ploughGoes_87 : decode prog_6_method_9_code 87 = .ok (.dup2, 1) := by decide +kernel
theorem d_XW_ploughGoes_88 : decode prog_6_method_9_code 88 = .ok (.iaload, 1) := by decide +kernel
theorem d_XW_ploughGoes_89 : decode prog_6_method_9_code 89 = .ok (.iconst 1, 1) := by decide +kernel
theorem d_XW_ploughGoes_90 : decode prog_6_method_9_code 90 = .ok (.iadd, 1) := by decide +kernel
theorem d_XW_ploughGoes_91 : decode prog_6_method_9_code 91 = .ok (.iastore, 1) := by decide +kernel
theorem d_XW_ploughGoes_92 : decode prog_6_method_9_code 92 = .ok (.aload_n 0, 1) := by decide +kernel
theorem d_XW_ploughGoes_93 : decode prog_6_method_9_code 93 = .ok (.getfield 40, 3) := by decide +kernel
theorem d_XW_ploughGoes_96 : decode prog_6_method_9_code 96 = .ok (.iload_n 3, 1) := by decide +kernel
theorem d_XW_ploughGoes_97 : decode prog_6_method_9_code 97 = .ok (.dup2, 1) := by decide +kernel
theorem d_XW_ploughGoes_98 : decode prog_6_method_9_code 98 = .ok (.iaload, 1) := by decide +kernel
theorem d_XW_ploughGoes_99 : decode prog_6_method_9_code 99 = .ok (.iload_n 2, 1) := by decide +kernel
theorem d_XW_ploughGoes_100 : decode prog_6_method_9_code 100 = .ok (.isub, 1) := by decide +kernel
theorem d_XW_ploughGoes_101 : decode prog_6_method_9_code 101 = .ok (.iastore, 1) := by decide +kernel
theorem d_XW_ploughGoes_102 : decode prog_6_method_9_code 102 = .ok (.iload_n 2, 1) := by decide +kernel
theorem d_XW_ploughGoes_103 : decode prog_6_method_9_code 103 = .ok (.ireturn, 1) := by decide +kernel
theorem d_XW_ploughGoes_104 : decode prog_6_method_9_code 104 = .ok (.aload_n 0, 1) := by decide +kernel
theorem d_XW_ploughGoes_105 : decode prog_6_method_9_code 105 = .ok (.getfield 43, 3) := by decide +kernel
theorem d_XW_ploughGoes_108 : decode prog_6_method_9_code 108 = .ok (.iload_n 1, 1) := by decide +kernel
theorem d_XW_ploughGoes_109 : decode prog_6_method_9_code 109 = .ok (.iload_n 3, 1) := by decide +kernel
theorem d_XW_ploughGoes_110 : decode prog_6_method_9_code 110 = .ok (.iastore, 1) := by decide +kernel
theorem d_XW_ploughGoes_111 : decode prog_6_method_9_code 111 = .ok (.aload_n 0, 1) := by decide +kernel
theorem d_XW_ploughGoes_112 : decode prog_6_method_9_code 112 = .ok (.getfield 40, 3) := by decide +kernel
theorem d_XW_ploughGoes_115 : decode prog_6_method_9_code 115 = .ok (.iload_n 3, 1) := by decide +kernel
theorem d_XW_ploughGoes_116 : decode prog_6_method_9_code 116 = .ok (.iconst 0, 1) := by decide +kernel
theorem d_XW_ploughGoes_117 : decode prog_6_method_9_code 117 = .ok (.iastore, 1) := by decide +kernel
theorem d_XW_ploughGoes_118 : decode prog_6_method_9_code 118 = .ok (.iload 4, 2) := by decide +kernel
theorem d_XW_ploughGoes_120 : decode prog_6_method_9_code 120 = .ok (.ireturn, 1) := by decide +kernel
def wp_XW_ploughGoes (c1 : Nat) (a1 : Int32) (a2 : Int32) (M : Mem) (post : Int32 → Mem → Prop) : Prop :=
  vp_in a1 4 ∧ (((0 < (M (c1 + 10) (tn a1))) → ((((M (c1 + 10) (tn a1)) < 11) → ∀ u5 : Int32, u5 = (if (M (c1 + 11) (tn a1)) = 0 then ((M (c1 + 10) (tn a1)) + 1) else ((M (c1 + 10) (tn a1)) - 1)) → vp_in u5 12 ∧ ∀ x7 : Int32, x7 = (M (c1 + 9) (tn u5)) → (((x7 ≤ (3 * a2)) → ∀ M9 : Mem, M9 = upm M (c1 + 10) (tn a1) u5 → ∀ M10 : Mem, M10 = upm M9 (c1 + 9) (tn u5) 0 → post x7 M10) ∧ (¬ (x7 ≤ (3 * a2)) → ∀ M11 : Mem, M11 = upm M (c1 + 6) (tn a1) ((M (c1 + 6) (tn a1)) + 1) → ∀ M12 : Mem, M12 = upm M11 (c1 + 9) (tn u5) ((M11 (c1 + 9) (tn u5)) - a2) → post a2 M12))) ∧ (¬ ((M (c1 + 10) (tn a1)) < 11) → ∀ M14 : Mem, M14 = upm M (c1 + 11) (tn a1) 1 → ∀ u16 : Int32, u16 = (if (M14 (c1 + 11) (tn a1)) = 0 then ((M14 (c1 + 10) (tn a1)) + 1) else ((M14 (c1 + 10) (tn a1)) - 1)) → vp_in u16 12 ∧ ∀ x18 : Int32, x18 = (M14 (c1 + 9) (tn u16)) → (((x18 ≤ (3 * a2)) → ∀ M20 : Mem, M20 = upm M14 (c1 + 10) (tn a1) u16 → ∀ M21 : Mem, M21 = upm M20 (c1 + 9) (tn u16) 0 → post x18 M21) ∧ (¬ (x18 ≤ (3 * a2)) → ∀ M22 : Mem, M22 = upm M14 (c1 + 6) (tn a1) ((M14 (c1 + 6) (tn a1)) + 1) → ∀ M23 : Mem, M23 = upm M22 (c1 + 9) (tn u16) ((M22 (c1 + 9) (tn u16)) - a2) → post a2 M23))))) ∧ (¬ (0 < (M (c1 + 10) (tn a1))) → ∀ M25 : Mem, M25 = upm M (c1 + 11) (tn a1) 0 → ∀ u27 : Int32, u27 = (if (M25 (c1 + 11) (tn a1)) = 0 then ((M25 (c1 + 10) (tn a1)) + 1) else ((M25 (c1 + 10) (tn a1)) - 1)) → vp_in u27 12 ∧ ∀ x29 : Int32, x29 = (M25 (c1 + 9) (tn u27)) → (((x29 ≤ (3 * a2)) → ∀ M31 : Mem, M31 = upm M25 (c1 + 10) (tn a1) u27 → ∀ M32 : Mem, M32 = upm M31 (c1 + 9) (tn u27) 0 → post x29 M32) ∧ (¬ (x29 ≤ (3 * a2)) → ∀ M33 : Mem, M33 = upm M25 (c1 + 6) (tn a1) ((M25 (c1 + 6) (tn a1)) + 1) → ∀ M34 : Mem, M34 = upm M33 (c1 + 9) (tn u27) ((M33 (c1 + 9) (tn u27)) - a2) → post a2 M34))))
set_option maxHeartbeats 4000000 in
set_option maxRecDepth 100000 in
theorem c_XW_ploughGoes (g : GX) {c1 : Nat} {a1 : Int32} {a2 : Int32} {M : Mem} {post : Int32 → Mem → Prop} (hc1 : c1 = 32 ∨ c1 = 44) (hw : wp_XW_ploughGoes c1 a1 a2 M post) : CtI (oX g) y_XW_ploughGoes prog_6_method_9_code 5 (some .int) (rl 0) [.ref (ax g c1), .int a1, .int a2] M post := by
  refine z_metI (oX_ok g) (by decide) rfl (fun X C hr => ?_)
  show Zj X 5 (oX g) M 0 [(0, .ref (ax g c1)), (1, .int a1), (2, .int a2)] []
  unfold wp_XW_ploughGoes at hw
  refine z_aload_n C d_XW_ploughGoes_0 rfl 0 rfl ?_
  refine gf_XW_43 hc1 C d_XW_ploughGoes_1 ?_
  refine z_iload_n C d_XW_ploughGoes_4 rfl 1 rfl ?_
  have hv1 := hw.1
  replace hw := hw.2
  refine z_al (zar_xW10 hc1) C hv1 d_XW_ploughGoes_5 ?_
  refine z_if_gt C 19 d_XW_ploughGoes_6 (by decide) (fun h2 => ?_) (fun h2 => ?_)
  · replace hw := hw.1 h2
    refine z_aload_n C d_XW_ploughGoes_19 rfl 0 rfl ?_
    refine gf_XW_43 hc1 C d_XW_ploughGoes_20 ?_
    refine z_iload_n C d_XW_ploughGoes_23 rfl 1 rfl ?_
    refine z_al (zar_xW10 hc1) C hv1 d_XW_ploughGoes_24 ?_
    refine z_bipush (v := 11) C d_XW_ploughGoes_25 (by decide) ?_
    refine z_ic_lt C 37 d_XW_ploughGoes_27 (by decide) (fun h3 => ?_) (fun h3 => ?_)
    · replace hw := hw.1 h3
      refine z_aload_n C d_XW_ploughGoes_37 rfl 0 rfl ?_
      refine gf_XW_46 hc1 C d_XW_ploughGoes_38 ?_
      refine z_iload_n C d_XW_ploughGoes_41 rfl 1 rfl ?_
      refine z_al (zar_xW11 hc1) C hv1 d_XW_ploughGoes_42 ?_
      have hj13 : ∀ u5 : Int32, u5 = (if (M (c1 + 11) (tn a1)) = 0 then ((M (c1 + 10) (tn a1)) + 1) else ((M (c1 + 10) (tn a1)) - 1)) → Zj X 5 (oX g) M 65 [(0, .ref (ax g c1)), (1, .int a1), (2, .int a2)] [.int u5] := by
        intro u5 hu5
        replace hw := hw u5 hu5
        refine z_istore_n (lv' := [(3, .int u5), (0, .ref (ax g c1)), (1, .int a1), (2, .int a2)]) C d_XW_ploughGoes_65 rfl rfl rfl ?_
        refine z_aload_n C d_XW_ploughGoes_66 rfl 1 rfl ?_
        refine gf_XW_40 hc1 C d_XW_ploughGoes_67 ?_
        refine z_iload_n C d_XW_ploughGoes_70 rfl 0 rfl ?_
        have hv6 := hw.1
        replace hw := hw.2
        refine z_al (zar_xW9 hc1) C hv6 d_XW_ploughGoes_71 ?_
        obtain ⟨x7, hx7⟩ : ∃ z : Int32, z = (M (c1 + 9) (tn u5)) := ⟨_, rfl⟩
        rw [← hx7]
        replace hw := hw x7 hx7
        refine z_istore (lv' := [(4, .int x7), (3, .int u5), (0, .ref (ax g c1)), (1, .int a1), (2, .int a2)]) C d_XW_ploughGoes_72 rfl rfl ?_
        refine z_iload C d_XW_ploughGoes_74 0 rfl ?_
        refine z_iconst (v := 3) C d_XW_ploughGoes_76 (by decide) ?_
        refine z_iload_n C d_XW_ploughGoes_77 rfl 4 rfl ?_
        refine z_imul C d_XW_ploughGoes_78 ?_
        refine z_ic_le C 104 d_XW_ploughGoes_79 (by decide) (fun h8 => ?_) (fun h8 => ?_)
        · replace hw := hw.1 h8
          refine z_aload_n C d_XW_ploughGoes_104 rfl 2 rfl ?_
          refine gf_XW_43 hc1 C d_XW_ploughGoes_105 ?_
          refine z_iload_n C d_XW_ploughGoes_108 rfl 3 rfl ?_
          refine z_iload_n C d_XW_ploughGoes_109 rfl 1 rfl ?_
          refine z_as (zar_xW10 hc1) C hv1 d_XW_ploughGoes_110 (fun M9 hM9 => ?_)
          replace hw := hw M9 hM9
          refine z_aload_n C d_XW_ploughGoes_111 rfl 2 rfl ?_
          refine gf_XW_40 hc1 C d_XW_ploughGoes_112 ?_
          refine z_iload_n C d_XW_ploughGoes_115 rfl 1 rfl ?_
          refine z_iconst (v := 0) C d_XW_ploughGoes_116 (by decide) ?_
          refine z_as (zar_xW9 hc1) C hv6 d_XW_ploughGoes_117 (fun M10 hM10 => ?_)
          replace hw := hw M10 hM10
          refine z_iload C d_XW_ploughGoes_118 0 rfl ?_
          exact z_iret C hr hw d_XW_ploughGoes_120
        · replace hw := hw.2 h8
          refine z_aload_n C d_XW_ploughGoes_82 rfl 2 rfl ?_
          refine gf_XW_27 hc1 C d_XW_ploughGoes_83 ?_
          refine z_iload_n C d_XW_ploughGoes_86 rfl 3 rfl ?_
          refine z_dup2 C d_XW_ploughGoes_87 rfl rfl ?_
          refine z_al (zar_xW6 hc1) C hv1 d_XW_ploughGoes_88 ?_
          refine z_iconst (v := 1) C d_XW_ploughGoes_89 (by decide) ?_
          refine z_iadd C d_XW_ploughGoes_90 ?_
          refine z_as (zar_xW6 hc1) C hv1 d_XW_ploughGoes_91 (fun M11 hM11 => ?_)
          replace hw := hw M11 hM11
          refine z_aload_n C d_XW_ploughGoes_92 rfl 2 rfl ?_
          refine gf_XW_40 hc1 C d_XW_ploughGoes_93 ?_
          refine z_iload_n C d_XW_ploughGoes_96 rfl 1 rfl ?_
          refine z_dup2 C d_XW_ploughGoes_97 rfl rfl ?_
          refine z_al (zar_xW9 hc1) C hv6 d_XW_ploughGoes_98 ?_
          refine z_iload_n C d_XW_ploughGoes_99 rfl 4 rfl ?_
          refine z_isub C d_XW_ploughGoes_100 ?_
          refine z_as (zar_xW9 hc1) C hv6 d_XW_ploughGoes_101 (fun M12 hM12 => ?_)
          replace hw := hw M12 hM12
          refine z_iload_n C d_XW_ploughGoes_102 rfl 4 rfl ?_
          exact z_iret C hr hw d_XW_ploughGoes_103
      refine z_if_ne C 57 d_XW_ploughGoes_43 (by decide) (fun h4 => ?_) (fun h4 => ?_)
      · refine z_aload_n C d_XW_ploughGoes_57 rfl 0 rfl ?_
        refine gf_XW_43 hc1 C d_XW_ploughGoes_58 ?_
        refine z_iload_n C d_XW_ploughGoes_61 rfl 1 rfl ?_
        refine z_al (zar_xW10 hc1) C hv1 d_XW_ploughGoes_62 ?_
        refine z_iconst (v := 1) C d_XW_ploughGoes_63 (by decide) ?_
        refine z_isub C d_XW_ploughGoes_64 ?_
        refine z_sub [0, 1, 2] rfl ?_
        exact hj13 _ ((if_neg h4)).symm
      · refine z_aload_n C d_XW_ploughGoes_46 rfl 0 rfl ?_
        refine gf_XW_43 hc1 C d_XW_ploughGoes_47 ?_
        refine z_iload_n C d_XW_ploughGoes_50 rfl 1 rfl ?_
        refine z_al (zar_xW10 hc1) C hv1 d_XW_ploughGoes_51 ?_
        refine z_iconst (v := 1) C d_XW_ploughGoes_52 (by decide) ?_
        refine z_iadd C d_XW_ploughGoes_53 ?_
        refine z_goto C 65 d_XW_ploughGoes_54 (by decide) ?_
        refine z_sub [0, 1, 2] rfl ?_
        exact hj13 _ ((if_pos h4)).symm
    · replace hw := hw.2 h3
      refine z_aload_n C d_XW_ploughGoes_30 rfl 0 rfl ?_
      refine gf_XW_46 hc1 C d_XW_ploughGoes_31 ?_
      refine z_iload_n C d_XW_ploughGoes_34 rfl 1 rfl ?_
      refine z_iconst (v := 1) C d_XW_ploughGoes_35 (by decide) ?_
      refine z_as (zar_xW11 hc1) C hv1 d_XW_ploughGoes_36 (fun M14 hM14 => ?_)
      replace hw := hw M14 hM14
      refine z_aload_n C d_XW_ploughGoes_37 rfl 0 rfl ?_
      refine gf_XW_46 hc1 C d_XW_ploughGoes_38 ?_
      refine z_iload_n C d_XW_ploughGoes_41 rfl 1 rfl ?_
      refine z_al (zar_xW11 hc1) C hv1 d_XW_ploughGoes_42 ?_
      have hj24 : ∀ u16 : Int32, u16 = (if (M14 (c1 + 11) (tn a1)) = 0 then ((M14 (c1 + 10) (tn a1)) + 1) else ((M14 (c1 + 10) (tn a1)) - 1)) → Zj X 5 (oX g) M14 65 [(0, .ref (ax g c1)), (1, .int a1), (2, .int a2)] [.int u16] := by
        intro u16 hu16
        replace hw := hw u16 hu16
        refine z_istore_n (lv' := [(3, .int u16), (0, .ref (ax g c1)), (1, .int a1), (2, .int a2)]) C d_XW_ploughGoes_65 rfl rfl rfl ?_
        refine z_aload_n C d_XW_ploughGoes_66 rfl 1 rfl ?_
        refine gf_XW_40 hc1 C d_XW_ploughGoes_67 ?_
        refine z_iload_n C d_XW_ploughGoes_70 rfl 0 rfl ?_
        have hv17 := hw.1
        replace hw := hw.2
        refine z_al (zar_xW9 hc1) C hv17 d_XW_ploughGoes_71 ?_
        obtain ⟨x18, hx18⟩ : ∃ z : Int32, z = (M14 (c1 + 9) (tn u16)) := ⟨_, rfl⟩
        rw [← hx18]
        replace hw := hw x18 hx18
        refine z_istore (lv' := [(4, .int x18), (3, .int u16), (0, .ref (ax g c1)), (1, .int a1), (2, .int a2)]) C d_XW_ploughGoes_72 rfl rfl ?_
        refine z_iload C d_XW_ploughGoes_74 0 rfl ?_
        refine z_iconst (v := 3) C d_XW_ploughGoes_76 (by decide) ?_
        refine z_iload_n C d_XW_ploughGoes_77 rfl 4 rfl ?_
        refine z_imul C d_XW_ploughGoes_78 ?_
        refine z_ic_le C 104 d_XW_ploughGoes_79 (by decide) (fun h19 => ?_) (fun h19 => ?_)
        · replace hw := hw.1 h19
          refine z_aload_n C d_XW_ploughGoes_104 rfl 2 rfl ?_
          refine gf_XW_43 hc1 C d_XW_ploughGoes_105 ?_
          refine z_iload_n C d_XW_ploughGoes_108 rfl 3 rfl ?_
          refine z_iload_n C d_XW_ploughGoes_109 rfl 1 rfl ?_
          refine z_as (zar_xW10 hc1) C hv1 d_XW_ploughGoes_110 (fun M20 hM20 => ?_)
          replace hw := hw M20 hM20
          refine z_aload_n C d_XW_ploughGoes_111 rfl 2 rfl ?_
          refine gf_XW_40 hc1 C d_XW_ploughGoes_112 ?_
          refine z_iload_n C d_XW_ploughGoes_115 rfl 1 rfl ?_
          refine z_iconst (v := 0) C d_XW_ploughGoes_116 (by decide) ?_
          refine z_as (zar_xW9 hc1) C hv17 d_XW_ploughGoes_117 (fun M21 hM21 => ?_)
          replace hw := hw M21 hM21
          refine z_iload C d_XW_ploughGoes_118 0 rfl ?_
          exact z_iret C hr hw d_XW_ploughGoes_120
        · replace hw := hw.2 h19
          refine z_aload_n C d_XW_ploughGoes_82 rfl 2 rfl ?_
          refine gf_XW_27 hc1 C d_XW_ploughGoes_83 ?_
          refine z_iload_n C d_XW_ploughGoes_86 rfl 3 rfl ?_
          refine z_dup2 C d_XW_ploughGoes_87 rfl rfl ?_
          refine z_al (zar_xW6 hc1) C hv1 d_XW_ploughGoes_88 ?_
          refine z_iconst (v := 1) C d_XW_ploughGoes_89 (by decide) ?_
          refine z_iadd C d_XW_ploughGoes_90 ?_
          refine z_as (zar_xW6 hc1) C hv1 d_XW_ploughGoes_91 (fun M22 hM22 => ?_)
          replace hw := hw M22 hM22
          refine z_aload_n C d_XW_ploughGoes_92 rfl 2 rfl ?_
          refine gf_XW_40 hc1 C d_XW_ploughGoes_93 ?_
          refine z_iload_n C d_XW_ploughGoes_96 rfl 1 rfl ?_
          refine z_dup2 C d_XW_ploughGoes_97 rfl rfl ?_
          refine z_al (zar_xW9 hc1) C hv17 d_XW_ploughGoes_98 ?_
          refine z_iload_n C d_XW_ploughGoes_99 rfl 4 rfl ?_
          refine z_isub C d_XW_ploughGoes_100 ?_
          refine z_as (zar_xW9 hc1) C hv17 d_XW_ploughGoes_101 (fun M23 hM23 => ?_)
          replace hw := hw M23 hM23
          refine z_iload_n C d_XW_ploughGoes_102 rfl 4 rfl ?_
          exact z_iret C hr hw d_XW_ploughGoes_103
      refine z_if_ne C 57 d_XW_ploughGoes_43 (by decide) (fun h15 => ?_) (fun h15 => ?_)
      · refine z_aload_n C d_XW_ploughGoes_57 rfl 0 rfl ?_
        refine gf_XW_43 hc1 C d_XW_ploughGoes_58 ?_
        refine z_iload_n C d_XW_ploughGoes_61 rfl 1 rfl ?_
        refine z_al (zar_xW10 hc1) C hv1 d_XW_ploughGoes_62 ?_
        refine z_iconst (v := 1) C d_XW_ploughGoes_63 (by decide) ?_
        refine z_isub C d_XW_ploughGoes_64 ?_
        refine z_sub [0, 1, 2] rfl ?_
        exact hj24 _ ((if_neg h15)).symm
      · refine z_aload_n C d_XW_ploughGoes_46 rfl 0 rfl ?_
        refine gf_XW_43 hc1 C d_XW_ploughGoes_47 ?_
        refine z_iload_n C d_XW_ploughGoes_50 rfl 1 rfl ?_
        refine z_al (zar_xW10 hc1) C hv1 d_XW_ploughGoes_51 ?_
        refine z_iconst (v := 1) C d_XW_ploughGoes_52 (by decide) ?_
        refine z_iadd C d_XW_ploughGoes_53 ?_
        refine z_goto C 65 d_XW_ploughGoes_54 (by decide) ?_
        refine z_sub [0, 1, 2] rfl ?_
        exact hj24 _ ((if_pos h15)).symm
  · replace hw := hw.2 h2
    refine z_aload_n C d_XW_ploughGoes_9 rfl 0 rfl ?_
    refine gf_XW_46 hc1 C d_XW_ploughGoes_10 ?_
    refine z_iload_n C d_XW_ploughGoes_13 rfl 1 rfl ?_
    refine z_iconst (v := 0) C d_XW_ploughGoes_14 (by decide) ?_
    refine z_as (zar_xW11 hc1) C hv1 d_XW_ploughGoes_15 (fun M25 hM25 => ?_)
    replace hw := hw M25 hM25
    refine z_goto C 37 d_XW_ploughGoes_16 (by decide) ?_
    refine z_aload_n C d_XW_ploughGoes_37 rfl 0 rfl ?_
    refine gf_XW_46 hc1 C d_XW_ploughGoes_38 ?_
    refine z_iload_n C d_XW_ploughGoes_41 rfl 1 rfl ?_
    refine z_al (zar_xW11 hc1) C hv1 d_XW_ploughGoes_42 ?_
    have hj35 : ∀ u27 : Int32, u27 = (if (M25 (c1 + 11) (tn a1)) = 0 then ((M25 (c1 + 10) (tn a1)) + 1) else ((M25 (c1 + 10) (tn a1)) - 1)) → Zj X 5 (oX g) M25 65 [(0, .ref (ax g c1)), (1, .int a1), (2, .int a2)] [.int u27] := by
      intro u27 hu27
      replace hw := hw u27 hu27
      refine z_istore_n (lv' := [(3, .int u27), (0, .ref (ax g c1)), (1, .int a1), (2, .int a2)]) C d_XW_ploughGoes_65 rfl rfl rfl ?_
      refine z_aload_n C d_XW_ploughGoes_66 rfl 1 rfl ?_
      refine gf_XW_40 hc1 C d_XW_ploughGoes_67 ?_
      refine z_iload_n C d_XW_ploughGoes_70 rfl 0 rfl ?_
      have hv28 := hw.1
      replace hw := hw.2
      refine z_al (zar_xW9 hc1) C hv28 d_XW_ploughGoes_71 ?_
      obtain ⟨x29, hx29⟩ : ∃ z : Int32, z = (M25 (c1 + 9) (tn u27)) := ⟨_, rfl⟩
      rw [← hx29]
      replace hw := hw x29 hx29
      refine z_istore (lv' := [(4, .int x29), (3, .int u27), (0, .ref (ax g c1)), (1, .int a1), (2, .int a2)]) C d_XW_ploughGoes_72 rfl rfl ?_
      refine z_iload C d_XW_ploughGoes_74 0 rfl ?_
      refine z_iconst (v := 3) C d_XW_ploughGoes_76 (by decide) ?_
      refine z_iload_n C d_XW_ploughGoes_77 rfl 4 rfl ?_
      refine z_imul C d_XW_ploughGoes_78 ?_
      refine z_ic_le C 104 d_XW_ploughGoes_79 (by decide) (fun h30 => ?_) (fun h30 => ?_)
      · replace hw := hw.1 h30
        refine z_aload_n C d_XW_ploughGoes_104 rfl 2 rfl ?_
        refine gf_XW_43 hc1 C d_XW_ploughGoes_105 ?_
        refine z_iload_n C d_XW_ploughGoes_108 rfl 3 rfl ?_
        refine z_iload_n C d_XW_ploughGoes_109 rfl 1 rfl ?_
        refine z_as (zar_xW10 hc1) C hv1 d_XW_ploughGoes_110 (fun M31 hM31 => ?_)
        replace hw := hw M31 hM31
        refine z_aload_n C d_XW_ploughGoes_111 rfl 2 rfl ?_
        refine gf_XW_40 hc1 C d_XW_ploughGoes_112 ?_
        refine z_iload_n C d_XW_ploughGoes_115 rfl 1 rfl ?_
        refine z_iconst (v := 0) C d_XW_ploughGoes_116 (by decide) ?_
        refine z_as (zar_xW9 hc1) C hv28 d_XW_ploughGoes_117 (fun M32 hM32 => ?_)
        replace hw := hw M32 hM32
        refine z_iload C d_XW_ploughGoes_118 0 rfl ?_
        exact z_iret C hr hw d_XW_ploughGoes_120
      · replace hw := hw.2 h30
        refine z_aload_n C d_XW_ploughGoes_82 rfl 2 rfl ?_
        refine gf_XW_27 hc1 C d_XW_ploughGoes_83 ?_
        refine z_iload_n C d_XW_ploughGoes_86 rfl 3 rfl ?_
        refine z_dup2 C d_XW_ploughGoes_87 rfl rfl ?_
        refine z_al (zar_xW6 hc1) C hv1 d_XW_ploughGoes_88 ?_
        refine z_iconst (v := 1) C d_XW_ploughGoes_89 (by decide) ?_
        refine z_iadd C d_XW_ploughGoes_90 ?_
        refine z_as (zar_xW6 hc1) C hv1 d_XW_ploughGoes_91 (fun M33 hM33 => ?_)
        replace hw := hw M33 hM33
        refine z_aload_n C d_XW_ploughGoes_92 rfl 2 rfl ?_
        refine gf_XW_40 hc1 C d_XW_ploughGoes_93 ?_
        refine z_iload_n C d_XW_ploughGoes_96 rfl 1 rfl ?_
        refine z_dup2 C d_XW_ploughGoes_97 rfl rfl ?_
        refine z_al (zar_xW9 hc1) C hv28 d_XW_ploughGoes_98 ?_
        refine z_iload_n C d_XW_ploughGoes_99 rfl 4 rfl ?_
        refine z_isub C d_XW_ploughGoes_100 ?_
        refine z_as (zar_xW9 hc1) C hv28 d_XW_ploughGoes_101 (fun M34 hM34 => ?_)
        replace hw := hw M34 hM34
        refine z_iload_n C d_XW_ploughGoes_102 rfl 4 rfl ?_
        exact z_iret C hr hw d_XW_ploughGoes_103
    refine z_if_ne C 57 d_XW_ploughGoes_43 (by decide) (fun h26 => ?_) (fun h26 => ?_)
    · refine z_aload_n C d_XW_ploughGoes_57 rfl 0 rfl ?_
      refine gf_XW_43 hc1 C d_XW_ploughGoes_58 ?_
      refine z_iload_n C d_XW_ploughGoes_61 rfl 1 rfl ?_
      refine z_al (zar_xW10 hc1) C hv1 d_XW_ploughGoes_62 ?_
      refine z_iconst (v := 1) C d_XW_ploughGoes_63 (by decide) ?_
      refine z_isub C d_XW_ploughGoes_64 ?_
      refine z_sub [0, 1, 2] rfl ?_
      exact hj35 _ ((if_neg h26)).symm
    · refine z_aload_n C d_XW_ploughGoes_46 rfl 0 rfl ?_
      refine gf_XW_43 hc1 C d_XW_ploughGoes_47 ?_
      refine z_iload_n C d_XW_ploughGoes_50 rfl 1 rfl ?_
      refine z_al (zar_xW10 hc1) C hv1 d_XW_ploughGoes_51 ?_
      refine z_iconst (v := 1) C d_XW_ploughGoes_52 (by decide) ?_
      refine z_iadd C d_XW_ploughGoes_53 ?_
      refine z_goto C 65 d_XW_ploughGoes_54 (by decide) ?_
      refine z_sub [0, 1, 2] rfl ?_
      exact hj35 _ ((if_pos h26)).symm
theorem d_XW_rideOn_0 : decode prog_6_method_11_code 0 = .ok (.iload_n 1, 1) := by decide +kernel
theorem d_XW_rideOn_1 : decode prog_6_method_11_code 1 = .ok (.istore_n 3, 1) := by decide +kernel
theorem d_XW_rideOn_2 : decode prog_6_method_11_code 2 = .ok (.iconst 0, 1) := by decide +kernel
theorem d_XW_rideOn_3 : decode prog_6_method_11_code 3 = .ok (.istore 4, 2) := by decide +kernel
theorem d_XW_rideOn_5 : decode prog_6_method_11_code 5 = .ok (.iload 4, 2) := by decide +kernel
theorem d_XW_rideOn_7 : decode prog_6_method_11_code 7 = .ok (.iconst 3, 1) := by decide +kernel
theorem d_XW_rideOn_8 : decode prog_6_method_11_code 8 = .ok (.if_icmp .ge (38), 3) := by decide +kernel
theorem d_XW_rideOn_11 : decode prog_6_method_11_code 11 = .ok (.iload_n 3, 1) := by decide +kernel
theorem d_XW_rideOn_12 : decode prog_6_method_11_code 12 = .ok (.bipush 11, 2) := by decide +kernel
theorem d_XW_rideOn_14 : decode prog_6_method_11_code 14 = .ok (.if_icmp .ge (32), 3) := by decide +kernel
theorem d_XW_rideOn_17 : decode prog_6_method_11_code 17 = .ok (.aload_n 0, 1) := by decide +kernel
theorem d_XW_rideOn_18 : decode prog_6_method_11_code 18 = .ok (.getfield 9, 3) := by decide +kernel
theorem d_XW_rideOn_21 : decode prog_6_method_11_code 21 = .ok (.iload_n 2, 1) := by decide +kernel
theorem d_XW_rideOn_22 : decode prog_6_method_11_code 22 = .ok (.bipush 12, 2) := by decide +kernel
theorem d_XW_rideOn_24 : decode prog_6_method_11_code 24 = .ok (.imul, 1) := by decide +kernel
theorem d_XW_rideOn_25 : decode prog_6_method_11_code 25 = .ok (.iload_n 3, 1) := by decide +kernel
theorem d_XW_rideOn_26 : decode prog_6_method_11_code 26 = .ok (.iadd, 1) := by decide +kernel
theorem d_XW_rideOn_27 : decode prog_6_method_11_code 27 = .ok (.iconst 1, 1) := by decide +kernel
theorem d_XW_rideOn_28 : decode prog_6_method_11_code 28 = .ok (.iadd, 1) := by decide +kernel
theorem d_XW_rideOn_29 : decode prog_6_method_11_code 29 = .ok (.iaload, 1) := by decide +kernel
theorem d_XW_rideOn_30 : decode prog_6_method_11_code 30 = .ok (.iconst 4, 1) := by decide +kernel
theorem d_XW_rideOn_31 : decode prog_6_method_11_code 31 = .ok (.if_icmp .le (6), 3) := by decide +kernel
theorem d_XW_rideOn_34 : decode prog_6_method_11_code 34 = .ok (.goto (12), 3) := by decide +kernel
theorem d_XW_rideOn_37 : decode prog_6_method_11_code 37 = .ok (.iinc 3 1, 3) := by decide +kernel
theorem d_XW_rideOn_40 : decode prog_6_method_11_code 40 = .ok (.iinc 4 1, 3) := by decide +kernel
theorem d_XW_rideOn_43 : decode prog_6_method_11_code 43 = .ok (.goto (-38), 3) := by decide +kernel
theorem d_XW_rideOn_46 : decode prog_6_method_11_code 46 = .ok (.iload_n 3, 1) := by decide +kernel
theorem d_XW_rideOn_47 : decode prog_6_method_11_code 47 = .ok (.ireturn, 1) := by decide +kernel
def wp_XW_rideOn (c1 : Nat) (a1 : Int32) (a2 : Int32) (M : Mem) (post : Int32 → Prop) : Prop :=
  (it2 (fun rec1 (i3 : Int32) (i4 : Int32) => (((3 ≤ i4) → post i3) ∧ (¬ (3 ≤ i4) → (((11 ≤ i3) → post i3) ∧ (¬ (11 ≤ i3) → vp_in (((a2 * 12) + i3) + 1) 288 ∧ ((((M (c1 + 1) (tn (((a2 * 12) + i3) + 1))) ≤ 4) → rec1 (i3 + 1) (i4 + 1)) ∧ (¬ ((M (c1 + 1) (tn (((a2 * 12) + i3) + 1))) ≤ 4) → post i3))))))) 4096 a1 0)
set_option maxHeartbeats 4000000 in
set_option maxRecDepth 100000 in
theorem c_XW_rideOn (g : GX) {c1 : Nat} {a1 : Int32} {a2 : Int32} {M : Mem} {post : Int32 → Prop} (hc1 : c1 = 32 ∨ c1 = 44) (hw : wp_XW_rideOn c1 a1 a2 M post) : CtI (oX g) y_XW_rideOn prog_6_method_11_code 5 (some .int) (rl 0) [.ref (ax g c1), .int a1, .int a2] M (fun r M2 => M = M2 ∧ post r) := by
  refine z_metI (oX_ok g) (by decide) rfl (fun X C hr => ?_)
  show Zj X 5 (oX g) M 0 [(0, .ref (ax g c1)), (1, .int a1), (2, .int a2)] []
  unfold wp_XW_rideOn at hw
  refine z_iload_n C d_XW_rideOn_0 rfl 1 rfl ?_
  refine z_istore_n (lv' := [(3, .int a1), (0, .ref (ax g c1)), (1, .int a1), (2, .int a2)]) C d_XW_rideOn_1 rfl rfl rfl ?_
  refine z_iconst (v := 0) C d_XW_rideOn_2 (by decide) ?_
  refine z_istore (lv' := [(4, .int 0), (3, .int a1), (0, .ref (ax g c1)), (1, .int a1), (2, .int a2)]) C d_XW_rideOn_3 rfl rfl ?_
  refine z_sub [2, 4, 1, 0] rfl ?_
  refine it2_Z (Z := fun (i3 : Int32) (i4 : Int32) => Zj X 5 (oX g) M 5 [(0, .ref (ax g c1)), (2, .int a2), (3, .int i3), (4, .int i4)] []) (fun rec1 ih2 i3 i4 hw => ?_) _ _ _ hw
  refine z_iload C d_XW_rideOn_5 3 rfl ?_
  refine z_iconst (v := 3) C d_XW_rideOn_7 (by decide) ?_
  refine z_ic_ge C 46 d_XW_rideOn_8 (by decide) (fun h5 => ?_) (fun h5 => ?_)
  · replace hw := hw.1 h5
    refine z_iload_n C d_XW_rideOn_46 rfl 2 rfl ?_
    exact z_iret C hr ⟨rfl, hw⟩ d_XW_rideOn_47
  · replace hw := hw.2 h5
    refine z_iload_n C d_XW_rideOn_11 rfl 2 rfl ?_
    refine z_bipush (v := 11) C d_XW_rideOn_12 (by decide) ?_
    refine z_ic_ge C 46 d_XW_rideOn_14 (by decide) (fun h6 => ?_) (fun h6 => ?_)
    · replace hw := hw.1 h6
      refine z_iload_n C d_XW_rideOn_46 rfl 2 rfl ?_
      exact z_iret C hr ⟨rfl, hw⟩ d_XW_rideOn_47
    · replace hw := hw.2 h6
      refine z_aload_n C d_XW_rideOn_17 rfl 0 rfl ?_
      refine gf_XW_9 hc1 C d_XW_rideOn_18 ?_
      refine z_iload_n C d_XW_rideOn_21 rfl 1 rfl ?_
      refine z_bipush (v := 12) C d_XW_rideOn_22 (by decide) ?_
      refine z_imul C d_XW_rideOn_24 ?_
      refine z_iload_n C d_XW_rideOn_25 rfl 2 rfl ?_
      refine z_iadd C d_XW_rideOn_26 ?_
      refine z_iconst (v := 1) C d_XW_rideOn_27 (by decide) ?_
      refine z_iadd C d_XW_rideOn_28 ?_
      have hv7 := hw.1
      replace hw := hw.2
      refine z_al (zar_xW1 hc1) C hv7 d_XW_rideOn_29 ?_
      refine z_iconst (v := 4) C d_XW_rideOn_30 (by decide) ?_
      refine z_ic_le C 37 d_XW_rideOn_31 (by decide) (fun h8 => ?_) (fun h8 => ?_)
      · replace hw := hw.1 h8
        refine z_iinc (v := (i3 + 1)) (lv' := [(3, .int (i3 + 1)), (0, .ref (ax g c1)), (2, .int a2), (4, .int i4)]) C d_XW_rideOn_37 2 rfl rfl rfl rfl ?_
        refine z_iinc (v := (i4 + 1)) (lv' := [(4, .int (i4 + 1)), (3, .int (i3 + 1)), (0, .ref (ax g c1)), (2, .int a2)]) C d_XW_rideOn_40 3 rfl rfl rfl rfl ?_
        refine z_goto C 5 d_XW_rideOn_43 (by decide) ?_
        refine z_sub [2, 3, 1, 0] rfl ?_
        exact ih2 _ _ hw
      · replace hw := hw.2 h8
        refine z_goto C 46 d_XW_rideOn_34 (by decide) ?_
        refine z_iload_n C d_XW_rideOn_46 rfl 2 rfl ?_
        exact z_iret C hr ⟨rfl, hw⟩ d_XW_rideOn_47
theorem d_XW_snowBehind_0 : decode prog_6_method_13_code 0 = .ok (.iconst 0, 1) := by decide +kernel
theorem d_XW_snowBehind_1 : decode prog_6_method_13_code 1 = .ok (.istore_n 2, 1) := by decide +kernel
theorem d_XW_snowBehind_2 : decode prog_6_method_13_code 2 = .ok (.iconst 0, 1) := by decide +kernel
theorem d_XW_snowBehind_3 : decode prog_6_method_13_code 3 = .ok (.istore_n 3, 1) := by decide +kernel
theorem d_XW_snowBehind_4 : decode prog_6_method_13_code 4 = .ok (.iload_n 3, 1) := by decide +kernel
theorem d_XW_snowBehind_5 : decode prog_6_method_13_code 5 = .ok (.bipush 12, 2) := by decide +kernel
theorem d_XW_snowBehind_7 : decode prog_6_method_13_code 7 = .ok (.if_icmp .ge (23), 3) := by decide +kernel
theorem d_XW_snowBehind_10 : decode prog_6_method_13_code 10 = .ok (.iload_n 2, 1) := by decide +kernel
theorem d_XW_snowBehind_11 : decode prog_6_method_13_code 11 = .ok (.aload_n 0, 1) := by decide +kernel
theorem d_XW_snowBehind_12 : decode prog_6_method_13_code 12 = .ok (.getfield 9, 3) := by decide +kernel
theorem d_XW_snowBehind_15 : decode prog_6_method_13_code 15 = .ok (.iload_n 1, 1) := by decide +kernel
theorem d_XW_snowBehind_16 : decode prog_6_method_13_code 16 = .ok (.bipush 12, 2) := by decide +kernel
theorem d_XW_snowBehind_18 : decode prog_6_method_13_code 18 = .ok (.imul, 1) := by decide +kernel
theorem d_XW_snowBehind_19 : decode prog_6_method_13_code 19 = .ok (.iload_n 3, 1) := by decide +kernel
theorem d_XW_snowBehind_20 : decode prog_6_method_13_code 20 = .ok (.iadd, 1) := by decide +kernel
theorem d_XW_snowBehind_21 : decode prog_6_method_13_code 21 = .ok (.iaload, 1) := by decide +kernel
theorem d_XW_snowBehind_22 : decode prog_6_method_13_code 22 = .ok (.iadd, 1) := by decide +kernel
theorem d_XW_snowBehind_23 : decode prog_6_method_13_code 23 = .ok (.istore_n 2, 1) := by decide +kernel
theorem d_XW_snowBehind_24 : decode prog_6_method_13_code 24 = .ok (.iinc 3 1, 3) := by decide +kernel
theorem d_XW_snowBehind_27 : decode prog_6_method_13_code 27 = .ok (.goto (-23), 3) := by decide +kernel
theorem d_XW_snowBehind_30 : decode prog_6_method_13_code 30 = .ok (.iload_n 2, 1) := by decide +kernel
theorem d_XW_snowBehind_31 : decode prog_6_method_13_code 31 = .ok (.ireturn, 1) := by decide +kernel
def wp_XW_snowBehind (c1 : Nat) (a1 : Int32) (M : Mem) (post : Int32 → Prop) : Prop :=
  (it2 (fun rec1 (i3 : Int32) (i4 : Int32) => (((12 ≤ i4) → post i3) ∧ (¬ (12 ≤ i4) → vp_in ((a1 * 12) + i4) 288 ∧ ∀ x7 : Int32, x7 = (i3 + (M (c1 + 1) (tn ((a1 * 12) + i4)))) → rec1 x7 (i4 + 1)))) 4096 0 0)
set_option maxHeartbeats 4000000 in
set_option maxRecDepth 100000 in
theorem c_XW_snowBehind (g : GX) {c1 : Nat} {a1 : Int32} {M : Mem} {post : Int32 → Prop} (hc1 : c1 = 32 ∨ c1 = 44) (hw : wp_XW_snowBehind c1 a1 M post) : CtI (oX g) y_XW_snowBehind prog_6_method_13_code 4 (some .int) (rl 0) [.ref (ax g c1), .int a1] M (fun r M2 => M = M2 ∧ post r) := by
  refine z_metI (oX_ok g) (by decide) rfl (fun X C hr => ?_)
  show Zj X 4 (oX g) M 0 [(0, .ref (ax g c1)), (1, .int a1)] []
  unfold wp_XW_snowBehind at hw
  refine z_iconst (v := 0) C d_XW_snowBehind_0 (by decide) ?_
  refine z_istore_n (lv' := [(2, .int 0), (0, .ref (ax g c1)), (1, .int a1)]) C d_XW_snowBehind_1 rfl rfl rfl ?_
  refine z_iconst (v := 0) C d_XW_snowBehind_2 (by decide) ?_
  refine z_istore_n (lv' := [(3, .int 0), (2, .int 0), (0, .ref (ax g c1)), (1, .int a1)]) C d_XW_snowBehind_3 rfl rfl rfl ?_
  refine z_sub [2, 3, 1, 0] rfl ?_
  refine it2_Z (Z := fun (i3 : Int32) (i4 : Int32) => Zj X 4 (oX g) M 4 [(0, .ref (ax g c1)), (1, .int a1), (2, .int i3), (3, .int i4)] []) (fun rec1 ih2 i3 i4 hw => ?_) _ _ _ hw
  refine z_iload_n C d_XW_snowBehind_4 rfl 3 rfl ?_
  refine z_bipush (v := 12) C d_XW_snowBehind_5 (by decide) ?_
  refine z_ic_ge C 30 d_XW_snowBehind_7 (by decide) (fun h5 => ?_) (fun h5 => ?_)
  · replace hw := hw.1 h5
    refine z_iload_n C d_XW_snowBehind_30 rfl 2 rfl ?_
    exact z_iret C hr ⟨rfl, hw⟩ d_XW_snowBehind_31
  · replace hw := hw.2 h5
    refine z_iload_n C d_XW_snowBehind_10 rfl 2 rfl ?_
    refine z_aload_n C d_XW_snowBehind_11 rfl 0 rfl ?_
    refine gf_XW_9 hc1 C d_XW_snowBehind_12 ?_
    refine z_iload_n C d_XW_snowBehind_15 rfl 1 rfl ?_
    refine z_bipush (v := 12) C d_XW_snowBehind_16 (by decide) ?_
    refine z_imul C d_XW_snowBehind_18 ?_
    refine z_iload_n C d_XW_snowBehind_19 rfl 3 rfl ?_
    refine z_iadd C d_XW_snowBehind_20 ?_
    have hv6 := hw.1
    replace hw := hw.2
    refine z_al (zar_xW1 hc1) C hv6 d_XW_snowBehind_21 ?_
    refine z_iadd C d_XW_snowBehind_22 ?_
    obtain ⟨x7, hx7⟩ : ∃ z : Int32, z = (i3 + (M (c1 + 1) (tn ((a1 * 12) + i4)))) := ⟨_, rfl⟩
    rw [← hx7]
    replace hw := hw x7 hx7
    refine z_istore_n (lv' := [(2, .int x7), (0, .ref (ax g c1)), (1, .int a1), (3, .int i4)]) C d_XW_snowBehind_23 rfl rfl rfl ?_
    refine z_iinc (v := (i4 + 1)) (lv' := [(3, .int (i4 + 1)), (2, .int x7), (0, .ref (ax g c1)), (1, .int a1)]) C d_XW_snowBehind_24 3 rfl rfl rfl rfl ?_
    refine z_goto C 4 d_XW_snowBehind_27 (by decide) ?_
    refine z_sub [2, 3, 1, 0] rfl ?_
    exact ih2 _ _ hw
