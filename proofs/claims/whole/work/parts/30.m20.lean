theorem d_XO_takeLand_0 : decode prog_5_method_2_code 0 = .ok (.aload_n 1, 1) := by decide +kernel
theorem d_XO_takeLand_1 : decode prog_5_method_2_code 1 = .ok (.invokevirtual 52, 3) := by decide +kernel
theorem d_XO_takeLand_4 : decode prog_5_method_2_code 4 = .ok (.istore_n 2, 1) := by decide +kernel
theorem d_XO_takeLand_5 : decode prog_5_method_2_code 5 = .ok (.iconst 0, 1) := by decide +kernel
theorem d_XO_takeLand_6 : decode prog_5_method_2_code 6 = .ok (.istore_n 3, 1) := by decide +kernel
theorem d_XO_takeLand_7 : decode prog_5_method_2_code 7 = .ok (.iload_n 3, 1) := by decide +kernel
theorem d_XO_takeLand_8 : decode prog_5_method_2_code 8 = .ok (.bipush 12, 2) := by decide +kernel
theorem d_XO_takeLand_10 : decode prog_5_method_2_code 10 = .ok (.if_icmp .ge (56), 3) := by decide +kernel
theorem d_XO_takeLand_13 : decode prog_5_method_2_code 13 = .ok (.iload_n 3, 1) := by decide +kernel
theorem d_XO_takeLand_14 : decode prog_5_method_2_code 14 = .ok (.iload_n 2, 1) := by decide +kernel
theorem d_XO_takeLand_15 : decode prog_5_method_2_code 15 = .ok (.if_icmp .ge (12), 3) := by decide +kernel
theorem d_XO_takeLand_18 : decode prog_5_method_2_code 18 = .ok (.aload_n 1, 1) := by decide +kernel
theorem d_XO_takeLand_19 : decode prog_5_method_2_code 19 = .ok (.getfield 58, 3) := by decide +kernel
theorem d_XO_takeLand_22 : decode prog_5_method_2_code 22 = .ok (.iload_n 3, 1) := by decide +kernel
theorem d_XO_takeLand_23 : decode prog_5_method_2_code 23 = .ok (.iaload, 1) := by decide +kernel
theorem d_XO_takeLand_24 : decode prog_5_method_2_code 24 = .ok (.goto (5), 3) := by decide +kernel
theorem d_XO_takeLand_27 : decode prog_5_method_2_code 27 = .ok (.bipush 111, 2) := by decide +kernel
theorem d_XO_takeLand_29 : decode prog_5_method_2_code 29 = .ok (.istore 4, 2) := by decide +kernel
theorem d_XO_takeLand_31 : decode prog_5_method_2_code 31 = .ok (.aload_n 0, 1) := by decide +kernel
theorem d_XO_takeLand_32 : decode prog_5_method_2_code 32 = .ok (.getfield 9, 3) := by decide +kernel
theorem d_XO_takeLand_35 : decode prog_5_method_2_code 35 = .ok (.iload_n 3, 1) := by decide +kernel
theorem d_XO_takeLand_36 : decode prog_5_method_2_code 36 = .ok (.iload 4, 2) := by decide +kernel
theorem d_XO_takeLand_38 : decode prog_5_method_2_code 38 = .ok (.bipush 111, 2) := by decide +kernel
theorem d_XO_takeLand_40 : decode prog_5_method_2_code 40 = .ok (.if_icmp .ne (7), 3) := by decide +kernel
theorem d_XO_takeLand_43 : decode prog_5_method_2_code 43 = .ok (.iconst 0, 1) := by decide +kernel
theorem d_XO_takeLand_44 : decode prog_5_method_2_code 44 = .ok (.goto (15), 3) := by decide +kernel
theorem d_XO_takeLand_47 : decode prog_5_method_2_code 47 = .ok (.iload 4, 2) := by decide +kernel
theorem d_XO_takeLand_49 : decode prog_5_method_2_code 49 = .ok (.bipush 104, 2) := by decide +kernel
theorem d_XO_takeLand_51 : decode prog_5_method_2_code 51 = .ok (.if_icmp .ne (7), 3) := by decide +kernel
theorem d_XO_takeLand_54 : decode prog_5_method_2_code 54 = .ok (.iconst 1, 1) := by decide +kernel
theorem d_XO_takeLand_55 : decode prog_5_method_2_code 55 = .ok (.goto (4), 3) := by decide +kernel
theorem d_XO_takeLand_58 : decode prog_5_method_2_code 58 = .ok (.iconst 2, 1) := by decide +kernel
theorem d_XO_takeLand_59 : decode prog_5_method_2_code 59 = .ok (.iastore, 1) := by decide +kernel
theorem d_XO_takeLand_60 : decode prog_5_method_2_code 60 = .ok (.iinc 3 1, 3) := by decide +kernel
theorem d_XO_takeLand_63 : decode prog_5_method_2_code 63 = .ok (.goto (-56), 3) := by decide +kernel
theorem d_XO_takeLand_66 : decode prog_5_method_2_code 66 = .ok (.return_, 1) := by decide +kernel
def wp_XO_takeLand (c1 : Nat) (M : Mem) (post : Mem → Prop) : Prop :=
  wp_XT_meant c1 M (fun r1 => (it2 (fun rec2 (i4 : Int32) (M5 : Mem) => (((12 ≤ i4) → post M5) ∧ (¬ (12 ≤ i4) → (((r1 ≤ i4) → True) ∧ (¬ (r1 ≤ i4) → (vp_in i4 (tlen c1)))) ∧ (∀ u9 : Int32, u9 = (if r1 ≤ i4 then 111 else (M5 (3 + 2 * c1) (tn i4))) → ∀ u12 : Int32, u12 = (if u9 = 111 then 0 else (if u9 = 104 then 1 else 2)) → vp_in i4 12 ∧ ∀ M13 : Mem, M13 = upm M5 11 (tn i4) u12 → rec2 (i4 + 1) M13)))) 4096 0 M))
set_option maxHeartbeats 4000000 in
set_option maxRecDepth 100000 in
theorem c_XO_takeLand (g : GX) {c1 : Nat} {M : Mem} {post : Mem → Prop} (hc1 : c1 < 4) (hw : wp_XO_takeLand c1 M post) : CtV (oX g) y_XO_takeLand prog_5_method_2_code 5 none (rl 4) [.ref (ax g 10), .ref (ax g (2 + 2 * c1))] M post := by
  refine z_metV (oX_ok g) (by decide) rfl (fun X C hr => ?_)
  show Zj X 5 (oX g) M 0 [(0, .ref (ax g 10)), (1, .ref (ax g (2 + 2 * c1)))] []
  unfold wp_XO_takeLand at hw
  refine z_aload_n C d_XO_takeLand_0 rfl 1 rfl ?_
  refine z_callVi C (As := []) (rest := []) m_XT_meant tw_266 (2 + 2 * c1) (le_XT hc1) rfl ⟨rfl, rfl⟩ (c_XT_meant g hc1 hw) rfl rfl rfl d_XO_takeLand_1 (fun r1 M2 hq => ?_)
  obtain ⟨rfl, hw⟩ := hq
  refine z_istore_n (lv' := [(2, .int r1), (0, .ref (ax g 10)), (1, .ref (ax g (2 + 2 * c1)))]) C d_XO_takeLand_4 rfl rfl rfl ?_
  refine z_iconst (v := 0) C d_XO_takeLand_5 (by decide) ?_
  refine z_istore_n (lv' := [(3, .int 0), (2, .int r1), (0, .ref (ax g 10)), (1, .ref (ax g (2 + 2 * c1)))]) C d_XO_takeLand_6 rfl rfl rfl ?_
  refine z_sub [2, 3, 1, 0] rfl ?_
  refine it2_Z (Z := fun (i4 : Int32) (M5 : Mem) => Zj X 5 (oX g) M5 7 [(0, .ref (ax g 10)), (1, .ref (ax g (2 + 2 * c1))), (2, .int r1), (3, .int i4)] []) (fun rec2 ih3 i4 M5 hw => ?_) _ _ _ hw
  refine z_iload_n C d_XO_takeLand_7 rfl 3 rfl ?_
  refine z_bipush (v := 12) C d_XO_takeLand_8 (by decide) ?_
  refine z_ic_ge C 66 d_XO_takeLand_10 (by decide) (fun h6 => ?_) (fun h6 => ?_)
  · replace hw := hw.1 h6
    exact z_vret C hr hw d_XO_takeLand_66
  · replace hw := hw.2 h6
    refine z_iload_n C d_XO_takeLand_13 rfl 3 rfl ?_
    refine z_iload_n C d_XO_takeLand_14 rfl 2 rfl ?_
    have hj16 : ∀ u9 : Int32, u9 = (if r1 ≤ i4 then 111 else (M5 (3 + 2 * c1) (tn i4))) → Zj X 5 (oX g) M5 29 [(0, .ref (ax g 10)), (1, .ref (ax g (2 + 2 * c1))), (2, .int r1), (3, .int i4)] [.int u9] := by
      intro u9 hu9
      replace hw := hw.2 u9 hu9
      refine z_istore (lv' := [(4, .int u9), (0, .ref (ax g 10)), (1, .ref (ax g (2 + 2 * c1))), (2, .int r1), (3, .int i4)]) C d_XO_takeLand_29 rfl rfl ?_
      refine z_aload_n C d_XO_takeLand_31 rfl 1 rfl ?_
      refine gf_XO_9 C d_XO_takeLand_32 ?_
      refine z_iload_n C d_XO_takeLand_35 rfl 4 rfl ?_
      refine z_iload C d_XO_takeLand_36 0 rfl ?_
      refine z_bipush (v := 111) C d_XO_takeLand_38 (by decide) ?_
      have hj15 : ∀ u12 : Int32, u12 = (if u9 = 111 then 0 else (if u9 = 104 then 1 else 2)) → Zj X 5 (oX g) M5 59 [(0, .ref (ax g 10)), (1, .ref (ax g (2 + 2 * c1))), (2, .int r1), (3, .int i4)] [.int u12, .int i4, .ref (ax g 11)] := by
        intro u12 hu12
        replace hw := hw u12 hu12
        have hv14 := hw.1
        refine z_as (zar_x11) C hv14 d_XO_takeLand_59 (fun M13 hM13 => ?_)
        replace hw := hw.2 M13 hM13
        refine z_iinc (v := (i4 + 1)) (lv' := [(3, .int (i4 + 1)), (0, .ref (ax g 10)), (1, .ref (ax g (2 + 2 * c1))), (2, .int r1)]) C d_XO_takeLand_60 3 rfl rfl rfl rfl ?_
        refine z_goto C 7 d_XO_takeLand_63 (by decide) ?_
        refine z_sub [1, 2, 3, 0] rfl ?_
        exact ih3 _ _ hw
      refine z_ic_ne C 47 d_XO_takeLand_40 (by decide) (fun h10 => ?_) (fun h10 => ?_)
      · refine z_iload C d_XO_takeLand_47 0 rfl ?_
        refine z_bipush (v := 104) C d_XO_takeLand_49 (by decide) ?_
        refine z_ic_ne C 58 d_XO_takeLand_51 (by decide) (fun h11 => ?_) (fun h11 => ?_)
        · refine z_iconst (v := 2) C d_XO_takeLand_58 (by decide) ?_
          refine z_sub [1, 2, 3, 4] rfl ?_
          exact hj15 _ (((if_neg h10).trans (if_neg h11))).symm
        · refine z_iconst (v := 1) C d_XO_takeLand_54 (by decide) ?_
          refine z_goto C 59 d_XO_takeLand_55 (by decide) ?_
          refine z_sub [1, 2, 3, 4] rfl ?_
          exact hj15 _ (((if_neg h10).trans (if_pos h11))).symm
      · refine z_iconst (v := 0) C d_XO_takeLand_43 (by decide) ?_
        refine z_goto C 59 d_XO_takeLand_44 (by decide) ?_
        refine z_sub [1, 2, 3, 4] rfl ?_
        exact hj15 _ ((if_pos h10)).symm
    have ha0 := hw.1
    refine z_ic_ge C 27 d_XO_takeLand_15 (by decide) (fun h7 => ?_) (fun h7 => ?_)
    · refine z_bipush (v := 111) C d_XO_takeLand_27 (by decide) ?_
      refine z_sub [0, 1, 2, 3] rfl ?_
      exact hj16 _ ((if_pos h7)).symm
    · have ha17 := ha0.2 h7
      refine z_aload_n C d_XO_takeLand_18 rfl 1 rfl ?_
      refine gf_XO_58 hc1 C d_XO_takeLand_19 ?_
      refine z_iload_n C d_XO_takeLand_22 rfl 3 rfl ?_
      have hv8 := ha17
      refine z_al (zar_xTB hc1) C hv8 d_XO_takeLand_23 ?_
      refine z_goto C 29 d_XO_takeLand_24 (by decide) ?_
      refine z_sub [0, 1, 2, 3] rfl ?_
      exact hj16 _ ((if_neg h7)).symm
theorem d_XO_takeFall_0 : decode prog_5_method_3_code 0 = .ok (.aload_n 1, 1) := by decide +kernel
theorem d_XO_takeFall_1 : decode prog_5_method_3_code 1 = .ok (.invokevirtual 52, 3) := by decide +kernel
theorem d_XO_takeFall_4 : decode prog_5_method_3_code 4 = .ok (.istore_n 2, 1) := by decide +kernel
theorem d_XO_takeFall_5 : decode prog_5_method_3_code 5 = .ok (.iconst 0, 1) := by decide +kernel
theorem d_XO_takeFall_6 : decode prog_5_method_3_code 6 = .ok (.istore_n 3, 1) := by decide +kernel
theorem d_XO_takeFall_7 : decode prog_5_method_3_code 7 = .ok (.iload_n 3, 1) := by decide +kernel
theorem d_XO_takeFall_8 : decode prog_5_method_3_code 8 = .ok (.bipush 24, 2) := by decide +kernel
theorem d_XO_takeFall_10 : decode prog_5_method_3_code 10 = .ok (.if_icmp .ge (33), 3) := by decide +kernel
theorem d_XO_takeFall_13 : decode prog_5_method_3_code 13 = .ok (.aload_n 0, 1) := by decide +kernel
theorem d_XO_takeFall_14 : decode prog_5_method_3_code 14 = .ok (.getfield 15, 3) := by decide +kernel
theorem d_XO_takeFall_17 : decode prog_5_method_3_code 17 = .ok (.iload_n 3, 1) := by decide +kernel
theorem d_XO_takeFall_18 : decode prog_5_method_3_code 18 = .ok (.iload_n 3, 1) := by decide +kernel
theorem d_XO_takeFall_19 : decode prog_5_method_3_code 19 = .ok (.iload_n 2, 1) := by decide +kernel
theorem d_XO_takeFall_20 : decode prog_5_method_3_code 20 = .ok (.if_icmp .ge (15), 3) := by decide +kernel
theorem d_XO_takeFall_23 : decode prog_5_method_3_code 23 = .ok (.aload_n 1, 1) := by decide +kernel
theorem d_XO_takeFall_24 : decode prog_5_method_3_code 24 = .ok (.getfield 58, 3) := by decide +kernel
theorem d_XO_takeFall_27 : decode prog_5_method_3_code 27 = .ok (.iload_n 3, 1) := by decide +kernel
theorem d_XO_takeFall_28 : decode prog_5_method_3_code 28 = .ok (.iaload, 1) := by decide +kernel
theorem d_XO_takeFall_29 : decode prog_5_method_3_code 29 = .ok (.bipush 48, 2) := by decide +kernel
theorem d_XO_takeFall_31 : decode prog_5_method_3_code 31 = .ok (.isub, 1) := by decide +kernel
theorem d_XO_takeFall_32 : decode prog_5_method_3_code 32 = .ok (.goto (4), 3) := by decide +kernel
theorem d_XO_takeFall_35 : decode prog_5_method_3_code 35 = .ok (.iconst 0, 1) := by decide +kernel
theorem d_XO_takeFall_36 : decode prog_5_method_3_code 36 = .ok (.iastore, 1) := by decide +kernel
theorem d_XO_takeFall_37 : decode prog_5_method_3_code 37 = .ok (.iinc 3 1, 3) := by decide +kernel
theorem d_XO_takeFall_40 : decode prog_5_method_3_code 40 = .ok (.goto (-33), 3) := by decide +kernel
theorem d_XO_takeFall_43 : decode prog_5_method_3_code 43 = .ok (.return_, 1) := by decide +kernel
def wp_XO_takeFall (c1 : Nat) (M : Mem) (post : Mem → Prop) : Prop :=
  wp_XT_meant c1 M (fun r1 => (it2 (fun rec2 (i4 : Int32) (M5 : Mem) => (((24 ≤ i4) → post M5) ∧ (¬ (24 ≤ i4) → (((r1 ≤ i4) → True) ∧ (¬ (r1 ≤ i4) → (vp_in i4 (tlen c1)))) ∧ (∀ u9 : Int32, u9 = (if r1 ≤ i4 then 0 else ((M5 (3 + 2 * c1) (tn i4)) - 48)) → vp_in i4 24 ∧ ∀ M10 : Mem, M10 = upm M5 (fz M5) (tn i4) u9 → rec2 (i4 + 1) M10)))) 4096 0 M))
set_option maxHeartbeats 4000000 in
set_option maxRecDepth 100000 in
theorem c_XO_takeFall (g : GX) {c1 : Nat} {M : Mem} {post : Mem → Prop} (hc1 : c1 < 4) (hw : wp_XO_takeFall c1 M post) : CtV (oX g) y_XO_takeFall prog_5_method_3_code 4 none (rl 4) [.ref (ax g 10), .ref (ax g (2 + 2 * c1))] M post := by
  refine z_metV (oX_ok g) (by decide) rfl (fun X C hr => ?_)
  show Zj X 4 (oX g) M 0 [(0, .ref (ax g 10)), (1, .ref (ax g (2 + 2 * c1)))] []
  unfold wp_XO_takeFall at hw
  refine z_aload_n C d_XO_takeFall_0 rfl 1 rfl ?_
  refine z_callVi C (As := []) (rest := []) m_XT_meant tw_266 (2 + 2 * c1) (le_XT hc1) rfl ⟨rfl, rfl⟩ (c_XT_meant g hc1 hw) rfl rfl rfl d_XO_takeFall_1 (fun r1 M2 hq => ?_)
  obtain ⟨rfl, hw⟩ := hq
  refine z_istore_n (lv' := [(2, .int r1), (0, .ref (ax g 10)), (1, .ref (ax g (2 + 2 * c1)))]) C d_XO_takeFall_4 rfl rfl rfl ?_
  refine z_iconst (v := 0) C d_XO_takeFall_5 (by decide) ?_
  refine z_istore_n (lv' := [(3, .int 0), (2, .int r1), (0, .ref (ax g 10)), (1, .ref (ax g (2 + 2 * c1)))]) C d_XO_takeFall_6 rfl rfl rfl ?_
  refine z_sub [2, 3, 1, 0] rfl ?_
  refine it2_Z (Z := fun (i4 : Int32) (M5 : Mem) => Zj X 4 (oX g) M5 7 [(0, .ref (ax g 10)), (1, .ref (ax g (2 + 2 * c1))), (2, .int r1), (3, .int i4)] []) (fun rec2 ih3 i4 M5 hw => ?_) _ _ _ hw
  refine z_iload_n C d_XO_takeFall_7 rfl 3 rfl ?_
  refine z_bipush (v := 24) C d_XO_takeFall_8 (by decide) ?_
  refine z_ic_ge C 43 d_XO_takeFall_10 (by decide) (fun h6 => ?_) (fun h6 => ?_)
  · replace hw := hw.1 h6
    exact z_vret C hr hw d_XO_takeFall_43
  · replace hw := hw.2 h6
    refine z_aload_n C d_XO_takeFall_13 rfl 0 rfl ?_
    refine gf_XO_15 C d_XO_takeFall_14 ?_
    refine z_iload_n C d_XO_takeFall_17 rfl 3 rfl ?_
    refine z_iload_n C d_XO_takeFall_18 rfl 3 rfl ?_
    refine z_iload_n C d_XO_takeFall_19 rfl 2 rfl ?_
    have hj12 : ∀ u9 : Int32, u9 = (if r1 ≤ i4 then 0 else ((M5 (3 + 2 * c1) (tn i4)) - 48)) → Zj X 4 (oX g) M5 36 [(0, .ref (ax g 10)), (1, .ref (ax g (2 + 2 * c1))), (2, .int r1), (3, .int i4)] [.int u9, .int i4, .ref (ax g (fz M5))] := by
      intro u9 hu9
      replace hw := hw.2 u9 hu9
      have hv11 := hw.1
      refine z_as (zar_xF) C hv11 d_XO_takeFall_36 (fun M10 hM10 => ?_)
      replace hw := hw.2 M10 hM10
      refine z_iinc (v := (i4 + 1)) (lv' := [(3, .int (i4 + 1)), (0, .ref (ax g 10)), (1, .ref (ax g (2 + 2 * c1))), (2, .int r1)]) C d_XO_takeFall_37 3 rfl rfl rfl rfl ?_
      refine z_goto C 7 d_XO_takeFall_40 (by decide) ?_
      refine z_sub [1, 2, 3, 0] rfl ?_
      exact ih3 _ _ hw
    have ha0 := hw.1
    refine z_ic_ge C 35 d_XO_takeFall_20 (by decide) (fun h7 => ?_) (fun h7 => ?_)
    · refine z_iconst (v := 0) C d_XO_takeFall_35 (by decide) ?_
      refine z_sub [0, 1, 2, 3] rfl ?_
      exact hj12 _ ((if_pos h7)).symm
    · have ha13 := ha0.2 h7
      refine z_aload_n C d_XO_takeFall_23 rfl 1 rfl ?_
      refine gf_XO_58 hc1 C d_XO_takeFall_24 ?_
      refine z_iload_n C d_XO_takeFall_27 rfl 3 rfl ?_
      have hv8 := ha13
      refine z_al (zar_xTB hc1) C hv8 d_XO_takeFall_28 ?_
      refine z_bipush (v := 48) C d_XO_takeFall_29 (by decide) ?_
      refine z_isub C d_XO_takeFall_31 ?_
      refine z_goto C 36 d_XO_takeFall_32 (by decide) ?_
      refine z_sub [0, 1, 2, 3] rfl ?_
      exact hj12 _ ((if_neg h7)).symm
theorem d_XO_takePloughs_0 : decode prog_5_method_4_code 0 = .ok (.aload_n 1, 1) := by decide +kernel
theorem d_XO_takePloughs_1 : decode prog_5_method_4_code 1 = .ok (.invokevirtual 52, 3) := by decide +kernel
theorem d_XO_takePloughs_4 : decode prog_5_method_4_code 4 = .ok (.istore_n 2, 1) := by decide +kernel
theorem d_XO_takePloughs_5 : decode prog_5_method_4_code 5 = .ok (.aload_n 0, 1) := by decide +kernel
theorem d_XO_takePloughs_6 : decode prog_5_method_4_code 6 = .ok (.iconst 0, 1) := by decide +kernel
theorem d_XO_takePloughs_7 : decode prog_5_method_4_code 7 = .ok (.putfield 18, 3) := by decide +kernel
theorem d_XO_takePloughs_10 : decode prog_5_method_4_code 10 = .ok (.iconst 0, 1) := by decide +kernel
theorem d_XO_takePloughs_11 : decode prog_5_method_4_code 11 = .ok (.istore_n 3, 1) := by decide +kernel
theorem d_XO_takePloughs_12 : decode prog_5_method_4_code 12 = .ok (.iload_n 3, 1) := by decide +kernel
theorem d_XO_takePloughs_13 : decode prog_5_method_4_code 13 = .ok (.iconst 2, 1) := by decide +kernel
theorem d_XO_takePloughs_14 : decode prog_5_method_4_code 14 = .ok (.iadd, 1) := by decide +kernel
theorem d_XO_takePloughs_15 : decode prog_5_method_4_code 15 = .ok (.iload_n 2, 1) := by decide +kernel
theorem d_XO_takePloughs_16 : decode prog_5_method_4_code 16 = .ok (.if_icmp .ge (92), 3) := by decide +kernel
theorem d_XO_takePloughs_19 : decode prog_5_method_4_code 19 = .ok (.aload_n 0, 1) := by decide +kernel
theorem d_XO_takePloughs_20 : decode prog_5_method_4_code 20 = .ok (.getfield 18, 3) := by decide +kernel
theorem d_XO_takePloughs_23 : decode prog_5_method_4_code 23 = .ok (.iconst 4, 1) := by decide +kernel
theorem d_XO_takePloughs_24 : decode prog_5_method_4_code 24 = .ok (.if_icmp .ge (84), 3) := by decide +kernel
theorem d_XO_takePloughs_27 : decode prog_5_method_4_code 27 = .ok (.aload_n 0, 1) := by decide +kernel
theorem d_XO_takePloughs_28 : decode prog_5_method_4_code 28 = .ok (.getfield 22, 3) := by decide +kernel
theorem d_XO_takePloughs_31 : decode prog_5_method_4_code 31 = .ok (.aload_n 0, 1) := by decide +kernel
theorem d_XO_takePloughs_32 : decode prog_5_method_4_code 32 = .ok (.getfield 18, 3) := by decide +kernel
theorem d_XO_takePloughs_35 : decode prog_5_method_4_code 35 = .ok (.aload_n 1, 1) := by decide +kernel
theorem d_XO_takePloughs_36 : decode prog_5_method_4_code 36 = .ok (.getfield 58, 3) := by decide +kernel
theorem d_XO_takePloughs_39 : decode prog_5_method_4_code 39 = .ok (.iload_n 3, 1) := by decide +kernel
theorem d_XO_takePloughs_40 : decode prog_5_method_4_code 40 = .ok (.iaload, 1) := by decide +kernel
theorem d_XO_takePloughs_41 : decode prog_5_method_4_code 41 = .ok (.bipush 97, 2) := by decide +kernel
theorem d_XO_takePloughs_43 : decode prog_5_method_4_code 43 = .ok (.isub, 1) := by decide +kernel
theorem d_XO_takePloughs_44 : decode prog_5_method_4_code 44 = .ok (.iastore, 1) := by decide +kernel
theorem d_XO_takePloughs_45 : decode prog_5_method_4_code 45 = .ok (.aload_n 0, 1) := by decide +kernel
theorem d_XO_takePloughs_46 : decode prog_5_method_4_code 46 = .ok (.getfield 25, 3) := by decide +kernel
theorem d_XO_takePloughs_49 : decode prog_5_method_4_code 49 = .ok (.aload_n 0, 1) := by decide +kernel
theorem d_XO_takePloughs_50 : decode prog_5_method_4_code 50 = .ok (.getfield 18, 3) := by decide +kernel
theorem d_XO_takePloughs_53 : decode prog_5_method_4_code 53 = .ok (.aload_n 1, 1) := by decide +kernel
theorem d_XO_takePloughs_54 : decode prog_5_method_4_code 54 = .ok (.getfield 58, 3) := by decide +kernel
theorem d_XO_takePloughs_57 : decode prog_5_method_4_code 57 = .ok (.iload_n 3, 1) := by decide +kernel
theorem d_XO_takePloughs_58 : decode prog_5_method_4_code 58 = .ok (.iconst 1, 1) := by decide +kernel
theorem d_XO_takePloughs_59 : decode prog_5_method_4_code 59 = .ok (.iadd, 1) := by decide +kernel
theorem d_XO_takePloughs_60 : decode prog_5_method_4_code 60 = .ok (.iaload, 1) := by decide +kernel
theorem d_XO_takePloughs_61 : decode prog_5_method_4_code 61 = .ok (.bipush 48, 2) := by decide +kernel
theorem d_XO_takePloughs_63 : decode prog_5_method_4_code 63 = .ok (.isub, 1) := by decide +kernel
theorem d_XO_takePloughs_64 : decode prog_5_method_4_code 64 = .ok (.iastore, 1) := by decide +kernel
theorem d_XO_takePloughs_65 : decode prog_5_method_4_code 65 = .ok (.aload_n 0, 1) := by decide +kernel
theorem d_XO_takePloughs_66 : decode prog_5_method_4_code 66 = .ok (.getfield 28, 3) := by decide +kernel
theorem d_XO_takePloughs_69 : decode prog_5_method_4_code 69 = .ok (.aload_n 0, 1) := by decide +kernel
theorem d_XO_takePloughs_70 : decode prog_5_method_4_code 70 = .ok (.getfield 18, 3) := by decide +kernel
theorem d_XO_takePloughs_73 : decode prog_5_method_4_code 73 = .ok (.aload_n 1, 1) := by decide +kernel
theorem d_XO_takePloughs_74 : decode prog_5_method_4_code 74 = .ok (.getfield 58, 3) := by decide +kernel
theorem d_XO_takePloughs_77 : decode prog_5_method_4_code 77 = .ok (.iload_n 3, 1) := by decide +kernel
theorem d_XO_takePloughs_78 : decode prog_5_method_4_code 78 = .ok (.iconst 2, 1) := by decide +kernel
theorem d_XO_takePloughs_79 : decode prog_5_method_4_code 79 = .ok (.iadd, 1) := by decide +kernel
theorem d_XO_takePloughs_80 : decode prog_5_method_4_code 80 = .ok (.iaload, 1) := by decide +kernel
theorem d_XO_takePloughs_81 : decode prog_5_method_4_code 81 = .ok (.bipush 101, 2) := by decide +kernel
theorem d_XO_takePloughs_83 : decode prog_5_method_4_code 83 = .ok (.if_icmp .ne (7), 3) := by decide +kernel
theorem d_XO_takePloughs_86 : decode prog_5_method_4_code 86 = .ok (.iconst 0, 1) := by decide +kernel
theorem d_XO_takePloughs_87 : decode prog_5_method_4_code 87 = .ok (.goto (4), 3) := by decide +kernel
theorem d_XO_takePloughs_90 : decode prog_5_method_4_code 90 = .ok (.iconst 1, 1) := by decide +kernel
theorem d_XO_takePloughs_91 : decode prog_5_method_4_code 91 = .ok (.iastore, 1) := by decide +kernel
theorem d_XO_takePloughs_92 : decode prog_5_method_4_code 92 = .ok (.aload_n 0, 1) := by decide +kernel
theorem d_XO_takePloughs_93 : decode prog_5_method_4_code 93 = .ok (.dup, 1) := by decide +kernel
theorem d_XO_takePloughs_94 : decode prog_5_method_4_code 94 = .ok (.getfield 18, 3) := by decide +kernel
theorem d_XO_takePloughs_97 : decode prog_5_method_4_code 97 = .ok (.iconst 1, 1) := by decide +kernel
theorem d_XO_takePloughs_98 : decode prog_5_method_4_code 98 = .ok (.iadd, 1) := by decide +kernel
theorem d_XO_takePloughs_99 : decode prog_5_method_4_code 99 = .ok (.putfield 18, 3) := by decide +kernel
theorem d_XO_takePloughs_102 : decode prog_5_method_4_code 102 = .ok (.iinc 3 4, 3) := by decide +kernel
theorem d_XO_takePloughs_105 : decode prog_5_method_4_code 105 = .ok (.goto (-93), 3) := by decide +kernel
theorem d_XO_takePloughs_108 : decode prog_5_method_4_code 108 = .ok (.return_, 1) := by decide +kernel
def wp_XO_takePloughs (c1 : Nat) (M : Mem) (post : Mem → Prop) : Prop :=
  wp_XT_meant c1 M (fun r1 => ∀ M2 : Mem, M2 = upm M 10 2 0 → (it2 (fun rec3 (i5 : Int32) (M6 : Mem) => (((r1 ≤ (i5 + 2)) → post M6) ∧ (¬ (r1 ≤ (i5 + 2)) → (((4 ≤ (M6 10 2)) → post M6) ∧ (¬ (4 ≤ (M6 10 2)) → vp_in i5 (tlen c1) ∧ vp_in (M6 10 2) 4 ∧ ∀ M10 : Mem, M10 = upm M6 13 (tn (M6 10 2)) ((M6 (3 + 2 * c1) (tn i5)) - 97) → vp_in (i5 + 1) (tlen c1) ∧ vp_in (M10 10 2) 4 ∧ ∀ M13 : Mem, M13 = upm M10 14 (tn (M10 10 2)) ((M10 (3 + 2 * c1) (tn (i5 + 1))) - 48) → vp_in (i5 + 2) (tlen c1) ∧ ∀ u17 : Int32, u17 = (if (M13 (3 + 2 * c1) (tn (i5 + 2))) = 101 then 0 else 1) → vp_in (M13 10 2) 4 ∧ ∀ M18 : Mem, M18 = upm M13 15 (tn (M13 10 2)) u17 → ∀ M20 : Mem, M20 = upm M18 10 2 ((M18 10 2) + 1) → rec3 (i5 + 4) M20))))) 4096 0 M2))
set_option maxHeartbeats 4000000 in
set_option maxRecDepth 100000 in
theorem c_XO_takePloughs (g : GX) {c1 : Nat} {M : Mem} {post : Mem → Prop} (hc1 : c1 < 4) (hw : wp_XO_takePloughs c1 M post) : CtV (oX g) y_XO_takePloughs prog_5_method_4_code 4 none (rl 4) [.ref (ax g 10), .ref (ax g (2 + 2 * c1))] M post := by
  refine z_metV (oX_ok g) (by decide) rfl (fun X C hr => ?_)
  show Zj X 4 (oX g) M 0 [(0, .ref (ax g 10)), (1, .ref (ax g (2 + 2 * c1)))] []
  unfold wp_XO_takePloughs at hw
  refine z_aload_n C d_XO_takePloughs_0 rfl 1 rfl ?_
  refine z_callVi C (As := []) (rest := []) m_XT_meant tw_266 (2 + 2 * c1) (le_XT hc1) rfl ⟨rfl, rfl⟩ (c_XT_meant g hc1 hw) rfl rfl rfl d_XO_takePloughs_1 (fun r1 M2 hq => ?_)
  obtain ⟨rfl, hw⟩ := hq
  refine z_istore_n (lv' := [(2, .int r1), (0, .ref (ax g 10)), (1, .ref (ax g (2 + 2 * c1)))]) C d_XO_takePloughs_4 rfl rfl rfl ?_
  refine z_aload_n C d_XO_takePloughs_5 rfl 1 rfl ?_
  refine z_iconst (v := 0) C d_XO_takePloughs_6 (by decide) ?_
  refine pp_XO_18 C d_XO_takePloughs_7 (fun M2 hM2 => ?_)
  replace hw := hw M2 hM2
  refine z_iconst (v := 0) C d_XO_takePloughs_10 (by decide) ?_
  refine z_istore_n (lv' := [(3, .int 0), (2, .int r1), (0, .ref (ax g 10)), (1, .ref (ax g (2 + 2 * c1)))]) C d_XO_takePloughs_11 rfl rfl rfl ?_
  refine z_sub [2, 3, 1, 0] rfl ?_
  refine it2_Z (Z := fun (i5 : Int32) (M6 : Mem) => Zj X 4 (oX g) M6 12 [(0, .ref (ax g 10)), (1, .ref (ax g (2 + 2 * c1))), (2, .int r1), (3, .int i5)] []) (fun rec3 ih4 i5 M6 hw => ?_) _ _ _ hw
  refine z_iload_n C d_XO_takePloughs_12 rfl 3 rfl ?_
  refine z_iconst (v := 2) C d_XO_takePloughs_13 (by decide) ?_
  refine z_iadd C d_XO_takePloughs_14 ?_
  refine z_iload_n C d_XO_takePloughs_15 rfl 2 rfl ?_
  refine z_ic_ge C 108 d_XO_takePloughs_16 (by decide) (fun h7 => ?_) (fun h7 => ?_)
  · replace hw := hw.1 h7
    exact z_vret C hr hw d_XO_takePloughs_108
  · replace hw := hw.2 h7
    refine z_aload_n C d_XO_takePloughs_19 rfl 0 rfl ?_
    refine gf_XO_18 C d_XO_takePloughs_20 ?_
    refine z_iconst (v := 4) C d_XO_takePloughs_23 (by decide) ?_
    refine z_ic_ge C 108 d_XO_takePloughs_24 (by decide) (fun h8 => ?_) (fun h8 => ?_)
    · replace hw := hw.1 h8
      exact z_vret C hr hw d_XO_takePloughs_108
    · replace hw := hw.2 h8
      refine z_aload_n C d_XO_takePloughs_27 rfl 0 rfl ?_
      refine gf_XO_22 C d_XO_takePloughs_28 ?_
      refine z_aload_n C d_XO_takePloughs_31 rfl 0 rfl ?_
      refine gf_XO_18 C d_XO_takePloughs_32 ?_
      refine z_aload_n C d_XO_takePloughs_35 rfl 1 rfl ?_
      refine gf_XO_58 hc1 C d_XO_takePloughs_36 ?_
      refine z_iload_n C d_XO_takePloughs_39 rfl 3 rfl ?_
      have hv9 := hw.1
      replace hw := hw.2
      refine z_al (zar_xTB hc1) C hv9 d_XO_takePloughs_40 ?_
      refine z_bipush (v := 97) C d_XO_takePloughs_41 (by decide) ?_
      refine z_isub C d_XO_takePloughs_43 ?_
      have hv11 := hw.1
      refine z_as (zar_x13) C hv11 d_XO_takePloughs_44 (fun M10 hM10 => ?_)
      replace hw := hw.2 M10 hM10
      refine z_aload_n C d_XO_takePloughs_45 rfl 0 rfl ?_
      refine gf_XO_25 C d_XO_takePloughs_46 ?_
      refine z_aload_n C d_XO_takePloughs_49 rfl 0 rfl ?_
      refine gf_XO_18 C d_XO_takePloughs_50 ?_
      refine z_aload_n C d_XO_takePloughs_53 rfl 1 rfl ?_
      refine gf_XO_58 hc1 C d_XO_takePloughs_54 ?_
      refine z_iload_n C d_XO_takePloughs_57 rfl 3 rfl ?_
      refine z_iconst (v := 1) C d_XO_takePloughs_58 (by decide) ?_
      refine z_iadd C d_XO_takePloughs_59 ?_
      have hv12 := hw.1
      replace hw := hw.2
      refine z_al (zar_xTB hc1) C hv12 d_XO_takePloughs_60 ?_
      refine z_bipush (v := 48) C d_XO_takePloughs_61 (by decide) ?_
      refine z_isub C d_XO_takePloughs_63 ?_
      have hv14 := hw.1
      refine z_as (zar_x14) C hv14 d_XO_takePloughs_64 (fun M13 hM13 => ?_)
      replace hw := hw.2 M13 hM13
      refine z_aload_n C d_XO_takePloughs_65 rfl 0 rfl ?_
      refine gf_XO_28 C d_XO_takePloughs_66 ?_
      refine z_aload_n C d_XO_takePloughs_69 rfl 0 rfl ?_
      refine gf_XO_18 C d_XO_takePloughs_70 ?_
      refine z_aload_n C d_XO_takePloughs_73 rfl 1 rfl ?_
      refine gf_XO_58 hc1 C d_XO_takePloughs_74 ?_
      refine z_iload_n C d_XO_takePloughs_77 rfl 3 rfl ?_
      refine z_iconst (v := 2) C d_XO_takePloughs_78 (by decide) ?_
      refine z_iadd C d_XO_takePloughs_79 ?_
      have hv15 := hw.1
      replace hw := hw.2
      refine z_al (zar_xTB hc1) C hv15 d_XO_takePloughs_80 ?_
      refine z_bipush (v := 101) C d_XO_takePloughs_81 (by decide) ?_
      have hj21 : ∀ u17 : Int32, u17 = (if (M13 (3 + 2 * c1) (tn (i5 + 2))) = 101 then 0 else 1) → Zj X 4 (oX g) M13 91 [(0, .ref (ax g 10)), (1, .ref (ax g (2 + 2 * c1))), (2, .int r1), (3, .int i5)] [.int u17, .int (M13 10 2), .ref (ax g 15)] := by
        intro u17 hu17
        replace hw := hw u17 hu17
        have hv19 := hw.1
        refine z_as (zar_x15) C hv19 d_XO_takePloughs_91 (fun M18 hM18 => ?_)
        replace hw := hw.2 M18 hM18
        refine z_aload_n C d_XO_takePloughs_92 rfl 0 rfl ?_
        refine z_dup C d_XO_takePloughs_93 rfl ?_
        refine gf_XO_18 C d_XO_takePloughs_94 ?_
        refine z_iconst (v := 1) C d_XO_takePloughs_97 (by decide) ?_
        refine z_iadd C d_XO_takePloughs_98 ?_
        refine pp_XO_18 C d_XO_takePloughs_99 (fun M20 hM20 => ?_)
        replace hw := hw M20 hM20
        refine z_iinc (v := (i5 + 4)) (lv' := [(3, .int (i5 + 4)), (0, .ref (ax g 10)), (1, .ref (ax g (2 + 2 * c1))), (2, .int r1)]) C d_XO_takePloughs_102 3 rfl rfl rfl rfl ?_
        refine z_goto C 12 d_XO_takePloughs_105 (by decide) ?_
        refine z_sub [1, 2, 3, 0] rfl ?_
        exact ih4 _ _ hw
      refine z_ic_ne C 90 d_XO_takePloughs_83 (by decide) (fun h16 => ?_) (fun h16 => ?_)
      · refine z_iconst (v := 1) C d_XO_takePloughs_90 (by decide) ?_
        refine z_sub [0, 1, 2, 3] rfl ?_
        exact hj21 _ ((if_neg h16)).symm
      · refine z_iconst (v := 0) C d_XO_takePloughs_86 (by decide) ?_
        refine z_goto C 91 d_XO_takePloughs_87 (by decide) ?_
        refine z_sub [0, 1, 2, 3] rfl ?_
        exact hj21 _ ((if_pos h16)).symm
theorem d_XO_takeBuses_0 : decode prog_5_method_5_code 0 = .ok (.aload_n 0, 1) := by decide +kernel
theorem d_XO_takeBuses_1 : decode prog_5_method_5_code 1 = .ok (.aload_n 1, 1) := by decide +kernel
theorem d_XO_takeBuses_2 : decode prog_5_method_5_code 2 = .ok (.invokevirtual 52, 3) := by decide +kernel
theorem d_XO_takeBuses_5 : decode prog_5_method_5_code 5 = .ok (.putfield 31, 3) := by decide +kernel
theorem d_XO_takeBuses_8 : decode prog_5_method_5_code 8 = .ok (.iconst 0, 1) := by decide +kernel
theorem d_XO_takeBuses_9 : decode prog_5_method_5_code 9 = .ok (.istore_n 2, 1) := by decide +kernel
theorem d_XO_takeBuses_10 : decode prog_5_method_5_code 10 = .ok (.iload_n 2, 1) := by decide +kernel
theorem d_XO_takeBuses_11 : decode prog_5_method_5_code 11 = .ok (.aload_n 0, 1) := by decide +kernel
theorem d_XO_takeBuses_12 : decode prog_5_method_5_code 12 = .ok (.getfield 31, 3) := by decide +kernel
theorem d_XO_takeBuses_15 : decode prog_5_method_5_code 15 = .ok (.if_icmp .ge (24), 3) := by decide +kernel
theorem d_XO_takeBuses_18 : decode prog_5_method_5_code 18 = .ok (.aload_n 0, 1) := by decide +kernel
theorem d_XO_takeBuses_19 : decode prog_5_method_5_code 19 = .ok (.getfield 34, 3) := by decide +kernel
theorem d_XO_takeBuses_22 : decode prog_5_method_5_code 22 = .ok (.iload_n 2, 1) := by decide +kernel
theorem d_XO_takeBuses_23 : decode prog_5_method_5_code 23 = .ok (.aload_n 1, 1) := by decide +kernel
theorem d_XO_takeBuses_24 : decode prog_5_method_5_code 24 = .ok (.getfield 58, 3) := by decide +kernel
theorem d_XO_takeBuses_27 : decode prog_5_method_5_code 27 = .ok (.iload_n 2, 1) := by decide +kernel
theorem d_XO_takeBuses_28 : decode prog_5_method_5_code 28 = .ok (.iaload, 1) := by decide +kernel
theorem d_XO_takeBuses_29 : decode prog_5_method_5_code 29 = .ok (.bipush 97, 2) := by decide +kernel
theorem d_XO_takeBuses_31 : decode prog_5_method_5_code 31 = .ok (.isub, 1) := by decide +kernel
theorem d_XO_takeBuses_32 : decode prog_5_method_5_code 32 = .ok (.iastore, 1) := by decide +kernel
theorem d_XO_takeBuses_33 : decode prog_5_method_5_code 33 = .ok (.iinc 2 1, 3) := by decide +kernel
theorem d_XO_takeBuses_36 : decode prog_5_method_5_code 36 = .ok (.goto (-26), 3) := by decide +kernel
theorem d_XO_takeBuses_39 : decode prog_5_method_5_code 39 = .ok (.return_, 1) := by decide +kernel
def wp_XO_takeBuses (c1 : Nat) (M : Mem) (post : Mem → Prop) : Prop :=
  wp_XT_meant c1 M (fun r1 => ∀ M2 : Mem, M2 = upm M 10 6 r1 → (it2 (fun rec3 (i5 : Int32) (M6 : Mem) => ((((M6 10 6) ≤ i5) → post M6) ∧ (¬ ((M6 10 6) ≤ i5) → vp_in i5 (tlen c1) ∧ vp_in i5 8 ∧ ∀ M9 : Mem, M9 = upm M6 16 (tn i5) ((M6 (3 + 2 * c1) (tn i5)) - 97) → rec3 (i5 + 1) M9))) 4096 0 M2))
set_option maxHeartbeats 4000000 in
set_option maxRecDepth 100000 in
theorem c_XO_takeBuses (g : GX) {c1 : Nat} {M : Mem} {post : Mem → Prop} (hc1 : c1 < 4) (hw : wp_XO_takeBuses c1 M post) : CtV (oX g) y_XO_takeBuses prog_5_method_5_code 3 none (rl 4) [.ref (ax g 10), .ref (ax g (2 + 2 * c1))] M post := by
  refine z_metV (oX_ok g) (by decide) rfl (fun X C hr => ?_)
  show Zj X 3 (oX g) M 0 [(0, .ref (ax g 10)), (1, .ref (ax g (2 + 2 * c1)))] []
  unfold wp_XO_takeBuses at hw
  refine z_aload_n C d_XO_takeBuses_0 rfl 0 rfl ?_
  refine z_aload_n C d_XO_takeBuses_1 rfl 1 rfl ?_
  refine z_callVi C (As := []) (rest := [.ref (ax g 10)]) m_XT_meant tw_266 (2 + 2 * c1) (le_XT hc1) rfl ⟨rfl, rfl⟩ (c_XT_meant g hc1 hw) rfl rfl rfl d_XO_takeBuses_2 (fun r1 M2 hq => ?_)
  obtain ⟨rfl, hw⟩ := hq
  refine pp_XO_31 C d_XO_takeBuses_5 (fun M2 hM2 => ?_)
  replace hw := hw M2 hM2
  refine z_iconst (v := 0) C d_XO_takeBuses_8 (by decide) ?_
  refine z_istore_n (lv' := [(2, .int 0), (0, .ref (ax g 10)), (1, .ref (ax g (2 + 2 * c1)))]) C d_XO_takeBuses_9 rfl rfl rfl ?_
  refine z_sub [1, 2, 0] rfl ?_
  refine it2_Z (Z := fun (i5 : Int32) (M6 : Mem) => Zj X 3 (oX g) M6 10 [(0, .ref (ax g 10)), (1, .ref (ax g (2 + 2 * c1))), (2, .int i5)] []) (fun rec3 ih4 i5 M6 hw => ?_) _ _ _ hw
  refine z_iload_n C d_XO_takeBuses_10 rfl 2 rfl ?_
  refine z_aload_n C d_XO_takeBuses_11 rfl 0 rfl ?_
  refine gf_XO_31 C d_XO_takeBuses_12 ?_
  refine z_ic_ge C 39 d_XO_takeBuses_15 (by decide) (fun h7 => ?_) (fun h7 => ?_)
  · replace hw := hw.1 h7
    exact z_vret C hr hw d_XO_takeBuses_39
  · replace hw := hw.2 h7
    refine z_aload_n C d_XO_takeBuses_18 rfl 0 rfl ?_
    refine gf_XO_34 C d_XO_takeBuses_19 ?_
    refine z_iload_n C d_XO_takeBuses_22 rfl 2 rfl ?_
    refine z_aload_n C d_XO_takeBuses_23 rfl 1 rfl ?_
    refine gf_XO_58 hc1 C d_XO_takeBuses_24 ?_
    refine z_iload_n C d_XO_takeBuses_27 rfl 2 rfl ?_
    have hv8 := hw.1
    replace hw := hw.2
    refine z_al (zar_xTB hc1) C hv8 d_XO_takeBuses_28 ?_
    refine z_bipush (v := 97) C d_XO_takeBuses_29 (by decide) ?_
    refine z_isub C d_XO_takeBuses_31 ?_
    have hv10 := hw.1
    refine z_as (zar_x16) C hv10 d_XO_takeBuses_32 (fun M9 hM9 => ?_)
    replace hw := hw.2 M9 hM9
    refine z_iinc (v := (i5 + 1)) (lv' := [(2, .int (i5 + 1)), (0, .ref (ax g 10)), (1, .ref (ax g (2 + 2 * c1)))]) C d_XO_takeBuses_33 2 rfl rfl rfl rfl ?_
    refine z_goto C 10 d_XO_takeBuses_36 (by decide) ?_
    refine z_sub [1, 2, 0] rfl ?_
    exact ih4 _ _ hw
theorem d_X_spare_0 : decode prog_1_method_26_code 0 = .ok (.iload_n 1, 1) := by decide +kernel
theorem d_X_spare_1 : decode prog_1_method_26_code 1 = .ok (.iconst (-1), 1) := by decide +kernel
theorem d_X_spare_2 : decode prog_1_method_26_code 2 = .ok (.if_icmp .lt (8), 3) := by decide +kernel
theorem d_X_spare_5 : decode prog_1_method_26_code 5 = .ok (.iload_n 1, 1) := by decide +kernel
theorem d_X_spare_6 : decode prog_1_method_26_code 6 = .ok (.iconst 2, 1) := by decide +kernel
theorem d_X_spare_7 : decode prog_1_method_26_code 7 = .ok (.if_icmp .lt (6), 3) := by decide +kernel
theorem d_X_spare_10 : decode prog_1_method_26_code 10 = .ok (.bipush (-2), 2) := by decide +kernel
theorem d_X_spare_12 : decode prog_1_method_26_code 12 = .ok (.ireturn, 1) := by decide +kernel
theorem d_X_spare_13 : decode prog_1_method_26_code 13 = .ok (.aload_n 0, 1) := by decide +kernel
theorem d_X_spare_14 : decode prog_1_method_26_code 14 = .ok (.invokevirtual 203, 3) := by decide +kernel
theorem d_X_spare_17 : decode prog_1_method_26_code 17 = .ok (.istore_n 2, 1) := by decide +kernel
theorem d_X_spare_18 : decode prog_1_method_26_code 18 = .ok (.iload_n 2, 1) := by decide +kernel
theorem d_X_spare_19 : decode prog_1_method_26_code 19 = .ok (.iconst (-1), 1) := by decide +kernel
theorem d_X_spare_20 : decode prog_1_method_26_code 20 = .ok (.if_icmp .ne (5), 3) := by decide +kernel
theorem d_X_spare_23 : decode prog_1_method_26_code 23 = .ok (.iconst (-1), 1) := by decide +kernel
theorem d_X_spare_24 : decode prog_1_method_26_code 24 = .ok (.ireturn, 1) := by decide +kernel
theorem d_X_spare_25 : decode prog_1_method_26_code 25 = .ok (.iload_n 1, 1) := by decide +kernel
theorem d_X_spare_26 : decode prog_1_method_26_code 26 = .ok (.iconst (-1), 1) := by decide +kernel
theorem d_X_spare_27 : decode prog_1_method_26_code 27 = .ok (.if_icmp .ne (8), 3) := by decide +kernel
theorem d_X_spare_30 : decode prog_1_method_26_code 30 = .ok (.iload_n 2, 1) := by decide +kernel
theorem d_X_spare_31 : decode prog_1_method_26_code 31 = .ok (.invokestatic 206, 3) := by decide +kernel
theorem d_X_spare_34 : decode prog_1_method_26_code 34 = .ok (.ireturn, 1) := by decide +kernel
theorem d_X_spare_35 : decode prog_1_method_26_code 35 = .ok (.iload_n 1, 1) := by decide +kernel
theorem d_X_spare_36 : decode prog_1_method_26_code 36 = .ok (.ifCond .ne (7), 3) := by decide +kernel
theorem d_X_spare_39 : decode prog_1_method_26_code 39 = .ok (.iload_n 2, 1) := by decide +kernel
theorem d_X_spare_40 : decode prog_1_method_26_code 40 = .ok (.goto (8), 3) := by decide +kernel
theorem d_X_spare_43 : decode prog_1_method_26_code 43 = .ok (.iload_n 2, 1) := by decide +kernel
theorem d_X_spare_44 : decode prog_1_method_26_code 44 = .ok (.iload_n 2, 1) := by decide +kernel
theorem d_X_spare_45 : decode prog_1_method_26_code 45 = .ok (.iconst 1, 1) := by decide +kernel
theorem d_X_spare_46 : decode prog_1_method_26_code 46 = .ok (.isub, 1) := by decide +kernel
theorem d_X_spare_47 : decode prog_1_method_26_code 47 = .ok (.iand, 1) := by decide +kernel
theorem d_X_spare_48 : decode prog_1_method_26_code 48 = .ok (.istore_n 3, 1) := by decide +kernel
theorem d_X_spare_49 : decode prog_1_method_26_code 49 = .ok (.iload_n 3, 1) := by decide +kernel
theorem d_X_spare_50 : decode prog_1_method_26_code 50 = .ok (.ifCond .ne (7), 3) := by decide +kernel
theorem d_X_spare_53 : decode prog_1_method_26_code 53 = .ok (.iconst (-1), 1) := by decide +kernel
theorem d_X_spare_54 : decode prog_1_method_26_code 54 = .ok (.goto (7), 3) := by decide +kernel
theorem d_X_spare_57 : decode prog_1_method_26_code 57 = .ok (.iload_n 3, 1) := by decide +kernel
theorem d_X_spare_58 : decode prog_1_method_26_code 58 = .ok (.invokestatic 211, 3) := by decide +kernel
theorem d_X_spare_61 : decode prog_1_method_26_code 61 = .ok (.ireturn, 1) := by decide +kernel
def wp_X_spare (a1 : Int32) (M : Mem) (post : Int32 → Mem → Prop) : Prop :=
  (((a1 < (-1)) → post (-2) M) ∧ (¬ (a1 < (-1)) → (((a1 < 2) → wp_X_sparedEvents M (fun r4 M3 => (((r4 = (-1)) → post (-1) M3) ∧ (¬ (r4 = (-1)) → (((a1 = (-1)) → post (pf_J_bitCount r4) M3) ∧ (¬ (a1 = (-1)) → ∀ u8 : Int32, u8 = (if a1 = 0 then r4 else (r4 &&& (r4 - 1))) → ∀ u11 : Int32, u11 = (if u8 = 0 then (-1) else (pf_J_numberOfTrailingZeros u8)) → post u11 M3)))))) ∧ (¬ (a1 < 2) → post (-2) M))))
set_option maxHeartbeats 4000000 in
set_option maxRecDepth 100000 in
theorem c_X_spare (g : GX) {a1 : Int32} {M : Mem} {post : Int32 → Mem → Prop} (hw : wp_X_spare a1 M post) : CtI (oX g) y_X_spare prog_1_method_26_code 4 (some .int) (rl 5) [.ref (ax g 0), .int a1] M post := by
  refine z_metI (oX_ok g) (by decide) rfl (fun X C hr => ?_)
  show Zj X 4 (oX g) M 0 [(0, .ref (ax g 0)), (1, .int a1)] []
  unfold wp_X_spare at hw
  refine z_iload_n C d_X_spare_0 rfl 1 rfl ?_
  refine z_iconst (v := (-1)) C d_X_spare_1 (by decide) ?_
  refine z_ic_lt C 10 d_X_spare_2 (by decide) (fun h1 => ?_) (fun h1 => ?_)
  · replace hw := hw.1 h1
    refine z_bipush (v := (-2)) C d_X_spare_10 (by decide) ?_
    exact z_iret C hr hw d_X_spare_12
  · replace hw := hw.2 h1
    refine z_iload_n C d_X_spare_5 rfl 1 rfl ?_
    refine z_iconst (v := 2) C d_X_spare_6 (by decide) ?_
    refine z_ic_lt C 13 d_X_spare_7 (by decide) (fun h2 => ?_) (fun h2 => ?_)
    · replace hw := hw.1 h2
      refine z_aload_n C d_X_spare_13 rfl 0 rfl ?_
      refine z_callVi C (As := []) (rest := []) m_X_sparedEvents tw_481 0 (le_X) rfl ⟨rfl, rfl⟩ (c_X_sparedEvents g hw) rfl rfl rfl d_X_spare_14 (fun r4 M3 hw => ?_)
      refine z_istore_n (lv' := [(2, .int r4), (0, .ref (ax g 0)), (1, .int a1)]) C d_X_spare_17 rfl rfl rfl ?_
      refine z_iload_n C d_X_spare_18 rfl 0 rfl ?_
      refine z_iconst (v := (-1)) C d_X_spare_19 (by decide) ?_
      refine z_ic_ne C 25 d_X_spare_20 (by decide) (fun h5 => ?_) (fun h5 => ?_)
      · replace hw := hw.2 h5
        refine z_iload_n C d_X_spare_25 rfl 2 rfl ?_
        refine z_iconst (v := (-1)) C d_X_spare_26 (by decide) ?_
        refine z_ic_ne C 35 d_X_spare_27 (by decide) (fun h6 => ?_) (fun h6 => ?_)
        · replace hw := hw.2 h6
          refine z_iload_n C d_X_spare_35 rfl 2 rfl ?_
          have hj13 : ∀ u8 : Int32, u8 = (if a1 = 0 then r4 else (r4 &&& (r4 - 1))) → Zj X 4 (oX g) M3 48 [] [.int u8] := by
            intro u8 hu8
            replace hw := hw u8 hu8
            refine z_istore_n (lv' := [(3, .int u8)]) C d_X_spare_48 rfl rfl rfl ?_
            refine z_iload_n C d_X_spare_49 rfl 0 rfl ?_
            have hj12 : ∀ u11 : Int32, u11 = (if u8 = 0 then (-1) else (pf_J_numberOfTrailingZeros u8)) → Zj X 4 (oX g) M3 61 [] [.int u11] := by
              intro u11 hu11
              replace hw := hw u11 hu11
              exact z_iret C hr hw d_X_spare_61
            refine z_if_ne C 57 d_X_spare_50 (by decide) (fun h9 => ?_) (fun h9 => ?_)
            · refine z_iload_n C d_X_spare_57 rfl 0 rfl ?_
              refine z_callSi C (As := [.int u8]) (rest := []) m_J_numberOfTrailingZeros tw_495 ⟨rfl, rfl⟩ (c_J_numberOfTrailingZeros (oX_ok g) _ _) rfl rfl rfl d_X_spare_58 (fun r M2 hq => ?_)
              obtain ⟨rfl, rfl⟩ := hq
              refine z_sub [] rfl ?_
              exact hj12 _ ((if_neg h9)).symm
            · refine z_iconst (v := (-1)) C d_X_spare_53 (by decide) ?_
              refine z_goto C 61 d_X_spare_54 (by decide) ?_
              refine z_sub [] rfl ?_
              exact hj12 _ ((if_pos h9)).symm
          refine z_if_ne C 43 d_X_spare_36 (by decide) (fun h7 => ?_) (fun h7 => ?_)
          · refine z_iload_n C d_X_spare_43 rfl 0 rfl ?_
            refine z_iload_n C d_X_spare_44 rfl 0 rfl ?_
            refine z_iconst (v := 1) C d_X_spare_45 (by decide) ?_
            refine z_isub C d_X_spare_46 ?_
            refine z_iand C d_X_spare_47 ?_
            refine z_sub [] rfl ?_
            exact hj13 _ ((if_neg h7)).symm
          · refine z_iload_n C d_X_spare_39 rfl 0 rfl ?_
            refine z_goto C 48 d_X_spare_40 (by decide) ?_
            refine z_sub [] rfl ?_
            exact hj13 _ ((if_pos h7)).symm
        · replace hw := hw.1 h6
          refine z_iload_n C d_X_spare_30 rfl 0 rfl ?_
          refine z_callSi C (As := [.int r4]) (rest := []) m_J_bitCount tw_489 ⟨rfl, rfl⟩ (c_J_bitCount (oX_ok g) _ _) rfl rfl rfl d_X_spare_31 (fun r M2 hq => ?_)
          obtain ⟨rfl, rfl⟩ := hq
          exact z_iret C hr hw d_X_spare_34
      · replace hw := hw.1 h5
        refine z_iconst (v := (-1)) C d_X_spare_23 (by decide) ?_
        exact z_iret C hr hw d_X_spare_24
    · replace hw := hw.2 h2
      refine z_bipush (v := (-2)) C d_X_spare_10 (by decide) ?_
      exact z_iret C hr hw d_X_spare_12
