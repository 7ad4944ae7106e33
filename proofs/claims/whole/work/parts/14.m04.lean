theorem d_R_same_0 : decode prog_8_method_89_code 0 = .ok (.iconst 1, 1) := by decide +kernel
theorem d_R_same_1 : decode prog_8_method_89_code 1 = .ok (.istore 4, 2) := by decide +kernel
theorem d_R_same_3 : decode prog_8_method_89_code 3 = .ok (.bipush 12, 2) := by decide +kernel
theorem d_R_same_5 : decode prog_8_method_89_code 5 = .ok (.iload_n 3, 1) := by decide +kernel
theorem d_R_same_6 : decode prog_8_method_89_code 6 = .ok (.imul, 1) := by decide +kernel
theorem d_R_same_7 : decode prog_8_method_89_code 7 = .ok (.istore 5, 2) := by decide +kernel
theorem d_R_same_9 : decode prog_8_method_89_code 9 = .ok (.iload 5, 2) := by decide +kernel
theorem d_R_same_11 : decode prog_8_method_89_code 11 = .ok (.bipush 12, 2) := by decide +kernel
theorem d_R_same_13 : decode prog_8_method_89_code 13 = .ok (.iload_n 3, 1) := by decide +kernel
theorem d_R_same_14 : decode prog_8_method_89_code 14 = .ok (.imul, 1) := by decide +kernel
theorem d_R_same_15 : decode prog_8_method_89_code 15 = .ok (.bipush 12, 2) := by decide +kernel
theorem d_R_same_17 : decode prog_8_method_89_code 17 = .ok (.iadd, 1) := by decide +kernel
theorem d_R_same_18 : decode prog_8_method_89_code 18 = .ok (.if_icmp .ge (50), 3) := by decide +kernel
theorem d_R_same_21 : decode prog_8_method_89_code 21 = .ok (.iload 4, 2) := by decide +kernel
theorem d_R_same_23 : decode prog_8_method_89_code 23 = .ok (.ifCond .eq (36), 3) := by decide +kernel
theorem d_R_same_26 : decode prog_8_method_89_code 26 = .ok (.aload_n 0, 1) := by decide +kernel
theorem d_R_same_27 : decode prog_8_method_89_code 27 = .ok (.getfield 88, 3) := by decide +kernel
theorem d_R_same_30 : decode prog_8_method_89_code 30 = .ok (.sipush 288, 3) := by decide +kernel
theorem d_R_same_33 : decode prog_8_method_89_code 33 = .ok (.iload_n 1, 1) := by decide +kernel
theorem d_R_same_34 : decode prog_8_method_89_code 34 = .ok (.imul, 1) := by decide +kernel
theorem d_R_same_35 : decode prog_8_method_89_code 35 = .ok (.iload 5, 2) := by decide +kernel
theorem d_R_same_37 : decode prog_8_method_89_code 37 = .ok (.iadd, 1) := by decide +kernel
theorem d_R_same_38 : decode prog_8_method_89_code 38 = .ok (.iaload, 1) := by decide +kernel
theorem d_R_same_39 : decode prog_8_method_89_code 39 = .ok (.aload_n 0, 1) := by decide +kernel
theorem d_R_same_40 : decode prog_8_method_89_code 40 = .ok (.getfield 88, 3) := by decide +kernel
theorem d_R_same_43 : decode prog_8_method_89_code 43 = .ok (.sipush 288, 3) := by decide +kernel
theorem d_R_same_46 : decode prog_8_method_89_code 46 = .ok (.iload_n 2, 1) := by decide +kernel
theorem d_R_same_47 : decode prog_8_method_89_code 47 = .ok (.imul, 1) := by decide +kernel
theorem d_R_same_48 : decode prog_8_method_89_code 48 = .ok (.iload 5, 2) := by decide +kernel
theorem d_R_same_50 : decode prog_8_method_89_code 50 = .ok (.iadd, 1) := by decide +kernel
theorem d_R_same_51 : decode prog_8_method_89_code 51 = .ok (.iaload, 1) := by decide +kernel
theorem d_R_same_52 : decode prog_8_method_89_code 52 = .ok (.if_icmp .ne (7), 3) := by decide +kernel
theorem d_R_same_55 : decode prog_8_method_89_code 55 = .ok (.iconst 1, 1) := by decide +kernel
theorem d_R_same_56 : decode prog_8_method_89_code 56 = .ok (.goto (4), 3) := by decide +kernel
theorem d_R_same_59 : decode prog_8_method_89_code 59 = .ok (.iconst 0, 1) := by decide +kernel
theorem d_R_same_60 : decode prog_8_method_89_code 60 = .ok (.istore 4, 2) := by decide +kernel
theorem d_R_same_62 : decode prog_8_method_89_code 62 = .ok (.iinc 5 1, 3) := by decide +kernel
theorem d_R_same_65 : decode prog_8_method_89_code 65 = .ok (.goto (-56), 3) := by decide +kernel
theorem d_R_same_68 : decode prog_8_method_89_code 68 = .ok (.iload 4, 2) := by decide +kernel
theorem d_R_same_70 : decode prog_8_method_89_code 70 = .ok (.ireturn, 1) := by decide +kernel
def wp_R_same (a1 : Int32) (a2 : Int32) (a3 : Int32) (M : Mem) (post : Int32 → Prop) : Prop :=
  (it2 (fun rec1 (i3 : Int32) (i4 : Int32) => (((((12 * a3) + 12) ≤ i4) → (i3 = 0 ∨ i3 = 1) ∧ post i3) ∧ (¬ (((12 * a3) + 12) ≤ i4) → (((i3 = 0) → True) ∧ (¬ (i3 = 0) → (vp_in ((288 * a1) + i4) 2880 ∧ (vp_in ((288 * a2) + i4) 2880)))) ∧ (∀ u10 : Int32, u10 = (if i3 = 0 then 0 else (if (M 27 (tn ((288 * a1) + i4))) = (M 27 (tn ((288 * a2) + i4))) then 1 else 0)) → rec1 u10 (i4 + 1))))) 4096 1 (12 * a3))
set_option maxHeartbeats 4000000 in
set_option maxRecDepth 100000 in
theorem c_R_same (g : GX) {a1 : Int32} {a2 : Int32} {a3 : Int32} {M : Mem} {post : Int32 → Prop} (hw : wp_R_same a1 a2 a3 M post) : CtI (oR g) y_R_same prog_8_method_89_code 6 (some .boolean) (rl 0) [.ref (ax g 0), .int a1, .int a2, .int a3] M (fun r M2 => M = M2 ∧ post r) := by
  refine z_metI (oR_ok g) (by decide) rfl (fun X C hr => ?_)
  show Zj X 6 (oR g) M 0 [(0, .ref (ax g 0)), (1, .int a1), (2, .int a2), (3, .int a3)] []
  unfold wp_R_same at hw
  refine z_iconst (v := 1) C d_R_same_0 (by decide) ?_
  refine z_istore (lv' := [(4, .int 1), (0, .ref (ax g 0)), (1, .int a1), (2, .int a2), (3, .int a3)]) C d_R_same_1 rfl rfl ?_
  refine z_bipush (v := 12) C d_R_same_3 (by decide) ?_
  refine z_iload_n C d_R_same_5 rfl 4 rfl ?_
  refine z_imul C d_R_same_6 ?_
  refine z_istore (lv' := [(5, .int (12 * a3)), (4, .int 1), (0, .ref (ax g 0)), (1, .int a1), (2, .int a2), (3, .int a3)]) C d_R_same_7 rfl rfl ?_
  refine z_sub [2, 3, 4, 5, 1, 0] rfl ?_
  refine it2_Z (Z := fun (i3 : Int32) (i4 : Int32) => Zj X 6 (oR g) M 9 [(0, .ref (ax g 0)), (1, .int a1), (2, .int a2), (3, .int a3), (4, .int i3), (5, .int i4)] []) (fun rec1 ih2 i3 i4 hw => ?_) _ _ _ hw
  refine z_iload C d_R_same_9 5 rfl ?_
  refine z_bipush (v := 12) C d_R_same_11 (by decide) ?_
  refine z_iload_n C d_R_same_13 rfl 3 rfl ?_
  refine z_imul C d_R_same_14 ?_
  refine z_bipush (v := 12) C d_R_same_15 (by decide) ?_
  refine z_iadd C d_R_same_17 ?_
  refine z_ic_ge C 68 d_R_same_18 (by decide) (fun h5 => ?_) (fun h5 => ?_)
  · replace hw := hw.1 h5
    refine z_iload C d_R_same_68 4 rfl ?_
    exact z_zret C hr hw.1 ⟨rfl, hw.2⟩ d_R_same_70
  · replace hw := hw.2 h5
    refine z_iload C d_R_same_21 4 rfl ?_
    have hj11 : ∀ u10 : Int32, u10 = (if i3 = 0 then 0 else (if (M 27 (tn ((288 * a1) + i4))) = (M 27 (tn ((288 * a2) + i4))) then 1 else 0)) → Zj X 6 (oR g) M 60 [(0, .ref (ax g 0)), (1, .int a1), (2, .int a2), (3, .int a3), (5, .int i4)] [.int u10] := by
      intro u10 hu10
      replace hw := hw.2 u10 hu10
      refine z_istore (lv' := [(4, .int u10), (0, .ref (ax g 0)), (1, .int a1), (2, .int a2), (3, .int a3), (5, .int i4)]) C d_R_same_60 rfl rfl ?_
      refine z_iinc (v := (i4 + 1)) (lv' := [(5, .int (i4 + 1)), (4, .int u10), (0, .ref (ax g 0)), (1, .int a1), (2, .int a2), (3, .int a3)]) C d_R_same_62 5 rfl rfl rfl rfl ?_
      refine z_goto C 9 d_R_same_65 (by decide) ?_
      refine z_sub [2, 3, 4, 5, 1, 0] rfl ?_
      exact ih2 _ _ hw
    have ha0 := hw.1
    refine z_if_eq C 59 d_R_same_23 (by decide) (fun h6 => ?_) (fun h6 => ?_)
    · refine z_iconst (v := 0) C d_R_same_59 (by decide) ?_
      refine z_sub [0, 1, 2, 3, 5] rfl ?_
      exact hj11 _ ((if_pos h6)).symm
    · have ha12 := ha0.2 h6
      refine z_aload_n C d_R_same_26 rfl 0 rfl ?_
      refine gf_R_88 C d_R_same_27 ?_
      refine z_sipush (v := 288) C d_R_same_30 (by decide) ?_
      refine z_iload_n C d_R_same_33 rfl 1 rfl ?_
      refine z_imul C d_R_same_34 ?_
      refine z_iload C d_R_same_35 5 rfl ?_
      refine z_iadd C d_R_same_37 ?_
      have hv7 := ha12.1
      refine z_al (zar_r27) C hv7 d_R_same_38 ?_
      refine z_aload_n C d_R_same_39 rfl 0 rfl ?_
      refine gf_R_88 C d_R_same_40 ?_
      refine z_sipush (v := 288) C d_R_same_43 (by decide) ?_
      refine z_iload_n C d_R_same_46 rfl 2 rfl ?_
      refine z_imul C d_R_same_47 ?_
      refine z_iload C d_R_same_48 5 rfl ?_
      refine z_iadd C d_R_same_50 ?_
      have hv8 := ha12.2
      refine z_al (zar_r27) C hv8 d_R_same_51 ?_
      refine z_ic_ne C 59 d_R_same_52 (by decide) (fun h9 => ?_) (fun h9 => ?_)
      · refine z_iconst (v := 0) C d_R_same_59 (by decide) ?_
        refine z_sub [0, 1, 2, 3, 5] rfl ?_
        exact hj11 _ (((if_neg h6).trans (if_neg h9))).symm
      · refine z_iconst (v := 1) C d_R_same_55 (by decide) ?_
        refine z_goto C 60 d_R_same_56 (by decide) ?_
        refine z_sub [0, 1, 2, 3, 5] rfl ?_
        exact hj11 _ (((if_neg h6).trans (if_pos h9))).symm
theorem d_R_lot_0 : decode prog_8_method_95_code 0 = .ok (.aload_n 0, 1) := by decide +kernel
theorem d_R_lot_1 : decode prog_8_method_95_code 1 = .ok (.ldc_w 320, 3) := by decide +kernel
theorem d_R_lot_4 : decode prog_8_method_95_code 4 = .ok (.aload_n 0, 1) := by decide +kernel
theorem d_R_lot_5 : decode prog_8_method_95_code 5 = .ok (.getfield 321, 3) := by decide +kernel
theorem d_R_lot_8 : decode prog_8_method_95_code 8 = .ok (.imul, 1) := by decide +kernel
theorem d_R_lot_9 : decode prog_8_method_95_code 9 = .ok (.sipush 12345, 3) := by decide +kernel
theorem d_R_lot_12 : decode prog_8_method_95_code 12 = .ok (.iadd, 1) := by decide +kernel
theorem d_R_lot_13 : decode prog_8_method_95_code 13 = .ok (.putfield 321, 3) := by decide +kernel
theorem d_R_lot_16 : decode prog_8_method_95_code 16 = .ok (.aload_n 0, 1) := by decide +kernel
theorem d_R_lot_17 : decode prog_8_method_95_code 17 = .ok (.getfield 321, 3) := by decide +kernel
theorem d_R_lot_20 : decode prog_8_method_95_code 20 = .ok (.bipush 16, 2) := by decide +kernel
theorem d_R_lot_22 : decode prog_8_method_95_code 22 = .ok (.iushr, 1) := by decide +kernel
theorem d_R_lot_23 : decode prog_8_method_95_code 23 = .ok (.iload_n 1, 1) := by decide +kernel
theorem d_R_lot_24 : decode prog_8_method_95_code 24 = .ok (.irem, 1) := by decide +kernel
theorem d_R_lot_25 : decode prog_8_method_95_code 25 = .ok (.ireturn, 1) := by decide +kernel
def wp_R_lot (a1 : Int32) (M : Mem) (post : Int32 → Mem → Prop) : Prop :=
  ∀ M1 : Mem, M1 = upm M 0 34 (((1103515245) * (M 0 34)) + 12345) → ¬ a1 = 0 ∧ post ((ushr32 (M1 0 34) 16) - (ushr32 (M1 0 34) 16) / a1 * a1) M1
set_option maxHeartbeats 4000000 in
set_option maxRecDepth 100000 in
theorem c_R_lot (g : GX) {a1 : Int32} {M : Mem} {post : Int32 → Mem → Prop} (hw : wp_R_lot a1 M post) : CtI (oR g) y_R_lot prog_8_method_95_code 2 (some .int) (rl 0) [.ref (ax g 0), .int a1] M post := by
  refine z_metI (oR_ok g) (by decide) rfl (fun X C hr => ?_)
  show Zj X 2 (oR g) M 0 [(0, .ref (ax g 0)), (1, .int a1)] []
  unfold wp_R_lot at hw
  refine z_aload_n C d_R_lot_0 rfl 0 rfl ?_
  refine z_ldcw C d_R_lot_1 tw_1159 ?_
  refine z_aload_n C d_R_lot_4 rfl 0 rfl ?_
  refine gf_R_321 C d_R_lot_5 ?_
  refine z_imul C d_R_lot_8 ?_
  refine z_sipush (v := 12345) C d_R_lot_9 (by decide) ?_
  refine z_iadd C d_R_lot_12 ?_
  refine pp_R_321 C d_R_lot_13 (fun M1 hM1 => ?_)
  replace hw := hw M1 hM1
  refine z_aload_n C d_R_lot_16 rfl 0 rfl ?_
  refine gf_R_321 C d_R_lot_17 ?_
  refine z_bipush (v := 16) C d_R_lot_20 (by decide) ?_
  refine z_iushr C d_R_lot_22 ?_
  refine z_iload_n C d_R_lot_23 rfl 1 rfl ?_
  have hv2 := hw.1
  replace hw := hw.2
  refine z_irem C d_R_lot_24 hv2 ?_
  exact z_iret C hr hw d_R_lot_25
theorem d_XH_put_0 : decode prog_2_method_3_code 0 = .ok (.aload_n 0, 1) := by decide +kernel
theorem d_XH_put_1 : decode prog_2_method_3_code 1 = .ok (.getfield 9, 3) := by decide +kernel
theorem d_XH_put_4 : decode prog_2_method_3_code 4 = .ok (.iload_n 1, 1) := by decide +kernel
theorem d_XH_put_5 : decode prog_2_method_3_code 5 = .ok (.aload_n 0, 1) := by decide +kernel
theorem d_XH_put_6 : decode prog_2_method_3_code 6 = .ok (.getfield 15, 3) := by decide +kernel
theorem d_XH_put_9 : decode prog_2_method_3_code 9 = .ok (.ifCond .ne (8), 3) := by decide +kernel
theorem d_XH_put_12 : decode prog_2_method_3_code 12 = .ok (.iload_n 2, 1) := by decide +kernel
theorem d_XH_put_13 : decode prog_2_method_3_code 13 = .ok (.i2b, 1) := by decide +kernel
theorem d_XH_put_14 : decode prog_2_method_3_code 14 = .ok (.goto (17), 3) := by decide +kernel
theorem d_XH_put_17 : decode prog_2_method_3_code 17 = .ok (.aload_n 0, 1) := by decide +kernel
theorem d_XH_put_18 : decode prog_2_method_3_code 18 = .ok (.getfield 15, 3) := by decide +kernel
theorem d_XH_put_21 : decode prog_2_method_3_code 21 = .ok (.iconst 1, 1) := by decide +kernel
theorem d_XH_put_22 : decode prog_2_method_3_code 22 = .ok (.if_icmp .ne (8), 3) := by decide +kernel
theorem d_XH_put_25 : decode prog_2_method_3_code 25 = .ok (.iload_n 2, 1) := by decide +kernel
theorem d_XH_put_26 : decode prog_2_method_3_code 26 = .ok (.i2s, 1) := by decide +kernel
theorem d_XH_put_27 : decode prog_2_method_3_code 27 = .ok (.goto (4), 3) := by decide +kernel
theorem d_XH_put_30 : decode prog_2_method_3_code 30 = .ok (.iload_n 2, 1) := by decide +kernel
theorem d_XH_put_31 : decode prog_2_method_3_code 31 = .ok (.iastore, 1) := by decide +kernel
theorem d_XH_put_32 : decode prog_2_method_3_code 32 = .ok (.return_, 1) := by decide +kernel
def wp_XH_put (c1 : Nat) (a1 : Int32) (a2 : Int32) (M : Mem) (post : Mem → Prop) : Prop :=
  ∀ u3 : Int32, u3 = (if (M (24 + 2 * c1) 1) = 0 then (Int8.toInt32 (Int32.toInt8 a2)) else (if (M (24 + 2 * c1) 1) = 1 then (Int16.toInt32 (Int32.toInt16 a2)) else a2)) → vp_in a1 60 ∧ ∀ M4 : Mem, M4 = upm M (25 + 2 * c1) (tn a1) u3 → post M4
set_option maxHeartbeats 4000000 in
set_option maxRecDepth 100000 in
theorem c_XH_put (g : GX) {c1 : Nat} {a1 : Int32} {a2 : Int32} {M : Mem} {post : Mem → Prop} (hc1 : c1 < 4) (hw : wp_XH_put c1 a1 a2 M post) : CtV (oX g) y_XH_put prog_2_method_3_code 3 none (rl 0) [.ref (ax g (24 + 2 * c1)), .int a1, .int a2] M post := by
  refine z_metV (oX_ok g) (by decide) rfl (fun X C hr => ?_)
  show Zj X 3 (oX g) M 0 [(0, .ref (ax g (24 + 2 * c1))), (1, .int a1), (2, .int a2)] []
  unfold wp_XH_put at hw
  refine z_aload_n C d_XH_put_0 rfl 0 rfl ?_
  refine gf_XH_9 hc1 C d_XH_put_1 ?_
  refine z_iload_n C d_XH_put_4 rfl 1 rfl ?_
  refine z_aload_n C d_XH_put_5 rfl 0 rfl ?_
  refine gf_XH_15 hc1 C d_XH_put_6 ?_
  have hj6 : ∀ u3 : Int32, u3 = (if (M (24 + 2 * c1) 1) = 0 then (Int8.toInt32 (Int32.toInt8 a2)) else (if (M (24 + 2 * c1) 1) = 1 then (Int16.toInt32 (Int32.toInt16 a2)) else a2)) → Zj X 3 (oX g) M 31 [] [.int u3, .int a1, .ref (ax g (25 + 2 * c1))] := by
    intro u3 hu3
    replace hw := hw u3 hu3
    have hv5 := hw.1
    refine z_as (zar_xSI hc1) C hv5 d_XH_put_31 (fun M4 hM4 => ?_)
    replace hw := hw.2 M4 hM4
    exact z_vret C hr hw d_XH_put_32
  refine z_if_ne C 17 d_XH_put_9 (by decide) (fun h1 => ?_) (fun h1 => ?_)
  · refine z_aload_n C d_XH_put_17 rfl 0 rfl ?_
    refine gf_XH_15 hc1 C d_XH_put_18 ?_
    refine z_iconst (v := 1) C d_XH_put_21 (by decide) ?_
    refine z_ic_ne C 30 d_XH_put_22 (by decide) (fun h2 => ?_) (fun h2 => ?_)
    · refine z_iload_n C d_XH_put_30 rfl 2 rfl ?_
      refine z_sub [] rfl ?_
      exact hj6 _ (((if_neg h1).trans (if_neg h2))).symm
    · refine z_iload_n C d_XH_put_25 rfl 2 rfl ?_
      refine z_i2s C d_XH_put_26 ?_
      refine z_goto C 31 d_XH_put_27 (by decide) ?_
      refine z_sub [] rfl ?_
      exact hj6 _ (((if_neg h1).trans (if_pos h2))).symm
  · refine z_iload_n C d_XH_put_12 rfl 2 rfl ?_
    refine z_i2b C d_XH_put_13 ?_
    refine z_goto C 31 d_XH_put_14 (by decide) ?_
    refine z_sub [] rfl ?_
    exact hj6 _ ((if_pos h1)).symm
theorem d_XH_hasItems_0 : decode prog_2_method_4_code 0 = .ok (.iload_n 1, 1) := by decide +kernel
theorem d_XH_hasItems_1 : decode prog_2_method_4_code 1 = .ok (.ifCond .lt (25), 3) := by decide +kernel
theorem d_XH_hasItems_4 : decode prog_2_method_4_code 4 = .ok (.iload_n 2, 1) := by decide +kernel
theorem d_XH_hasItems_5 : decode prog_2_method_4_code 5 = .ok (.ifCond .lt (21), 3) := by decide +kernel
theorem d_XH_hasItems_8 : decode prog_2_method_4_code 8 = .ok (.iload_n 1, 1) := by decide +kernel
theorem d_XH_hasItems_9 : decode prog_2_method_4_code 9 = .ok (.i2l, 1) := by decide +kernel
theorem d_XH_hasItems_10 : decode prog_2_method_4_code 10 = .ok (.iload_n 2, 1) := by decide +kernel
theorem d_XH_hasItems_11 : decode prog_2_method_4_code 11 = .ok (.i2l, 1) := by decide +kernel
theorem d_XH_hasItems_12 : decode prog_2_method_4_code 12 = .ok (.ladd, 1) := by decide +kernel
theorem d_XH_hasItems_13 : decode prog_2_method_4_code 13 = .ok (.aload_n 0, 1) := by decide +kernel
theorem d_XH_hasItems_14 : decode prog_2_method_4_code 14 = .ok (.getfield 19, 3) := by decide +kernel
theorem d_XH_hasItems_17 : decode prog_2_method_4_code 17 = .ok (.i2l, 1) := by decide +kernel
theorem d_XH_hasItems_18 : decode prog_2_method_4_code 18 = .ok (.lcmp, 1) := by decide +kernel
theorem d_XH_hasItems_19 : decode prog_2_method_4_code 19 = .ok (.ifCond .gt (7), 3) := by decide +kernel
theorem d_XH_hasItems_22 : decode prog_2_method_4_code 22 = .ok (.iconst 1, 1) := by decide +kernel
theorem d_XH_hasItems_23 : decode prog_2_method_4_code 23 = .ok (.goto (4), 3) := by decide +kernel
theorem d_XH_hasItems_26 : decode prog_2_method_4_code 26 = .ok (.iconst 0, 1) := by decide +kernel
theorem d_XH_hasItems_27 : decode prog_2_method_4_code 27 = .ok (.ireturn, 1) := by decide +kernel
def wp_XH_hasItems (c1 : Nat) (a1 : Int32) (a2 : Int32) (M : Mem) (post : Int32 → Prop) : Prop :=
  ∀ u4 : Int32, u4 = (if a1 < 0 then 0 else (if a2 < 0 then 0 else (if 0 < (lg_cmp ((Int32.toInt64 a1) + (Int32.toInt64 a2)) (Int32.toInt64 (M (24 + 2 * c1) 2))) then 0 else 1))) → (u4 = 0 ∨ u4 = 1) ∧ post u4
set_option maxHeartbeats 4000000 in
set_option maxRecDepth 100000 in
theorem c_XH_hasItems (g : GX) {c1 : Nat} {a1 : Int32} {a2 : Int32} {M : Mem} {post : Int32 → Prop} (hc1 : c1 < 4) (hw : wp_XH_hasItems c1 a1 a2 M post) : CtI (oX g) y_XH_hasItems prog_2_method_4_code 3 (some .boolean) (rl 0) [.ref (ax g (24 + 2 * c1)), .int a1, .int a2] M (fun r M2 => M = M2 ∧ post r) := by
  refine z_metI (oX_ok g) (by decide) rfl (fun X C hr => ?_)
  show Zj X 3 (oX g) M 0 [(0, .ref (ax g (24 + 2 * c1))), (1, .int a1), (2, .int a2)] []
  unfold wp_XH_hasItems at hw
  refine z_iload_n C d_XH_hasItems_0 rfl 1 rfl ?_
  have hj5 : ∀ u4 : Int32, u4 = (if a1 < 0 then 0 else (if a2 < 0 then 0 else (if 0 < (lg_cmp ((Int32.toInt64 a1) + (Int32.toInt64 a2)) (Int32.toInt64 (M (24 + 2 * c1) 2))) then 0 else 1))) → Zj X 3 (oX g) M 27 [] [.int u4] := by
    intro u4 hu4
    replace hw := hw u4 hu4
    exact z_zret C hr hw.1 ⟨rfl, hw.2⟩ d_XH_hasItems_27
  refine z_if_lt C 26 d_XH_hasItems_1 (by decide) (fun h1 => ?_) (fun h1 => ?_)
  · refine z_iconst (v := 0) C d_XH_hasItems_26 (by decide) ?_
    refine z_sub [] rfl ?_
    exact hj5 _ ((if_pos h1)).symm
  · refine z_iload_n C d_XH_hasItems_4 rfl 2 rfl ?_
    refine z_if_lt C 26 d_XH_hasItems_5 (by decide) (fun h2 => ?_) (fun h2 => ?_)
    · refine z_iconst (v := 0) C d_XH_hasItems_26 (by decide) ?_
      refine z_sub [] rfl ?_
      exact hj5 _ (((if_neg h1).trans (if_pos h2))).symm
    · refine z_iload_n C d_XH_hasItems_8 rfl 1 rfl ?_
      refine z_i2l C d_XH_hasItems_9 ?_
      refine z_iload_n C d_XH_hasItems_10 rfl 2 rfl ?_
      refine z_i2l C d_XH_hasItems_11 ?_
      refine z_ladd C d_XH_hasItems_12 ?_
      refine z_aload_n C d_XH_hasItems_13 rfl 0 rfl ?_
      refine gf_XH_19 hc1 C d_XH_hasItems_14 ?_
      refine z_i2l C d_XH_hasItems_17 ?_
      refine z_lcmp C d_XH_hasItems_18 ?_
      refine z_if_gt C 26 d_XH_hasItems_19 (by decide) (fun h3 => ?_) (fun h3 => ?_)
      · refine z_iconst (v := 0) C d_XH_hasItems_26 (by decide) ?_
        refine z_sub [] rfl ?_
        exact hj5 _ (((if_neg h1).trans ((if_neg h2).trans (if_pos h3)))).symm
      · refine z_iconst (v := 1) C d_XH_hasItems_22 (by decide) ?_
        refine z_goto C 27 d_XH_hasItems_23 (by decide) ?_
        refine z_sub [] rfl ?_
        exact hj5 _ (((if_neg h1).trans ((if_neg h2).trans (if_neg h3)))).symm
theorem d_XG_add_0 : decode prog_3_method_2_code 0 = .ok (.aload_n 0, 1) := by decide +kernel
theorem d_XG_add_1 : decode prog_3_method_2_code 1 = .ok (.getfield 18, 3) := by decide +kernel
theorem d_XG_add_4 : decode prog_3_method_2_code 4 = .ok (.bipush 8, 2) := by decide +kernel
theorem d_XG_add_6 : decode prog_3_method_2_code 6 = .ok (.if_icmp .lt (5), 3) := by decide +kernel
theorem d_XG_add_9 : decode prog_3_method_2_code 9 = .ok (.iconst 0, 1) := by decide +kernel
theorem d_XG_add_10 : decode prog_3_method_2_code 10 = .ok (.ireturn, 1) := by decide +kernel
theorem d_XG_add_11 : decode prog_3_method_2_code 11 = .ok (.aload_n 0, 1) := by decide +kernel
theorem d_XG_add_12 : decode prog_3_method_2_code 12 = .ok (.getfield 9, 3) := by decide +kernel
theorem d_XG_add_15 : decode prog_3_method_2_code 15 = .ok (.aload_n 0, 1) := by decide +kernel
theorem d_XG_add_16 : decode prog_3_method_2_code 16 = .ok (.getfield 18, 3) := by decide +kernel
theorem d_XG_add_19 : decode prog_3_method_2_code 19 = .ok (.iload_n 1, 1) := by decide +kernel
theorem d_XG_add_20 : decode prog_3_method_2_code 20 = .ok (.bipush 12, 2) := by decide +kernel
theorem d_XG_add_22 : decode prog_3_method_2_code 22 = .ok (.imul, 1) := by decide +kernel
theorem d_XG_add_23 : decode prog_3_method_2_code 23 = .ok (.iload_n 2, 1) := by decide +kernel
theorem d_XG_add_24 : decode prog_3_method_2_code 24 = .ok (.iadd, 1) := by decide +kernel
theorem d_XG_add_25 : decode prog_3_method_2_code 25 = .ok (.iastore, 1) := by decide +kernel
theorem d_XG_add_26 : decode prog_3_method_2_code 26 = .ok (.aload_n 0, 1) := by decide +kernel
theorem d_XG_add_27 : decode prog_3_method_2_code 27 = .ok (.getfield 15, 3) := by decide +kernel
theorem d_XG_add_30 : decode prog_3_method_2_code 30 = .ok (.aload_n 0, 1) := by decide +kernel
theorem d_XG_add_31 : decode prog_3_method_2_code 31 = .ok (.getfield 18, 3) := by decide +kernel
theorem d_XG_add_34 : decode prog_3_method_2_code 34 = .ok (.iload_n 3, 1) := by decide +kernel
theorem d_XG_add_35 : decode prog_3_method_2_code 35 = .ok (.iastore, 1) := by decide +kernel
theorem d_XG_add_36 : decode prog_3_method_2_code 36 = .ok (.aload_n 0, 1) := by decide +kernel
theorem d_XG_add_37 : decode prog_3_method_2_code 37 = .ok (.dup, 1) := by decide +kernel
theorem d_XG_add_38 : decode prog_3_method_2_code 38 = .ok (.getfield 18, 3) := by decide +kernel
theorem d_XG_add_41 : decode prog_3_method_2_code 41 = .ok (.iconst 1, 1) := by decide +kernel
theorem d_XG_add_42 : decode prog_3_method_2_code 42 = .ok (.iadd, 1) := by decide +kernel
theorem d_XG_add_43 : decode prog_3_method_2_code 43 = .ok (.putfield 18, 3) := by decide +kernel
theorem d_XG_add_46 : decode prog_3_method_2_code 46 = .ok (.iconst 1, 1) := by decide +kernel
theorem d_XG_add_47 : decode prog_3_method_2_code 47 = .ok (.ireturn, 1) := by decide +kernel
def wp_XG_add (a1 : Int32) (a2 : Int32) (a3 : Int32) (M : Mem) (post : Int32 → Mem → Prop) : Prop :=
  ((((M 20 2) < 8) → vp_in (M 20 2) 8 ∧ ∀ M2 : Mem, M2 = upm M 21 (tn (M 20 2)) ((a1 * 12) + a2) → vp_in (M2 20 2) 8 ∧ ∀ M4 : Mem, M4 = upm M2 22 (tn (M2 20 2)) a3 → ∀ M6 : Mem, M6 = upm M4 20 2 ((M4 20 2) + 1) → post 1 M6) ∧ (¬ ((M 20 2) < 8) → post 0 M))
set_option maxHeartbeats 4000000 in
set_option maxRecDepth 100000 in
theorem c_XG_add (g : GX) {a1 : Int32} {a2 : Int32} {a3 : Int32} {M : Mem} {post : Int32 → Mem → Prop} (hw : wp_XG_add a1 a2 a3 M post) : CtI (oX g) y_XG_add prog_3_method_2_code 4 (some .boolean) (rl 0) [.ref (ax g 20), .int a1, .int a2, .int a3] M post := by
  refine z_metI (oX_ok g) (by decide) rfl (fun X C hr => ?_)
  show Zj X 4 (oX g) M 0 [(0, .ref (ax g 20)), (1, .int a1), (2, .int a2), (3, .int a3)] []
  unfold wp_XG_add at hw
  refine z_aload_n C d_XG_add_0 rfl 0 rfl ?_
  refine gf_XG_18 C d_XG_add_1 ?_
  refine z_bipush (v := 8) C d_XG_add_4 (by decide) ?_
  refine z_ic_lt C 11 d_XG_add_6 (by decide) (fun h1 => ?_) (fun h1 => ?_)
  · replace hw := hw.1 h1
    refine z_aload_n C d_XG_add_11 rfl 0 rfl ?_
    refine gf_XG_9 C d_XG_add_12 ?_
    refine z_aload_n C d_XG_add_15 rfl 0 rfl ?_
    refine gf_XG_18 C d_XG_add_16 ?_
    refine z_iload_n C d_XG_add_19 rfl 1 rfl ?_
    refine z_bipush (v := 12) C d_XG_add_20 (by decide) ?_
    refine z_imul C d_XG_add_22 ?_
    refine z_iload_n C d_XG_add_23 rfl 2 rfl ?_
    refine z_iadd C d_XG_add_24 ?_
    have hv3 := hw.1
    refine z_as (zar_x21) C hv3 d_XG_add_25 (fun M2 hM2 => ?_)
    replace hw := hw.2 M2 hM2
    refine z_aload_n C d_XG_add_26 rfl 0 rfl ?_
    refine gf_XG_15 C d_XG_add_27 ?_
    refine z_aload_n C d_XG_add_30 rfl 0 rfl ?_
    refine gf_XG_18 C d_XG_add_31 ?_
    refine z_iload_n C d_XG_add_34 rfl 3 rfl ?_
    have hv5 := hw.1
    refine z_as (zar_x22) C hv5 d_XG_add_35 (fun M4 hM4 => ?_)
    replace hw := hw.2 M4 hM4
    refine z_aload_n C d_XG_add_36 rfl 0 rfl ?_
    refine z_dup C d_XG_add_37 rfl ?_
    refine gf_XG_18 C d_XG_add_38 ?_
    refine z_iconst (v := 1) C d_XG_add_41 (by decide) ?_
    refine z_iadd C d_XG_add_42 ?_
    refine pp_XG_18 C d_XG_add_43 (fun M6 hM6 => ?_)
    replace hw := hw M6 hM6
    refine z_iconst (v := 1) C d_XG_add_46 (by decide) ?_
    exact z_zret C hr (Or.inr rfl) hw d_XG_add_47
  · replace hw := hw.2 h1
    refine z_iconst (v := 0) C d_XG_add_9 (by decide) ?_
    exact z_zret C hr (Or.inl rfl) hw d_XG_add_10
theorem d_XG_fit_0 : decode prog_3_method_3_code 0 = .ok (.iconst 0, 1) := by decide +kernel
theorem d_XG_fit_1 : decode prog_3_method_3_code 1 = .ok (.istore_n 2, 1) := by decide +kernel
theorem d_XG_fit_2 : decode prog_3_method_3_code 2 = .ok (.iload_n 2, 1) := by decide +kernel
theorem d_XG_fit_3 : decode prog_3_method_3_code 3 = .ok (.aload_n 0, 1) := by decide +kernel
theorem d_XG_fit_4 : decode prog_3_method_3_code 4 = .ok (.getfield 18, 3) := by decide +kernel
theorem d_XG_fit_7 : decode prog_3_method_3_code 7 = .ok (.if_icmp .ge (31), 3) := by decide +kernel
theorem d_XG_fit_10 : decode prog_3_method_3_code 10 = .ok (.aload_n 1, 1) := by decide +kernel
theorem d_XG_fit_11 : decode prog_3_method_3_code 11 = .ok (.getfield 22, 3) := by decide +kernel
theorem d_XG_fit_14 : decode prog_3_method_3_code 14 = .ok (.aload_n 0, 1) := by decide +kernel
theorem d_XG_fit_15 : decode prog_3_method_3_code 15 = .ok (.getfield 9, 3) := by decide +kernel
theorem d_XG_fit_18 : decode prog_3_method_3_code 18 = .ok (.iload_n 2, 1) := by decide +kernel
theorem d_XG_fit_19 : decode prog_3_method_3_code 19 = .ok (.iaload, 1) := by decide +kernel
theorem d_XG_fit_20 : decode prog_3_method_3_code 20 = .ok (.iaload, 1) := by decide +kernel
theorem d_XG_fit_21 : decode prog_3_method_3_code 21 = .ok (.aload_n 0, 1) := by decide +kernel
theorem d_XG_fit_22 : decode prog_3_method_3_code 22 = .ok (.getfield 15, 3) := by decide +kernel
theorem d_XG_fit_25 : decode prog_3_method_3_code 25 = .ok (.iload_n 2, 1) := by decide +kernel
theorem d_XG_fit_26 : decode prog_3_method_3_code 26 = .ok (.iaload, 1) := by decide +kernel
theorem d_XG_fit_27 : decode prog_3_method_3_code 27 = .ok (.if_icmp .eq (5), 3) := by decide +kernel
theorem d_XG_fit_30 : decode prog_3_method_3_code 30 = .ok (.iconst 0, 1) := by decide +kernel
theorem d_XG_fit_31 : decode prog_3_method_3_code 31 = .ok (.ireturn, 1) := by decide +kernel
theorem d_XG_fit_32 : decode prog_3_method_3_code 32 = .ok (.iinc 2 1, 3) := by decide +kernel
theorem d_XG_fit_35 : decode prog_3_method_3_code 35 = .ok (.goto (-33), 3) := by decide +kernel
theorem d_XG_fit_38 : decode prog_3_method_3_code 38 = .ok (.iconst 1, 1) := by decide +kernel
theorem d_XG_fit_39 : decode prog_3_method_3_code 39 = .ok (.ireturn, 1) := by decide +kernel
def wp_XG_fit (c1 : Nat) (M : Mem) (post : Int32 → Prop) : Prop :=
  (it1 (fun rec1 (i3 : Int32) => ((((M 20 2) ≤ i3) → post 1) ∧ (¬ ((M 20 2) ≤ i3) → vp_in i3 8 ∧ vp_in (M 21 (tn i3)) 288 ∧ ((((M (c1 + 1) (tn (M 21 (tn i3)))) = (M 22 (tn i3))) → rec1 (i3 + 1)) ∧ (¬ ((M (c1 + 1) (tn (M 21 (tn i3)))) = (M 22 (tn i3))) → post 0))))) 4096 0)
set_option maxHeartbeats 4000000 in
set_option maxRecDepth 100000 in
theorem c_XG_fit (g : GX) {c1 : Nat} {M : Mem} {post : Int32 → Prop} (hc1 : c1 = 32 ∨ c1 = 44) (hw : wp_XG_fit c1 M post) : CtI (oX g) y_XG_fit prog_3_method_3_code 3 (some .boolean) (rl 0) [.ref (ax g 20), .ref (ax g c1)] M (fun r M2 => M = M2 ∧ post r) := by
  refine z_metI (oX_ok g) (by decide) rfl (fun X C hr => ?_)
  show Zj X 3 (oX g) M 0 [(0, .ref (ax g 20)), (1, .ref (ax g c1))] []
  unfold wp_XG_fit at hw
  refine z_iconst (v := 0) C d_XG_fit_0 (by decide) ?_
  refine z_istore_n (lv' := [(2, .int 0), (0, .ref (ax g 20)), (1, .ref (ax g c1))]) C d_XG_fit_1 rfl rfl rfl ?_
  refine z_sub [1, 2, 0] rfl ?_
  refine it1_Z (Z := fun (i3 : Int32) => Zj X 3 (oX g) M 2 [(0, .ref (ax g 20)), (1, .ref (ax g c1)), (2, .int i3)] []) (fun rec1 ih2 i3 hw => ?_) _ _ hw
  refine z_iload_n C d_XG_fit_2 rfl 2 rfl ?_
  refine z_aload_n C d_XG_fit_3 rfl 0 rfl ?_
  refine gf_XG_18 C d_XG_fit_4 ?_
  refine z_ic_ge C 38 d_XG_fit_7 (by decide) (fun h4 => ?_) (fun h4 => ?_)
  · replace hw := hw.1 h4
    refine z_iconst (v := 1) C d_XG_fit_38 (by decide) ?_
    exact z_zret C hr (Or.inr rfl) ⟨rfl, hw⟩ d_XG_fit_39
  · replace hw := hw.2 h4
    refine z_aload_n C d_XG_fit_10 rfl 1 rfl ?_
    refine gf_XG_22 hc1 C d_XG_fit_11 ?_
    refine z_aload_n C d_XG_fit_14 rfl 0 rfl ?_
    refine gf_XG_9 C d_XG_fit_15 ?_
    refine z_iload_n C d_XG_fit_18 rfl 2 rfl ?_
    have hv5 := hw.1
    replace hw := hw.2
    refine z_al (zar_x21) C hv5 d_XG_fit_19 ?_
    have hv6 := hw.1
    replace hw := hw.2
    refine z_al (zar_xW1 hc1) C hv6 d_XG_fit_20 ?_
    refine z_aload_n C d_XG_fit_21 rfl 0 rfl ?_
    refine gf_XG_15 C d_XG_fit_22 ?_
    refine z_iload_n C d_XG_fit_25 rfl 2 rfl ?_
    refine z_al (zar_x22) C hv5 d_XG_fit_26 ?_
    refine z_ic_eq C 32 d_XG_fit_27 (by decide) (fun h7 => ?_) (fun h7 => ?_)
    · replace hw := hw.1 h7
      refine z_iinc (v := (i3 + 1)) (lv' := [(2, .int (i3 + 1)), (0, .ref (ax g 20)), (1, .ref (ax g c1))]) C d_XG_fit_32 2 rfl rfl rfl rfl ?_
      refine z_goto C 2 d_XG_fit_35 (by decide) ?_
      refine z_sub [1, 2, 0] rfl ?_
      exact ih2 _ hw
    · replace hw := hw.2 h7
      refine z_iconst (v := 0) C d_XG_fit_30 (by decide) ?_
      exact z_zret C hr (Or.inl rfl) ⟨rfl, hw⟩ d_XG_fit_31
theorem d_XT_append_0 : decode prog_4_method_2_code 0 = .ok (.aload_n 0, 1) := by decide +kernel
theorem d_XT_append_1 : decode prog_4_method_2_code 1 = .ok (.getfield 9, 3) := by decide +kernel
theorem d_XT_append_4 : decode prog_4_method_2_code 4 = .ok (.aload_n 0, 1) := by decide +kernel
theorem d_XT_append_5 : decode prog_4_method_2_code 5 = .ok (.getfield 22, 3) := by decide +kernel
theorem d_XT_append_8 : decode prog_4_method_2_code 8 = .ok (.arraylength, 1) := by decide +kernel
theorem d_XT_append_9 : decode prog_4_method_2_code 9 = .ok (.if_icmp .lt (5), 3) := by decide +kernel
theorem d_XT_append_12 : decode prog_4_method_2_code 12 = .ok (.iconst 0, 1) := by decide +kernel
theorem d_XT_append_13 : decode prog_4_method_2_code 13 = .ok (.ireturn, 1) := by decide +kernel
theorem d_XT_append_14 : decode prog_4_method_2_code 14 = .ok (.aload_n 0, 1) := by decide +kernel
theorem d_XT_append_15 : decode prog_4_method_2_code 15 = .ok (.getfield 22, 3) := by decide +kernel
theorem d_XT_append_18 : decode prog_4_method_2_code 18 = .ok (.aload_n 0, 1) := by decide +kernel
theorem d_XT_append_19 : decode prog_4_method_2_code 19 = .ok (.getfield 9, 3) := by decide +kernel
theorem d_XT_append_22 : decode prog_4_method_2_code 22 = .ok (.iload_n 1, 1) := by decide +kernel
theorem d_XT_append_23 : decode prog_4_method_2_code 23 = .ok (.iastore, 1) := by decide +kernel
theorem d_XT_append_24 : decode prog_4_method_2_code 24 = .ok (.aload_n 0, 1) := by decide +kernel
theorem d_XT_append_25 : decode prog_4_method_2_code 25 = .ok (.dup, 1) := by decide +kernel
theorem d_XT_append_26 : decode prog_4_method_2_code 26 = .ok (.getfield 9, 3) := by decide +kernel
theorem d_XT_append_29 : decode prog_4_method_2_code 29 = .ok (.iconst 1, 1) := by decide +kernel
theorem d_XT_append_30 : decode prog_4_method_2_code 30 = .ok (.iadd, 1) := by decide +kernel
theorem d_XT_append_31 : decode prog_4_method_2_code 31 = .ok (.putfield 9, 3) := by decide +kernel
theorem d_XT_append_34 : decode prog_4_method_2_code 34 = .ok (.iconst 1, 1) := by decide +kernel
theorem d_XT_append_35 : decode prog_4_method_2_code 35 = .ok (.ireturn, 1) := by decide +kernel
def wp_XT_append (c1 : Nat) (a1 : Int32) (M : Mem) (post : Int32 → Mem → Prop) : Prop :=
  ((((M (2 + 2 * c1) 2) < (nI (tlen c1))) → vp_in (M (2 + 2 * c1) 2) (tlen c1) ∧ ∀ M2 : Mem, M2 = upm M (3 + 2 * c1) (tn (M (2 + 2 * c1) 2)) a1 → ∀ M4 : Mem, M4 = upm M2 (2 + 2 * c1) 2 ((M2 (2 + 2 * c1) 2) + 1) → post 1 M4) ∧ (¬ ((M (2 + 2 * c1) 2) < (nI (tlen c1))) → post 0 M))
set_option maxHeartbeats 4000000 in
set_option maxRecDepth 100000 in
theorem c_XT_append (g : GX) {c1 : Nat} {a1 : Int32} {M : Mem} {post : Int32 → Mem → Prop} (hc1 : c1 < 4) (hw : wp_XT_append c1 a1 M post) : CtI (oX g) y_XT_append prog_4_method_2_code 2 (some .boolean) (rl 0) [.ref (ax g (2 + 2 * c1)), .int a1] M post := by
  refine z_metI (oX_ok g) (by decide) rfl (fun X C hr => ?_)
  show Zj X 2 (oX g) M 0 [(0, .ref (ax g (2 + 2 * c1))), (1, .int a1)] []
  unfold wp_XT_append at hw
  refine z_aload_n C d_XT_append_0 rfl 0 rfl ?_
  refine gf_XT_9 hc1 C d_XT_append_1 ?_
  refine z_aload_n C d_XT_append_4 rfl 0 rfl ?_
  refine gf_XT_22 hc1 C d_XT_append_5 ?_
  refine z_an (zar_xTB hc1) C (v := (nI (tlen c1))) rfl d_XT_append_8 ?_
  refine z_ic_lt C 14 d_XT_append_9 (by decide) (fun h1 => ?_) (fun h1 => ?_)
  · replace hw := hw.1 h1
    refine z_aload_n C d_XT_append_14 rfl 0 rfl ?_
    refine gf_XT_22 hc1 C d_XT_append_15 ?_
    refine z_aload_n C d_XT_append_18 rfl 0 rfl ?_
    refine gf_XT_9 hc1 C d_XT_append_19 ?_
    refine z_iload_n C d_XT_append_22 rfl 1 rfl ?_
    have hv3 := hw.1
    refine z_as (zar_xTB hc1) C hv3 d_XT_append_23 (fun M2 hM2 => ?_)
    replace hw := hw.2 M2 hM2
    refine z_aload_n C d_XT_append_24 rfl 0 rfl ?_
    refine z_dup C d_XT_append_25 rfl ?_
    refine gf_XT_9 hc1 C d_XT_append_26 ?_
    refine z_iconst (v := 1) C d_XT_append_29 (by decide) ?_
    refine z_iadd C d_XT_append_30 ?_
    refine pp_XT_9 hc1 C d_XT_append_31 (fun M4 hM4 => ?_)
    replace hw := hw M4 hM4
    refine z_iconst (v := 1) C d_XT_append_34 (by decide) ?_
    exact z_zret C hr (Or.inr rfl) hw d_XT_append_35
  · replace hw := hw.2 h1
    refine z_iconst (v := 0) C d_XT_append_12 (by decide) ?_
    exact z_zret C hr (Or.inl rfl) hw d_XT_append_13
theorem d_XO_addEvent_0 : decode prog_5_method_6_code 0 = .ok (.aload_n 0, 1) := by decide +kernel
theorem d_XO_addEvent_1 : decode prog_5_method_6_code 1 = .ok (.getfield 40, 3) := by decide +kernel
theorem d_XO_addEvent_4 : decode prog_5_method_6_code 4 = .ok (.bipush 8, 2) := by decide +kernel
theorem d_XO_addEvent_6 : decode prog_5_method_6_code 6 = .ok (.if_icmp .lt (5), 3) := by decide +kernel
theorem d_XO_addEvent_9 : decode prog_5_method_6_code 9 = .ok (.iconst 0, 1) := by decide +kernel
theorem d_XO_addEvent_10 : decode prog_5_method_6_code 10 = .ok (.ireturn, 1) := by decide +kernel
theorem d_XO_addEvent_11 : decode prog_5_method_6_code 11 = .ok (.aload_n 0, 1) := by decide +kernel
theorem d_XO_addEvent_12 : decode prog_5_method_6_code 12 = .ok (.getfield 43, 3) := by decide +kernel
theorem d_XO_addEvent_15 : decode prog_5_method_6_code 15 = .ok (.aload_n 0, 1) := by decide +kernel
theorem d_XO_addEvent_16 : decode prog_5_method_6_code 16 = .ok (.getfield 40, 3) := by decide +kernel
theorem d_XO_addEvent_19 : decode prog_5_method_6_code 19 = .ok (.iload_n 1, 1) := by decide +kernel
theorem d_XO_addEvent_20 : decode prog_5_method_6_code 20 = .ok (.iastore, 1) := by decide +kernel
theorem d_XO_addEvent_21 : decode prog_5_method_6_code 21 = .ok (.aload_n 0, 1) := by decide +kernel
theorem d_XO_addEvent_22 : decode prog_5_method_6_code 22 = .ok (.getfield 46, 3) := by decide +kernel
theorem d_XO_addEvent_25 : decode prog_5_method_6_code 25 = .ok (.aload_n 0, 1) := by decide +kernel
theorem d_XO_addEvent_26 : decode prog_5_method_6_code 26 = .ok (.getfield 40, 3) := by decide +kernel
theorem d_XO_addEvent_29 : decode prog_5_method_6_code 29 = .ok (.iload_n 2, 1) := by decide +kernel
theorem d_XO_addEvent_30 : decode prog_5_method_6_code 30 = .ok (.iastore, 1) := by decide +kernel
theorem d_XO_addEvent_31 : decode prog_5_method_6_code 31 = .ok (.aload_n 0, 1) := by decide +kernel
theorem d_XO_addEvent_32 : decode prog_5_method_6_code 32 = .ok (.getfield 49, 3) := by decide +kernel
theorem d_XO_addEvent_35 : decode prog_5_method_6_code 35 = .ok (.aload_n 0, 1) := by decide +kernel
theorem d_XO_addEvent_36 : decode prog_5_method_6_code 36 = .ok (.getfield 40, 3) := by decide +kernel
theorem d_XO_addEvent_39 : decode prog_5_method_6_code 39 = .ok (.iload_n 3, 1) := by decide +kernel
theorem d_XO_addEvent_40 : decode prog_5_method_6_code 40 = .ok (.iastore, 1) := by decide +kernel
theorem d_XO_addEvent_41 : decode prog_5_method_6_code 41 = .ok (.aload_n 0, 1) := by decide +kernel
theorem d_XO_addEvent_42 : decode prog_5_method_6_code 42 = .ok (.dup, 1) := by decide +kernel
theorem d_XO_addEvent_43 : decode prog_5_method_6_code 43 = .ok (.getfield 40, 3) := by decide +kernel
theorem d_XO_addEvent_46 : decode prog_5_method_6_code 46 = .ok (.iconst 1, 1) := by decide +kernel
theorem d_XO_addEvent_47 : decode prog_5_method_6_code 47 = .ok (.iadd, 1) := by decide +kernel
theorem d_XO_addEvent_48 : decode prog_5_method_6_code 48 = .ok (.putfield 40, 3) := by decide +kernel
theorem d_XO_addEvent_51 : decode prog_5_method_6_code 51 = .ok (.iconst 1, 1) := by decide +kernel
theorem d_XO_addEvent_52 : decode prog_5_method_6_code 52 = .ok (.ireturn, 1) := by decide +kernel
def wp_XO_addEvent (a1 : Int32) (a2 : Int32) (a3 : Int32) (M : Mem) (post : Int32 → Mem → Prop) : Prop :=
  ((((M 10 9) < 8) → vp_in (M 10 9) 8 ∧ ∀ M2 : Mem, M2 = upm M 17 (tn (M 10 9)) a1 → vp_in (M2 10 9) 8 ∧ ∀ M4 : Mem, M4 = upm M2 18 (tn (M2 10 9)) a2 → vp_in (M4 10 9) 8 ∧ ∀ M6 : Mem, M6 = upm M4 19 (tn (M4 10 9)) a3 → ∀ M8 : Mem, M8 = upm M6 10 9 ((M6 10 9) + 1) → post 1 M8) ∧ (¬ ((M 10 9) < 8) → post 0 M))
set_option maxHeartbeats 4000000 in
set_option maxRecDepth 100000 in
theorem c_XO_addEvent (g : GX) {a1 : Int32} {a2 : Int32} {a3 : Int32} {M : Mem} {post : Int32 → Mem → Prop} (hw : wp_XO_addEvent a1 a2 a3 M post) : CtI (oX g) y_XO_addEvent prog_5_method_6_code 4 (some .boolean) (rl 0) [.ref (ax g 10), .int a1, .int a2, .int a3] M post := by
  refine z_metI (oX_ok g) (by decide) rfl (fun X C hr => ?_)
  show Zj X 4 (oX g) M 0 [(0, .ref (ax g 10)), (1, .int a1), (2, .int a2), (3, .int a3)] []
  unfold wp_XO_addEvent at hw
  refine z_aload_n C d_XO_addEvent_0 rfl 0 rfl ?_
  refine gf_XO_40 C d_XO_addEvent_1 ?_
  refine z_bipush (v := 8) C d_XO_addEvent_4 (by decide) ?_
  refine z_ic_lt C 11 d_XO_addEvent_6 (by decide) (fun h1 => ?_) (fun h1 => ?_)
  · replace hw := hw.1 h1
    refine z_aload_n C d_XO_addEvent_11 rfl 0 rfl ?_
    refine gf_XO_43 C d_XO_addEvent_12 ?_
    refine z_aload_n C d_XO_addEvent_15 rfl 0 rfl ?_
    refine gf_XO_40 C d_XO_addEvent_16 ?_
    refine z_iload_n C d_XO_addEvent_19 rfl 1 rfl ?_
    have hv3 := hw.1
    refine z_as (zar_x17) C hv3 d_XO_addEvent_20 (fun M2 hM2 => ?_)
    replace hw := hw.2 M2 hM2
    refine z_aload_n C d_XO_addEvent_21 rfl 0 rfl ?_
    refine gf_XO_46 C d_XO_addEvent_22 ?_
    refine z_aload_n C d_XO_addEvent_25 rfl 0 rfl ?_
    refine gf_XO_40 C d_XO_addEvent_26 ?_
    refine z_iload_n C d_XO_addEvent_29 rfl 2 rfl ?_
    have hv5 := hw.1
    refine z_as (zar_x18) C hv5 d_XO_addEvent_30 (fun M4 hM4 => ?_)
    replace hw := hw.2 M4 hM4
    refine z_aload_n C d_XO_addEvent_31 rfl 0 rfl ?_
    refine gf_XO_49 C d_XO_addEvent_32 ?_
    refine z_aload_n C d_XO_addEvent_35 rfl 0 rfl ?_
    refine gf_XO_40 C d_XO_addEvent_36 ?_
    refine z_iload_n C d_XO_addEvent_39 rfl 3 rfl ?_
    have hv7 := hw.1
    refine z_as (zar_x19) C hv7 d_XO_addEvent_40 (fun M6 hM6 => ?_)
    replace hw := hw.2 M6 hM6
    refine z_aload_n C d_XO_addEvent_41 rfl 0 rfl ?_
    refine z_dup C d_XO_addEvent_42 rfl ?_
    refine gf_XO_40 C d_XO_addEvent_43 ?_
    refine z_iconst (v := 1) C d_XO_addEvent_46 (by decide) ?_
    refine z_iadd C d_XO_addEvent_47 ?_
    refine pp_XO_40 C d_XO_addEvent_48 (fun M8 hM8 => ?_)
    replace hw := hw M8 hM8
    refine z_iconst (v := 1) C d_XO_addEvent_51 (by decide) ?_
    exact z_zret C hr (Or.inr rfl) hw d_XO_addEvent_52
  · replace hw := hw.2 h1
    refine z_iconst (v := 0) C d_XO_addEvent_9 (by decide) ?_
    exact z_zret C hr (Or.inl rfl) hw d_XO_addEvent_10
theorem d_XW_sortEvent_0 : decode prog_6_method_4_code 0 = .ok (.iload_n 1, 1) := by decide +kernel
theorem d_XW_sortEvent_1 : decode prog_6_method_4_code 1 = .ok (.ifCond .ne (16), 3) := by decide +kernel
theorem d_XW_sortEvent_4 : decode prog_6_method_4_code 4 = .ok (.aload_n 0, 1) := by decide +kernel
theorem d_XW_sortEvent_5 : decode prog_6_method_4_code 5 = .ok (.getfield 30, 3) := by decide +kernel
theorem d_XW_sortEvent_8 : decode prog_6_method_4_code 8 = .ok (.iload_n 2, 1) := by decide +kernel
theorem d_XW_sortEvent_9 : decode prog_6_method_4_code 9 = .ok (.dup2, 1) := by decide +kernel
theorem d_XW_sortEvent_10 : decode prog_6_method_4_code 10 = .ok (.iaload, 1) := by decide +kernel
theorem d_XW_sortEvent_11 : decode prog_6_method_4_code 11 = .ok (.iconst 3, 1) := by decide +kernel
theorem d_XW_sortEvent_12 : decode prog_6_method_4_code 12 = .ok (.iadd, 1) := by decide +kernel
theorem d_XW_sortEvent_13 : decode prog_6_method_4_code 13 = .ok (.iastore, 1) := by decide +kernel
theorem d_XW_sortEvent_14 : decode prog_6_method_4_code 14 = .ok (.goto (55), 3) := by decide +kernel
theorem d_XW_sortEvent_17 : decode prog_6_method_4_code 17 = .ok (.iload_n 1, 1) := by decide +kernel
theorem d_XW_sortEvent_18 : decode prog_6_method_4_code 18 = .ok (.iconst 2, 1) := by decide +kernel
theorem d_XW_sortEvent_19 : decode prog_6_method_4_code 19 = .ok (.if_icmp .ne (18), 3) := by decide +kernel
theorem d_XW_sortEvent_22 : decode prog_6_method_4_code 22 = .ok (.aload_n 0, 1) := by decide +kernel
theorem d_XW_sortEvent_23 : decode prog_6_method_4_code 23 = .ok (.dup, 1) := by decide +kernel
theorem d_XW_sortEvent_24 : decode prog_6_method_4_code 24 = .ok (.getfield 36, 3) := by decide +kernel
theorem d_XW_sortEvent_27 : decode prog_6_method_4_code 27 = .ok (.iconst 1, 1) := by decide +kernel
theorem d_XW_sortEvent_28 : decode prog_6_method_4_code 28 = .ok (.iload_n 2, 1) := by decide +kernel
theorem d_XW_sortEvent_29 : decode prog_6_method_4_code 29 = .ok (.ishl, 1) := by decide +kernel
theorem d_XW_sortEvent_30 : decode prog_6_method_4_code 30 = .ok (.ior, 1) := by decide +kernel
theorem d_XW_sortEvent_31 : decode prog_6_method_4_code 31 = .ok (.putfield 36, 3) := by decide +kernel
theorem d_XW_sortEvent_34 : decode prog_6_method_4_code 34 = .ok (.goto (35), 3) := by decide +kernel
theorem d_XW_sortEvent_37 : decode prog_6_method_4_code 37 = .ok (.aload_n 0, 1) := by decide +kernel
theorem d_XW_sortEvent_38 : decode prog_6_method_4_code 38 = .ok (.getfield 33, 3) := by decide +kernel
theorem d_XW_sortEvent_41 : decode prog_6_method_4_code 41 = .ok (.iload_n 2, 1) := by decide +kernel
theorem d_XW_sortEvent_42 : decode prog_6_method_4_code 42 = .ok (.dup2, 1) := by decide +kernel
theorem d_XW_sortEvent_43 : decode prog_6_method_4_code 43 = .ok (.iaload, 1) := by decide +kernel
theorem d_XW_sortEvent_44 : decode prog_6_method_4_code 44 = .ok (.iconst 1, 1) := by decide +kernel
theorem d_XW_sortEvent_45 : decode prog_6_method_4_code 45 = .ok (.iload_n 3, 1) := by decide +kernel
theorem d_XW_sortEvent_46 : decode prog_6_method_4_code 46 = .ok (.ishl, 1) := by decide +kernel
theorem d_XW_sortEvent_47 : decode prog_6_method_4_code 47 = .ok (.ior, 1) := by decide +kernel
theorem d_XW_sortEvent_48 : decode prog_6_method_4_code 48 = .ok (.iastore, 1) := by decide +kernel
theorem d_XW_sortEvent_49 : decode prog_6_method_4_code 49 = .ok (.iload_n 2, 1) := by decide +kernel
theorem d_XW_sortEvent_50 : decode prog_6_method_4_code 50 = .ok (.bipush 23, 2) := by decide +kernel
theorem d_XW_sortEvent_52 : decode prog_6_method_4_code 52 = .ok (.if_icmp .ge (17), 3) := by decide +kernel
theorem d_XW_sortEvent_55 : decode prog_6_method_4_code 55 = .ok (.aload_n 0, 1) := by decide +kernel
theorem d_XW_sortEvent_56 : decode prog_6_method_4_code 56 = .ok (.getfield 33, 3) := by decide +kernel
theorem d_XW_sortEvent_59 : decode prog_6_method_4_code 59 = .ok (.iload_n 2, 1) := by decide +kernel
theorem d_XW_sortEvent_60 : decode prog_6_method_4_code 60 = .ok (.iconst 1, 1) := by decide +kernel
theorem d_XW_sortEvent_61 : decode prog_6_method_4_code 61 = .ok (.iadd, 1) := by decide +kernel
theorem d_XW_sortEvent_62 : decode prog_6_method_4_code 62 = .ok (.dup2, 1) := by decide +kernel
theorem d_XW_sortEvent_63 : decode prog_6_method_4_code 63 = .ok (.iaload, 1) := by decide +kernel
theorem d_XW_sortEvent_64 : decode prog_6_method_4_code 64 = .ok (.iconst 1, 1) := by decide +kernel
theorem d_XW_sortEvent_65 : decode prog_6_method_4_code 65 = .ok (.iload_n 3, 1) := by decide +kernel
theorem d_XW_sortEvent_66 : decode prog_6_method_4_code 66 = .ok (.ishl, 1) := by decide +kernel
theorem d_XW_sortEvent_67 : decode prog_6_method_4_code 67 = .ok (.ior, 1) := by decide +kernel
theorem d_XW_sortEvent_68 : decode prog_6_method_4_code 68 = .ok (.iastore, 1) := by decide +kernel
theorem d_XW_sortEvent_69 : decode prog_6_method_4_code 69 = .ok (.return_, 1) := by decide +kernel
def wp_XW_sortEvent (c1 : Nat) (a1 : Int32) (a2 : Int32) (a3 : Int32) (M : Mem) (post : Mem → Prop) : Prop :=
  (((a1 = 0) → vp_in a2 24 ∧ ∀ M10 : Mem, M10 = upm M (c1 + 7) (tn a2) ((M (c1 + 7) (tn a2)) + 3) → post M10) ∧ (¬ (a1 = 0) → (((a1 = 2) → ∀ M8 : Mem, M8 = upm M c1 8 ((M c1 8) ||| ((1 : Int32) <<< (a2 &&& 31))) → post M8) ∧ (¬ (a1 = 2) → vp_in a2 24 ∧ ∀ M4 : Mem, M4 = upm M (c1 + 8) (tn a2) ((M (c1 + 8) (tn a2)) ||| ((1 : Int32) <<< (a3 &&& 31))) → (((23 ≤ a2) → post M4) ∧ (¬ (23 ≤ a2) → vp_in (a2 + 1) 24 ∧ ∀ M7 : Mem, M7 = upm M4 (c1 + 8) (tn (a2 + 1)) ((M4 (c1 + 8) (tn (a2 + 1))) ||| ((1 : Int32) <<< (a3 &&& 31))) → post M7))))))
set_option maxHeartbeats 4000000 in
set_option maxRecDepth 100000 in
theorem c_XW_sortEvent (g : GX) {c1 : Nat} {a1 : Int32} {a2 : Int32} {a3 : Int32} {M : Mem} {post : Mem → Prop} (hc1 : c1 = 32 ∨ c1 = 44) (hw : wp_XW_sortEvent c1 a1 a2 a3 M post) : CtV (oX g) y_XW_sortEvent prog_6_method_4_code 4 none (rl 0) [.ref (ax g c1), .int a1, .int a2, .int a3] M post := by
  refine z_metV (oX_ok g) (by decide) rfl (fun X C hr => ?_)
  show Zj X 4 (oX g) M 0 [(0, .ref (ax g c1)), (1, .int a1), (2, .int a2), (3, .int a3)] []
  unfold wp_XW_sortEvent at hw
  refine z_iload_n C d_XW_sortEvent_0 rfl 1 rfl ?_
  refine z_if_ne C 17 d_XW_sortEvent_1 (by decide) (fun h1 => ?_) (fun h1 => ?_)
  · replace hw := hw.2 h1
    refine z_iload_n C d_XW_sortEvent_17 rfl 1 rfl ?_
    refine z_iconst (v := 2) C d_XW_sortEvent_18 (by decide) ?_
    refine z_ic_ne C 37 d_XW_sortEvent_19 (by decide) (fun h2 => ?_) (fun h2 => ?_)
    · replace hw := hw.2 h2
      refine z_aload_n C d_XW_sortEvent_37 rfl 0 rfl ?_
      refine gf_XW_33 hc1 C d_XW_sortEvent_38 ?_
      refine z_iload_n C d_XW_sortEvent_41 rfl 2 rfl ?_
      refine z_dup2 C d_XW_sortEvent_42 rfl rfl ?_
      have hv3 := hw.1
      replace hw := hw.2
      refine z_al (zar_xW8 hc1) C hv3 d_XW_sortEvent_43 ?_
      refine z_iconst (v := 1) C d_XW_sortEvent_44 (by decide) ?_
      refine z_iload_n C d_XW_sortEvent_45 rfl 3 rfl ?_
      refine z_ishl C d_XW_sortEvent_46 ?_
      refine z_ior C d_XW_sortEvent_47 ?_
      refine z_as (zar_xW8 hc1) C hv3 d_XW_sortEvent_48 (fun M4 hM4 => ?_)
      replace hw := hw M4 hM4
      refine z_iload_n C d_XW_sortEvent_49 rfl 2 rfl ?_
      refine z_bipush (v := 23) C d_XW_sortEvent_50 (by decide) ?_
      refine z_ic_ge C 69 d_XW_sortEvent_52 (by decide) (fun h5 => ?_) (fun h5 => ?_)
      · replace hw := hw.1 h5
        exact z_vret C hr hw d_XW_sortEvent_69
      · replace hw := hw.2 h5
        refine z_aload_n C d_XW_sortEvent_55 rfl 0 rfl ?_
        refine gf_XW_33 hc1 C d_XW_sortEvent_56 ?_
        refine z_iload_n C d_XW_sortEvent_59 rfl 2 rfl ?_
        refine z_iconst (v := 1) C d_XW_sortEvent_60 (by decide) ?_
        refine z_iadd C d_XW_sortEvent_61 ?_
        refine z_dup2 C d_XW_sortEvent_62 rfl rfl ?_
        have hv6 := hw.1
        replace hw := hw.2
        refine z_al (zar_xW8 hc1) C hv6 d_XW_sortEvent_63 ?_
        refine z_iconst (v := 1) C d_XW_sortEvent_64 (by decide) ?_
        refine z_iload_n C d_XW_sortEvent_65 rfl 3 rfl ?_
        refine z_ishl C d_XW_sortEvent_66 ?_
        refine z_ior C d_XW_sortEvent_67 ?_
        refine z_as (zar_xW8 hc1) C hv6 d_XW_sortEvent_68 (fun M7 hM7 => ?_)
        replace hw := hw M7 hM7
        exact z_vret C hr hw d_XW_sortEvent_69
    · replace hw := hw.1 h2
      refine z_aload_n C d_XW_sortEvent_22 rfl 0 rfl ?_
      refine z_dup C d_XW_sortEvent_23 rfl ?_
      refine gf_XW_36 hc1 C d_XW_sortEvent_24 ?_
      refine z_iconst (v := 1) C d_XW_sortEvent_27 (by decide) ?_
      refine z_iload_n C d_XW_sortEvent_28 rfl 2 rfl ?_
      refine z_ishl C d_XW_sortEvent_29 ?_
      refine z_ior C d_XW_sortEvent_30 ?_
      refine pp_XW_36 hc1 C d_XW_sortEvent_31 (fun M8 hM8 => ?_)
      replace hw := hw M8 hM8
      refine z_goto C 69 d_XW_sortEvent_34 (by decide) ?_
      exact z_vret C hr hw d_XW_sortEvent_69
  · replace hw := hw.1 h1
    refine z_aload_n C d_XW_sortEvent_4 rfl 0 rfl ?_
    refine gf_XW_30 hc1 C d_XW_sortEvent_5 ?_
    refine z_iload_n C d_XW_sortEvent_8 rfl 2 rfl ?_
    refine z_dup2 C d_XW_sortEvent_9 rfl rfl ?_
    have hv9 := hw.1
    replace hw := hw.2
    refine z_al (zar_xW7 hc1) C hv9 d_XW_sortEvent_10 ?_
    refine z_iconst (v := 3) C d_XW_sortEvent_11 (by decide) ?_
    refine z_iadd C d_XW_sortEvent_12 ?_
    refine z_as (zar_xW7 hc1) C hv9 d_XW_sortEvent_13 (fun M10 hM10 => ?_)
    replace hw := hw M10 hM10
    refine z_goto C 69 d_XW_sortEvent_14 (by decide) ?_
    exact z_vret C hr hw d_XW_sortEvent_69
theorem d_XW_snowFalls_0 : decode prog_6_method_5_code 0 = .ok (.iload_n 2, 1) := by decide +kernel
theorem d_XW_snowFalls_1 : decode prog_6_method_5_code 1 = .ok (.ifCond .ne (4), 3) := by decide +kernel
theorem d_XW_snowFalls_4 : decode prog_6_method_5_code 4 = .ok (.return_, 1) := by decide +kernel
theorem d_XW_snowFalls_5 : decode prog_6_method_5_code 5 = .ok (.iconst 0, 1) := by decide +kernel
theorem d_XW_snowFalls_6 : decode prog_6_method_5_code 6 = .ok (.istore_n 3, 1) := by decide +kernel
theorem d_XW_snowFalls_7 : decode prog_6_method_5_code 7 = .ok (.iload_n 3, 1) := by decide +kernel
theorem d_XW_snowFalls_8 : decode prog_6_method_5_code 8 = .ok (.bipush 12, 2) := by decide +kernel
theorem d_XW_snowFalls_10 : decode prog_6_method_5_code 10 = .ok (.if_icmp .ge (32), 3) := by decide +kernel
theorem d_XW_snowFalls_13 : decode prog_6_method_5_code 13 = .ok (.aload_n 0, 1) := by decide +kernel
theorem d_XW_snowFalls_14 : decode prog_6_method_5_code 14 = .ok (.getfield 40, 3) := by decide +kernel
theorem d_XW_snowFalls_17 : decode prog_6_method_5_code 17 = .ok (.iload_n 3, 1) := by decide +kernel
theorem d_XW_snowFalls_18 : decode prog_6_method_5_code 18 = .ok (.dup2, 1) := by decide +kernel
theorem d_XW_snowFalls_19 : decode prog_6_method_5_code 19 = .ok (.iaload, 1) := by decide +kernel
theorem d_XW_snowFalls_20 : decode prog_6_method_5_code 20 = .ok (.aload_n 1, 1) := by decide +kernel
theorem d_XW_snowFalls_21 : decode prog_6_method_5_code 21 = .ok (.iload_n 3, 1) := by decide +kernel
theorem d_XW_snowFalls_22 : decode prog_6_method_5_code 22 = .ok (.iaload, 1) := by decide +kernel
theorem d_XW_snowFalls_23 : decode prog_6_method_5_code 23 = .ok (.iconst 2, 1) := by decide +kernel
theorem d_XW_snowFalls_24 : decode prog_6_method_5_code 24 = .ok (.if_icmp .ne (9), 3) := by decide +kernel
theorem d_XW_snowFalls_27 : decode prog_6_method_5_code 27 = .ok (.iload_n 2, 1) := by decide +kernel
theorem d_XW_snowFalls_28 : decode prog_6_method_5_code 28 = .ok (.iconst 1, 1) := by decide +kernel
theorem d_XW_snowFalls_29 : decode prog_6_method_5_code 29 = .ok (.iadd, 1) := by decide +kernel
theorem d_XW_snowFalls_30 : decode prog_6_method_5_code 30 = .ok (.goto (4), 3) := by decide +kernel
theorem d_XW_snowFalls_33 : decode prog_6_method_5_code 33 = .ok (.iload_n 2, 1) := by decide +kernel
theorem d_XW_snowFalls_34 : decode prog_6_method_5_code 34 = .ok (.iadd, 1) := by decide +kernel
theorem d_XW_snowFalls_35 : decode prog_6_method_5_code 35 = .ok (.iastore, 1) := by decide +kernel
theorem d_XW_snowFalls_36 : decode prog_6_method_5_code 36 = .ok (.iinc 3 1, 3) := by decide +kernel
theorem d_XW_snowFalls_39 : decode prog_6_method_5_code 39 = .ok (.goto (-32), 3) := by decide +kernel
theorem d_XW_snowFalls_42 : decode prog_6_method_5_code 42 = .ok (.return_, 1) := by decide +kernel
def wp_XW_snowFalls (c1 : Nat) (a2 : Int32) (M : Mem) (post : Mem → Prop) : Prop :=
  (((a2 = 0) → post M) ∧ (¬ (a2 = 0) → (it2 (fun rec2 (i4 : Int32) (M5 : Mem) => (((12 ≤ i4) → post M5) ∧ (¬ (12 ≤ i4) → vp_in i4 12 ∧ ∀ u9 : Int32, u9 = (if (M5 11 (tn i4)) = 2 then (a2 + 1) else a2) → ∀ M10 : Mem, M10 = upm M5 (c1 + 9) (tn i4) ((M5 (c1 + 9) (tn i4)) + u9) → rec2 (i4 + 1) M10))) 4096 0 M)))
set_option maxHeartbeats 4000000 in
set_option maxRecDepth 100000 in
theorem c_XW_snowFalls (g : GX) {c1 : Nat} {a2 : Int32} {M : Mem} {post : Mem → Prop} (hc1 : c1 = 32 ∨ c1 = 44) (hw : wp_XW_snowFalls c1 a2 M post) : CtV (oX g) y_XW_snowFalls prog_6_method_5_code 4 none (rl 0) [.ref (ax g c1), .ref (ax g 11), .int a2] M post := by
  refine z_metV (oX_ok g) (by decide) rfl (fun X C hr => ?_)
  show Zj X 4 (oX g) M 0 [(0, .ref (ax g c1)), (1, .ref (ax g 11)), (2, .int a2)] []
  unfold wp_XW_snowFalls at hw
  refine z_iload_n C d_XW_snowFalls_0 rfl 2 rfl ?_
  refine z_if_ne C 5 d_XW_snowFalls_1 (by decide) (fun h1 => ?_) (fun h1 => ?_)
  · replace hw := hw.2 h1
    refine z_iconst (v := 0) C d_XW_snowFalls_5 (by decide) ?_
    refine z_istore_n (lv' := [(3, .int 0), (0, .ref (ax g c1)), (1, .ref (ax g 11)), (2, .int a2)]) C d_XW_snowFalls_6 rfl rfl rfl ?_
    refine z_sub [1, 2, 3, 0] rfl ?_
    refine it2_Z (Z := fun (i4 : Int32) (M5 : Mem) => Zj X 4 (oX g) M5 7 [(0, .ref (ax g c1)), (1, .ref (ax g 11)), (2, .int a2), (3, .int i4)] []) (fun rec2 ih3 i4 M5 hw => ?_) _ _ _ hw
    refine z_iload_n C d_XW_snowFalls_7 rfl 3 rfl ?_
    refine z_bipush (v := 12) C d_XW_snowFalls_8 (by decide) ?_
    refine z_ic_ge C 42 d_XW_snowFalls_10 (by decide) (fun h6 => ?_) (fun h6 => ?_)
    · replace hw := hw.1 h6
      exact z_vret C hr hw d_XW_snowFalls_42
    · replace hw := hw.2 h6
      refine z_aload_n C d_XW_snowFalls_13 rfl 0 rfl ?_
      refine gf_XW_40 hc1 C d_XW_snowFalls_14 ?_
      refine z_iload_n C d_XW_snowFalls_17 rfl 3 rfl ?_
      refine z_dup2 C d_XW_snowFalls_18 rfl rfl ?_
      have hv7 := hw.1
      replace hw := hw.2
      refine z_al (zar_xW9 hc1) C hv7 d_XW_snowFalls_19 ?_
      refine z_aload_n C d_XW_snowFalls_20 rfl 1 rfl ?_
      refine z_iload_n C d_XW_snowFalls_21 rfl 3 rfl ?_
      refine z_al (zar_x11) C hv7 d_XW_snowFalls_22 ?_
      refine z_iconst (v := 2) C d_XW_snowFalls_23 (by decide) ?_
      have hj11 : ∀ u9 : Int32, u9 = (if (M5 11 (tn i4)) = 2 then (a2 + 1) else a2) → Zj X 4 (oX g) M5 34 [(0, .ref (ax g c1)), (1, .ref (ax g 11)), (2, .int a2), (3, .int i4)] [.int u9, .int (M5 (c1 + 9) (tn i4)), .int i4, .ref (ax g (c1 + 9))] := by
        intro u9 hu9
        replace hw := hw u9 hu9
        refine z_iadd C d_XW_snowFalls_34 ?_
        refine z_as (zar_xW9 hc1) C hv7 d_XW_snowFalls_35 (fun M10 hM10 => ?_)
        replace hw := hw M10 hM10
        refine z_iinc (v := (i4 + 1)) (lv' := [(3, .int (i4 + 1)), (0, .ref (ax g c1)), (1, .ref (ax g 11)), (2, .int a2)]) C d_XW_snowFalls_36 3 rfl rfl rfl rfl ?_
        refine z_goto C 7 d_XW_snowFalls_39 (by decide) ?_
        refine z_sub [1, 2, 3, 0] rfl ?_
        exact ih3 _ _ hw
      refine z_ic_ne C 33 d_XW_snowFalls_24 (by decide) (fun h8 => ?_) (fun h8 => ?_)
      · refine z_iload_n C d_XW_snowFalls_33 rfl 2 rfl ?_
        refine z_sub [0, 1, 2, 3] rfl ?_
        exact hj11 _ ((if_neg h8)).symm
      · refine z_iload_n C d_XW_snowFalls_27 rfl 2 rfl ?_
        refine z_iconst (v := 1) C d_XW_snowFalls_28 (by decide) ?_
        refine z_iadd C d_XW_snowFalls_29 ?_
        refine z_goto C 34 d_XW_snowFalls_30 (by decide) ?_
        refine z_sub [0, 1, 2, 3] rfl ?_
        exact hj11 _ ((if_pos h8)).symm
  · replace hw := hw.1 h1
    exact z_vret C hr hw d_XW_snowFalls_4
