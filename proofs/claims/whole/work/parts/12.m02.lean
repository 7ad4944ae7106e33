theorem d_X_changed_0 : decode prog_1_method_49_code 0 = .ok (.aload_n 0, 1) := by decide +kernel
theorem d_X_changed_1 : decode prog_1_method_49_code 1 = .ok (.iconst 1, 1) := by decide +kernel
theorem d_X_changed_2 : decode prog_1_method_49_code 2 = .ok (.putfield 49, 3) := by decide +kernel
theorem d_X_changed_5 : decode prog_1_method_49_code 5 = .ok (.aload_n 0, 1) := by decide +kernel
theorem d_X_changed_6 : decode prog_1_method_49_code 6 = .ok (.iconst 1, 1) := by decide +kernel
theorem d_X_changed_7 : decode prog_1_method_49_code 7 = .ok (.putfield 57, 3) := by decide +kernel
theorem d_X_changed_10 : decode prog_1_method_49_code 10 = .ok (.return_, 1) := by decide +kernel
def wp_X_changed (M : Mem) (post : Mem → Prop) : Prop :=
  ∀ M1 : Mem, M1 = upm M 0 7 1 → ∀ M2 : Mem, M2 = upm M1 0 9 1 → post M2
set_option maxHeartbeats 4000000 in
set_option maxRecDepth 100000 in
theorem c_X_changed (g : GX) {M : Mem} {post : Mem → Prop} (hw : wp_X_changed M post) : CtV (oX g) y_X_changed prog_1_method_49_code 1 none (rl 0) [.ref (ax g 0)] M post := by
  refine z_metV (oX_ok g) (by decide) rfl (fun X C hr => ?_)
  show Zj X 1 (oX g) M 0 [(0, .ref (ax g 0))] []
  unfold wp_X_changed at hw
  refine z_aload_n C d_X_changed_0 rfl 0 rfl ?_
  refine z_iconst (v := 1) C d_X_changed_1 (by decide) ?_
  refine pp_X_49 (Or.inr rfl) C d_X_changed_2 (fun M1 hM1 => ?_)
  replace hw := hw M1 hM1
  refine z_aload_n C d_X_changed_5 rfl 0 rfl ?_
  refine z_iconst (v := 1) C d_X_changed_6 (by decide) ?_
  refine pp_X_57 (Or.inr rfl) C d_X_changed_7 (fun M2 hM2 => ?_)
  replace hw := hw M2 hM2
  exact z_vret C hr hw d_X_changed_10
theorem d_X_allBytes_0 : decode prog_1_method_51_code 0 = .ok (.iconst 0, 1) := by decide +kernel
theorem d_X_allBytes_1 : decode prog_1_method_51_code 1 = .ok (.istore_n 1, 1) := by decide +kernel
theorem d_X_allBytes_2 : decode prog_1_method_51_code 2 = .ok (.iconst 0, 1) := by decide +kernel
theorem d_X_allBytes_3 : decode prog_1_method_51_code 3 = .ok (.istore_n 2, 1) := by decide +kernel
theorem d_X_allBytes_4 : decode prog_1_method_51_code 4 = .ok (.iload_n 2, 1) := by decide +kernel
theorem d_X_allBytes_5 : decode prog_1_method_51_code 5 = .ok (.iconst 4, 1) := by decide +kernel
theorem d_X_allBytes_6 : decode prog_1_method_51_code 6 = .ok (.if_icmp .ge (21), 3) := by decide +kernel
theorem d_X_allBytes_9 : decode prog_1_method_51_code 9 = .ok (.iload_n 1, 1) := by decide +kernel
theorem d_X_allBytes_10 : decode prog_1_method_51_code 10 = .ok (.aload_n 0, 1) := by decide +kernel
theorem d_X_allBytes_11 : decode prog_1_method_51_code 11 = .ok (.getfield 11, 3) := by decide +kernel
theorem d_X_allBytes_14 : decode prog_1_method_51_code 14 = .ok (.iload_n 2, 1) := by decide +kernel
theorem d_X_allBytes_15 : decode prog_1_method_51_code 15 = .ok (.aaload, 1) := by decide +kernel
theorem d_X_allBytes_16 : decode prog_1_method_51_code 16 = .ok (.getfield 81, 3) := by decide +kernel
theorem d_X_allBytes_19 : decode prog_1_method_51_code 19 = .ok (.iadd, 1) := by decide +kernel
theorem d_X_allBytes_20 : decode prog_1_method_51_code 20 = .ok (.istore_n 1, 1) := by decide +kernel
theorem d_X_allBytes_21 : decode prog_1_method_51_code 21 = .ok (.iinc 2 1, 3) := by decide +kernel
theorem d_X_allBytes_24 : decode prog_1_method_51_code 24 = .ok (.goto (-20), 3) := by decide +kernel
theorem d_X_allBytes_27 : decode prog_1_method_51_code 27 = .ok (.iload_n 1, 1) := by decide +kernel
theorem d_X_allBytes_28 : decode prog_1_method_51_code 28 = .ok (.ireturn, 1) := by decide +kernel
def wp_X_allBytes (M : Mem) (post : Int32 → Prop) : Prop :=
  (it2 (fun rec1 (i3 : Int32) (i4 : Int32) => (((4 ≤ i4) → post i3) ∧ (¬ (4 ≤ i4) → vp_in i4 4 ∧ ∀ x8 : Int32, x8 = (i3 + (M (2 + 2 * (tn i4)) 2)) → rec1 x8 (i4 + 1)))) 4096 0 0)
set_option maxHeartbeats 4000000 in
set_option maxRecDepth 100000 in
theorem c_X_allBytes (g : GX) {M : Mem} {post : Int32 → Prop} (hw : wp_X_allBytes M post) : CtI (oX g) y_X_allBytes prog_1_method_51_code 3 (some .int) (rl 0) [.ref (ax g 0)] M (fun r M2 => M = M2 ∧ post r) := by
  refine z_metI (oX_ok g) (by decide) rfl (fun X C hr => ?_)
  show Zj X 3 (oX g) M 0 [(0, .ref (ax g 0))] []
  unfold wp_X_allBytes at hw
  refine z_iconst (v := 0) C d_X_allBytes_0 (by decide) ?_
  refine z_istore_n (lv' := [(1, .int 0), (0, .ref (ax g 0))]) C d_X_allBytes_1 rfl rfl rfl ?_
  refine z_iconst (v := 0) C d_X_allBytes_2 (by decide) ?_
  refine z_istore_n (lv' := [(2, .int 0), (1, .int 0), (0, .ref (ax g 0))]) C d_X_allBytes_3 rfl rfl rfl ?_
  refine z_sub [2, 1, 0] rfl ?_
  refine it2_Z (Z := fun (i3 : Int32) (i4 : Int32) => Zj X 3 (oX g) M 4 [(0, .ref (ax g 0)), (1, .int i3), (2, .int i4)] []) (fun rec1 ih2 i3 i4 hw => ?_) _ _ _ hw
  refine z_iload_n C d_X_allBytes_4 rfl 2 rfl ?_
  refine z_iconst (v := 4) C d_X_allBytes_5 (by decide) ?_
  refine z_ic_ge C 27 d_X_allBytes_6 (by decide) (fun h5 => ?_) (fun h5 => ?_)
  · replace hw := hw.1 h5
    refine z_iload_n C d_X_allBytes_27 rfl 1 rfl ?_
    exact z_iret C hr ⟨rfl, hw⟩ d_X_allBytes_28
  · replace hw := hw.2 h5
    refine z_iload_n C d_X_allBytes_9 rfl 1 rfl ?_
    refine z_aload_n C d_X_allBytes_10 rfl 0 rfl ?_
    refine gf_X_11 C d_X_allBytes_11 ?_
    refine z_iload_n C d_X_allBytes_14 rfl 2 rfl ?_
    have hv7 := hw.1
    replace hw := hw.2
    have ht6 := vp_lt hv7
    refine z_aaldText C hv7 d_X_allBytes_15 ?_
    refine gf_X_81 ht6 C d_X_allBytes_16 ?_
    refine z_iadd C d_X_allBytes_19 ?_
    obtain ⟨x8, hx8⟩ : ∃ z : Int32, z = (i3 + (M (2 + 2 * (tn i4)) 2)) := ⟨_, rfl⟩
    rw [← hx8]
    replace hw := hw x8 hx8
    refine z_istore_n (lv' := [(1, .int x8), (0, .ref (ax g 0)), (2, .int i4)]) C d_X_allBytes_20 rfl rfl rfl ?_
    refine z_iinc (v := (i4 + 1)) (lv' := [(2, .int (i4 + 1)), (1, .int x8), (0, .ref (ax g 0))]) C d_X_allBytes_21 2 rfl rfl rfl rfl ?_
    refine z_goto C 4 d_X_allBytes_24 (by decide) ?_
    refine z_sub [2, 1, 0] rfl ?_
    exact ih2 _ _ hw
theorem d_X_allEvents_0 : decode prog_1_method_53_code 0 = .ok (.iconst 1, 1) := by decide +kernel
theorem d_X_allEvents_1 : decode prog_1_method_53_code 1 = .ok (.aload_n 0, 1) := by decide +kernel
theorem d_X_allEvents_2 : decode prog_1_method_53_code 2 = .ok (.getfield 18, 3) := by decide +kernel
theorem d_X_allEvents_5 : decode prog_1_method_53_code 5 = .ok (.getfield 125, 3) := by decide +kernel
theorem d_X_allEvents_8 : decode prog_1_method_53_code 8 = .ok (.ishl, 1) := by decide +kernel
theorem d_X_allEvents_9 : decode prog_1_method_53_code 9 = .ok (.iconst 1, 1) := by decide +kernel
theorem d_X_allEvents_10 : decode prog_1_method_53_code 10 = .ok (.isub, 1) := by decide +kernel
theorem d_X_allEvents_11 : decode prog_1_method_53_code 11 = .ok (.ireturn, 1) := by decide +kernel
def wp_X_allEvents (M : Mem) (post : Int32 → Prop) : Prop :=
  post (((1 : Int32) <<< ((M 10 9) &&& 31)) - 1)
set_option maxHeartbeats 4000000 in
set_option maxRecDepth 100000 in
theorem c_X_allEvents (g : GX) {M : Mem} {post : Int32 → Prop} (hw : wp_X_allEvents M post) : CtI (oX g) y_X_allEvents prog_1_method_53_code 1 (some .int) (rl 0) [.ref (ax g 0)] M (fun r M2 => M = M2 ∧ post r) := by
  refine z_metI (oX_ok g) (by decide) rfl (fun X C hr => ?_)
  show Zj X 1 (oX g) M 0 [(0, .ref (ax g 0))] []
  unfold wp_X_allEvents at hw
  refine z_iconst (v := 1) C d_X_allEvents_0 (by decide) ?_
  refine z_aload_n C d_X_allEvents_1 rfl 0 rfl ?_
  refine gf_X_18 C d_X_allEvents_2 ?_
  refine gf_X_125 C d_X_allEvents_5 ?_
  refine z_ishl C d_X_allEvents_8 ?_
  refine z_iconst (v := 1) C d_X_allEvents_9 (by decide) ?_
  refine z_isub C d_X_allEvents_10 ?_
  exact z_iret C hr ⟨rfl, hw⟩ d_X_allEvents_11
theorem d_X_sameDrift_0 : decode prog_1_method_60_code 0 = .ok (.iload_n 2, 1) := by decide +kernel
theorem d_X_sameDrift_1 : decode prog_1_method_60_code 1 = .ok (.bipush 24, 2) := by decide +kernel
theorem d_X_sameDrift_3 : decode prog_1_method_60_code 3 = .ok (.imul, 1) := by decide +kernel
theorem d_X_sameDrift_4 : decode prog_1_method_60_code 4 = .ok (.iload_n 1, 1) := by decide +kernel
theorem d_X_sameDrift_5 : decode prog_1_method_60_code 5 = .ok (.iadd, 1) := by decide +kernel
theorem d_X_sameDrift_6 : decode prog_1_method_60_code 6 = .ok (.bipush 12, 2) := by decide +kernel
theorem d_X_sameDrift_8 : decode prog_1_method_60_code 8 = .ok (.imul, 1) := by decide +kernel
theorem d_X_sameDrift_9 : decode prog_1_method_60_code 9 = .ok (.istore 4, 2) := by decide +kernel
theorem d_X_sameDrift_11 : decode prog_1_method_60_code 11 = .ok (.iload_n 3, 1) := by decide +kernel
theorem d_X_sameDrift_12 : decode prog_1_method_60_code 12 = .ok (.bipush 24, 2) := by decide +kernel
theorem d_X_sameDrift_14 : decode prog_1_method_60_code 14 = .ok (.imul, 1) := by decide +kernel
theorem d_X_sameDrift_15 : decode prog_1_method_60_code 15 = .ok (.iload_n 1, 1) := by decide +kernel
theorem d_X_sameDrift_16 : decode prog_1_method_60_code 16 = .ok (.iadd, 1) := by decide +kernel
theorem d_X_sameDrift_17 : decode prog_1_method_60_code 17 = .ok (.bipush 12, 2) := by decide +kernel
theorem d_X_sameDrift_19 : decode prog_1_method_60_code 19 = .ok (.imul, 1) := by decide +kernel
theorem d_X_sameDrift_20 : decode prog_1_method_60_code 20 = .ok (.istore 5, 2) := by decide +kernel
theorem d_X_sameDrift_22 : decode prog_1_method_60_code 22 = .ok (.iconst 0, 1) := by decide +kernel
theorem d_X_sameDrift_23 : decode prog_1_method_60_code 23 = .ok (.istore 6, 2) := by decide +kernel
theorem d_X_sameDrift_25 : decode prog_1_method_60_code 25 = .ok (.iload 6, 2) := by decide +kernel
theorem d_X_sameDrift_27 : decode prog_1_method_60_code 27 = .ok (.bipush 12, 2) := by decide +kernel
theorem d_X_sameDrift_29 : decode prog_1_method_60_code 29 = .ok (.if_icmp .ge (34), 3) := by decide +kernel
theorem d_X_sameDrift_32 : decode prog_1_method_60_code 32 = .ok (.aload_n 0, 1) := by decide +kernel
theorem d_X_sameDrift_33 : decode prog_1_method_60_code 33 = .ok (.getfield 63, 3) := by decide +kernel
theorem d_X_sameDrift_36 : decode prog_1_method_60_code 36 = .ok (.iload 4, 2) := by decide +kernel
theorem d_X_sameDrift_38 : decode prog_1_method_60_code 38 = .ok (.iload 6, 2) := by decide +kernel
theorem d_X_sameDrift_40 : decode prog_1_method_60_code 40 = .ok (.iadd, 1) := by decide +kernel
theorem d_X_sameDrift_41 : decode prog_1_method_60_code 41 = .ok (.iaload, 1) := by decide +kernel
theorem d_X_sameDrift_42 : decode prog_1_method_60_code 42 = .ok (.aload_n 0, 1) := by decide +kernel
theorem d_X_sameDrift_43 : decode prog_1_method_60_code 43 = .ok (.getfield 63, 3) := by decide +kernel
theorem d_X_sameDrift_46 : decode prog_1_method_60_code 46 = .ok (.iload 5, 2) := by decide +kernel
theorem d_X_sameDrift_48 : decode prog_1_method_60_code 48 = .ok (.iload 6, 2) := by decide +kernel
theorem d_X_sameDrift_50 : decode prog_1_method_60_code 50 = .ok (.iadd, 1) := by decide +kernel
theorem d_X_sameDrift_51 : decode prog_1_method_60_code 51 = .ok (.iaload, 1) := by decide +kernel
theorem d_X_sameDrift_52 : decode prog_1_method_60_code 52 = .ok (.if_icmp .eq (5), 3) := by decide +kernel
theorem d_X_sameDrift_55 : decode prog_1_method_60_code 55 = .ok (.iconst 0, 1) := by decide +kernel
theorem d_X_sameDrift_56 : decode prog_1_method_60_code 56 = .ok (.ireturn, 1) := by decide +kernel
theorem d_X_sameDrift_57 : decode prog_1_method_60_code 57 = .ok (.iinc 6 1, 3) := by decide +kernel
theorem d_X_sameDrift_60 : decode prog_1_method_60_code 60 = .ok (.goto (-35), 3) := by decide +kernel
theorem d_X_sameDrift_63 : decode prog_1_method_60_code 63 = .ok (.iconst 1, 1) := by decide +kernel
theorem d_X_sameDrift_64 : decode prog_1_method_60_code 64 = .ok (.ireturn, 1) := by decide +kernel
def wp_X_sameDrift (a1 : Int32) (a2 : Int32) (a3 : Int32) (M : Mem) (post : Int32 → Prop) : Prop :=
  ∀ x1 : Int32, x1 = (((a2 * 24) + a1) * 12) → ∀ x2 : Int32, x2 = (((a3 * 24) + a1) * 12) → (it1 (fun rec3 (i5 : Int32) => (((12 ≤ i5) → post 1) ∧ (¬ (12 ≤ i5) → vp_in (x1 + i5) 2592 ∧ vp_in (x2 + i5) 2592 ∧ ((((M 58 (tn (x1 + i5))) = (M 58 (tn (x2 + i5)))) → rec3 (i5 + 1)) ∧ (¬ ((M 58 (tn (x1 + i5))) = (M 58 (tn (x2 + i5)))) → post 0))))) 4096 0)
set_option maxHeartbeats 4000000 in
set_option maxRecDepth 100000 in
theorem c_X_sameDrift (g : GX) {a1 : Int32} {a2 : Int32} {a3 : Int32} {M : Mem} {post : Int32 → Prop} (hw : wp_X_sameDrift a1 a2 a3 M post) : CtI (oX g) y_X_sameDrift prog_1_method_60_code 7 (some .boolean) (rl 0) [.ref (ax g 0), .int a1, .int a2, .int a3] M (fun r M2 => M = M2 ∧ post r) := by
  refine z_metI (oX_ok g) (by decide) rfl (fun X C hr => ?_)
  show Zj X 7 (oX g) M 0 [(0, .ref (ax g 0)), (1, .int a1), (2, .int a2), (3, .int a3)] []
  unfold wp_X_sameDrift at hw
  refine z_iload_n C d_X_sameDrift_0 rfl 2 rfl ?_
  refine z_bipush (v := 24) C d_X_sameDrift_1 (by decide) ?_
  refine z_imul C d_X_sameDrift_3 ?_
  refine z_iload_n C d_X_sameDrift_4 rfl 1 rfl ?_
  refine z_iadd C d_X_sameDrift_5 ?_
  refine z_bipush (v := 12) C d_X_sameDrift_6 (by decide) ?_
  refine z_imul C d_X_sameDrift_8 ?_
  obtain ⟨x1, hx1⟩ : ∃ z : Int32, z = (((a2 * 24) + a1) * 12) := ⟨_, rfl⟩
  rw [← hx1]
  replace hw := hw x1 hx1
  refine z_istore (lv' := [(4, .int x1), (0, .ref (ax g 0)), (1, .int a1), (2, .int a2), (3, .int a3)]) C d_X_sameDrift_9 rfl rfl ?_
  refine z_iload_n C d_X_sameDrift_11 rfl 4 rfl ?_
  refine z_bipush (v := 24) C d_X_sameDrift_12 (by decide) ?_
  refine z_imul C d_X_sameDrift_14 ?_
  refine z_iload_n C d_X_sameDrift_15 rfl 2 rfl ?_
  refine z_iadd C d_X_sameDrift_16 ?_
  refine z_bipush (v := 12) C d_X_sameDrift_17 (by decide) ?_
  refine z_imul C d_X_sameDrift_19 ?_
  obtain ⟨x2, hx2⟩ : ∃ z : Int32, z = (((a3 * 24) + a1) * 12) := ⟨_, rfl⟩
  rw [← hx2]
  replace hw := hw x2 hx2
  refine z_istore (lv' := [(5, .int x2), (4, .int x1), (0, .ref (ax g 0)), (1, .int a1), (2, .int a2), (3, .int a3)]) C d_X_sameDrift_20 rfl rfl ?_
  refine z_iconst (v := 0) C d_X_sameDrift_22 (by decide) ?_
  refine z_istore (lv' := [(6, .int 0), (5, .int x2), (4, .int x1), (0, .ref (ax g 0)), (1, .int a1), (2, .int a2), (3, .int a3)]) C d_X_sameDrift_23 rfl rfl ?_
  refine z_sub [3, 2, 1, 0] rfl ?_
  refine it1_Z (Z := fun (i5 : Int32) => Zj X 7 (oX g) M 25 [(0, .ref (ax g 0)), (4, .int x1), (5, .int x2), (6, .int i5)] []) (fun rec3 ih4 i5 hw => ?_) _ _ hw
  refine z_iload C d_X_sameDrift_25 3 rfl ?_
  refine z_bipush (v := 12) C d_X_sameDrift_27 (by decide) ?_
  refine z_ic_ge C 63 d_X_sameDrift_29 (by decide) (fun h6 => ?_) (fun h6 => ?_)
  · replace hw := hw.1 h6
    refine z_iconst (v := 1) C d_X_sameDrift_63 (by decide) ?_
    exact z_zret C hr (Or.inr rfl) ⟨rfl, hw⟩ d_X_sameDrift_64
  · replace hw := hw.2 h6
    refine z_aload_n C d_X_sameDrift_32 rfl 0 rfl ?_
    refine gf_X_63 C d_X_sameDrift_33 ?_
    refine z_iload C d_X_sameDrift_36 1 rfl ?_
    refine z_iload C d_X_sameDrift_38 3 rfl ?_
    refine z_iadd C d_X_sameDrift_40 ?_
    have hv7 := hw.1
    replace hw := hw.2
    refine z_al (zar_x58) C hv7 d_X_sameDrift_41 ?_
    refine z_aload_n C d_X_sameDrift_42 rfl 0 rfl ?_
    refine gf_X_63 C d_X_sameDrift_43 ?_
    refine z_iload C d_X_sameDrift_46 2 rfl ?_
    refine z_iload C d_X_sameDrift_48 3 rfl ?_
    refine z_iadd C d_X_sameDrift_50 ?_
    have hv8 := hw.1
    replace hw := hw.2
    refine z_al (zar_x58) C hv8 d_X_sameDrift_51 ?_
    refine z_ic_eq C 57 d_X_sameDrift_52 (by decide) (fun h9 => ?_) (fun h9 => ?_)
    · replace hw := hw.1 h9
      refine z_iinc (v := (i5 + 1)) (lv' := [(6, .int (i5 + 1)), (0, .ref (ax g 0)), (4, .int x1), (5, .int x2)]) C d_X_sameDrift_57 3 rfl rfl rfl rfl ?_
      refine z_goto C 25 d_X_sameDrift_60 (by decide) ?_
      refine z_sub [1, 2, 3, 0] rfl ?_
      exact ih4 _ hw
    · replace hw := hw.2 h9
      refine z_iconst (v := 0) C d_X_sameDrift_55 (by decide) ?_
      exact z_zret C hr (Or.inl rfl) ⟨rfl, hw⟩ d_X_sameDrift_56
theorem d_X_power_0 : decode prog_1_method_62_code 0 = .ok (.lconst 1, 1) := by decide +kernel
theorem d_X_power_1 : decode prog_1_method_62_code 1 = .ok (.lstore_n 2, 1) := by decide +kernel
theorem d_X_power_2 : decode prog_1_method_62_code 2 = .ok (.iconst 0, 1) := by decide +kernel
theorem d_X_power_3 : decode prog_1_method_62_code 3 = .ok (.istore 4, 2) := by decide +kernel
theorem d_X_power_5 : decode prog_1_method_62_code 5 = .ok (.iload 4, 2) := by decide +kernel
theorem d_X_power_7 : decode prog_1_method_62_code 7 = .ok (.iload_n 1, 1) := by decide +kernel
theorem d_X_power_8 : decode prog_1_method_62_code 8 = .ok (.if_icmp .ge (14), 3) := by decide +kernel
theorem d_X_power_11 : decode prog_1_method_62_code 11 = .ok (.lload_n 2, 1) := by decide +kernel
theorem d_X_power_12 : decode prog_1_method_62_code 12 = .ok (.iload_n 0, 1) := by decide +kernel
theorem d_X_power_13 : decode prog_1_method_62_code 13 = .ok (.i2l, 1) := by decide +kernel
theorem d_X_power_14 : decode prog_1_method_62_code 14 = .ok (.lmul, 1) := by decide +kernel
theorem d_X_power_15 : decode prog_1_method_62_code 15 = .ok (.lstore_n 2, 1) := by decide +kernel
theorem d_X_power_16 : decode prog_1_method_62_code 16 = .ok (.iinc 4 1, 3) := by decide +kernel
theorem d_X_power_19 : decode prog_1_method_62_code 19 = .ok (.goto (-14), 3) := by decide +kernel
theorem d_X_power_22 : decode prog_1_method_62_code 22 = .ok (.lload_n 2, 1) := by decide +kernel
theorem d_X_power_23 : decode prog_1_method_62_code 23 = .ok (.lreturn, 1) := by decide +kernel
def wp_X_power (a0 : Int32) (a1 : Int32) (M : Mem) (post : Int64 → Prop) : Prop :=
  (it2 (fun rec1 (l3 : Int64) (i4 : Int32) => (((a1 ≤ i4) → post l3) ∧ (¬ (a1 ≤ i4) → ∀ x6 : Int64, x6 = (l3 * (Int32.toInt64 a0)) → rec1 x6 (i4 + 1)))) 4096 1 0)
set_option maxHeartbeats 4000000 in
set_option maxRecDepth 100000 in
theorem c_X_power (g : GX) {a0 : Int32} {a1 : Int32} {M : Mem} {post : Int64 → Prop} (hw : wp_X_power a0 a1 M post) : CtL (oX g) y_X_power prog_1_method_62_code 5 (some .long) (rl 0) [.int a0, .int a1] M (fun r M2 => M = M2 ∧ post r) := by
  refine z_metL (oX_ok g) (by decide) rfl (fun X C hr => ?_)
  show Zj X 5 (oX g) M 0 [(0, .int a0), (1, .int a1)] []
  unfold wp_X_power at hw
  refine z_lconst (v := 1) C d_X_power_0 (by decide) ?_
  refine z_lstore_n (lv' := [(2, .long 1), (0, .int a0), (1, .int a1)]) C d_X_power_1 rfl rfl rfl ?_
  refine z_iconst (v := 0) C d_X_power_2 (by decide) ?_
  refine z_istore (lv' := [(4, .int 0), (2, .long 1), (0, .int a0), (1, .int a1)]) C d_X_power_3 rfl rfl ?_
  refine z_sub [2, 3, 1, 0] rfl ?_
  refine it2_Z (Z := fun (l3 : Int64) (i4 : Int32) => Zj X 5 (oX g) M 5 [(0, .int a0), (1, .int a1), (2, .long l3), (4, .int i4)] []) (fun rec1 ih2 l3 i4 hw => ?_) _ _ _ hw
  refine z_iload C d_X_power_5 3 rfl ?_
  refine z_iload_n C d_X_power_7 rfl 1 rfl ?_
  refine z_ic_ge C 22 d_X_power_8 (by decide) (fun h5 => ?_) (fun h5 => ?_)
  · replace hw := hw.1 h5
    refine z_lload_n C d_X_power_22 rfl 2 rfl ?_
    exact z_lret C hr ⟨rfl, hw⟩ d_X_power_23
  · replace hw := hw.2 h5
    refine z_lload_n C d_X_power_11 rfl 2 rfl ?_
    refine z_iload_n C d_X_power_12 rfl 0 rfl ?_
    refine z_i2l C d_X_power_13 ?_
    refine z_lmul C d_X_power_14 ?_
    obtain ⟨x6, hx6⟩ : ∃ z : Int64, z = (l3 * (Int32.toInt64 a0)) := ⟨_, rfl⟩
    rw [← hx6]
    replace hw := hw x6 hx6
    refine z_lstore_n (lv' := [(2, .long x6), (0, .int a0), (1, .int a1), (4, .int i4)]) C d_X_power_15 rfl rfl rfl ?_
    refine z_iinc (v := (i4 + 1)) (lv' := [(4, .int (i4 + 1)), (2, .long x6), (0, .int a0), (1, .int a1)]) C d_X_power_16 3 rfl rfl rfl rfl ?_
    refine z_goto C 5 d_X_power_19 (by decide) ?_
    refine z_sub [2, 3, 1, 0] rfl ?_
    exact ih2 _ _ hw
theorem d_R_part_0 : decode prog_8_method_9_code 0 = .ok (.lload_n 0, 1) := by decide +kernel
theorem d_R_part_1 : decode prog_8_method_9_code 1 = .ok (.lstore 5, 2) := by decide +kernel
theorem d_R_part_3 : decode prog_8_method_9_code 3 = .ok (.lload_n 2, 1) := by decide +kernel
theorem d_R_part_4 : decode prog_8_method_9_code 4 = .ok (.lstore 7, 2) := by decide +kernel
theorem d_R_part_6 : decode prog_8_method_9_code 6 = .ok (.lload 7, 2) := by decide +kernel
theorem d_R_part_8 : decode prog_8_method_9_code 8 = .ok (.lconst 0, 1) := by decide +kernel
theorem d_R_part_9 : decode prog_8_method_9_code 9 = .ok (.lcmp, 1) := by decide +kernel
theorem d_R_part_10 : decode prog_8_method_9_code 10 = .ok (.ifCond .eq (21), 3) := by decide +kernel
theorem d_R_part_13 : decode prog_8_method_9_code 13 = .ok (.lload 5, 2) := by decide +kernel
theorem d_R_part_15 : decode prog_8_method_9_code 15 = .ok (.lload 7, 2) := by decide +kernel
theorem d_R_part_17 : decode prog_8_method_9_code 17 = .ok (.lrem, 1) := by decide +kernel
theorem d_R_part_18 : decode prog_8_method_9_code 18 = .ok (.lstore 9, 2) := by decide +kernel
theorem d_R_part_20 : decode prog_8_method_9_code 20 = .ok (.lload 7, 2) := by decide +kernel
theorem d_R_part_22 : decode prog_8_method_9_code 22 = .ok (.lstore 5, 2) := by decide +kernel
theorem d_R_part_24 : decode prog_8_method_9_code 24 = .ok (.lload 9, 2) := by decide +kernel
theorem d_R_part_26 : decode prog_8_method_9_code 26 = .ok (.lstore 7, 2) := by decide +kernel
theorem d_R_part_28 : decode prog_8_method_9_code 28 = .ok (.goto (-22), 3) := by decide +kernel
theorem d_R_part_31 : decode prog_8_method_9_code 31 = .ok (.iload 4, 2) := by decide +kernel
theorem d_R_part_33 : decode prog_8_method_9_code 33 = .ok (.ifCond .ne (7), 3) := by decide +kernel
theorem d_R_part_36 : decode prog_8_method_9_code 36 = .ok (.lload_n 0, 1) := by decide +kernel
theorem d_R_part_37 : decode prog_8_method_9_code 37 = .ok (.goto (4), 3) := by decide +kernel
theorem d_R_part_40 : decode prog_8_method_9_code 40 = .ok (.lload_n 2, 1) := by decide +kernel
theorem d_R_part_41 : decode prog_8_method_9_code 41 = .ok (.lload 5, 2) := by decide +kernel
theorem d_R_part_43 : decode prog_8_method_9_code 43 = .ok (.ldiv, 1) := by decide +kernel
theorem d_R_part_44 : decode prog_8_method_9_code 44 = .ok (.lreturn, 1) := by decide +kernel
def wp_R_part (a0 : Int64) (a2 : Int64) (a4 : Int32) (M : Mem) (post : Int64 → Prop) : Prop :=
  (it2 (fun rec1 (l3 : Int64) (l4 : Int64) => ((((lg_cmp l4 0) = 0) → ∀ u7 : Int64, u7 = (if a4 = 0 then a0 else a2) → ¬ l3 = 0 ∧ post (u7 / l3)) ∧ (¬ ((lg_cmp l4 0) = 0) → ¬ l4 = 0 ∧ ∀ x11 : Int64, x11 = (l3 - l3 / l4 * l4) → rec1 l4 x11))) 4096 a0 a2)
set_option maxHeartbeats 4000000 in
set_option maxRecDepth 100000 in
theorem c_R_part (g : GX) {a0 : Int64} {a2 : Int64} {a4 : Int32} {M : Mem} {post : Int64 → Prop} (hw : wp_R_part a0 a2 a4 M post) : CtL (oR g) y_R_part prog_8_method_9_code 11 (some .long) (rl 0) [.long a0, .long a2, .int a4] M (fun r M2 => M = M2 ∧ post r) := by
  refine z_metL (oR_ok g) (by decide) rfl (fun X C hr => ?_)
  show Zj X 11 (oR g) M 0 [(0, .long a0), (2, .long a2), (4, .int a4)] []
  unfold wp_R_part at hw
  refine z_lload_n C d_R_part_0 rfl 0 rfl ?_
  refine z_lstore (lv' := [(5, .long a0), (0, .long a0), (2, .long a2), (4, .int a4)]) C d_R_part_1 rfl rfl ?_
  refine z_lload_n C d_R_part_3 rfl 2 rfl ?_
  refine z_lstore (lv' := [(7, .long a2), (5, .long a0), (0, .long a0), (2, .long a2), (4, .int a4)]) C d_R_part_4 rfl rfl ?_
  refine z_sub [2, 3, 4, 1, 0] rfl ?_
  refine it2_Z (Z := fun (l3 : Int64) (l4 : Int64) => Zj X 11 (oR g) M 6 [(0, .long a0), (2, .long a2), (4, .int a4), (5, .long l3), (7, .long l4)] []) (fun rec1 ih2 l3 l4 hw => ?_) _ _ _ hw
  refine z_lload C d_R_part_6 4 rfl ?_
  refine z_lconst (v := 0) C d_R_part_8 (by decide) ?_
  refine z_lcmp C d_R_part_9 ?_
  refine z_if_eq C 31 d_R_part_10 (by decide) (fun h5 => ?_) (fun h5 => ?_)
  · replace hw := hw.1 h5
    refine z_iload C d_R_part_31 2 rfl ?_
    have hj9 : ∀ u7 : Int64, u7 = (if a4 = 0 then a0 else a2) → Zj X 11 (oR g) M 41 [(5, .long l3)] [.long u7] := by
      intro u7 hu7
      replace hw := hw u7 hu7
      refine z_lload C d_R_part_41 0 rfl ?_
      have hv8 := hw.1
      replace hw := hw.2
      refine z_ldiv C d_R_part_43 hv8 ?_
      exact z_lret C hr ⟨rfl, hw⟩ d_R_part_44
    refine z_if_ne C 40 d_R_part_33 (by decide) (fun h6 => ?_) (fun h6 => ?_)
    · refine z_lload_n C d_R_part_40 rfl 1 rfl ?_
      refine z_sub [3] rfl ?_
      exact hj9 _ ((if_neg h6)).symm
    · refine z_lload_n C d_R_part_36 rfl 0 rfl ?_
      refine z_goto C 41 d_R_part_37 (by decide) ?_
      refine z_sub [3] rfl ?_
      exact hj9 _ ((if_pos h6)).symm
  · replace hw := hw.2 h5
    refine z_lload C d_R_part_13 3 rfl ?_
    refine z_lload C d_R_part_15 4 rfl ?_
    have hv10 := hw.1
    replace hw := hw.2
    refine z_lrem C d_R_part_17 hv10 ?_
    obtain ⟨x11, hx11⟩ : ∃ z : Int64, z = (l3 - l3 / l4 * l4) := ⟨_, rfl⟩
    rw [← hx11]
    replace hw := hw x11 hx11
    refine z_lstore (lv' := [(9, .long x11), (0, .long a0), (2, .long a2), (4, .int a4), (5, .long l3), (7, .long l4)]) C d_R_part_18 rfl rfl ?_
    refine z_lload C d_R_part_20 5 rfl ?_
    refine z_lstore (lv' := [(5, .long l4), (9, .long x11), (0, .long a0), (2, .long a2), (4, .int a4), (7, .long l4)]) C d_R_part_22 rfl rfl ?_
    refine z_lload C d_R_part_24 1 rfl ?_
    refine z_lstore (lv' := [(7, .long x11), (5, .long l4), (9, .long x11), (0, .long a0), (2, .long a2), (4, .int a4)]) C d_R_part_26 rfl rfl ?_
    refine z_goto C 6 d_R_part_28 (by decide) ?_
    refine z_sub [3, 4, 5, 1, 0] rfl ?_
    exact ih2 _ _ hw
theorem d_R_finds_0 : decode prog_8_method_10_code 0 = .ok (.aload_n 0, 1) := by decide +kernel
theorem d_R_finds_1 : decode prog_8_method_10_code 1 = .ok (.iload_n 1, 1) := by decide +kernel
theorem d_R_finds_2 : decode prog_8_method_10_code 2 = .ok (.putfield 101, 3) := by decide +kernel
theorem d_R_finds_5 : decode prog_8_method_10_code 5 = .ok (.bipush (-10), 2) := by decide +kernel
theorem d_R_finds_7 : decode prog_8_method_10_code 7 = .ok (.iload_n 1, 1) := by decide +kernel
theorem d_R_finds_8 : decode prog_8_method_10_code 8 = .ok (.isub, 1) := by decide +kernel
theorem d_R_finds_9 : decode prog_8_method_10_code 9 = .ok (.ireturn, 1) := by decide +kernel
def wp_R_finds (a1 : Int32) (M : Mem) (post : Int32 → Mem → Prop) : Prop :=
  ∀ M1 : Mem, M1 = upm M 0 4 a1 → post ((-10) - a1) M1
set_option maxHeartbeats 4000000 in
set_option maxRecDepth 100000 in
theorem c_R_finds (g : GX) {a1 : Int32} {M : Mem} {post : Int32 → Mem → Prop} (hw : wp_R_finds a1 M post) : CtI (oR g) y_R_finds prog_8_method_10_code 2 (some .int) (rl 0) [.ref (ax g 0), .int a1] M post := by
  refine z_metI (oR_ok g) (by decide) rfl (fun X C hr => ?_)
  show Zj X 2 (oR g) M 0 [(0, .ref (ax g 0)), (1, .int a1)] []
  unfold wp_R_finds at hw
  refine z_aload_n C d_R_finds_0 rfl 0 rfl ?_
  refine z_iload_n C d_R_finds_1 rfl 1 rfl ?_
  refine pp_R_101 C d_R_finds_2 (fun M1 hM1 => ?_)
  replace hw := hw M1 hM1
  refine z_bipush (v := (-10)) C d_R_finds_5 (by decide) ?_
  refine z_iload_n C d_R_finds_7 rfl 1 rfl ?_
  refine z_isub C d_R_finds_8 ?_
  exact z_iret C hr hw d_R_finds_9
theorem d_R_plains_0 : decode prog_8_method_25_code 0 = .ok (.iconst 0, 1) := by decide +kernel
theorem d_R_plains_1 : decode prog_8_method_25_code 1 = .ok (.istore_n 1, 1) := by decide +kernel
theorem d_R_plains_2 : decode prog_8_method_25_code 2 = .ok (.iload_n 1, 1) := by decide +kernel
theorem d_R_plains_3 : decode prog_8_method_25_code 3 = .ok (.bipush 12, 2) := by decide +kernel
theorem d_R_plains_5 : decode prog_8_method_25_code 5 = .ok (.if_icmp .ge (16), 3) := by decide +kernel
theorem d_R_plains_8 : decode prog_8_method_25_code 8 = .ok (.aload_n 0, 1) := by decide +kernel
theorem d_R_plains_9 : decode prog_8_method_25_code 9 = .ok (.getfield 28, 3) := by decide +kernel
theorem d_R_plains_12 : decode prog_8_method_25_code 12 = .ok (.iload_n 1, 1) := by decide +kernel
theorem d_R_plains_13 : decode prog_8_method_25_code 13 = .ok (.iconst 0, 1) := by decide +kernel
theorem d_R_plains_14 : decode prog_8_method_25_code 14 = .ok (.iastore, 1) := by decide +kernel
theorem d_R_plains_15 : decode prog_8_method_25_code 15 = .ok (.iinc 1 1, 3) := by decide +kernel
theorem d_R_plains_18 : decode prog_8_method_25_code 18 = .ok (.goto (-16), 3) := by decide +kernel
theorem d_R_plains_21 : decode prog_8_method_25_code 21 = .ok (.return_, 1) := by decide +kernel
def wp_R_plains (M : Mem) (post : Mem → Prop) : Prop :=
  (it2 (fun rec1 (i3 : Int32) (M4 : Mem) => (((12 ≤ i3) → post M4) ∧ (¬ (12 ≤ i3) → vp_in i3 12 ∧ ∀ M6 : Mem, M6 = upm M4 7 (tn i3) 0 → rec1 (i3 + 1) M6))) 4096 0 M)
set_option maxHeartbeats 4000000 in
set_option maxRecDepth 100000 in
theorem c_R_plains (g : GX) {M : Mem} {post : Mem → Prop} (hw : wp_R_plains M post) : CtV (oR g) y_R_plains prog_8_method_25_code 2 none (rl 0) [.ref (ax g 0)] M post := by
  refine z_metV (oR_ok g) (by decide) rfl (fun X C hr => ?_)
  show Zj X 2 (oR g) M 0 [(0, .ref (ax g 0))] []
  unfold wp_R_plains at hw
  refine z_iconst (v := 0) C d_R_plains_0 (by decide) ?_
  refine z_istore_n (lv' := [(1, .int 0), (0, .ref (ax g 0))]) C d_R_plains_1 rfl rfl rfl ?_
  refine z_sub [1, 0] rfl ?_
  refine it2_Z (Z := fun (i3 : Int32) (M4 : Mem) => Zj X 2 (oR g) M4 2 [(0, .ref (ax g 0)), (1, .int i3)] []) (fun rec1 ih2 i3 M4 hw => ?_) _ _ _ hw
  refine z_iload_n C d_R_plains_2 rfl 1 rfl ?_
  refine z_bipush (v := 12) C d_R_plains_3 (by decide) ?_
  refine z_ic_ge C 21 d_R_plains_5 (by decide) (fun h5 => ?_) (fun h5 => ?_)
  · replace hw := hw.1 h5
    exact z_vret C hr hw d_R_plains_21
  · replace hw := hw.2 h5
    refine z_aload_n C d_R_plains_8 rfl 0 rfl ?_
    refine gf_R_28 C d_R_plains_9 ?_
    refine z_iload_n C d_R_plains_12 rfl 1 rfl ?_
    refine z_iconst (v := 0) C d_R_plains_13 (by decide) ?_
    have hv7 := hw.1
    refine z_as (zar_r7) C hv7 d_R_plains_14 (fun M6 hM6 => ?_)
    replace hw := hw.2 M6 hM6
    refine z_iinc (v := (i3 + 1)) (lv' := [(1, .int (i3 + 1)), (0, .ref (ax g 0))]) C d_R_plains_15 1 rfl rfl rfl rfl ?_
    refine z_goto C 2 d_R_plains_18 (by decide) ?_
    refine z_sub [1, 0] rfl ?_
    exact ih2 _ _ hw
theorem d_R_clears_0 : decode prog_8_method_27_code 0 = .ok (.iconst 0, 1) := by decide +kernel
theorem d_R_clears_1 : decode prog_8_method_27_code 1 = .ok (.istore_n 1, 1) := by decide +kernel
theorem d_R_clears_2 : decode prog_8_method_27_code 2 = .ok (.iload_n 1, 1) := by decide +kernel
theorem d_R_clears_3 : decode prog_8_method_27_code 3 = .ok (.bipush 24, 2) := by decide +kernel
theorem d_R_clears_5 : decode prog_8_method_27_code 5 = .ok (.if_icmp .ge (16), 3) := by decide +kernel
theorem d_R_clears_8 : decode prog_8_method_27_code 8 = .ok (.aload_n 0, 1) := by decide +kernel
theorem d_R_clears_9 : decode prog_8_method_27_code 9 = .ok (.getfield 31, 3) := by decide +kernel
theorem d_R_clears_12 : decode prog_8_method_27_code 12 = .ok (.iload_n 1, 1) := by decide +kernel
theorem d_R_clears_13 : decode prog_8_method_27_code 13 = .ok (.iconst 0, 1) := by decide +kernel
theorem d_R_clears_14 : decode prog_8_method_27_code 14 = .ok (.iastore, 1) := by decide +kernel
theorem d_R_clears_15 : decode prog_8_method_27_code 15 = .ok (.iinc 1 1, 3) := by decide +kernel
theorem d_R_clears_18 : decode prog_8_method_27_code 18 = .ok (.goto (-16), 3) := by decide +kernel
theorem d_R_clears_21 : decode prog_8_method_27_code 21 = .ok (.return_, 1) := by decide +kernel
def wp_R_clears (M : Mem) (post : Mem → Prop) : Prop :=
  (it2 (fun rec1 (i3 : Int32) (M4 : Mem) => (((24 ≤ i3) → post M4) ∧ (¬ (24 ≤ i3) → vp_in i3 24 ∧ ∀ M6 : Mem, M6 = upm M4 8 (tn i3) 0 → rec1 (i3 + 1) M6))) 4096 0 M)
set_option maxHeartbeats 4000000 in
set_option maxRecDepth 100000 in
theorem c_R_clears (g : GX) {M : Mem} {post : Mem → Prop} (hw : wp_R_clears M post) : CtV (oR g) y_R_clears prog_8_method_27_code 2 none (rl 0) [.ref (ax g 0)] M post := by
  refine z_metV (oR_ok g) (by decide) rfl (fun X C hr => ?_)
  show Zj X 2 (oR g) M 0 [(0, .ref (ax g 0))] []
  unfold wp_R_clears at hw
  refine z_iconst (v := 0) C d_R_clears_0 (by decide) ?_
  refine z_istore_n (lv' := [(1, .int 0), (0, .ref (ax g 0))]) C d_R_clears_1 rfl rfl rfl ?_
  refine z_sub [1, 0] rfl ?_
  refine it2_Z (Z := fun (i3 : Int32) (M4 : Mem) => Zj X 2 (oR g) M4 2 [(0, .ref (ax g 0)), (1, .int i3)] []) (fun rec1 ih2 i3 M4 hw => ?_) _ _ _ hw
  refine z_iload_n C d_R_clears_2 rfl 1 rfl ?_
  refine z_bipush (v := 24) C d_R_clears_3 (by decide) ?_
  refine z_ic_ge C 21 d_R_clears_5 (by decide) (fun h5 => ?_) (fun h5 => ?_)
  · replace hw := hw.1 h5
    exact z_vret C hr hw d_R_clears_21
  · replace hw := hw.2 h5
    refine z_aload_n C d_R_clears_8 rfl 0 rfl ?_
    refine gf_R_31 C d_R_clears_9 ?_
    refine z_iload_n C d_R_clears_12 rfl 1 rfl ?_
    refine z_iconst (v := 0) C d_R_clears_13 (by decide) ?_
    have hv7 := hw.1
    refine z_as (zar_r8) C hv7 d_R_clears_14 (fun M6 hM6 => ?_)
    replace hw := hw.2 M6 hM6
    refine z_iinc (v := (i3 + 1)) (lv' := [(1, .int (i3 + 1)), (0, .ref (ax g 0))]) C d_R_clears_15 1 rfl rfl rfl rfl ?_
    refine z_goto C 2 d_R_clears_18 (by decide) ?_
    refine z_sub [1, 0] rfl ?_
    exact ih2 _ _ hw
theorem d_R_back_0 : decode prog_8_method_44_code 0 = .ok (.aload_n 0, 1) := by decide +kernel
theorem d_R_back_1 : decode prog_8_method_44_code 1 = .ok (.getfield 189, 3) := by decide +kernel
theorem d_R_back_4 : decode prog_8_method_44_code 4 = .ok (.ifCond .ne (6), 3) := by decide +kernel
theorem d_R_back_7 : decode prog_8_method_44_code 7 = .ok (.bipush (-3), 2) := by decide +kernel
theorem d_R_back_9 : decode prog_8_method_44_code 9 = .ok (.ireturn, 1) := by decide +kernel
theorem d_R_back_10 : decode prog_8_method_44_code 10 = .ok (.aload_n 0, 1) := by decide +kernel
theorem d_R_back_11 : decode prog_8_method_44_code 11 = .ok (.dup, 1) := by decide +kernel
theorem d_R_back_12 : decode prog_8_method_44_code 12 = .ok (.getfield 189, 3) := by decide +kernel
theorem d_R_back_15 : decode prog_8_method_44_code 15 = .ok (.iconst 1, 1) := by decide +kernel
theorem d_R_back_16 : decode prog_8_method_44_code 16 = .ok (.isub, 1) := by decide +kernel
theorem d_R_back_17 : decode prog_8_method_44_code 17 = .ok (.putfield 189, 3) := by decide +kernel
theorem d_R_back_20 : decode prog_8_method_44_code 20 = .ok (.aload_n 0, 1) := by decide +kernel
theorem d_R_back_21 : decode prog_8_method_44_code 21 = .ok (.getfield 189, 3) := by decide +kernel
theorem d_R_back_24 : decode prog_8_method_44_code 24 = .ok (.ireturn, 1) := by decide +kernel
def wp_R_back (M : Mem) (post : Int32 → Mem → Prop) : Prop :=
  ((((M 0 14) = 0) → post (-3) M) ∧ (¬ ((M 0 14) = 0) → ∀ M2 : Mem, M2 = upm M 0 14 ((M 0 14) - 1) → post (M2 0 14) M2))
set_option maxHeartbeats 4000000 in
set_option maxRecDepth 100000 in
theorem c_R_back (g : GX) {M : Mem} {post : Int32 → Mem → Prop} (hw : wp_R_back M post) : CtI (oR g) y_R_back prog_8_method_44_code 1 (some .int) (rl 0) [.ref (ax g 0)] M post := by
  refine z_metI (oR_ok g) (by decide) rfl (fun X C hr => ?_)
  show Zj X 1 (oR g) M 0 [(0, .ref (ax g 0))] []
  unfold wp_R_back at hw
  refine z_aload_n C d_R_back_0 rfl 0 rfl ?_
  refine gf_R_189 C d_R_back_1 ?_
  refine z_if_ne C 10 d_R_back_4 (by decide) (fun h1 => ?_) (fun h1 => ?_)
  · replace hw := hw.2 h1
    refine z_aload_n C d_R_back_10 rfl 0 rfl ?_
    refine z_dup C d_R_back_11 rfl ?_
    refine gf_R_189 C d_R_back_12 ?_
    refine z_iconst (v := 1) C d_R_back_15 (by decide) ?_
    refine z_isub C d_R_back_16 ?_
    refine pp_R_189 C d_R_back_17 (fun M2 hM2 => ?_)
    replace hw := hw M2 hM2
    refine z_aload_n C d_R_back_20 rfl 0 rfl ?_
    refine gf_R_189 C d_R_back_21 ?_
    exact z_iret C hr hw d_R_back_24
  · replace hw := hw.1 h1
    refine z_bipush (v := (-3)) C d_R_back_7 (by decide) ?_
    exact z_iret C hr hw d_R_back_9
theorem d_R_scoops_0 : decode prog_8_method_49_code 0 = .ok (.aload_n 0, 1) := by decide +kernel
theorem d_R_scoops_1 : decode prog_8_method_49_code 1 = .ok (.getfield 52, 3) := by decide +kernel
theorem d_R_scoops_4 : decode prog_8_method_49_code 4 = .ok (.iload_n 1, 1) := by decide +kernel
theorem d_R_scoops_5 : decode prog_8_method_49_code 5 = .ok (.aload_n 0, 1) := by decide +kernel
theorem d_R_scoops_6 : decode prog_8_method_49_code 6 = .ok (.getfield 49, 3) := by decide +kernel
theorem d_R_scoops_9 : decode prog_8_method_49_code 9 = .ok (.iload_n 1, 1) := by decide +kernel
theorem d_R_scoops_10 : decode prog_8_method_49_code 10 = .ok (.iaload, 1) := by decide +kernel
theorem d_R_scoops_11 : decode prog_8_method_49_code 11 = .ok (.ifCond .ne (7), 3) := by decide +kernel
theorem d_R_scoops_14 : decode prog_8_method_49_code 14 = .ok (.iconst 0, 1) := by decide +kernel
theorem d_R_scoops_15 : decode prog_8_method_49_code 15 = .ok (.goto (24), 3) := by decide +kernel
theorem d_R_scoops_18 : decode prog_8_method_49_code 18 = .ok (.aload_n 0, 1) := by decide +kernel
theorem d_R_scoops_19 : decode prog_8_method_49_code 19 = .ok (.getfield 49, 3) := by decide +kernel
theorem d_R_scoops_22 : decode prog_8_method_49_code 22 = .ok (.iload_n 1, 1) := by decide +kernel
theorem d_R_scoops_23 : decode prog_8_method_49_code 23 = .ok (.iaload, 1) := by decide +kernel
theorem d_R_scoops_24 : decode prog_8_method_49_code 24 = .ok (.bipush 11, 2) := by decide +kernel
theorem d_R_scoops_26 : decode prog_8_method_49_code 26 = .ok (.if_icmp .ne (7), 3) := by decide +kernel
theorem d_R_scoops_29 : decode prog_8_method_49_code 29 = .ok (.iconst 1, 1) := by decide +kernel
theorem d_R_scoops_30 : decode prog_8_method_49_code 30 = .ok (.goto (9), 3) := by decide +kernel
theorem d_R_scoops_33 : decode prog_8_method_49_code 33 = .ok (.aload_n 0, 1) := by decide +kernel
theorem d_R_scoops_34 : decode prog_8_method_49_code 34 = .ok (.getfield 52, 3) := by decide +kernel
theorem d_R_scoops_37 : decode prog_8_method_49_code 37 = .ok (.iload_n 1, 1) := by decide +kernel
theorem d_R_scoops_38 : decode prog_8_method_49_code 38 = .ok (.iaload, 1) := by decide +kernel
theorem d_R_scoops_39 : decode prog_8_method_49_code 39 = .ok (.iastore, 1) := by decide +kernel
theorem d_R_scoops_40 : decode prog_8_method_49_code 40 = .ok (.aload_n 0, 1) := by decide +kernel
theorem d_R_scoops_41 : decode prog_8_method_49_code 41 = .ok (.getfield 49, 3) := by decide +kernel
theorem d_R_scoops_44 : decode prog_8_method_49_code 44 = .ok (.iload_n 1, 1) := by decide +kernel
theorem d_R_scoops_45 : decode prog_8_method_49_code 45 = .ok (.iaload, 1) := by decide +kernel
theorem d_R_scoops_46 : decode prog_8_method_49_code 46 = .ok (.aload_n 0, 1) := by decide +kernel
theorem d_R_scoops_47 : decode prog_8_method_49_code 47 = .ok (.getfield 52, 3) := by decide +kernel
theorem d_R_scoops_50 : decode prog_8_method_49_code 50 = .ok (.iload_n 1, 1) := by decide +kernel
theorem d_R_scoops_51 : decode prog_8_method_49_code 51 = .ok (.iaload, 1) := by decide +kernel
theorem d_R_scoops_52 : decode prog_8_method_49_code 52 = .ok (.ifCond .ne (7), 3) := by decide +kernel
theorem d_R_scoops_55 : decode prog_8_method_49_code 55 = .ok (.iconst 1, 1) := by decide +kernel
theorem d_R_scoops_56 : decode prog_8_method_49_code 56 = .ok (.goto (4), 3) := by decide +kernel
theorem d_R_scoops_59 : decode prog_8_method_49_code 59 = .ok (.iconst (-1), 1) := by decide +kernel
theorem d_R_scoops_60 : decode prog_8_method_49_code 60 = .ok (.iadd, 1) := by decide +kernel
theorem d_R_scoops_61 : decode prog_8_method_49_code 61 = .ok (.istore_n 2, 1) := by decide +kernel
theorem d_R_scoops_62 : decode prog_8_method_49_code 62 = .ok (.aload_n 0, 1) := by decide +kernel
theorem d_R_scoops_63 : decode prog_8_method_49_code 63 = .ok (.getfield 34, 3) := by decide +kernel
theorem d_R_scoops_66 : decode prog_8_method_49_code 66 = .ok (.iconst 3, 1) := by decide +kernel
theorem d_R_scoops_67 : decode prog_8_method_49_code 67 = .ok (.iload_n 1, 1) := by decide +kernel
theorem d_R_scoops_68 : decode prog_8_method_49_code 68 = .ok (.imul, 1) := by decide +kernel
theorem d_R_scoops_69 : decode prog_8_method_49_code 69 = .ok (.iconst 1, 1) := by decide +kernel
theorem d_R_scoops_70 : decode prog_8_method_49_code 70 = .ok (.iadd, 1) := by decide +kernel
theorem d_R_scoops_71 : decode prog_8_method_49_code 71 = .ok (.iaload, 1) := by decide +kernel
theorem d_R_scoops_72 : decode prog_8_method_49_code 72 = .ok (.istore_n 3, 1) := by decide +kernel
theorem d_R_scoops_73 : decode prog_8_method_49_code 73 = .ok (.aload_n 0, 1) := by decide +kernel
theorem d_R_scoops_74 : decode prog_8_method_49_code 74 = .ok (.getfield 43, 3) := by decide +kernel
theorem d_R_scoops_77 : decode prog_8_method_49_code 77 = .ok (.iload_n 2, 1) := by decide +kernel
theorem d_R_scoops_78 : decode prog_8_method_49_code 78 = .ok (.iaload, 1) := by decide +kernel
theorem d_R_scoops_79 : decode prog_8_method_49_code 79 = .ok (.iconst 3, 1) := by decide +kernel
theorem d_R_scoops_80 : decode prog_8_method_49_code 80 = .ok (.iload_n 3, 1) := by decide +kernel
theorem d_R_scoops_81 : decode prog_8_method_49_code 81 = .ok (.imul, 1) := by decide +kernel
theorem d_R_scoops_82 : decode prog_8_method_49_code 82 = .ok (.if_icmp .le (25), 3) := by decide +kernel
theorem d_R_scoops_85 : decode prog_8_method_49_code 85 = .ok (.aload_n 0, 1) := by decide +kernel
theorem d_R_scoops_86 : decode prog_8_method_49_code 86 = .ok (.getfield 58, 3) := by decide +kernel
theorem d_R_scoops_89 : decode prog_8_method_49_code 89 = .ok (.iload_n 1, 1) := by decide +kernel
theorem d_R_scoops_90 : decode prog_8_method_49_code 90 = .ok (.dup2, 1) := by decide +kernel
theorem d_R_scoops_91 : decode prog_8_method_49_code 91 = .ok (.iaload, 1) := by decide +kernel
theorem d_R_scoops_92 : decode prog_8_method_49_code 92 = .ok (.iconst 1, 1) := by decide +kernel
theorem d_R_scoops_93 : decode prog_8_method_49_code 93 = .ok (.iadd, 1) := by decide +kernel
theorem d_R_scoops_94 : decode prog_8_method_49_code 94 = .ok (.iastore, 1) := by decide +kernel
theorem d_R_scoops_95 : decode prog_8_method_49_code 95 = .ok (.aload_n 0, 1) := by decide +kernel
theorem d_R_scoops_96 : decode prog_8_method_49_code 96 = .ok (.getfield 43, 3) := by decide +kernel
theorem d_R_scoops_99 : decode prog_8_method_49_code 99 = .ok (.iload_n 2, 1) := by decide +kernel
theorem d_R_scoops_100 : decode prog_8_method_49_code 100 = .ok (.dup2, 1) := by decide +kernel
theorem d_R_scoops_101 : decode prog_8_method_49_code 101 = .ok (.iaload, 1) := by decide +kernel
theorem d_R_scoops_102 : decode prog_8_method_49_code 102 = .ok (.iload_n 3, 1) := by decide +kernel
theorem d_R_scoops_103 : decode prog_8_method_49_code 103 = .ok (.isub, 1) := by decide +kernel
theorem d_R_scoops_104 : decode prog_8_method_49_code 104 = .ok (.iastore, 1) := by decide +kernel
theorem d_R_scoops_105 : decode prog_8_method_49_code 105 = .ok (.iload_n 3, 1) := by decide +kernel
theorem d_R_scoops_106 : decode prog_8_method_49_code 106 = .ok (.ireturn, 1) := by decide +kernel
theorem d_R_scoops_107 : decode prog_8_method_49_code 107 = .ok (.aload_n 0, 1) := by decide +kernel
theorem d_R_scoops_108 : decode prog_8_method_49_code 108 = .ok (.getfield 43, 3) := by decide +kernel
theorem d_R_scoops_111 : decode prog_8_method_49_code 111 = .ok (.iload_n 2, 1) := by decide +kernel
theorem d_R_scoops_112 : decode prog_8_method_49_code 112 = .ok (.iaload, 1) := by decide +kernel
theorem d_R_scoops_113 : decode prog_8_method_49_code 113 = .ok (.istore 4, 2) := by decide +kernel
theorem d_R_scoops_115 : decode prog_8_method_49_code 115 = .ok (.aload_n 0, 1) := by decide +kernel
theorem d_R_scoops_116 : decode prog_8_method_49_code 116 = .ok (.getfield 43, 3) := by decide +kernel
theorem d_R_scoops_119 : decode prog_8_method_49_code 119 = .ok (.iload_n 2, 1) := by decide +kernel
theorem d_R_scoops_120 : decode prog_8_method_49_code 120 = .ok (.iconst 0, 1) := by decide +kernel
theorem d_R_scoops_121 : decode prog_8_method_49_code 121 = .ok (.iastore, 1) := by decide +kernel
theorem d_R_scoops_122 : decode prog_8_method_49_code 122 = .ok (.aload_n 0, 1) := by decide +kernel
theorem d_R_scoops_123 : decode prog_8_method_49_code 123 = .ok (.getfield 49, 3) := by decide +kernel
theorem d_R_scoops_126 : decode prog_8_method_49_code 126 = .ok (.iload_n 1, 1) := by decide +kernel
theorem d_R_scoops_127 : decode prog_8_method_49_code 127 = .ok (.iload_n 2, 1) := by decide +kernel
theorem d_R_scoops_128 : decode prog_8_method_49_code 128 = .ok (.iastore, 1) := by decide +kernel
theorem d_R_scoops_129 : decode prog_8_method_49_code 129 = .ok (.iload 4, 2) := by decide +kernel
theorem d_R_scoops_131 : decode prog_8_method_49_code 131 = .ok (.ireturn, 1) := by decide +kernel
def wp_R_scoops (a1 : Int32) (M : Mem) (post : Int32 → Mem → Prop) : Prop :=
  vp_in a1 4 ∧ ∀ u4 : Int32, u4 = (if (M 14 (tn a1)) = 0 then 0 else (if (M 14 (tn a1)) = 11 then 1 else (M 15 (tn a1)))) → ∀ M5 : Mem, M5 = upm M 15 (tn a1) u4 → ∀ u7 : Int32, u7 = (if (M5 15 (tn a1)) = 0 then 1 else (-1)) → ∀ x8 : Int32, x8 = ((M5 14 (tn a1)) + u7) → vp_in ((3 * a1) + 1) 12 ∧ ∀ x10 : Int32, x10 = (M5 9 (tn ((3 * a1) + 1))) → vp_in x8 12 ∧ ((((M5 12 (tn x8)) ≤ (3 * x10)) → ∀ x13 : Int32, x13 = (M5 12 (tn x8)) → ∀ M14 : Mem, M14 = upm M5 12 (tn x8) 0 → ∀ M15 : Mem, M15 = upm M14 14 (tn a1) x8 → post x13 M15) ∧ (¬ ((M5 12 (tn x8)) ≤ (3 * x10)) → ∀ M16 : Mem, M16 = upm M5 17 (tn a1) ((M5 17 (tn a1)) + 1) → ∀ M17 : Mem, M17 = upm M16 12 (tn x8) ((M16 12 (tn x8)) - x10) → post x10 M17))
set_option maxHeartbeats 4000000 in
set_option maxRecDepth 100000 in
theorem c_R_scoops (g : GX) {a1 : Int32} {M : Mem} {post : Int32 → Mem → Prop} (hw : wp_R_scoops a1 M post) : CtI (oR g) y_R_scoops prog_8_method_49_code 5 (some .int) (rl 0) [.ref (ax g 0), .int a1] M post := by
  refine z_metI (oR_ok g) (by decide) rfl (fun X C hr => ?_)
  show Zj X 5 (oR g) M 0 [(0, .ref (ax g 0)), (1, .int a1)] []
  unfold wp_R_scoops at hw
  refine z_aload_n C d_R_scoops_0 rfl 0 rfl ?_
  refine gf_R_52 C d_R_scoops_1 ?_
  refine z_iload_n C d_R_scoops_4 rfl 1 rfl ?_
  refine z_aload_n C d_R_scoops_5 rfl 0 rfl ?_
  refine gf_R_49 C d_R_scoops_6 ?_
  refine z_iload_n C d_R_scoops_9 rfl 1 rfl ?_
  have hv1 := hw.1
  replace hw := hw.2
  refine z_al (zar_r14) C hv1 d_R_scoops_10 ?_
  have hj19 : ∀ u4 : Int32, u4 = (if (M 14 (tn a1)) = 0 then 0 else (if (M 14 (tn a1)) = 11 then 1 else (M 15 (tn a1)))) → Zj X 5 (oR g) M 39 [(0, .ref (ax g 0)), (1, .int a1)] [.int u4, .int a1, .ref (ax g 15)] := by
    intro u4 hu4
    replace hw := hw u4 hu4
    refine z_as (zar_r15) C hv1 d_R_scoops_39 (fun M5 hM5 => ?_)
    replace hw := hw M5 hM5
    refine z_aload_n C d_R_scoops_40 rfl 0 rfl ?_
    refine gf_R_49 C d_R_scoops_41 ?_
    refine z_iload_n C d_R_scoops_44 rfl 1 rfl ?_
    refine z_al (zar_r14) C hv1 d_R_scoops_45 ?_
    refine z_aload_n C d_R_scoops_46 rfl 0 rfl ?_
    refine gf_R_52 C d_R_scoops_47 ?_
    refine z_iload_n C d_R_scoops_50 rfl 1 rfl ?_
    refine z_al (zar_r15) C hv1 d_R_scoops_51 ?_
    have hj18 : ∀ u7 : Int32, u7 = (if (M5 15 (tn a1)) = 0 then 1 else (-1)) → Zj X 5 (oR g) M5 60 [(0, .ref (ax g 0)), (1, .int a1)] [.int u7, .int (M5 14 (tn a1))] := by
      intro u7 hu7
      replace hw := hw u7 hu7
      refine z_iadd C d_R_scoops_60 ?_
      obtain ⟨x8, hx8⟩ : ∃ z : Int32, z = ((M5 14 (tn a1)) + u7) := ⟨_, rfl⟩
      rw [← hx8]
      replace hw := hw x8 hx8
      refine z_istore_n (lv' := [(2, .int x8), (0, .ref (ax g 0)), (1, .int a1)]) C d_R_scoops_61 rfl rfl rfl ?_
      refine z_aload_n C d_R_scoops_62 rfl 1 rfl ?_
      refine gf_R_34 C d_R_scoops_63 ?_
      refine z_iconst (v := 3) C d_R_scoops_66 (by decide) ?_
      refine z_iload_n C d_R_scoops_67 rfl 2 rfl ?_
      refine z_imul C d_R_scoops_68 ?_
      refine z_iconst (v := 1) C d_R_scoops_69 (by decide) ?_
      refine z_iadd C d_R_scoops_70 ?_
      have hv9 := hw.1
      replace hw := hw.2
      refine z_al (zar_r9) C hv9 d_R_scoops_71 ?_
      obtain ⟨x10, hx10⟩ : ∃ z : Int32, z = (M5 9 (tn ((3 * a1) + 1))) := ⟨_, rfl⟩
      rw [← hx10]
      replace hw := hw x10 hx10
      refine z_istore_n (lv' := [(3, .int x10), (2, .int x8), (0, .ref (ax g 0)), (1, .int a1)]) C d_R_scoops_72 rfl rfl rfl ?_
      refine z_aload_n C d_R_scoops_73 rfl 2 rfl ?_
      refine gf_R_43 C d_R_scoops_74 ?_
      refine z_iload_n C d_R_scoops_77 rfl 1 rfl ?_
      have hv11 := hw.1
      replace hw := hw.2
      refine z_al (zar_r12) C hv11 d_R_scoops_78 ?_
      refine z_iconst (v := 3) C d_R_scoops_79 (by decide) ?_
      refine z_iload_n C d_R_scoops_80 rfl 0 rfl ?_
      refine z_imul C d_R_scoops_81 ?_
      refine z_ic_le C 107 d_R_scoops_82 (by decide) (fun h12 => ?_) (fun h12 => ?_)
      · replace hw := hw.1 h12
        refine z_aload_n C d_R_scoops_107 rfl 2 rfl ?_
        refine gf_R_43 C d_R_scoops_108 ?_
        refine z_iload_n C d_R_scoops_111 rfl 1 rfl ?_
        refine z_al (zar_r12) C hv11 d_R_scoops_112 ?_
        obtain ⟨x13, hx13⟩ : ∃ z : Int32, z = (M5 12 (tn x8)) := ⟨_, rfl⟩
        rw [← hx13]
        replace hw := hw x13 hx13
        refine z_istore (lv' := [(4, .int x13), (3, .int x10), (2, .int x8), (0, .ref (ax g 0)), (1, .int a1)]) C d_R_scoops_113 rfl rfl ?_
        refine z_aload_n C d_R_scoops_115 rfl 3 rfl ?_
        refine gf_R_43 C d_R_scoops_116 ?_
        refine z_iload_n C d_R_scoops_119 rfl 2 rfl ?_
        refine z_iconst (v := 0) C d_R_scoops_120 (by decide) ?_
        refine z_as (zar_r12) C hv11 d_R_scoops_121 (fun M14 hM14 => ?_)
        replace hw := hw M14 hM14
        refine z_aload_n C d_R_scoops_122 rfl 3 rfl ?_
        refine gf_R_49 C d_R_scoops_123 ?_
        refine z_iload_n C d_R_scoops_126 rfl 4 rfl ?_
        refine z_iload_n C d_R_scoops_127 rfl 2 rfl ?_
        refine z_as (zar_r14) C hv1 d_R_scoops_128 (fun M15 hM15 => ?_)
        replace hw := hw M15 hM15
        refine z_iload C d_R_scoops_129 0 rfl ?_
        exact z_iret C hr hw d_R_scoops_131
      · replace hw := hw.2 h12
        refine z_aload_n C d_R_scoops_85 rfl 2 rfl ?_
        refine gf_R_58 C d_R_scoops_86 ?_
        refine z_iload_n C d_R_scoops_89 rfl 3 rfl ?_
        refine z_dup2 C d_R_scoops_90 rfl rfl ?_
        refine z_al (zar_r17) C hv1 d_R_scoops_91 ?_
        refine z_iconst (v := 1) C d_R_scoops_92 (by decide) ?_
        refine z_iadd C d_R_scoops_93 ?_
        refine z_as (zar_r17) C hv1 d_R_scoops_94 (fun M16 hM16 => ?_)
        replace hw := hw M16 hM16
        refine z_aload_n C d_R_scoops_95 rfl 2 rfl ?_
        refine gf_R_43 C d_R_scoops_96 ?_
        refine z_iload_n C d_R_scoops_99 rfl 1 rfl ?_
        refine z_dup2 C d_R_scoops_100 rfl rfl ?_
        refine z_al (zar_r12) C hv11 d_R_scoops_101 ?_
        refine z_iload_n C d_R_scoops_102 rfl 0 rfl ?_
        refine z_isub C d_R_scoops_103 ?_
        refine z_as (zar_r12) C hv11 d_R_scoops_104 (fun M17 hM17 => ?_)
        replace hw := hw M17 hM17
        refine z_iload_n C d_R_scoops_105 rfl 0 rfl ?_
        exact z_iret C hr hw d_R_scoops_106
    refine z_if_ne C 59 d_R_scoops_52 (by decide) (fun h6 => ?_) (fun h6 => ?_)
    · refine z_iconst (v := (-1)) C d_R_scoops_59 (by decide) ?_
      refine z_sub [0, 1] rfl ?_
      exact hj18 _ ((if_neg h6)).symm
    · refine z_iconst (v := 1) C d_R_scoops_55 (by decide) ?_
      refine z_goto C 60 d_R_scoops_56 (by decide) ?_
      refine z_sub [0, 1] rfl ?_
      exact hj18 _ ((if_pos h6)).symm
  refine z_if_ne C 18 d_R_scoops_11 (by decide) (fun h2 => ?_) (fun h2 => ?_)
  · refine z_aload_n C d_R_scoops_18 rfl 0 rfl ?_
    refine gf_R_49 C d_R_scoops_19 ?_
    refine z_iload_n C d_R_scoops_22 rfl 1 rfl ?_
    refine z_al (zar_r14) C hv1 d_R_scoops_23 ?_
    refine z_bipush (v := 11) C d_R_scoops_24 (by decide) ?_
    refine z_ic_ne C 33 d_R_scoops_26 (by decide) (fun h3 => ?_) (fun h3 => ?_)
    · refine z_aload_n C d_R_scoops_33 rfl 0 rfl ?_
      refine gf_R_52 C d_R_scoops_34 ?_
      refine z_iload_n C d_R_scoops_37 rfl 1 rfl ?_
      refine z_al (zar_r15) C hv1 d_R_scoops_38 ?_
      refine z_sub [0, 1] rfl ?_
      exact hj19 _ (((if_neg h2).trans (if_neg h3))).symm
    · refine z_iconst (v := 1) C d_R_scoops_29 (by decide) ?_
      refine z_goto C 39 d_R_scoops_30 (by decide) ?_
      refine z_sub [0, 1] rfl ?_
      exact hj19 _ (((if_neg h2).trans (if_pos h3))).symm
  · refine z_iconst (v := 0) C d_R_scoops_14 (by decide) ?_
    refine z_goto C 39 d_R_scoops_15 (by decide) ?_
    refine z_sub [0, 1] rfl ?_
    exact hj19 _ ((if_pos h2)).symm
