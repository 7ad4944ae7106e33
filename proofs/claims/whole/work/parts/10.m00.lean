theorem d_X_outside_0 : decode prog_1_method_43_code 0 = .ok (.iload_n 0, 1) := by decide +kernel
theorem d_X_outside_1 : decode prog_1_method_43_code 1 = .ok (.ifCond .lt (8), 3) := by decide +kernel
theorem d_X_outside_4 : decode prog_1_method_43_code 4 = .ok (.iload_n 0, 1) := by decide +kernel
theorem d_X_outside_5 : decode prog_1_method_43_code 5 = .ok (.iload_n 1, 1) := by decide +kernel
theorem d_X_outside_6 : decode prog_1_method_43_code 6 = .ok (.if_icmp .lt (7), 3) := by decide +kernel
theorem d_X_outside_9 : decode prog_1_method_43_code 9 = .ok (.iconst 1, 1) := by decide +kernel
theorem d_X_outside_10 : decode prog_1_method_43_code 10 = .ok (.goto (4), 3) := by decide +kernel
theorem d_X_outside_13 : decode prog_1_method_43_code 13 = .ok (.iconst 0, 1) := by decide +kernel
theorem d_X_outside_14 : decode prog_1_method_43_code 14 = .ok (.ireturn, 1) := by decide +kernel
def pf_X_outside (a0 : Int32) (a1 : Int32) : Int32 :=
  (if a0 < 0 then 1 else (if a0 < a1 then 0 else 1))
theorem pz_X_outside (a0 : Int32) (a1 : Int32) : pf_X_outside a0 a1 = 0 ∨ pf_X_outside a0 a1 = 1 := by
  unfold pf_X_outside
  repeat' split
  all_goals first | exact Or.inl rfl | exact Or.inr rfl
set_option maxHeartbeats 4000000 in
set_option maxRecDepth 100000 in
theorem c_X_outside {w : ZW} (hw0 : Zok w) (M : Mem) (a0 : Int32) (a1 : Int32) : CtI w y_X_outside prog_1_method_43_code 2 (some .boolean) (rl 0) [.int a0, .int a1] M (fun r M2 => r = pf_X_outside a0 a1 ∧ M = M2) := by
  refine z_metI hw0 (by decide) rfl (fun X C hr => ?_)
  show Zj X 2 w M 0 [(0, .int a0), (1, .int a1)] []
  refine z_iload_n C d_X_outside_0 rfl 0 rfl ?_
  refine z_if_lt C 9 d_X_outside_1 (by decide) (fun h1 => ?_) (fun h1 => ?_)
  · refine z_iconst (v := 1) C d_X_outside_9 (by decide) ?_
    refine z_goto C 14 d_X_outside_10 (by decide) ?_
    exact z_zret C hr (Or.inr rfl) ⟨by rw [pf_X_outside, if_pos h1], rfl⟩ d_X_outside_14
  · refine z_iload_n C d_X_outside_4 rfl 0 rfl ?_
    refine z_iload_n C d_X_outside_5 rfl 1 rfl ?_
    refine z_ic_lt C 13 d_X_outside_6 (by decide) (fun h2 => ?_) (fun h2 => ?_)
    · refine z_iconst (v := 0) C d_X_outside_13 (by decide) ?_
      exact z_zret C hr (Or.inl rfl) ⟨by rw [pf_X_outside, if_neg h1, if_pos h2], rfl⟩ d_X_outside_14
    · refine z_iconst (v := 1) C d_X_outside_9 (by decide) ?_
      refine z_goto C 14 d_X_outside_10 (by decide) ?_
      exact z_zret C hr (Or.inr rfl) ⟨by rw [pf_X_outside, if_neg h1, if_neg h2], rfl⟩ d_X_outside_14
theorem d_X_mix_0 : decode prog_1_method_44_code 0 = .ok (.ldc2_w 326, 3) := by decide +kernel
theorem d_X_mix_3 : decode prog_1_method_44_code 3 = .ok (.lload_n 0, 1) := by decide +kernel
theorem d_X_mix_4 : decode prog_1_method_44_code 4 = .ok (.lmul, 1) := by decide +kernel
theorem d_X_mix_5 : decode prog_1_method_44_code 5 = .ok (.lload_n 2, 1) := by decide +kernel
theorem d_X_mix_6 : decode prog_1_method_44_code 6 = .ok (.ladd, 1) := by decide +kernel
theorem d_X_mix_7 : decode prog_1_method_44_code 7 = .ok (.lreturn, 1) := by decide +kernel
def pf_X_mix (a0 : Int64) (a2 : Int64) : Int64 :=
  (((31) * a0) + a2)
set_option maxHeartbeats 4000000 in
set_option maxRecDepth 100000 in
theorem c_X_mix {w : ZW} (hw0 : Zok w) (M : Mem) (a0 : Int64) (a2 : Int64) : CtL w y_X_mix prog_1_method_44_code 4 (some .long) (rl 0) [.long a0, .long a2] M (fun r M2 => r = pf_X_mix a0 a2 ∧ M = M2) := by
  refine z_metL hw0 (by decide) rfl (fun X C hr => ?_)
  show Zj X 4 w M 0 [(0, .long a0), (2, .long a2)] []
  refine z_ldc2 C d_X_mix_0 tw_631 ?_
  refine z_lload_n C d_X_mix_3 rfl 0 rfl ?_
  refine z_lmul C d_X_mix_4 ?_
  refine z_lload_n C d_X_mix_5 rfl 1 rfl ?_
  refine z_ladd C d_X_mix_6 ?_
  exact z_lret C hr ⟨by rw [pf_X_mix], rfl⟩ d_X_mix_7
theorem d_R_in_0 : decode prog_8_method_3_code 0 = .ok (.lload_n 0, 1) := by decide +kernel
theorem d_R_in_1 : decode prog_8_method_3_code 1 = .ok (.lload_n 2, 1) := by decide +kernel
theorem d_R_in_2 : decode prog_8_method_3_code 2 = .ok (.lcmp, 1) := by decide +kernel
theorem d_R_in_3 : decode prog_8_method_3_code 3 = .ok (.ifCond .lt (14), 3) := by decide +kernel
theorem d_R_in_6 : decode prog_8_method_3_code 6 = .ok (.lload_n 0, 1) := by decide +kernel
theorem d_R_in_7 : decode prog_8_method_3_code 7 = .ok (.lload 4, 2) := by decide +kernel
theorem d_R_in_9 : decode prog_8_method_3_code 9 = .ok (.lcmp, 1) := by decide +kernel
theorem d_R_in_10 : decode prog_8_method_3_code 10 = .ok (.ifCond .gt (7), 3) := by decide +kernel
theorem d_R_in_13 : decode prog_8_method_3_code 13 = .ok (.iconst 1, 1) := by decide +kernel
theorem d_R_in_14 : decode prog_8_method_3_code 14 = .ok (.goto (4), 3) := by decide +kernel
theorem d_R_in_17 : decode prog_8_method_3_code 17 = .ok (.iconst 0, 1) := by decide +kernel
theorem d_R_in_18 : decode prog_8_method_3_code 18 = .ok (.ireturn, 1) := by decide +kernel
def pf_R_in (a0 : Int64) (a2 : Int64) (a4 : Int64) : Int32 :=
  (if (lg_cmp a0 a2) < 0 then 0 else (if 0 < (lg_cmp a0 a4) then 0 else 1))
theorem pz_R_in (a0 : Int64) (a2 : Int64) (a4 : Int64) : pf_R_in a0 a2 a4 = 0 ∨ pf_R_in a0 a2 a4 = 1 := by
  unfold pf_R_in
  repeat' split
  all_goals first | exact Or.inl rfl | exact Or.inr rfl
set_option maxHeartbeats 4000000 in
set_option maxRecDepth 100000 in
theorem c_R_in {w : ZW} (hw0 : Zok w) (M : Mem) (a0 : Int64) (a2 : Int64) (a4 : Int64) : CtI w y_R_in prog_8_method_3_code 6 (some .boolean) (rl 0) [.long a0, .long a2, .long a4] M (fun r M2 => r = pf_R_in a0 a2 a4 ∧ M = M2) := by
  refine z_metI hw0 (by decide) rfl (fun X C hr => ?_)
  show Zj X 6 w M 0 [(0, .long a0), (2, .long a2), (4, .long a4)] []
  refine z_lload_n C d_R_in_0 rfl 0 rfl ?_
  refine z_lload_n C d_R_in_1 rfl 1 rfl ?_
  refine z_lcmp C d_R_in_2 ?_
  refine z_if_lt C 17 d_R_in_3 (by decide) (fun h1 => ?_) (fun h1 => ?_)
  · refine z_iconst (v := 0) C d_R_in_17 (by decide) ?_
    exact z_zret C hr (Or.inl rfl) ⟨by rw [pf_R_in, if_pos h1], rfl⟩ d_R_in_18
  · refine z_lload_n C d_R_in_6 rfl 0 rfl ?_
    refine z_lload C d_R_in_7 2 rfl ?_
    refine z_lcmp C d_R_in_9 ?_
    refine z_if_gt C 17 d_R_in_10 (by decide) (fun h2 => ?_) (fun h2 => ?_)
    · refine z_iconst (v := 0) C d_R_in_17 (by decide) ?_
      exact z_zret C hr (Or.inl rfl) ⟨by rw [pf_R_in, if_neg h1, if_pos h2], rfl⟩ d_R_in_18
    · refine z_iconst (v := 1) C d_R_in_13 (by decide) ?_
      refine z_goto C 18 d_R_in_14 (by decide) ?_
      exact z_zret C hr (Or.inr rfl) ⟨by rw [pf_R_in, if_neg h1, if_neg h2], rfl⟩ d_R_in_18
theorem d_R_no_0 : decode prog_8_method_4_code 0 = .ok (.ldc2_w 95, 3) := by decide +kernel
theorem d_R_no_3 : decode prog_8_method_4_code 3 = .ok (.iload_n 0, 1) := by decide +kernel
theorem d_R_no_4 : decode prog_8_method_4_code 4 = .ok (.i2l, 1) := by decide +kernel
theorem d_R_no_5 : decode prog_8_method_4_code 5 = .ok (.lsub, 1) := by decide +kernel
theorem d_R_no_6 : decode prog_8_method_4_code 6 = .ok (.lreturn, 1) := by decide +kernel
def pf_R_no (a0 : Int32) : Int64 :=
  ((-9223372036854775808) - (Int32.toInt64 a0))
set_option maxHeartbeats 4000000 in
set_option maxRecDepth 100000 in
theorem c_R_no {w : ZW} (hw0 : Zok w) (M : Mem) (a0 : Int32) : CtL w y_R_no prog_8_method_4_code 1 (some .long) (rl 0) [.int a0] M (fun r M2 => r = pf_R_no a0 ∧ M = M2) := by
  refine z_metL hw0 (by decide) rfl (fun X C hr => ?_)
  show Zj X 1 w M 0 [(0, .int a0)] []
  refine z_ldc2 C d_R_no_0 tw_1145 ?_
  refine z_iload_n C d_R_no_3 rfl 0 rfl ?_
  refine z_i2l C d_R_no_4 ?_
  refine z_lsub C d_R_no_5 ?_
  exact z_lret C hr ⟨by rw [pf_R_no], rfl⟩ d_R_no_6
theorem d_R_isIn_0 : decode prog_8_method_6_code 0 = .ok (.iload_n 0, 1) := by decide +kernel
theorem d_R_isIn_1 : decode prog_8_method_6_code 1 = .ok (.iload_n 1, 1) := by decide +kernel
theorem d_R_isIn_2 : decode prog_8_method_6_code 2 = .ok (.ishr, 1) := by decide +kernel
theorem d_R_isIn_3 : decode prog_8_method_6_code 3 = .ok (.iconst 1, 1) := by decide +kernel
theorem d_R_isIn_4 : decode prog_8_method_6_code 4 = .ok (.iand, 1) := by decide +kernel
theorem d_R_isIn_5 : decode prog_8_method_6_code 5 = .ok (.iconst 1, 1) := by decide +kernel
theorem d_R_isIn_6 : decode prog_8_method_6_code 6 = .ok (.if_icmp .ne (7), 3) := by decide +kernel
theorem d_R_isIn_9 : decode prog_8_method_6_code 9 = .ok (.iconst 1, 1) := by decide +kernel
theorem d_R_isIn_10 : decode prog_8_method_6_code 10 = .ok (.goto (4), 3) := by decide +kernel
theorem d_R_isIn_13 : decode prog_8_method_6_code 13 = .ok (.iconst 0, 1) := by decide +kernel
theorem d_R_isIn_14 : decode prog_8_method_6_code 14 = .ok (.ireturn, 1) := by decide +kernel
def pf_R_isIn (a0 : Int32) (a1 : Int32) : Int32 :=
  (if ((a0 >>> (a1 &&& 31)) &&& 1) = 1 then 1 else 0)
theorem pz_R_isIn (a0 : Int32) (a1 : Int32) : pf_R_isIn a0 a1 = 0 ∨ pf_R_isIn a0 a1 = 1 := by
  unfold pf_R_isIn
  repeat' split
  all_goals first | exact Or.inl rfl | exact Or.inr rfl
set_option maxHeartbeats 4000000 in
set_option maxRecDepth 100000 in
theorem c_R_isIn {w : ZW} (hw0 : Zok w) (M : Mem) (a0 : Int32) (a1 : Int32) : CtI w y_R_isIn prog_8_method_6_code 2 (some .boolean) (rl 0) [.int a0, .int a1] M (fun r M2 => r = pf_R_isIn a0 a1 ∧ M = M2) := by
  refine z_metI hw0 (by decide) rfl (fun X C hr => ?_)
  show Zj X 2 w M 0 [(0, .int a0), (1, .int a1)] []
  refine z_iload_n C d_R_isIn_0 rfl 0 rfl ?_
  refine z_iload_n C d_R_isIn_1 rfl 1 rfl ?_
  refine z_ishr C d_R_isIn_2 ?_
  refine z_iconst (v := 1) C d_R_isIn_3 (by decide) ?_
  refine z_iand C d_R_isIn_4 ?_
  refine z_iconst (v := 1) C d_R_isIn_5 (by decide) ?_
  refine z_ic_ne C 13 d_R_isIn_6 (by decide) (fun h1 => ?_) (fun h1 => ?_)
  · refine z_iconst (v := 0) C d_R_isIn_13 (by decide) ?_
    exact z_zret C hr (Or.inl rfl) ⟨by rw [pf_R_isIn, if_neg h1], rfl⟩ d_R_isIn_14
  · refine z_iconst (v := 1) C d_R_isIn_9 (by decide) ?_
    refine z_goto C 14 d_R_isIn_10 (by decide) ?_
    exact z_zret C hr (Or.inr rfl) ⟨by rw [pf_R_isIn, if_pos h1], rfl⟩ d_R_isIn_14
theorem d_R_lesser_0 : decode prog_8_method_7_code 0 = .ok (.iload_n 0, 1) := by decide +kernel
theorem d_R_lesser_1 : decode prog_8_method_7_code 1 = .ok (.iload_n 1, 1) := by decide +kernel
theorem d_R_lesser_2 : decode prog_8_method_7_code 2 = .ok (.if_icmp .ge (7), 3) := by decide +kernel
theorem d_R_lesser_5 : decode prog_8_method_7_code 5 = .ok (.iload_n 0, 1) := by decide +kernel
theorem d_R_lesser_6 : decode prog_8_method_7_code 6 = .ok (.goto (4), 3) := by decide +kernel
theorem d_R_lesser_9 : decode prog_8_method_7_code 9 = .ok (.iload_n 1, 1) := by decide +kernel
theorem d_R_lesser_10 : decode prog_8_method_7_code 10 = .ok (.ireturn, 1) := by decide +kernel
def pf_R_lesser (a0 : Int32) (a1 : Int32) : Int32 :=
  (if a1 ≤ a0 then a1 else a0)
set_option maxHeartbeats 4000000 in
set_option maxRecDepth 100000 in
theorem c_R_lesser {w : ZW} (hw0 : Zok w) (M : Mem) (a0 : Int32) (a1 : Int32) : CtI w y_R_lesser prog_8_method_7_code 2 (some .int) (rl 0) [.int a0, .int a1] M (fun r M2 => r = pf_R_lesser a0 a1 ∧ M = M2) := by
  refine z_metI hw0 (by decide) rfl (fun X C hr => ?_)
  show Zj X 2 w M 0 [(0, .int a0), (1, .int a1)] []
  refine z_iload_n C d_R_lesser_0 rfl 0 rfl ?_
  refine z_iload_n C d_R_lesser_1 rfl 1 rfl ?_
  refine z_ic_ge C 9 d_R_lesser_2 (by decide) (fun h1 => ?_) (fun h1 => ?_)
  · refine z_iload_n C d_R_lesser_9 rfl 1 rfl ?_
    exact z_iret C hr ⟨by rw [pf_R_lesser, if_pos h1], rfl⟩ d_R_lesser_10
  · refine z_iload_n C d_R_lesser_5 rfl 0 rfl ?_
    refine z_goto C 10 d_R_lesser_6 (by decide) ?_
    exact z_iret C hr ⟨by rw [pf_R_lesser, if_neg h1], rfl⟩ d_R_lesser_10
theorem d_R_greater_0 : decode prog_8_method_8_code 0 = .ok (.iload_n 0, 1) := by decide +kernel
theorem d_R_greater_1 : decode prog_8_method_8_code 1 = .ok (.iload_n 1, 1) := by decide +kernel
theorem d_R_greater_2 : decode prog_8_method_8_code 2 = .ok (.if_icmp .le (7), 3) := by decide +kernel
theorem d_R_greater_5 : decode prog_8_method_8_code 5 = .ok (.iload_n 0, 1) := by decide +kernel
theorem d_R_greater_6 : decode prog_8_method_8_code 6 = .ok (.goto (4), 3) := by decide +kernel
theorem d_R_greater_9 : decode prog_8_method_8_code 9 = .ok (.iload_n 1, 1) := by decide +kernel
theorem d_R_greater_10 : decode prog_8_method_8_code 10 = .ok (.ireturn, 1) := by decide +kernel
def pf_R_greater (a0 : Int32) (a1 : Int32) : Int32 :=
  (if a0 ≤ a1 then a1 else a0)
set_option maxHeartbeats 4000000 in
set_option maxRecDepth 100000 in
theorem c_R_greater {w : ZW} (hw0 : Zok w) (M : Mem) (a0 : Int32) (a1 : Int32) : CtI w y_R_greater prog_8_method_8_code 2 (some .int) (rl 0) [.int a0, .int a1] M (fun r M2 => r = pf_R_greater a0 a1 ∧ M = M2) := by
  refine z_metI hw0 (by decide) rfl (fun X C hr => ?_)
  show Zj X 2 w M 0 [(0, .int a0), (1, .int a1)] []
  refine z_iload_n C d_R_greater_0 rfl 0 rfl ?_
  refine z_iload_n C d_R_greater_1 rfl 1 rfl ?_
  refine z_ic_le C 9 d_R_greater_2 (by decide) (fun h1 => ?_) (fun h1 => ?_)
  · refine z_iload_n C d_R_greater_9 rfl 1 rfl ?_
    exact z_iret C hr ⟨by rw [pf_R_greater, if_pos h1], rfl⟩ d_R_greater_10
  · refine z_iload_n C d_R_greater_5 rfl 0 rfl ?_
    refine z_goto C 10 d_R_greater_6 (by decide) ?_
    exact z_iret C hr ⟨by rw [pf_R_greater, if_neg h1], rfl⟩ d_R_greater_10
theorem d_R_cut_0 : decode prog_8_method_15_code 0 = .ok (.iload_n 0, 1) := by decide +kernel
theorem d_R_cut_1 : decode prog_8_method_15_code 1 = .ok (.ifCond .ne (8), 3) := by decide +kernel
theorem d_R_cut_4 : decode prog_8_method_15_code 4 = .ok (.iload_n 1, 1) := by decide +kernel
theorem d_R_cut_5 : decode prog_8_method_15_code 5 = .ok (.i2b, 1) := by decide +kernel
theorem d_R_cut_6 : decode prog_8_method_15_code 6 = .ok (.goto (14), 3) := by decide +kernel
theorem d_R_cut_9 : decode prog_8_method_15_code 9 = .ok (.iload_n 0, 1) := by decide +kernel
theorem d_R_cut_10 : decode prog_8_method_15_code 10 = .ok (.iconst 1, 1) := by decide +kernel
theorem d_R_cut_11 : decode prog_8_method_15_code 11 = .ok (.if_icmp .ne (8), 3) := by decide +kernel
theorem d_R_cut_14 : decode prog_8_method_15_code 14 = .ok (.iload_n 1, 1) := by decide +kernel
theorem d_R_cut_15 : decode prog_8_method_15_code 15 = .ok (.i2s, 1) := by decide +kernel
theorem d_R_cut_16 : decode prog_8_method_15_code 16 = .ok (.goto (4), 3) := by decide +kernel
theorem d_R_cut_19 : decode prog_8_method_15_code 19 = .ok (.iload_n 1, 1) := by decide +kernel
theorem d_R_cut_20 : decode prog_8_method_15_code 20 = .ok (.ireturn, 1) := by decide +kernel
def pf_R_cut (a0 : Int32) (a1 : Int32) : Int32 :=
  (if a0 = 0 then (Int8.toInt32 (Int32.toInt8 a1)) else (if a0 = 1 then (Int16.toInt32 (Int32.toInt16 a1)) else a1))
set_option maxHeartbeats 4000000 in
set_option maxRecDepth 100000 in
theorem c_R_cut {w : ZW} (hw0 : Zok w) (M : Mem) (a0 : Int32) (a1 : Int32) : CtI w y_R_cut prog_8_method_15_code 2 (some .int) (rl 0) [.int a0, .int a1] M (fun r M2 => r = pf_R_cut a0 a1 ∧ M = M2) := by
  refine z_metI hw0 (by decide) rfl (fun X C hr => ?_)
  show Zj X 2 w M 0 [(0, .int a0), (1, .int a1)] []
  refine z_iload_n C d_R_cut_0 rfl 0 rfl ?_
  refine z_if_ne C 9 d_R_cut_1 (by decide) (fun h1 => ?_) (fun h1 => ?_)
  · refine z_iload_n C d_R_cut_9 rfl 0 rfl ?_
    refine z_iconst (v := 1) C d_R_cut_10 (by decide) ?_
    refine z_ic_ne C 19 d_R_cut_11 (by decide) (fun h2 => ?_) (fun h2 => ?_)
    · refine z_iload_n C d_R_cut_19 rfl 1 rfl ?_
      exact z_iret C hr ⟨by rw [pf_R_cut, if_neg h1, if_neg h2], rfl⟩ d_R_cut_20
    · refine z_iload_n C d_R_cut_14 rfl 1 rfl ?_
      refine z_i2s C d_R_cut_15 ?_
      refine z_goto C 20 d_R_cut_16 (by decide) ?_
      exact z_iret C hr ⟨by rw [pf_R_cut, if_neg h1, if_pos h2], rfl⟩ d_R_cut_20
  · refine z_iload_n C d_R_cut_4 rfl 1 rfl ?_
    refine z_i2b C d_R_cut_5 ?_
    refine z_goto C 20 d_R_cut_6 (by decide) ?_
    exact z_iret C hr ⟨by rw [pf_R_cut, if_pos h1], rfl⟩ d_R_cut_20
theorem d_XT_mayStandInPloughs_0 : decode prog_4_method_5_code 0 = .ok (.iload_n 0, 1) := by decide +kernel
theorem d_XT_mayStandInPloughs_1 : decode prog_4_method_5_code 1 = .ok (.tableswitch 81 0 2 #[27, 45, 63], 27) := by decide +kernel
theorem d_XT_mayStandInPloughs_28 : decode prog_4_method_5_code 28 = .ok (.iload_n 1, 1) := by decide +kernel
theorem d_XT_mayStandInPloughs_29 : decode prog_4_method_5_code 29 = .ok (.bipush 97, 2) := by decide +kernel
theorem d_XT_mayStandInPloughs_31 : decode prog_4_method_5_code 31 = .ok (.if_icmp .lt (13), 3) := by decide +kernel
theorem d_XT_mayStandInPloughs_34 : decode prog_4_method_5_code 34 = .ok (.iload_n 1, 1) := by decide +kernel
theorem d_XT_mayStandInPloughs_35 : decode prog_4_method_5_code 35 = .ok (.bipush 108, 2) := by decide +kernel
theorem d_XT_mayStandInPloughs_37 : decode prog_4_method_5_code 37 = .ok (.if_icmp .gt (7), 3) := by decide +kernel
theorem d_XT_mayStandInPloughs_40 : decode prog_4_method_5_code 40 = .ok (.iconst 1, 1) := by decide +kernel
theorem d_XT_mayStandInPloughs_41 : decode prog_4_method_5_code 41 = .ok (.goto (4), 3) := by decide +kernel
theorem d_XT_mayStandInPloughs_44 : decode prog_4_method_5_code 44 = .ok (.iconst 0, 1) := by decide +kernel
theorem d_XT_mayStandInPloughs_45 : decode prog_4_method_5_code 45 = .ok (.ireturn, 1) := by decide +kernel
theorem d_XT_mayStandInPloughs_46 : decode prog_4_method_5_code 46 = .ok (.iload_n 1, 1) := by decide +kernel
theorem d_XT_mayStandInPloughs_47 : decode prog_4_method_5_code 47 = .ok (.bipush 49, 2) := by decide +kernel
theorem d_XT_mayStandInPloughs_49 : decode prog_4_method_5_code 49 = .ok (.if_icmp .lt (13), 3) := by decide +kernel
theorem d_XT_mayStandInPloughs_52 : decode prog_4_method_5_code 52 = .ok (.iload_n 1, 1) := by decide +kernel
theorem d_XT_mayStandInPloughs_53 : decode prog_4_method_5_code 53 = .ok (.bipush 57, 2) := by decide +kernel
theorem d_XT_mayStandInPloughs_55 : decode prog_4_method_5_code 55 = .ok (.if_icmp .gt (7), 3) := by decide +kernel
theorem d_XT_mayStandInPloughs_58 : decode prog_4_method_5_code 58 = .ok (.iconst 1, 1) := by decide +kernel
theorem d_XT_mayStandInPloughs_59 : decode prog_4_method_5_code 59 = .ok (.goto (4), 3) := by decide +kernel
theorem d_XT_mayStandInPloughs_62 : decode prog_4_method_5_code 62 = .ok (.iconst 0, 1) := by decide +kernel
theorem d_XT_mayStandInPloughs_63 : decode prog_4_method_5_code 63 = .ok (.ireturn, 1) := by decide +kernel
theorem d_XT_mayStandInPloughs_64 : decode prog_4_method_5_code 64 = .ok (.iload_n 1, 1) := by decide +kernel
theorem d_XT_mayStandInPloughs_65 : decode prog_4_method_5_code 65 = .ok (.bipush 101, 2) := by decide +kernel
theorem d_XT_mayStandInPloughs_67 : decode prog_4_method_5_code 67 = .ok (.if_icmp .eq (9), 3) := by decide +kernel
theorem d_XT_mayStandInPloughs_70 : decode prog_4_method_5_code 70 = .ok (.iload_n 1, 1) := by decide +kernel
theorem d_XT_mayStandInPloughs_71 : decode prog_4_method_5_code 71 = .ok (.bipush 119, 2) := by decide +kernel
theorem d_XT_mayStandInPloughs_73 : decode prog_4_method_5_code 73 = .ok (.if_icmp .ne (7), 3) := by decide +kernel
theorem d_XT_mayStandInPloughs_76 : decode prog_4_method_5_code 76 = .ok (.iconst 1, 1) := by decide +kernel
theorem d_XT_mayStandInPloughs_77 : decode prog_4_method_5_code 77 = .ok (.goto (4), 3) := by decide +kernel
theorem d_XT_mayStandInPloughs_80 : decode prog_4_method_5_code 80 = .ok (.iconst 0, 1) := by decide +kernel
theorem d_XT_mayStandInPloughs_81 : decode prog_4_method_5_code 81 = .ok (.ireturn, 1) := by decide +kernel
theorem d_XT_mayStandInPloughs_82 : decode prog_4_method_5_code 82 = .ok (.iload_n 1, 1) := by decide +kernel
theorem d_XT_mayStandInPloughs_83 : decode prog_4_method_5_code 83 = .ok (.bipush 59, 2) := by decide +kernel
theorem d_XT_mayStandInPloughs_85 : decode prog_4_method_5_code 85 = .ok (.if_icmp .ne (7), 3) := by decide +kernel
theorem d_XT_mayStandInPloughs_88 : decode prog_4_method_5_code 88 = .ok (.iconst 1, 1) := by decide +kernel
theorem d_XT_mayStandInPloughs_89 : decode prog_4_method_5_code 89 = .ok (.goto (4), 3) := by decide +kernel
theorem d_XT_mayStandInPloughs_92 : decode prog_4_method_5_code 92 = .ok (.iconst 0, 1) := by decide +kernel
theorem d_XT_mayStandInPloughs_93 : decode prog_4_method_5_code 93 = .ok (.ireturn, 1) := by decide +kernel
def pf_XT_mayStandInPloughs (a0 : Int32) (a1 : Int32) : Int32 :=
  (if a0 = 0 then (if a1 < 97 then 0 else (if 108 < a1 then 0 else 1)) else (if a0 = 1 then (if a1 < 49 then 0 else (if 57 < a1 then 0 else 1)) else (if a0 = 2 then (if a1 = 101 then 1 else (if a1 = 119 then 1 else 0)) else (if a1 = 59 then 1 else 0))))
theorem pz_XT_mayStandInPloughs (a0 : Int32) (a1 : Int32) : pf_XT_mayStandInPloughs a0 a1 = 0 ∨ pf_XT_mayStandInPloughs a0 a1 = 1 := by
  unfold pf_XT_mayStandInPloughs
  repeat' split
  all_goals first | exact Or.inl rfl | exact Or.inr rfl
set_option maxHeartbeats 4000000 in
set_option maxRecDepth 100000 in
theorem c_XT_mayStandInPloughs {w : ZW} (hw0 : Zok w) (M : Mem) (a0 : Int32) (a1 : Int32) : CtI w y_XT_mayStandInPloughs prog_4_method_5_code 2 (some .boolean) (rl 0) [.int a0, .int a1] M (fun r M2 => r = pf_XT_mayStandInPloughs a0 a1 ∧ M = M2) := by
  refine z_metI hw0 (by decide) rfl (fun X C hr => ?_)
  show Zj X 2 w M 0 [(0, .int a0), (1, .int a1)] []
  refine z_iload_n C d_XT_mayStandInPloughs_0 rfl 0 rfl ?_
  refine z_table C [28, 46, 64] 82 d_XT_mayStandInPloughs_1 rfl rfl rfl (by decide) (fun k t hk hx => ?_) (fun hx => ?_)
  · rcases k with _ | _ | _ | k
    · cases hk
      have hp : a0 = 0 := hx
      refine z_iload_n C d_XT_mayStandInPloughs_28 rfl 1 rfl ?_
      refine z_bipush (v := 97) C d_XT_mayStandInPloughs_29 (by decide) ?_
      refine z_ic_lt C 44 d_XT_mayStandInPloughs_31 (by decide) (fun h1 => ?_) (fun h1 => ?_)
      · refine z_iconst (v := 0) C d_XT_mayStandInPloughs_44 (by decide) ?_
        exact z_zret C hr (Or.inl rfl) ⟨by rw [pf_XT_mayStandInPloughs, if_pos hp, if_pos h1], rfl⟩ d_XT_mayStandInPloughs_45
      · refine z_iload_n C d_XT_mayStandInPloughs_34 rfl 1 rfl ?_
        refine z_bipush (v := 108) C d_XT_mayStandInPloughs_35 (by decide) ?_
        refine z_ic_gt C 44 d_XT_mayStandInPloughs_37 (by decide) (fun h2 => ?_) (fun h2 => ?_)
        · refine z_iconst (v := 0) C d_XT_mayStandInPloughs_44 (by decide) ?_
          exact z_zret C hr (Or.inl rfl) ⟨by rw [pf_XT_mayStandInPloughs, if_pos hp, if_neg h1, if_pos h2], rfl⟩ d_XT_mayStandInPloughs_45
        · refine z_iconst (v := 1) C d_XT_mayStandInPloughs_40 (by decide) ?_
          refine z_goto C 45 d_XT_mayStandInPloughs_41 (by decide) ?_
          exact z_zret C hr (Or.inr rfl) ⟨by rw [pf_XT_mayStandInPloughs, if_pos hp, if_neg h1, if_neg h2], rfl⟩ d_XT_mayStandInPloughs_45
    · cases hk
      have hn0 : ¬ a0 = 0 := by rw [hx]; decide
      have hp : a0 = 1 := hx
      refine z_iload_n C d_XT_mayStandInPloughs_46 rfl 1 rfl ?_
      refine z_bipush (v := 49) C d_XT_mayStandInPloughs_47 (by decide) ?_
      refine z_ic_lt C 62 d_XT_mayStandInPloughs_49 (by decide) (fun h3 => ?_) (fun h3 => ?_)
      · refine z_iconst (v := 0) C d_XT_mayStandInPloughs_62 (by decide) ?_
        exact z_zret C hr (Or.inl rfl) ⟨by rw [pf_XT_mayStandInPloughs, if_neg hn0, if_pos hp, if_pos h3], rfl⟩ d_XT_mayStandInPloughs_63
      · refine z_iload_n C d_XT_mayStandInPloughs_52 rfl 1 rfl ?_
        refine z_bipush (v := 57) C d_XT_mayStandInPloughs_53 (by decide) ?_
        refine z_ic_gt C 62 d_XT_mayStandInPloughs_55 (by decide) (fun h4 => ?_) (fun h4 => ?_)
        · refine z_iconst (v := 0) C d_XT_mayStandInPloughs_62 (by decide) ?_
          exact z_zret C hr (Or.inl rfl) ⟨by rw [pf_XT_mayStandInPloughs, if_neg hn0, if_pos hp, if_neg h3, if_pos h4], rfl⟩ d_XT_mayStandInPloughs_63
        · refine z_iconst (v := 1) C d_XT_mayStandInPloughs_58 (by decide) ?_
          refine z_goto C 63 d_XT_mayStandInPloughs_59 (by decide) ?_
          exact z_zret C hr (Or.inr rfl) ⟨by rw [pf_XT_mayStandInPloughs, if_neg hn0, if_pos hp, if_neg h3, if_neg h4], rfl⟩ d_XT_mayStandInPloughs_63
    · cases hk
      have hn0 : ¬ a0 = 0 := by rw [hx]; decide
      have hn1 : ¬ a0 = 1 := by rw [hx]; decide
      have hp : a0 = 2 := hx
      refine z_iload_n C d_XT_mayStandInPloughs_64 rfl 1 rfl ?_
      refine z_bipush (v := 101) C d_XT_mayStandInPloughs_65 (by decide) ?_
      refine z_ic_eq C 76 d_XT_mayStandInPloughs_67 (by decide) (fun h5 => ?_) (fun h5 => ?_)
      · refine z_iconst (v := 1) C d_XT_mayStandInPloughs_76 (by decide) ?_
        refine z_goto C 81 d_XT_mayStandInPloughs_77 (by decide) ?_
        exact z_zret C hr (Or.inr rfl) ⟨by rw [pf_XT_mayStandInPloughs, if_neg hn0, if_neg hn1, if_pos hp, if_pos h5], rfl⟩ d_XT_mayStandInPloughs_81
      · refine z_iload_n C d_XT_mayStandInPloughs_70 rfl 1 rfl ?_
        refine z_bipush (v := 119) C d_XT_mayStandInPloughs_71 (by decide) ?_
        refine z_ic_ne C 80 d_XT_mayStandInPloughs_73 (by decide) (fun h6 => ?_) (fun h6 => ?_)
        · refine z_iconst (v := 0) C d_XT_mayStandInPloughs_80 (by decide) ?_
          exact z_zret C hr (Or.inl rfl) ⟨by rw [pf_XT_mayStandInPloughs, if_neg hn0, if_neg hn1, if_pos hp, if_neg h5, if_neg h6], rfl⟩ d_XT_mayStandInPloughs_81
        · refine z_iconst (v := 1) C d_XT_mayStandInPloughs_76 (by decide) ?_
          refine z_goto C 81 d_XT_mayStandInPloughs_77 (by decide) ?_
          exact z_zret C hr (Or.inr rfl) ⟨by rw [pf_XT_mayStandInPloughs, if_neg hn0, if_neg hn1, if_pos hp, if_neg h5, if_pos h6], rfl⟩ d_XT_mayStandInPloughs_81
    · simp at hk
  · have hn0 : ¬ a0 = 0 := hx 0 (by decide)
    have hn1 : ¬ a0 = 1 := hx 1 (by decide)
    have hn2 : ¬ a0 = 2 := hx 2 (by decide)
    refine z_iload_n C d_XT_mayStandInPloughs_82 rfl 1 rfl ?_
    refine z_bipush (v := 59) C d_XT_mayStandInPloughs_83 (by decide) ?_
    refine z_ic_ne C 92 d_XT_mayStandInPloughs_85 (by decide) (fun h7 => ?_) (fun h7 => ?_)
    · refine z_iconst (v := 0) C d_XT_mayStandInPloughs_92 (by decide) ?_
      exact z_zret C hr (Or.inl rfl) ⟨by rw [pf_XT_mayStandInPloughs, if_neg hn0, if_neg hn1, if_neg hn2, if_neg h7], rfl⟩ d_XT_mayStandInPloughs_93
    · refine z_iconst (v := 1) C d_XT_mayStandInPloughs_88 (by decide) ?_
      refine z_goto C 93 d_XT_mayStandInPloughs_89 (by decide) ?_
      exact z_zret C hr (Or.inr rfl) ⟨by rw [pf_XT_mayStandInPloughs, if_neg hn0, if_neg hn1, if_neg hn2, if_pos h7], rfl⟩ d_XT_mayStandInPloughs_93
theorem d_J_bitCount_0 : decode prog_9_method_49_code 0 = .ok (.iload_n 0, 1) := by decide +kernel
theorem d_J_bitCount_1 : decode prog_9_method_49_code 1 = .ok (.iload_n 0, 1) := by decide +kernel
theorem d_J_bitCount_2 : decode prog_9_method_49_code 2 = .ok (.iconst 1, 1) := by decide +kernel
theorem d_J_bitCount_3 : decode prog_9_method_49_code 3 = .ok (.iushr, 1) := by decide +kernel
theorem d_J_bitCount_4 : decode prog_9_method_49_code 4 = .ok (.ldc_w 265, 3) := by decide +kernel
theorem d_J_bitCount_7 : decode prog_9_method_49_code 7 = .ok (.iand, 1) := by decide +kernel
theorem d_J_bitCount_8 : decode prog_9_method_49_code 8 = .ok (.isub, 1) := by decide +kernel
theorem d_J_bitCount_9 : decode prog_9_method_49_code 9 = .ok (.istore_n 0, 1) := by decide +kernel
theorem d_J_bitCount_10 : decode prog_9_method_49_code 10 = .ok (.iload_n 0, 1) := by decide +kernel
theorem d_J_bitCount_11 : decode prog_9_method_49_code 11 = .ok (.ldc_w 266, 3) := by decide +kernel
theorem d_J_bitCount_14 : decode prog_9_method_49_code 14 = .ok (.iand, 1) := by decide +kernel
theorem d_J_bitCount_15 : decode prog_9_method_49_code 15 = .ok (.iload_n 0, 1) := by decide +kernel
theorem d_J_bitCount_16 : decode prog_9_method_49_code 16 = .ok (.iconst 2, 1) := by decide +kernel
theorem d_J_bitCount_17 : decode prog_9_method_49_code 17 = .ok (.iushr, 1) := by decide +kernel
theorem d_J_bitCount_18 : decode prog_9_method_49_code 18 = .ok (.ldc_w 266, 3) := by decide +kernel
theorem d_J_bitCount_21 : decode prog_9_method_49_code 21 = .ok (.iand, 1) := by decide +kernel
theorem d_J_bitCount_22 : decode prog_9_method_49_code 22 = .ok (.iadd, 1) := by decide +kernel
theorem d_J_bitCount_23 : decode prog_9_method_49_code 23 = .ok (.istore_n 0, 1) := by decide +kernel
theorem d_J_bitCount_24 : decode prog_9_method_49_code 24 = .ok (.iload_n 0, 1) := by decide +kernel
theorem d_J_bitCount_25 : decode prog_9_method_49_code 25 = .ok (.iload_n 0, 1) := by decide +kernel
theorem d_J_bitCount_26 : decode prog_9_method_49_code 26 = .ok (.iconst 4, 1) := by decide +kernel
theorem d_J_bitCount_27 : decode prog_9_method_49_code 27 = .ok (.iushr, 1) := by decide +kernel
theorem d_J_bitCount_28 : decode prog_9_method_49_code 28 = .ok (.iadd, 1) := by decide +kernel
theorem d_J_bitCount_29 : decode prog_9_method_49_code 29 = .ok (.ldc_w 267, 3) := by decide +kernel
theorem d_J_bitCount_32 : decode prog_9_method_49_code 32 = .ok (.iand, 1) := by decide +kernel
theorem d_J_bitCount_33 : decode prog_9_method_49_code 33 = .ok (.istore_n 0, 1) := by decide +kernel
theorem d_J_bitCount_34 : decode prog_9_method_49_code 34 = .ok (.iload_n 0, 1) := by decide +kernel
theorem d_J_bitCount_35 : decode prog_9_method_49_code 35 = .ok (.iload_n 0, 1) := by decide +kernel
theorem d_J_bitCount_36 : decode prog_9_method_49_code 36 = .ok (.bipush 8, 2) := by decide +kernel
theorem d_J_bitCount_38 : decode prog_9_method_49_code 38 = .ok (.iushr, 1) := by decide +kernel
theorem d_J_bitCount_39 : decode prog_9_method_49_code 39 = .ok (.iadd, 1) := by decide +kernel
theorem d_J_bitCount_40 : decode prog_9_method_49_code 40 = .ok (.istore_n 0, 1) := by decide +kernel
theorem d_J_bitCount_41 : decode prog_9_method_49_code 41 = .ok (.iload_n 0, 1) := by decide +kernel
theorem d_J_bitCount_42 : decode prog_9_method_49_code 42 = .ok (.iload_n 0, 1) := by decide +kernel
theorem d_J_bitCount_43 : decode prog_9_method_49_code 43 = .ok (.bipush 16, 2) := by decide +kernel
theorem d_J_bitCount_45 : decode prog_9_method_49_code 45 = .ok (.iushr, 1) := by decide +kernel
theorem d_J_bitCount_46 : decode prog_9_method_49_code 46 = .ok (.iadd, 1) := by decide +kernel
theorem d_J_bitCount_47 : decode prog_9_method_49_code 47 = .ok (.istore_n 0, 1) := by decide +kernel
theorem d_J_bitCount_48 : decode prog_9_method_49_code 48 = .ok (.iload_n 0, 1) := by decide +kernel
theorem d_J_bitCount_49 : decode prog_9_method_49_code 49 = .ok (.bipush 63, 2) := by decide +kernel
theorem d_J_bitCount_51 : decode prog_9_method_49_code 51 = .ok (.iand, 1) := by decide +kernel
theorem d_J_bitCount_52 : decode prog_9_method_49_code 52 = .ok (.ireturn, 1) := by decide +kernel
def pf_J_bitCount (a0 : Int32) : Int32 :=
  ((((((((a0 - ((ushr32 a0 1) &&& (1431655765))) &&& (858993459)) + ((ushr32 (a0 - ((ushr32 a0 1) &&& (1431655765))) 2) &&& (858993459))) + (ushr32 (((a0 - ((ushr32 a0 1) &&& (1431655765))) &&& (858993459)) + ((ushr32 (a0 - ((ushr32 a0 1) &&& (1431655765))) 2) &&& (858993459))) 4)) &&& (252645135)) + (ushr32 (((((a0 - ((ushr32 a0 1) &&& (1431655765))) &&& (858993459)) + ((ushr32 (a0 - ((ushr32 a0 1) &&& (1431655765))) 2) &&& (858993459))) + (ushr32 (((a0 - ((ushr32 a0 1) &&& (1431655765))) &&& (858993459)) + ((ushr32 (a0 - ((ushr32 a0 1) &&& (1431655765))) 2) &&& (858993459))) 4)) &&& (252645135)) 8)) + (ushr32 ((((((a0 - ((ushr32 a0 1) &&& (1431655765))) &&& (858993459)) + ((ushr32 (a0 - ((ushr32 a0 1) &&& (1431655765))) 2) &&& (858993459))) + (ushr32 (((a0 - ((ushr32 a0 1) &&& (1431655765))) &&& (858993459)) + ((ushr32 (a0 - ((ushr32 a0 1) &&& (1431655765))) 2) &&& (858993459))) 4)) &&& (252645135)) + (ushr32 (((((a0 - ((ushr32 a0 1) &&& (1431655765))) &&& (858993459)) + ((ushr32 (a0 - ((ushr32 a0 1) &&& (1431655765))) 2) &&& (858993459))) + (ushr32 (((a0 - ((ushr32 a0 1) &&& (1431655765))) &&& (858993459)) + ((ushr32 (a0 - ((ushr32 a0 1) &&& (1431655765))) 2) &&& (858993459))) 4)) &&& (252645135)) 8)) 16)) &&& 63)
set_option maxHeartbeats 4000000 in
set_option maxRecDepth 100000 in
theorem c_J_bitCount {w : ZW} (hw0 : Zok w) (M : Mem) (a0 : Int32) : CtI w y_J_bitCount prog_9_method_49_code 1 (some .int) (rl 0) [.int a0] M (fun r M2 => r = pf_J_bitCount a0 ∧ M = M2) := by
  refine z_metI hw0 (by decide) rfl (fun X C hr => ?_)
  show Zj X 1 w M 0 [(0, .int a0)] []
  refine z_iload_n C d_J_bitCount_0 rfl 0 rfl ?_
  refine z_iload_n C d_J_bitCount_1 rfl 0 rfl ?_
  refine z_iconst (v := 1) C d_J_bitCount_2 (by decide) ?_
  refine z_iushr C d_J_bitCount_3 ?_
  refine z_ldcw C d_J_bitCount_4 tw_492 ?_
  refine z_iand C d_J_bitCount_7 ?_
  refine z_isub C d_J_bitCount_8 ?_
  refine z_istore_n (lv' := [(0, .int (a0 - ((ushr32 a0 1) &&& (1431655765))))]) C d_J_bitCount_9 rfl rfl rfl ?_
  refine z_iload_n C d_J_bitCount_10 rfl 0 rfl ?_
  refine z_ldcw C d_J_bitCount_11 tw_493 ?_
  refine z_iand C d_J_bitCount_14 ?_
  refine z_iload_n C d_J_bitCount_15 rfl 0 rfl ?_
  refine z_iconst (v := 2) C d_J_bitCount_16 (by decide) ?_
  refine z_iushr C d_J_bitCount_17 ?_
  refine z_ldcw C d_J_bitCount_18 tw_493 ?_
  refine z_iand C d_J_bitCount_21 ?_
  refine z_iadd C d_J_bitCount_22 ?_
  refine z_istore_n (lv' := [(0, .int (((a0 - ((ushr32 a0 1) &&& (1431655765))) &&& (858993459)) + ((ushr32 (a0 - ((ushr32 a0 1) &&& (1431655765))) 2) &&& (858993459))))]) C d_J_bitCount_23 rfl rfl rfl ?_
  refine z_iload_n C d_J_bitCount_24 rfl 0 rfl ?_
  refine z_iload_n C d_J_bitCount_25 rfl 0 rfl ?_
  refine z_iconst (v := 4) C d_J_bitCount_26 (by decide) ?_
  refine z_iushr C d_J_bitCount_27 ?_
  refine z_iadd C d_J_bitCount_28 ?_
  refine z_ldcw C d_J_bitCount_29 tw_494 ?_
  refine z_iand C d_J_bitCount_32 ?_
  refine z_istore_n (lv' := [(0, .int (((((a0 - ((ushr32 a0 1) &&& (1431655765))) &&& (858993459)) + ((ushr32 (a0 - ((ushr32 a0 1) &&& (1431655765))) 2) &&& (858993459))) + (ushr32 (((a0 - ((ushr32 a0 1) &&& (1431655765))) &&& (858993459)) + ((ushr32 (a0 - ((ushr32 a0 1) &&& (1431655765))) 2) &&& (858993459))) 4)) &&& (252645135)))]) C d_J_bitCount_33 rfl rfl rfl ?_
  refine z_iload_n C d_J_bitCount_34 rfl 0 rfl ?_
  refine z_iload_n C d_J_bitCount_35 rfl 0 rfl ?_
  refine z_bipush (v := 8) C d_J_bitCount_36 (by decide) ?_
  refine z_iushr C d_J_bitCount_38 ?_
  refine z_iadd C d_J_bitCount_39 ?_
  refine z_istore_n (lv' := [(0, .int ((((((a0 - ((ushr32 a0 1) &&& (1431655765))) &&& (858993459)) + ((ushr32 (a0 - ((ushr32 a0 1) &&& (1431655765))) 2) &&& (858993459))) + (ushr32 (((a0 - ((ushr32 a0 1) &&& (1431655765))) &&& (858993459)) + ((ushr32 (a0 - ((ushr32 a0 1) &&& (1431655765))) 2) &&& (858993459))) 4)) &&& (252645135)) + (ushr32 (((((a0 - ((ushr32 a0 1) &&& (1431655765))) &&& (858993459)) + ((ushr32 (a0 - ((ushr32 a0 1) &&& (1431655765))) 2) &&& (858993459))) + (ushr32 (((a0 - ((ushr32 a0 1) &&& (1431655765))) &&& (858993459)) + ((ushr32 (a0 - ((ushr32 a0 1) &&& (1431655765))) 2) &&& (858993459))) 4)) &&& (252645135)) 8)))]) C d_J_bitCount_40 rfl rfl rfl ?_
  refine z_iload_n C d_J_bitCount_41 rfl 0 rfl ?_
  refine z_iload_n C d_J_bitCount_42 rfl 0 rfl ?_
  refine z_bipush (v := 16) C d_J_bitCount_43 (by decide) ?_
  refine z_iushr C d_J_bitCount_45 ?_
  refine z_iadd C d_J_bitCount_46 ?_
  refine z_istore_n (lv' := [(0, .int (((((((a0 - ((ushr32 a0 1) &&& (1431655765))) &&& (858993459)) + ((ushr32 (a0 - ((ushr32 a0 1) &&& (1431655765))) 2) &&& (858993459))) + (ushr32 (((a0 - ((ushr32 a0 1) &&& (1431655765))) &&& (858993459)) + ((ushr32 (a0 - ((ushr32 a0 1) &&& (1431655765))) 2) &&& (858993459))) 4)) &&& (252645135)) + (ushr32 (((((a0 - ((ushr32 a0 1) &&& (1431655765))) &&& (858993459)) + ((ushr32 (a0 - ((ushr32 a0 1) &&& (1431655765))) 2) &&& (858993459))) + (ushr32 (((a0 - ((ushr32 a0 1) &&& (1431655765))) &&& (858993459)) + ((ushr32 (a0 - ((ushr32 a0 1) &&& (1431655765))) 2) &&& (858993459))) 4)) &&& (252645135)) 8)) + (ushr32 ((((((a0 - ((ushr32 a0 1) &&& (1431655765))) &&& (858993459)) + ((ushr32 (a0 - ((ushr32 a0 1) &&& (1431655765))) 2) &&& (858993459))) + (ushr32 (((a0 - ((ushr32 a0 1) &&& (1431655765))) &&& (858993459)) + ((ushr32 (a0 - ((ushr32 a0 1) &&& (1431655765))) 2) &&& (858993459))) 4)) &&& (252645135)) + (ushr32 (((((a0 - ((ushr32 a0 1) &&& (1431655765))) &&& (858993459)) + ((ushr32 (a0 - ((ushr32 a0 1) &&& (1431655765))) 2) &&& (858993459))) + (ushr32 (((a0 - ((ushr32 a0 1) &&& (1431655765))) &&& (858993459)) + ((ushr32 (a0 - ((ushr32 a0 1) &&& (1431655765))) 2) &&& (858993459))) 4)) &&& (252645135)) 8)) 16)))]) C d_J_bitCount_47 rfl rfl rfl ?_
  refine z_iload_n C d_J_bitCount_48 rfl 0 rfl ?_
  refine z_bipush (v := 63) C d_J_bitCount_49 (by decide) ?_
  refine z_iand C d_J_bitCount_51 ?_
  exact z_iret C hr ⟨by rw [pf_J_bitCount], rfl⟩ d_J_bitCount_52
