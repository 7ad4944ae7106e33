theorem d_J_numberOfTrailingZeros_0 : decode prog_9_method_48_code 0 = .ok (.iload_n 0, 1) := by decide +kernel
theorem d_J_numberOfTrailingZeros_1 : decode prog_9_method_48_code 1 = .ok (.iconst (-1), 1) := by decide +kernel
theorem d_J_numberOfTrailingZeros_2 : decode prog_9_method_48_code 2 = .ok (.ixor, 1) := by decide +kernel
theorem d_J_numberOfTrailingZeros_3 : decode prog_9_method_48_code 3 = .ok (.iload_n 0, 1) := by decide +kernel
theorem d_J_numberOfTrailingZeros_4 : decode prog_9_method_48_code 4 = .ok (.iconst 1, 1) := by decide +kernel
theorem d_J_numberOfTrailingZeros_5 : decode prog_9_method_48_code 5 = .ok (.isub, 1) := by decide +kernel
theorem d_J_numberOfTrailingZeros_6 : decode prog_9_method_48_code 6 = .ok (.iand, 1) := by decide +kernel
theorem d_J_numberOfTrailingZeros_7 : decode prog_9_method_48_code 7 = .ok (.istore_n 0, 1) := by decide +kernel
theorem d_J_numberOfTrailingZeros_8 : decode prog_9_method_48_code 8 = .ok (.iload_n 0, 1) := by decide +kernel
theorem d_J_numberOfTrailingZeros_9 : decode prog_9_method_48_code 9 = .ok (.ifCond .gt (8), 3) := by decide +kernel
theorem d_J_numberOfTrailingZeros_12 : decode prog_9_method_48_code 12 = .ok (.iload_n 0, 1) := by decide +kernel
theorem d_J_numberOfTrailingZeros_13 : decode prog_9_method_48_code 13 = .ok (.bipush 32, 2) := by decide +kernel
theorem d_J_numberOfTrailingZeros_15 : decode prog_9_method_48_code 15 = .ok (.iand, 1) := by decide +kernel
theorem d_J_numberOfTrailingZeros_16 : decode prog_9_method_48_code 16 = .ok (.ireturn, 1) := by decide +kernel
theorem d_J_numberOfTrailingZeros_17 : decode prog_9_method_48_code 17 = .ok (.iconst 1, 1) := by decide +kernel
theorem d_J_numberOfTrailingZeros_18 : decode prog_9_method_48_code 18 = .ok (.istore_n 1, 1) := by decide +kernel
theorem d_J_numberOfTrailingZeros_19 : decode prog_9_method_48_code 19 = .ok (.iload_n 0, 1) := by decide +kernel
theorem d_J_numberOfTrailingZeros_20 : decode prog_9_method_48_code 20 = .ok (.ldc_w 264, 3) := by decide +kernel
theorem d_J_numberOfTrailingZeros_23 : decode prog_9_method_48_code 23 = .ok (.if_icmp .le (11), 3) := by decide +kernel
theorem d_J_numberOfTrailingZeros_26 : decode prog_9_method_48_code 26 = .ok (.iinc 1 16, 3) := by decide +kernel
theorem d_J_numberOfTrailingZeros_29 : decode prog_9_method_48_code 29 = .ok (.iload_n 0, 1) := by decide +kernel
theorem d_J_numberOfTrailingZeros_30 : decode prog_9_method_48_code 30 = .ok (.bipush 16, 2) := by decide +kernel
theorem d_J_numberOfTrailingZeros_32 : decode prog_9_method_48_code 32 = .ok (.iushr, 1) := by decide +kernel
theorem d_J_numberOfTrailingZeros_33 : decode prog_9_method_48_code 33 = .ok (.istore_n 0, 1) := by decide +kernel
theorem d_J_numberOfTrailingZeros_34 : decode prog_9_method_48_code 34 = .ok (.iload_n 0, 1) := by decide +kernel
theorem d_J_numberOfTrailingZeros_35 : decode prog_9_method_48_code 35 = .ok (.sipush 256, 3) := by decide +kernel
theorem d_J_numberOfTrailingZeros_38 : decode prog_9_method_48_code 38 = .ok (.if_icmp .le (11), 3) := by decide +kernel
theorem d_J_numberOfTrailingZeros_41 : decode prog_9_method_48_code 41 = .ok (.iinc 1 8, 3) := by decide +kernel
theorem d_J_numberOfTrailingZeros_44 : decode prog_9_method_48_code 44 = .ok (.iload_n 0, 1) := by decide +kernel
theorem d_J_numberOfTrailingZeros_45 : decode prog_9_method_48_code 45 = .ok (.bipush 8, 2) := by decide +kernel
theorem d_J_numberOfTrailingZeros_47 : decode prog_9_method_48_code 47 = .ok (.iushr, 1) := by decide +kernel
theorem d_J_numberOfTrailingZeros_48 : decode prog_9_method_48_code 48 = .ok (.istore_n 0, 1) := by decide +kernel
theorem d_J_numberOfTrailingZeros_49 : decode prog_9_method_48_code 49 = .ok (.iload_n 0, 1) := by decide +kernel
theorem d_J_numberOfTrailingZeros_50 : decode prog_9_method_48_code 50 = .ok (.bipush 16, 2) := by decide +kernel
theorem d_J_numberOfTrailingZeros_52 : decode prog_9_method_48_code 52 = .ok (.if_icmp .le (10), 3) := by decide +kernel
theorem d_J_numberOfTrailingZeros_55 : decode prog_9_method_48_code 55 = .ok (.iinc 1 4, 3) := by decide +kernel
theorem d_J_numberOfTrailingZeros_58 : decode prog_9_method_48_code 58 = .ok (.iload_n 0, 1) := by decide +kernel
theorem d_J_numberOfTrailingZeros_59 : decode prog_9_method_48_code 59 = .ok (.iconst 4, 1) := by decide +kernel
theorem d_J_numberOfTrailingZeros_60 : decode prog_9_method_48_code 60 = .ok (.iushr, 1) := by decide +kernel
theorem d_J_numberOfTrailingZeros_61 : decode prog_9_method_48_code 61 = .ok (.istore_n 0, 1) := by decide +kernel
theorem d_J_numberOfTrailingZeros_62 : decode prog_9_method_48_code 62 = .ok (.iload_n 0, 1) := by decide +kernel
theorem d_J_numberOfTrailingZeros_63 : decode prog_9_method_48_code 63 = .ok (.iconst 4, 1) := by decide +kernel
theorem d_J_numberOfTrailingZeros_64 : decode prog_9_method_48_code 64 = .ok (.if_icmp .le (10), 3) := by decide +kernel
theorem d_J_numberOfTrailingZeros_67 : decode prog_9_method_48_code 67 = .ok (.iinc 1 2, 3) := by decide +kernel
theorem d_J_numberOfTrailingZeros_70 : decode prog_9_method_48_code 70 = .ok (.iload_n 0, 1) := by decide +kernel
theorem d_J_numberOfTrailingZeros_71 : decode prog_9_method_48_code 71 = .ok (.iconst 2, 1) := by decide +kernel
theorem d_J_numberOfTrailingZeros_72 : decode prog_9_method_48_code 72 = .ok (.iushr, 1) := by decide +kernel
theorem d_J_numberOfTrailingZeros_73 : decode prog_9_method_48_code 73 = .ok (.istore_n 0, 1) := by decide +kernel
theorem d_J_numberOfTrailingZeros_74 : decode prog_9_method_48_code 74 = .ok (.iload_n 1, 1) := by decide +kernel
theorem d_J_numberOfTrailingZeros_75 : decode prog_9_method_48_code 75 = .ok (.iload_n 0, 1) := by decide +kernel
theorem d_J_numberOfTrailingZeros_76 : decode prog_9_method_48_code 76 = .ok (.iconst 1, 1) := by decide +kernel
theorem d_J_numberOfTrailingZeros_77 : decode prog_9_method_48_code 77 = .ok (.iushr, 1) := by decide +kernel
theorem d_J_numberOfTrailingZeros_78 : decode prog_9_method_48_code 78 = .ok (.iadd, 1) := by decide +kernel
theorem d_J_numberOfTrailingZeros_79 : decode prog_9_method_48_code 79 = .ok (.ireturn, 1) := by decide +kernel
def pf_J_numberOfTrailingZeros (a0 : Int32) : Int32 :=
  (if 0 < ((a0 ^^^ (-1)) &&& (a0 - 1)) then (if ((a0 ^^^ (-1)) &&& (a0 - 1)) ≤ (65536) then (if ((a0 ^^^ (-1)) &&& (a0 - 1)) ≤ 256 then (if ((a0 ^^^ (-1)) &&& (a0 - 1)) ≤ 16 then (if ((a0 ^^^ (-1)) &&& (a0 - 1)) ≤ 4 then (1 + (ushr32 ((a0 ^^^ (-1)) &&& (a0 - 1)) 1)) else ((1 + 2) + (ushr32 (ushr32 ((a0 ^^^ (-1)) &&& (a0 - 1)) 2) 1))) else (if (ushr32 ((a0 ^^^ (-1)) &&& (a0 - 1)) 4) ≤ 4 then ((1 + 4) + (ushr32 (ushr32 ((a0 ^^^ (-1)) &&& (a0 - 1)) 4) 1)) else (((1 + 4) + 2) + (ushr32 (ushr32 (ushr32 ((a0 ^^^ (-1)) &&& (a0 - 1)) 4) 2) 1)))) else (if (ushr32 ((a0 ^^^ (-1)) &&& (a0 - 1)) 8) ≤ 16 then (if (ushr32 ((a0 ^^^ (-1)) &&& (a0 - 1)) 8) ≤ 4 then ((1 + 8) + (ushr32 (ushr32 ((a0 ^^^ (-1)) &&& (a0 - 1)) 8) 1)) else (((1 + 8) + 2) + (ushr32 (ushr32 (ushr32 ((a0 ^^^ (-1)) &&& (a0 - 1)) 8) 2) 1))) else (if (ushr32 (ushr32 ((a0 ^^^ (-1)) &&& (a0 - 1)) 8) 4) ≤ 4 then (((1 + 8) + 4) + (ushr32 (ushr32 (ushr32 ((a0 ^^^ (-1)) &&& (a0 - 1)) 8) 4) 1)) else ((((1 + 8) + 4) + 2) + (ushr32 (ushr32 (ushr32 (ushr32 ((a0 ^^^ (-1)) &&& (a0 - 1)) 8) 4) 2) 1))))) else (if (ushr32 ((a0 ^^^ (-1)) &&& (a0 - 1)) 16) ≤ 256 then (if (ushr32 ((a0 ^^^ (-1)) &&& (a0 - 1)) 16) ≤ 16 then (if (ushr32 ((a0 ^^^ (-1)) &&& (a0 - 1)) 16) ≤ 4 then ((1 + 16) + (ushr32 (ushr32 ((a0 ^^^ (-1)) &&& (a0 - 1)) 16) 1)) else (((1 + 16) + 2) + (ushr32 (ushr32 (ushr32 ((a0 ^^^ (-1)) &&& (a0 - 1)) 16) 2) 1))) else (if (ushr32 (ushr32 ((a0 ^^^ (-1)) &&& (a0 - 1)) 16) 4) ≤ 4 then (((1 + 16) + 4) + (ushr32 (ushr32 (ushr32 ((a0 ^^^ (-1)) &&& (a0 - 1)) 16) 4) 1)) else ((((1 + 16) + 4) + 2) + (ushr32 (ushr32 (ushr32 (ushr32 ((a0 ^^^ (-1)) &&& (a0 - 1)) 16) 4) 2) 1)))) else (if (ushr32 (ushr32 ((a0 ^^^ (-1)) &&& (a0 - 1)) 16) 8) ≤ 16 then (if (ushr32 (ushr32 ((a0 ^^^ (-1)) &&& (a0 - 1)) 16) 8) ≤ 4 then (((1 + 16) + 8) + (ushr32 (ushr32 (ushr32 ((a0 ^^^ (-1)) &&& (a0 - 1)) 16) 8) 1)) else ((((1 + 16) + 8) + 2) + (ushr32 (ushr32 (ushr32 (ushr32 ((a0 ^^^ (-1)) &&& (a0 - 1)) 16) 8) 2) 1))) else (if (ushr32 (ushr32 (ushr32 ((a0 ^^^ (-1)) &&& (a0 - 1)) 16) 8) 4) ≤ 4 then ((((1 + 16) + 8) + 4) + (ushr32 (ushr32 (ushr32 (ushr32 ((a0 ^^^ (-1)) &&& (a0 - 1)) 16) 8) 4) 1)) else (((((1 + 16) + 8) + 4) + 2) + (ushr32 (ushr32 (ushr32 (ushr32 (ushr32 ((a0 ^^^ (-1)) &&& (a0 - 1)) 16) 8) 4) 2) 1)))))) else (((a0 ^^^ (-1)) &&& (a0 - 1)) &&& 32))
set_option maxHeartbeats 4000000 in
set_option maxRecDepth 100000 in
theorem c_J_numberOfTrailingZeros {w : ZW} (hw0 : Zok w) (M : Mem) (a0 : Int32) : CtI w y_J_numberOfTrailingZeros prog_9_method_48_code 2 (some .int) (rl 0) [.int a0] M (fun r M2 => r = pf_J_numberOfTrailingZeros a0 ∧ M = M2) := by
  refine z_metI hw0 (by decide) rfl (fun X C hr => ?_)
  show Zj X 2 w M 0 [(0, .int a0)] []
  refine z_iload_n C d_J_numberOfTrailingZeros_0 rfl 0 rfl ?_
  refine z_iconst (v := (-1)) C d_J_numberOfTrailingZeros_1 (by decide) ?_
  refine z_ixor C d_J_numberOfTrailingZeros_2 ?_
  refine z_iload_n C d_J_numberOfTrailingZeros_3 rfl 0 rfl ?_
  refine z_iconst (v := 1) C d_J_numberOfTrailingZeros_4 (by decide) ?_
  refine z_isub C d_J_numberOfTrailingZeros_5 ?_
  refine z_iand C d_J_numberOfTrailingZeros_6 ?_
  refine z_istore_n (lv' := [(0, .int ((a0 ^^^ (-1)) &&& (a0 - 1)))]) C d_J_numberOfTrailingZeros_7 rfl rfl rfl ?_
  refine z_iload_n C d_J_numberOfTrailingZeros_8 rfl 0 rfl ?_
  refine z_if_gt C 17 d_J_numberOfTrailingZeros_9 (by decide) (fun h1 => ?_) (fun h1 => ?_)
  · refine z_iconst (v := 1) C d_J_numberOfTrailingZeros_17 (by decide) ?_
    refine z_istore_n (lv' := [(1, .int 1), (0, .int ((a0 ^^^ (-1)) &&& (a0 - 1)))]) C d_J_numberOfTrailingZeros_18 rfl rfl rfl ?_
    refine z_iload_n C d_J_numberOfTrailingZeros_19 rfl 1 rfl ?_
    refine z_ldcw C d_J_numberOfTrailingZeros_20 tw_498 ?_
    refine z_ic_le C 34 d_J_numberOfTrailingZeros_23 (by decide) (fun h2 => ?_) (fun h2 => ?_)
    · refine z_iload_n C d_J_numberOfTrailingZeros_34 rfl 1 rfl ?_
      refine z_sipush (v := 256) C d_J_numberOfTrailingZeros_35 (by decide) ?_
      refine z_ic_le C 49 d_J_numberOfTrailingZeros_38 (by decide) (fun h3 => ?_) (fun h3 => ?_)
      · refine z_iload_n C d_J_numberOfTrailingZeros_49 rfl 1 rfl ?_
        refine z_bipush (v := 16) C d_J_numberOfTrailingZeros_50 (by decide) ?_
        refine z_ic_le C 62 d_J_numberOfTrailingZeros_52 (by decide) (fun h4 => ?_) (fun h4 => ?_)
        · refine z_iload_n C d_J_numberOfTrailingZeros_62 rfl 1 rfl ?_
          refine z_iconst (v := 4) C d_J_numberOfTrailingZeros_63 (by decide) ?_
          refine z_ic_le C 74 d_J_numberOfTrailingZeros_64 (by decide) (fun h5 => ?_) (fun h5 => ?_)
          · refine z_iload_n C d_J_numberOfTrailingZeros_74 rfl 0 rfl ?_
            refine z_iload_n C d_J_numberOfTrailingZeros_75 rfl 1 rfl ?_
            refine z_iconst (v := 1) C d_J_numberOfTrailingZeros_76 (by decide) ?_
            refine z_iushr C d_J_numberOfTrailingZeros_77 ?_
            refine z_iadd C d_J_numberOfTrailingZeros_78 ?_
            exact z_iret C hr ⟨by rw [pf_J_numberOfTrailingZeros, if_pos h1, if_pos h2, if_pos h3, if_pos h4, if_pos h5], rfl⟩ d_J_numberOfTrailingZeros_79
          · refine z_iinc (v := (1 + 2)) (lv' := [(1, .int (1 + 2)), (0, .int ((a0 ^^^ (-1)) &&& (a0 - 1)))]) C d_J_numberOfTrailingZeros_67 0 rfl rfl rfl rfl ?_
            refine z_iload_n C d_J_numberOfTrailingZeros_70 rfl 1 rfl ?_
            refine z_iconst (v := 2) C d_J_numberOfTrailingZeros_71 (by decide) ?_
            refine z_iushr C d_J_numberOfTrailingZeros_72 ?_
            refine z_istore_n (lv' := [(0, .int (ushr32 ((a0 ^^^ (-1)) &&& (a0 - 1)) 2)), (1, .int (1 + 2))]) C d_J_numberOfTrailingZeros_73 rfl rfl rfl ?_
            refine z_iload_n C d_J_numberOfTrailingZeros_74 rfl 1 rfl ?_
            refine z_iload_n C d_J_numberOfTrailingZeros_75 rfl 0 rfl ?_
            refine z_iconst (v := 1) C d_J_numberOfTrailingZeros_76 (by decide) ?_
            refine z_iushr C d_J_numberOfTrailingZeros_77 ?_
            refine z_iadd C d_J_numberOfTrailingZeros_78 ?_
            exact z_iret C hr ⟨by rw [pf_J_numberOfTrailingZeros, if_pos h1, if_pos h2, if_pos h3, if_pos h4, if_neg h5], rfl⟩ d_J_numberOfTrailingZeros_79
        · refine z_iinc (v := (1 + 4)) (lv' := [(1, .int (1 + 4)), (0, .int ((a0 ^^^ (-1)) &&& (a0 - 1)))]) C d_J_numberOfTrailingZeros_55 0 rfl rfl rfl rfl ?_
          refine z_iload_n C d_J_numberOfTrailingZeros_58 rfl 1 rfl ?_
          refine z_iconst (v := 4) C d_J_numberOfTrailingZeros_59 (by decide) ?_
          refine z_iushr C d_J_numberOfTrailingZeros_60 ?_
          refine z_istore_n (lv' := [(0, .int (ushr32 ((a0 ^^^ (-1)) &&& (a0 - 1)) 4)), (1, .int (1 + 4))]) C d_J_numberOfTrailingZeros_61 rfl rfl rfl ?_
          refine z_iload_n C d_J_numberOfTrailingZeros_62 rfl 0 rfl ?_
          refine z_iconst (v := 4) C d_J_numberOfTrailingZeros_63 (by decide) ?_
          refine z_ic_le C 74 d_J_numberOfTrailingZeros_64 (by decide) (fun h6 => ?_) (fun h6 => ?_)
          · refine z_iload_n C d_J_numberOfTrailingZeros_74 rfl 1 rfl ?_
            refine z_iload_n C d_J_numberOfTrailingZeros_75 rfl 0 rfl ?_
            refine z_iconst (v := 1) C d_J_numberOfTrailingZeros_76 (by decide) ?_
            refine z_iushr C d_J_numberOfTrailingZeros_77 ?_
            refine z_iadd C d_J_numberOfTrailingZeros_78 ?_
            exact z_iret C hr ⟨by rw [pf_J_numberOfTrailingZeros, if_pos h1, if_pos h2, if_pos h3, if_neg h4, if_pos h6], rfl⟩ d_J_numberOfTrailingZeros_79
          · refine z_iinc (v := ((1 + 4) + 2)) (lv' := [(1, .int ((1 + 4) + 2)), (0, .int (ushr32 ((a0 ^^^ (-1)) &&& (a0 - 1)) 4))]) C d_J_numberOfTrailingZeros_67 1 rfl rfl rfl rfl ?_
            refine z_iload_n C d_J_numberOfTrailingZeros_70 rfl 1 rfl ?_
            refine z_iconst (v := 2) C d_J_numberOfTrailingZeros_71 (by decide) ?_
            refine z_iushr C d_J_numberOfTrailingZeros_72 ?_
            refine z_istore_n (lv' := [(0, .int (ushr32 (ushr32 ((a0 ^^^ (-1)) &&& (a0 - 1)) 4) 2)), (1, .int ((1 + 4) + 2))]) C d_J_numberOfTrailingZeros_73 rfl rfl rfl ?_
            refine z_iload_n C d_J_numberOfTrailingZeros_74 rfl 1 rfl ?_
            refine z_iload_n C d_J_numberOfTrailingZeros_75 rfl 0 rfl ?_
            refine z_iconst (v := 1) C d_J_numberOfTrailingZeros_76 (by decide) ?_
            refine z_iushr C d_J_numberOfTrailingZeros_77 ?_
            refine z_iadd C d_J_numberOfTrailingZeros_78 ?_
            exact z_iret C hr ⟨by rw [pf_J_numberOfTrailingZeros, if_pos h1, if_pos h2, if_pos h3, if_neg h4, if_neg h6], rfl⟩ d_J_numberOfTrailingZeros_79
      · refine z_iinc (v := (1 + 8)) (lv' := [(1, .int (1 + 8)), (0, .int ((a0 ^^^ (-1)) &&& (a0 - 1)))]) C d_J_numberOfTrailingZeros_41 0 rfl rfl rfl rfl ?_
        refine z_iload_n C d_J_numberOfTrailingZeros_44 rfl 1 rfl ?_
        refine z_bipush (v := 8) C d_J_numberOfTrailingZeros_45 (by decide) ?_
        refine z_iushr C d_J_numberOfTrailingZeros_47 ?_
        refine z_istore_n (lv' := [(0, .int (ushr32 ((a0 ^^^ (-1)) &&& (a0 - 1)) 8)), (1, .int (1 + 8))]) C d_J_numberOfTrailingZeros_48 rfl rfl rfl ?_
        refine z_iload_n C d_J_numberOfTrailingZeros_49 rfl 0 rfl ?_
        refine z_bipush (v := 16) C d_J_numberOfTrailingZeros_50 (by decide) ?_
        refine z_ic_le C 62 d_J_numberOfTrailingZeros_52 (by decide) (fun h7 => ?_) (fun h7 => ?_)
        · refine z_iload_n C d_J_numberOfTrailingZeros_62 rfl 0 rfl ?_
          refine z_iconst (v := 4) C d_J_numberOfTrailingZeros_63 (by decide) ?_
          refine z_ic_le C 74 d_J_numberOfTrailingZeros_64 (by decide) (fun h8 => ?_) (fun h8 => ?_)
          · refine z_iload_n C d_J_numberOfTrailingZeros_74 rfl 1 rfl ?_
            refine z_iload_n C d_J_numberOfTrailingZeros_75 rfl 0 rfl ?_
            refine z_iconst (v := 1) C d_J_numberOfTrailingZeros_76 (by decide) ?_
            refine z_iushr C d_J_numberOfTrailingZeros_77 ?_
            refine z_iadd C d_J_numberOfTrailingZeros_78 ?_
            exact z_iret C hr ⟨by rw [pf_J_numberOfTrailingZeros, if_pos h1, if_pos h2, if_neg h3, if_pos h7, if_pos h8], rfl⟩ d_J_numberOfTrailingZeros_79
          · refine z_iinc (v := ((1 + 8) + 2)) (lv' := [(1, .int ((1 + 8) + 2)), (0, .int (ushr32 ((a0 ^^^ (-1)) &&& (a0 - 1)) 8))]) C d_J_numberOfTrailingZeros_67 1 rfl rfl rfl rfl ?_
            refine z_iload_n C d_J_numberOfTrailingZeros_70 rfl 1 rfl ?_
            refine z_iconst (v := 2) C d_J_numberOfTrailingZeros_71 (by decide) ?_
            refine z_iushr C d_J_numberOfTrailingZeros_72 ?_
            refine z_istore_n (lv' := [(0, .int (ushr32 (ushr32 ((a0 ^^^ (-1)) &&& (a0 - 1)) 8) 2)), (1, .int ((1 + 8) + 2))]) C d_J_numberOfTrailingZeros_73 rfl rfl rfl ?_
            refine z_iload_n C d_J_numberOfTrailingZeros_74 rfl 1 rfl ?_
            refine z_iload_n C d_J_numberOfTrailingZeros_75 rfl 0 rfl ?_
            refine z_iconst (v := 1) C d_J_numberOfTrailingZeros_76 (by decide) ?_
            refine z_iushr C d_J_numberOfTrailingZeros_77 ?_
            refine z_iadd C d_J_numberOfTrailingZeros_78 ?_
            exact z_iret C hr ⟨by rw [pf_J_numberOfTrailingZeros, if_pos h1, if_pos h2, if_neg h3, if_pos h7, if_neg h8], rfl⟩ d_J_numberOfTrailingZeros_79
        · refine z_iinc (v := ((1 + 8) + 4)) (lv' := [(1, .int ((1 + 8) + 4)), (0, .int (ushr32 ((a0 ^^^ (-1)) &&& (a0 - 1)) 8))]) C d_J_numberOfTrailingZeros_55 1 rfl rfl rfl rfl ?_
          refine z_iload_n C d_J_numberOfTrailingZeros_58 rfl 1 rfl ?_
          refine z_iconst (v := 4) C d_J_numberOfTrailingZeros_59 (by decide) ?_
          refine z_iushr C d_J_numberOfTrailingZeros_60 ?_
          refine z_istore_n (lv' := [(0, .int (ushr32 (ushr32 ((a0 ^^^ (-1)) &&& (a0 - 1)) 8) 4)), (1, .int ((1 + 8) + 4))]) C d_J_numberOfTrailingZeros_61 rfl rfl rfl ?_
          refine z_iload_n C d_J_numberOfTrailingZeros_62 rfl 0 rfl ?_
          refine z_iconst (v := 4) C d_J_numberOfTrailingZeros_63 (by decide) ?_
          refine z_ic_le C 74 d_J_numberOfTrailingZeros_64 (by decide) (fun h9 => ?_) (fun h9 => ?_)
          · refine z_iload_n C d_J_numberOfTrailingZeros_74 rfl 1 rfl ?_
            refine z_iload_n C d_J_numberOfTrailingZeros_75 rfl 0 rfl ?_
            refine z_iconst (v := 1) C d_J_numberOfTrailingZeros_76 (by decide) ?_
            refine z_iushr C d_J_numberOfTrailingZeros_77 ?_
            refine z_iadd C d_J_numberOfTrailingZeros_78 ?_
            exact z_iret C hr ⟨by rw [pf_J_numberOfTrailingZeros, if_pos h1, if_pos h2, if_neg h3, if_neg h7, if_pos h9], rfl⟩ d_J_numberOfTrailingZeros_79
          · refine z_iinc (v := (((1 + 8) + 4) + 2)) (lv' := [(1, .int (((1 + 8) + 4) + 2)), (0, .int (ushr32 (ushr32 ((a0 ^^^ (-1)) &&& (a0 - 1)) 8) 4))]) C d_J_numberOfTrailingZeros_67 1 rfl rfl rfl rfl ?_
            refine z_iload_n C d_J_numberOfTrailingZeros_70 rfl 1 rfl ?_
            refine z_iconst (v := 2) C d_J_numberOfTrailingZeros_71 (by decide) ?_
            refine z_iushr C d_J_numberOfTrailingZeros_72 ?_
            refine z_istore_n (lv' := [(0, .int (ushr32 (ushr32 (ushr32 ((a0 ^^^ (-1)) &&& (a0 - 1)) 8) 4) 2)), (1, .int (((1 + 8) + 4) + 2))]) C d_J_numberOfTrailingZeros_73 rfl rfl rfl ?_
            refine z_iload_n C d_J_numberOfTrailingZeros_74 rfl 1 rfl ?_
            refine z_iload_n C d_J_numberOfTrailingZeros_75 rfl 0 rfl ?_
            refine z_iconst (v := 1) C d_J_numberOfTrailingZeros_76 (by decide) ?_
            refine z_iushr C d_J_numberOfTrailingZeros_77 ?_
            refine z_iadd C d_J_numberOfTrailingZeros_78 ?_
            exact z_iret C hr ⟨by rw [pf_J_numberOfTrailingZeros, if_pos h1, if_pos h2, if_neg h3, if_neg h7, if_neg h9], rfl⟩ d_J_numberOfTrailingZeros_79
    · refine z_iinc (v := (1 + 16)) (lv' := [(1, .int (1 + 16)), (0, .int ((a0 ^^^ (-1)) &&& (a0 - 1)))]) C d_J_numberOfTrailingZeros_26 0 rfl rfl rfl rfl ?_
      refine z_iload_n C d_J_numberOfTrailingZeros_29 rfl 1 rfl ?_
      refine z_bipush (v := 16) C d_J_numberOfTrailingZeros_30 (by decide) ?_
      refine z_iushr C d_J_numberOfTrailingZeros_32 ?_
      refine z_istore_n (lv' := [(0, .int (ushr32 ((a0 ^^^ (-1)) &&& (a0 - 1)) 16)), (1, .int (1 + 16))]) C d_J_numberOfTrailingZeros_33 rfl rfl rfl ?_
      refine z_iload_n C d_J_numberOfTrailingZeros_34 rfl 0 rfl ?_
      refine z_sipush (v := 256) C d_J_numberOfTrailingZeros_35 (by decide) ?_
      refine z_ic_le C 49 d_J_numberOfTrailingZeros_38 (by decide) (fun h10 => ?_) (fun h10 => ?_)
      · refine z_iload_n C d_J_numberOfTrailingZeros_49 rfl 0 rfl ?_
        refine z_bipush (v := 16) C d_J_numberOfTrailingZeros_50 (by decide) ?_
        refine z_ic_le C 62 d_J_numberOfTrailingZeros_52 (by decide) (fun h11 => ?_) (fun h11 => ?_)
        · refine z_iload_n C d_J_numberOfTrailingZeros_62 rfl 0 rfl ?_
          refine z_iconst (v := 4) C d_J_numberOfTrailingZeros_63 (by decide) ?_
          refine z_ic_le C 74 d_J_numberOfTrailingZeros_64 (by decide) (fun h12 => ?_) (fun h12 => ?_)
          · refine z_iload_n C d_J_numberOfTrailingZeros_74 rfl 1 rfl ?_
            refine z_iload_n C d_J_numberOfTrailingZeros_75 rfl 0 rfl ?_
            refine z_iconst (v := 1) C d_J_numberOfTrailingZeros_76 (by decide) ?_
            refine z_iushr C d_J_numberOfTrailingZeros_77 ?_
            refine z_iadd C d_J_numberOfTrailingZeros_78 ?_
            exact z_iret C hr ⟨by rw [pf_J_numberOfTrailingZeros, if_pos h1, if_neg h2, if_pos h10, if_pos h11, if_pos h12], rfl⟩ d_J_numberOfTrailingZeros_79
          · refine z_iinc (v := ((1 + 16) + 2)) (lv' := [(1, .int ((1 + 16) + 2)), (0, .int (ushr32 ((a0 ^^^ (-1)) &&& (a0 - 1)) 16))]) C d_J_numberOfTrailingZeros_67 1 rfl rfl rfl rfl ?_
            refine z_iload_n C d_J_numberOfTrailingZeros_70 rfl 1 rfl ?_
            refine z_iconst (v := 2) C d_J_numberOfTrailingZeros_71 (by decide) ?_
            refine z_iushr C d_J_numberOfTrailingZeros_72 ?_
            refine z_istore_n (lv' := [(0, .int (ushr32 (ushr32 ((a0 ^^^ (-1)) &&& (a0 - 1)) 16) 2)), (1, .int ((1 + 16) + 2))]) C d_J_numberOfTrailingZeros_73 rfl rfl rfl ?_
            refine z_iload_n C d_J_numberOfTrailingZeros_74 rfl 1 rfl ?_
            refine z_iload_n C d_J_numberOfTrailingZeros_75 rfl 0 rfl ?_
            refine z_iconst (v := 1) C d_J_numberOfTrailingZeros_76 (by decide) ?_
            refine z_iushr C d_J_numberOfTrailingZeros_77 ?_
            refine z_iadd C d_J_numberOfTrailingZeros_78 ?_
            exact z_iret C hr ⟨by rw [pf_J_numberOfTrailingZeros, if_pos h1, if_neg h2, if_pos h10, if_pos h11, if_neg h12], rfl⟩ d_J_numberOfTrailingZeros_79
        · refine z_iinc (v := ((1 + 16) + 4)) (lv' := [(1, .int ((1 + 16) + 4)), (0, .int (ushr32 ((a0 ^^^ (-1)) &&& (a0 - 1)) 16))]) C d_J_numberOfTrailingZeros_55 1 rfl rfl rfl rfl ?_
          refine z_iload_n C d_J_numberOfTrailingZeros_58 rfl 1 rfl ?_
          refine z_iconst (v := 4) C d_J_numberOfTrailingZeros_59 (by decide) ?_
          refine z_iushr C d_J_numberOfTrailingZeros_60 ?_
          refine z_istore_n (lv' := [(0, .int (ushr32 (ushr32 ((a0 ^^^ (-1)) &&& (a0 - 1)) 16) 4)), (1, .int ((1 + 16) + 4))]) C d_J_numberOfTrailingZeros_61 rfl rfl rfl ?_
          refine z_iload_n C d_J_numberOfTrailingZeros_62 rfl 0 rfl ?_
          refine z_iconst (v := 4) C d_J_numberOfTrailingZeros_63 (by decide) ?_
          refine z_ic_le C 74 d_J_numberOfTrailingZeros_64 (by decide) (fun h13 => ?_) (fun h13 => ?_)
          · refine z_iload_n C d_J_numberOfTrailingZeros_74 rfl 1 rfl ?_
            refine z_iload_n C d_J_numberOfTrailingZeros_75 rfl 0 rfl ?_
            refine z_iconst (v := 1) C d_J_numberOfTrailingZeros_76 (by decide) ?_
            refine z_iushr C d_J_numberOfTrailingZeros_77 ?_
            refine z_iadd C d_J_numberOfTrailingZeros_78 ?_
            exact z_iret C hr ⟨by rw [pf_J_numberOfTrailingZeros, if_pos h1, if_neg h2, if_pos h10, if_neg h11, if_pos h13], rfl⟩ d_J_numberOfTrailingZeros_79
          · refine z_iinc (v := (((1 + 16) + 4) + 2)) (lv' := [(1, .int (((1 + 16) + 4) + 2)), (0, .int (ushr32 (ushr32 ((a0 ^^^ (-1)) &&& (a0 - 1)) 16) 4))]) C d_J_numberOfTrailingZeros_67 1 rfl rfl rfl rfl ?_
            refine z_iload_n C d_J_numberOfTrailingZeros_70 rfl 1 rfl ?_
            refine z_iconst (v := 2) C d_J_numberOfTrailingZeros_71 (by decide) ?_
            refine z_iushr C d_J_numberOfTrailingZeros_72 ?_
            refine z_istore_n (lv' := [(0, .int (ushr32 (ushr32 (ushr32 ((a0 ^^^ (-1)) &&& (a0 - 1)) 16) 4) 2)), (1, .int (((1 + 16) + 4) + 2))]) C d_J_numberOfTrailingZeros_73 rfl rfl rfl ?_
            refine z_iload_n C d_J_numberOfTrailingZeros_74 rfl 1 rfl ?_
            refine z_iload_n C d_J_numberOfTrailingZeros_75 rfl 0 rfl ?_
            refine z_iconst (v := 1) C d_J_numberOfTrailingZeros_76 (by decide) ?_
            refine z_iushr C d_J_numberOfTrailingZeros_77 ?_
            refine z_iadd C d_J_numberOfTrailingZeros_78 ?_
            exact z_iret C hr ⟨by rw [pf_J_numberOfTrailingZeros, if_pos h1, if_neg h2, if_pos h10, if_neg h11, if_neg h13], rfl⟩ d_J_numberOfTrailingZeros_79
      · refine z_iinc (v := ((1 + 16) + 8)) (lv' := [(1, .int ((1 + 16) + 8)), (0, .int (ushr32 ((a0 ^^^ (-1)) &&& (a0 - 1)) 16))]) C d_J_numberOfTrailingZeros_41 1 rfl rfl rfl rfl ?_
        refine z_iload_n C d_J_numberOfTrailingZeros_44 rfl 1 rfl ?_
        refine z_bipush (v := 8) C d_J_numberOfTrailingZeros_45 (by decide) ?_
        refine z_iushr C d_J_numberOfTrailingZeros_47 ?_
        refine z_istore_n (lv' := [(0, .int (ushr32 (ushr32 ((a0 ^^^ (-1)) &&& (a0 - 1)) 16) 8)), (1, .int ((1 + 16) + 8))]) C d_J_numberOfTrailingZeros_48 rfl rfl rfl ?_
        refine z_iload_n C d_J_numberOfTrailingZeros_49 rfl 0 rfl ?_
        refine z_bipush (v := 16) C d_J_numberOfTrailingZeros_50 (by decide) ?_
        refine z_ic_le C 62 d_J_numberOfTrailingZeros_52 (by decide) (fun h14 => ?_) (fun h14 => ?_)
        · refine z_iload_n C d_J_numberOfTrailingZeros_62 rfl 0 rfl ?_
          refine z_iconst (v := 4) C d_J_numberOfTrailingZeros_63 (by decide) ?_
          refine z_ic_le C 74 d_J_numberOfTrailingZeros_64 (by decide) (fun h15 => ?_) (fun h15 => ?_)
          · refine z_iload_n C d_J_numberOfTrailingZeros_74 rfl 1 rfl ?_
            refine z_iload_n C d_J_numberOfTrailingZeros_75 rfl 0 rfl ?_
            refine z_iconst (v := 1) C d_J_numberOfTrailingZeros_76 (by decide) ?_
            refine z_iushr C d_J_numberOfTrailingZeros_77 ?_
            refine z_iadd C d_J_numberOfTrailingZeros_78 ?_
            exact z_iret C hr ⟨by rw [pf_J_numberOfTrailingZeros, if_pos h1, if_neg h2, if_neg h10, if_pos h14, if_pos h15], rfl⟩ d_J_numberOfTrailingZeros_79
          · refine z_iinc (v := (((1 + 16) + 8) + 2)) (lv' := [(1, .int (((1 + 16) + 8) + 2)), (0, .int (ushr32 (ushr32 ((a0 ^^^ (-1)) &&& (a0 - 1)) 16) 8))]) C d_J_numberOfTrailingZeros_67 1 rfl rfl rfl rfl ?_
            refine z_iload_n C d_J_numberOfTrailingZeros_70 rfl 1 rfl ?_
            refine z_iconst (v := 2) C d_J_numberOfTrailingZeros_71 (by decide) ?_
            refine z_iushr C d_J_numberOfTrailingZeros_72 ?_
            refine z_istore_n (lv' := [(0, .int (ushr32 (ushr32 (ushr32 ((a0 ^^^ (-1)) &&& (a0 - 1)) 16) 8) 2)), (1, .int (((1 + 16) + 8) + 2))]) C d_J_numberOfTrailingZeros_73 rfl rfl rfl ?_
            refine z_iload_n C d_J_numberOfTrailingZeros_74 rfl 1 rfl ?_
            refine z_iload_n C d_J_numberOfTrailingZeros_75 rfl 0 rfl ?_
            refine z_iconst (v := 1) C d_J_numberOfTrailingZeros_76 (by decide) ?_
            refine z_iushr C d_J_numberOfTrailingZeros_77 ?_
            refine z_iadd C d_J_numberOfTrailingZeros_78 ?_
            exact z_iret C hr ⟨by rw [pf_J_numberOfTrailingZeros, if_pos h1, if_neg h2, if_neg h10, if_pos h14, if_neg h15], rfl⟩ d_J_numberOfTrailingZeros_79
        · refine z_iinc (v := (((1 + 16) + 8) + 4)) (lv' := [(1, .int (((1 + 16) + 8) + 4)), (0, .int (ushr32 (ushr32 ((a0 ^^^ (-1)) &&& (a0 - 1)) 16) 8))]) C d_J_numberOfTrailingZeros_55 1 rfl rfl rfl rfl ?_
          refine z_iload_n C d_J_numberOfTrailingZeros_58 rfl 1 rfl ?_
          refine z_iconst (v := 4) C d_J_numberOfTrailingZeros_59 (by decide) ?_
          refine z_iushr C d_J_numberOfTrailingZeros_60 ?_
          refine z_istore_n (lv' := [(0, .int (ushr32 (ushr32 (ushr32 ((a0 ^^^ (-1)) &&& (a0 - 1)) 16) 8) 4)), (1, .int (((1 + 16) + 8) + 4))]) C d_J_numberOfTrailingZeros_61 rfl rfl rfl ?_
          refine z_iload_n C d_J_numberOfTrailingZeros_62 rfl 0 rfl ?_
          refine z_iconst (v := 4) C d_J_numberOfTrailingZeros_63 (by decide) ?_
          refine z_ic_le C 74 d_J_numberOfTrailingZeros_64 (by decide) (fun h16 => ?_) (fun h16 => ?_)
          · refine z_iload_n C d_J_numberOfTrailingZeros_74 rfl 1 rfl ?_
            refine z_iload_n C d_J_numberOfTrailingZeros_75 rfl 0 rfl ?_
            refine z_iconst (v := 1) C d_J_numberOfTrailingZeros_76 (by decide) ?_
            refine z_iushr C d_J_numberOfTrailingZeros_77 ?_
            refine z_iadd C d_J_numberOfTrailingZeros_78 ?_
            exact z_iret C hr ⟨by rw [pf_J_numberOfTrailingZeros, if_pos h1, if_neg h2, if_neg h10, if_neg h14, if_pos h16], rfl⟩ d_J_numberOfTrailingZeros_79
          · refine z_iinc (v := ((((1 + 16) + 8) + 4) + 2)) (lv' := [(1, .int ((((1 + 16) + 8) + 4) + 2)), (0, .int (ushr32 (ushr32 (ushr32 ((a0 ^^^ (-1)) &&& (a0 - 1)) 16) 8) 4))]) C d_J_numberOfTrailingZeros_67 1 rfl rfl rfl rfl ?_
            refine z_iload_n C d_J_numberOfTrailingZeros_70 rfl 1 rfl ?_
            refine z_iconst (v := 2) C d_J_numberOfTrailingZeros_71 (by decide) ?_
            refine z_iushr C d_J_numberOfTrailingZeros_72 ?_
            refine z_istore_n (lv' := [(0, .int (ushr32 (ushr32 (ushr32 (ushr32 ((a0 ^^^ (-1)) &&& (a0 - 1)) 16) 8) 4) 2)), (1, .int ((((1 + 16) + 8) + 4) + 2))]) C d_J_numberOfTrailingZeros_73 rfl rfl rfl ?_
            refine z_iload_n C d_J_numberOfTrailingZeros_74 rfl 1 rfl ?_
            refine z_iload_n C d_J_numberOfTrailingZeros_75 rfl 0 rfl ?_
            refine z_iconst (v := 1) C d_J_numberOfTrailingZeros_76 (by decide) ?_
            refine z_iushr C d_J_numberOfTrailingZeros_77 ?_
            refine z_iadd C d_J_numberOfTrailingZeros_78 ?_
            exact z_iret C hr ⟨by rw [pf_J_numberOfTrailingZeros, if_pos h1, if_neg h2, if_neg h10, if_neg h14, if_neg h16], rfl⟩ d_J_numberOfTrailingZeros_79
  · refine z_iload_n C d_J_numberOfTrailingZeros_12 rfl 0 rfl ?_
    refine z_bipush (v := 32) C d_J_numberOfTrailingZeros_13 (by decide) ?_
    refine z_iand C d_J_numberOfTrailingZeros_15 ?_
    exact z_iret C hr ⟨by rw [pf_J_numberOfTrailingZeros, if_neg h1], rfl⟩ d_J_numberOfTrailingZeros_16
theorem d_X_mayBeEvent_0 : decode prog_1_method_52_code 0 = .ok (.iload_n 0, 1) := by decide +kernel
theorem d_X_mayBeEvent_1 : decode prog_1_method_52_code 1 = .ok (.iconst 3, 1) := by decide +kernel
theorem d_X_mayBeEvent_2 : decode prog_1_method_52_code 2 = .ok (.invokestatic 70, 3) := by decide +kernel
theorem d_X_mayBeEvent_5 : decode prog_1_method_52_code 5 = .ok (.ifCond .ne (25), 3) := by decide +kernel
theorem d_X_mayBeEvent_8 : decode prog_1_method_52_code 8 = .ok (.iload_n 1, 1) := by decide +kernel
theorem d_X_mayBeEvent_9 : decode prog_1_method_52_code 9 = .ok (.bipush 24, 2) := by decide +kernel
theorem d_X_mayBeEvent_11 : decode prog_1_method_52_code 11 = .ok (.invokestatic 70, 3) := by decide +kernel
theorem d_X_mayBeEvent_14 : decode prog_1_method_52_code 14 = .ok (.ifCond .ne (16), 3) := by decide +kernel
theorem d_X_mayBeEvent_17 : decode prog_1_method_52_code 17 = .ok (.iload_n 2, 1) := by decide +kernel
theorem d_X_mayBeEvent_18 : decode prog_1_method_52_code 18 = .ok (.bipush 12, 2) := by decide +kernel
theorem d_X_mayBeEvent_20 : decode prog_1_method_52_code 20 = .ok (.invokestatic 70, 3) := by decide +kernel
theorem d_X_mayBeEvent_23 : decode prog_1_method_52_code 23 = .ok (.ifCond .ne (7), 3) := by decide +kernel
theorem d_X_mayBeEvent_26 : decode prog_1_method_52_code 26 = .ok (.iconst 1, 1) := by decide +kernel
theorem d_X_mayBeEvent_27 : decode prog_1_method_52_code 27 = .ok (.goto (4), 3) := by decide +kernel
theorem d_X_mayBeEvent_30 : decode prog_1_method_52_code 30 = .ok (.iconst 0, 1) := by decide +kernel
theorem d_X_mayBeEvent_31 : decode prog_1_method_52_code 31 = .ok (.ireturn, 1) := by decide +kernel
def pf_X_mayBeEvent (a0 : Int32) (a1 : Int32) (a2 : Int32) : Int32 :=
  (if (pf_X_outside a0 3) = 0 then (if (pf_X_outside a1 24) = 0 then (if (pf_X_outside a2 12) = 0 then 1 else 0) else 0) else 0)
theorem pz_X_mayBeEvent (a0 : Int32) (a1 : Int32) (a2 : Int32) : pf_X_mayBeEvent a0 a1 a2 = 0 ∨ pf_X_mayBeEvent a0 a1 a2 = 1 := by
  unfold pf_X_mayBeEvent
  repeat' split
  all_goals first | exact Or.inl rfl | exact Or.inr rfl | exact pz_X_outside _ _ | exact pz_X_outside _ _ | exact pz_X_outside _ _
set_option maxHeartbeats 4000000 in
set_option maxRecDepth 100000 in
theorem c_X_mayBeEvent {w : ZW} (hw0 : Zok w) (M : Mem) (a0 : Int32) (a1 : Int32) (a2 : Int32) : CtI w y_X_mayBeEvent prog_1_method_52_code 3 (some .boolean) (rl 1) [.int a0, .int a1, .int a2] M (fun r M2 => r = pf_X_mayBeEvent a0 a1 a2 ∧ M = M2) := by
  refine z_metI hw0 (by decide) rfl (fun X C hr => ?_)
  show Zj X 3 w M 0 [(0, .int a0), (1, .int a1), (2, .int a2)] []
  refine z_iload_n C d_X_mayBeEvent_0 rfl 0 rfl ?_
  refine z_iconst (v := 3) C d_X_mayBeEvent_1 (by decide) ?_
  refine z_callSi C (As := [.int a0, .int 3]) (rest := []) m_X_outside tw_251 ⟨rfl, rfl⟩ (c_X_outside hw0 _ _ _) rfl rfl rfl d_X_mayBeEvent_2 (fun r M2 hq => ?_)
  obtain ⟨rfl, rfl⟩ := hq
  refine z_if_ne C 30 d_X_mayBeEvent_5 (by decide) (fun h2 => ?_) (fun h2 => ?_)
  · refine z_iconst (v := 0) C d_X_mayBeEvent_30 (by decide) ?_
    exact z_zret C hr (Or.inl rfl) ⟨by rw [pf_X_mayBeEvent, if_neg h2], rfl⟩ d_X_mayBeEvent_31
  · refine z_iload_n C d_X_mayBeEvent_8 rfl 1 rfl ?_
    refine z_bipush (v := 24) C d_X_mayBeEvent_9 (by decide) ?_
    refine z_callSi C (As := [.int a1, .int 24]) (rest := []) m_X_outside tw_251 ⟨rfl, rfl⟩ (c_X_outside hw0 _ _ _) rfl rfl rfl d_X_mayBeEvent_11 (fun r M2 hq => ?_)
    obtain ⟨rfl, rfl⟩ := hq
    refine z_if_ne C 30 d_X_mayBeEvent_14 (by decide) (fun h4 => ?_) (fun h4 => ?_)
    · refine z_iconst (v := 0) C d_X_mayBeEvent_30 (by decide) ?_
      exact z_zret C hr (Or.inl rfl) ⟨by rw [pf_X_mayBeEvent, if_pos h2, if_neg h4], rfl⟩ d_X_mayBeEvent_31
    · refine z_iload_n C d_X_mayBeEvent_17 rfl 2 rfl ?_
      refine z_bipush (v := 12) C d_X_mayBeEvent_18 (by decide) ?_
      refine z_callSi C (As := [.int a2, .int 12]) (rest := []) m_X_outside tw_251 ⟨rfl, rfl⟩ (c_X_outside hw0 _ _ _) rfl rfl rfl d_X_mayBeEvent_20 (fun r M2 hq => ?_)
      obtain ⟨rfl, rfl⟩ := hq
      refine z_if_ne C 30 d_X_mayBeEvent_23 (by decide) (fun h6 => ?_) (fun h6 => ?_)
      · refine z_iconst (v := 0) C d_X_mayBeEvent_30 (by decide) ?_
        exact z_zret C hr (Or.inl rfl) ⟨by rw [pf_X_mayBeEvent, if_pos h2, if_pos h4, if_neg h6], rfl⟩ d_X_mayBeEvent_31
      · refine z_iconst (v := 1) C d_X_mayBeEvent_26 (by decide) ?_
        refine z_goto C 31 d_X_mayBeEvent_27 (by decide) ?_
        exact z_zret C hr (Or.inr rfl) ⟨by rw [pf_X_mayBeEvent, if_pos h2, if_pos h4, if_pos h6], rfl⟩ d_X_mayBeEvent_31
theorem d_R_isTwo_0 : decode prog_8_method_5_code 0 = .ok (.iload_n 0, 1) := by decide +kernel
theorem d_R_isTwo_1 : decode prog_8_method_5_code 1 = .ok (.i2l, 1) := by decide +kernel
theorem d_R_isTwo_2 : decode prog_8_method_5_code 2 = .ok (.lconst 0, 1) := by decide +kernel
theorem d_R_isTwo_3 : decode prog_8_method_5_code 3 = .ok (.lconst 1, 1) := by decide +kernel
theorem d_R_isTwo_4 : decode prog_8_method_5_code 4 = .ok (.invokestatic 97, 3) := by decide +kernel
theorem d_R_isTwo_7 : decode prog_8_method_5_code 7 = .ok (.ireturn, 1) := by decide +kernel
def pf_R_isTwo (a0 : Int32) : Int32 :=
  (pf_R_in (Int32.toInt64 a0) 0 1)
theorem pz_R_isTwo (a0 : Int32) : pf_R_isTwo a0 = 0 ∨ pf_R_isTwo a0 = 1 := by
  unfold pf_R_isTwo
  repeat' split
  all_goals first | exact Or.inl rfl | exact Or.inr rfl | exact pz_R_in _ _ _
set_option maxHeartbeats 4000000 in
set_option maxRecDepth 100000 in
theorem c_R_isTwo {w : ZW} (hw0 : Zok w) (M : Mem) (a0 : Int32) : CtI w y_R_isTwo prog_8_method_5_code 1 (some .boolean) (rl 1) [.int a0] M (fun r M2 => r = pf_R_isTwo a0 ∧ M = M2) := by
  refine z_metI hw0 (by decide) rfl (fun X C hr => ?_)
  show Zj X 1 w M 0 [(0, .int a0)] []
  refine z_iload_n C d_R_isTwo_0 rfl 0 rfl ?_
  refine z_i2l C d_R_isTwo_1 ?_
  refine z_lconst (v := 0) C d_R_isTwo_2 (by decide) ?_
  refine z_lconst (v := 1) C d_R_isTwo_3 (by decide) ?_
  refine z_callSi C (As := [.long (Int32.toInt64 a0), .long 0, .long 1]) (rest := []) m_R_in tw_786 ⟨rfl, rfl⟩ (c_R_in hw0 _ _ _ _) rfl rfl rfl d_R_isTwo_4 (fun r M2 hq => ?_)
  obtain ⟨rfl, rfl⟩ := hq
  exact z_zret C hr (pz_R_in _ _ _) ⟨by rw [pf_R_isTwo], rfl⟩ d_R_isTwo_7
theorem d_R_isSheet_0 : decode prog_8_method_11_code 0 = .ok (.iload_n 0, 1) := by decide +kernel
theorem d_R_isSheet_1 : decode prog_8_method_11_code 1 = .ok (.i2l, 1) := by decide +kernel
theorem d_R_isSheet_2 : decode prog_8_method_11_code 2 = .ok (.lconst 0, 1) := by decide +kernel
theorem d_R_isSheet_3 : decode prog_8_method_11_code 3 = .ok (.ldc2_w 104, 3) := by decide +kernel
theorem d_R_isSheet_6 : decode prog_8_method_11_code 6 = .ok (.invokestatic 97, 3) := by decide +kernel
theorem d_R_isSheet_9 : decode prog_8_method_11_code 9 = .ok (.ireturn, 1) := by decide +kernel
def pf_R_isSheet (a0 : Int32) : Int32 :=
  (pf_R_in (Int32.toInt64 a0) 0 (3))
theorem pz_R_isSheet (a0 : Int32) : pf_R_isSheet a0 = 0 ∨ pf_R_isSheet a0 = 1 := by
  unfold pf_R_isSheet
  repeat' split
  all_goals first | exact Or.inl rfl | exact Or.inr rfl | exact pz_R_in _ _ _
set_option maxHeartbeats 4000000 in
set_option maxRecDepth 100000 in
theorem c_R_isSheet {w : ZW} (hw0 : Zok w) (M : Mem) (a0 : Int32) : CtI w y_R_isSheet prog_8_method_11_code 1 (some .boolean) (rl 1) [.int a0] M (fun r M2 => r = pf_R_isSheet a0 ∧ M = M2) := by
  refine z_metI hw0 (by decide) rfl (fun X C hr => ?_)
  show Zj X 1 w M 0 [(0, .int a0)] []
  refine z_iload_n C d_R_isSheet_0 rfl 0 rfl ?_
  refine z_i2l C d_R_isSheet_1 ?_
  refine z_lconst (v := 0) C d_R_isSheet_2 (by decide) ?_
  refine z_ldc2 C d_R_isSheet_3 tw_785 ?_
  refine z_callSi C (As := [.long (Int32.toInt64 a0), .long 0, .long (3)]) (rest := []) m_R_in tw_786 ⟨rfl, rfl⟩ (c_R_in hw0 _ _ _ _) rfl rfl rfl d_R_isSheet_6 (fun r M2 hq => ?_)
  obtain ⟨rfl, rfl⟩ := hq
  exact z_zret C hr (pz_R_in _ _ _) ⟨by rw [pf_R_isSheet], rfl⟩ d_R_isSheet_9
theorem d_R_isText_0 : decode prog_8_method_19_code 0 = .ok (.iload_n 0, 1) := by decide +kernel
theorem d_R_isText_1 : decode prog_8_method_19_code 1 = .ok (.i2l, 1) := by decide +kernel
theorem d_R_isText_2 : decode prog_8_method_19_code 2 = .ok (.lconst 0, 1) := by decide +kernel
theorem d_R_isText_3 : decode prog_8_method_19_code 3 = .ok (.ldc2_w 104, 3) := by decide +kernel
theorem d_R_isText_6 : decode prog_8_method_19_code 6 = .ok (.invokestatic 97, 3) := by decide +kernel
theorem d_R_isText_9 : decode prog_8_method_19_code 9 = .ok (.ireturn, 1) := by decide +kernel
def pf_R_isText (a0 : Int32) : Int32 :=
  (pf_R_in (Int32.toInt64 a0) 0 (3))
theorem pz_R_isText (a0 : Int32) : pf_R_isText a0 = 0 ∨ pf_R_isText a0 = 1 := by
  unfold pf_R_isText
  repeat' split
  all_goals first | exact Or.inl rfl | exact Or.inr rfl | exact pz_R_in _ _ _
set_option maxHeartbeats 4000000 in
set_option maxRecDepth 100000 in
theorem c_R_isText {w : ZW} (hw0 : Zok w) (M : Mem) (a0 : Int32) : CtI w y_R_isText prog_8_method_19_code 1 (some .boolean) (rl 1) [.int a0] M (fun r M2 => r = pf_R_isText a0 ∧ M = M2) := by
  refine z_metI hw0 (by decide) rfl (fun X C hr => ?_)
  show Zj X 1 w M 0 [(0, .int a0)] []
  refine z_iload_n C d_R_isText_0 rfl 0 rfl ?_
  refine z_i2l C d_R_isText_1 ?_
  refine z_lconst (v := 0) C d_R_isText_2 (by decide) ?_
  refine z_ldc2 C d_R_isText_3 tw_785 ?_
  refine z_callSi C (As := [.long (Int32.toInt64 a0), .long 0, .long (3)]) (rest := []) m_R_in tw_786 ⟨rfl, rfl⟩ (c_R_in hw0 _ _ _ _) rfl rfl rfl d_R_isText_6 (fun r M2 hq => ?_)
  obtain ⟨rfl, rfl⟩ := hq
  exact z_zret C hr (pz_R_in _ _ _) ⟨by rw [pf_R_isText], rfl⟩ d_R_isText_9
theorem d_R_figureOf_0 : decode prog_8_method_23_code 0 = .ok (.iload_n 0, 1) := by decide +kernel
theorem d_R_figureOf_1 : decode prog_8_method_23_code 1 = .ok (.i2l, 1) := by decide +kernel
theorem d_R_figureOf_2 : decode prog_8_method_23_code 2 = .ok (.bipush 48, 2) := by decide +kernel
theorem d_R_figureOf_4 : decode prog_8_method_23_code 4 = .ok (.iload_n 1, 1) := by decide +kernel
theorem d_R_figureOf_5 : decode prog_8_method_23_code 5 = .ok (.iadd, 1) := by decide +kernel
theorem d_R_figureOf_6 : decode prog_8_method_23_code 6 = .ok (.i2l, 1) := by decide +kernel
theorem d_R_figureOf_7 : decode prog_8_method_23_code 7 = .ok (.ldc2_w 130, 3) := by decide +kernel
theorem d_R_figureOf_10 : decode prog_8_method_23_code 10 = .ok (.invokestatic 97, 3) := by decide +kernel
theorem d_R_figureOf_13 : decode prog_8_method_23_code 13 = .ok (.ifCond .eq (10), 3) := by decide +kernel
theorem d_R_figureOf_16 : decode prog_8_method_23_code 16 = .ok (.iload_n 0, 1) := by decide +kernel
theorem d_R_figureOf_17 : decode prog_8_method_23_code 17 = .ok (.bipush 48, 2) := by decide +kernel
theorem d_R_figureOf_19 : decode prog_8_method_23_code 19 = .ok (.isub, 1) := by decide +kernel
theorem d_R_figureOf_20 : decode prog_8_method_23_code 20 = .ok (.goto (5), 3) := by decide +kernel
theorem d_R_figureOf_23 : decode prog_8_method_23_code 23 = .ok (.bipush (-9), 2) := by decide +kernel
theorem d_R_figureOf_25 : decode prog_8_method_23_code 25 = .ok (.ireturn, 1) := by decide +kernel
def pf_R_figureOf (a0 : Int32) (a1 : Int32) : Int32 :=
  (if (pf_R_in (Int32.toInt64 a0) (Int32.toInt64 (48 + a1)) (57)) = 0 then (-9) else (a0 - 48))
set_option maxHeartbeats 4000000 in
set_option maxRecDepth 100000 in
theorem c_R_figureOf {w : ZW} (hw0 : Zok w) (M : Mem) (a0 : Int32) (a1 : Int32) : CtI w y_R_figureOf prog_8_method_23_code 2 (some .int) (rl 1) [.int a0, .int a1] M (fun r M2 => r = pf_R_figureOf a0 a1 ∧ M = M2) := by
  refine z_metI hw0 (by decide) rfl (fun X C hr => ?_)
  show Zj X 2 w M 0 [(0, .int a0), (1, .int a1)] []
  refine z_iload_n C d_R_figureOf_0 rfl 0 rfl ?_
  refine z_i2l C d_R_figureOf_1 ?_
  refine z_bipush (v := 48) C d_R_figureOf_2 (by decide) ?_
  refine z_iload_n C d_R_figureOf_4 rfl 1 rfl ?_
  refine z_iadd C d_R_figureOf_5 ?_
  refine z_i2l C d_R_figureOf_6 ?_
  refine z_ldc2 C d_R_figureOf_7 tw_861 ?_
  refine z_callSi C (As := [.long (Int32.toInt64 a0), .long (Int32.toInt64 (48 + a1)), .long (57)]) (rest := []) m_R_in tw_786 ⟨rfl, rfl⟩ (c_R_in hw0 _ _ _ _) rfl rfl rfl d_R_figureOf_10 (fun r M2 hq => ?_)
  obtain ⟨rfl, rfl⟩ := hq
  refine z_if_eq C 23 d_R_figureOf_13 (by decide) (fun h2 => ?_) (fun h2 => ?_)
  · refine z_bipush (v := (-9)) C d_R_figureOf_23 (by decide) ?_
    exact z_iret C hr ⟨by rw [pf_R_figureOf, if_pos h2], rfl⟩ d_R_figureOf_25
  · refine z_iload_n C d_R_figureOf_16 rfl 0 rfl ?_
    refine z_bipush (v := 48) C d_R_figureOf_17 (by decide) ?_
    refine z_isub C d_R_figureOf_19 ?_
    refine z_goto C 25 d_R_figureOf_20 (by decide) ?_
    exact z_iret C hr ⟨by rw [pf_R_figureOf, if_neg h2], rfl⟩ d_R_figureOf_25
theorem d_R_letterOf_0 : decode prog_8_method_24_code 0 = .ok (.iload_n 0, 1) := by decide +kernel
theorem d_R_letterOf_1 : decode prog_8_method_24_code 1 = .ok (.i2l, 1) := by decide +kernel
theorem d_R_letterOf_2 : decode prog_8_method_24_code 2 = .ok (.ldc2_w 132, 3) := by decide +kernel
theorem d_R_letterOf_5 : decode prog_8_method_24_code 5 = .ok (.iload_n 1, 1) := by decide +kernel
theorem d_R_letterOf_6 : decode prog_8_method_24_code 6 = .ok (.i2l, 1) := by decide +kernel
theorem d_R_letterOf_7 : decode prog_8_method_24_code 7 = .ok (.invokestatic 97, 3) := by decide +kernel
theorem d_R_letterOf_10 : decode prog_8_method_24_code 10 = .ok (.ifCond .eq (10), 3) := by decide +kernel
theorem d_R_letterOf_13 : decode prog_8_method_24_code 13 = .ok (.iload_n 0, 1) := by decide +kernel
theorem d_R_letterOf_14 : decode prog_8_method_24_code 14 = .ok (.bipush 97, 2) := by decide +kernel
theorem d_R_letterOf_16 : decode prog_8_method_24_code 16 = .ok (.isub, 1) := by decide +kernel
theorem d_R_letterOf_17 : decode prog_8_method_24_code 17 = .ok (.goto (5), 3) := by decide +kernel
theorem d_R_letterOf_20 : decode prog_8_method_24_code 20 = .ok (.bipush (-9), 2) := by decide +kernel
theorem d_R_letterOf_22 : decode prog_8_method_24_code 22 = .ok (.ireturn, 1) := by decide +kernel
def pf_R_letterOf (a0 : Int32) (a1 : Int32) : Int32 :=
  (if (pf_R_in (Int32.toInt64 a0) (97) (Int32.toInt64 a1)) = 0 then (-9) else (a0 - 97))
set_option maxHeartbeats 4000000 in
set_option maxRecDepth 100000 in
theorem c_R_letterOf {w : ZW} (hw0 : Zok w) (M : Mem) (a0 : Int32) (a1 : Int32) : CtI w y_R_letterOf prog_8_method_24_code 2 (some .int) (rl 1) [.int a0, .int a1] M (fun r M2 => r = pf_R_letterOf a0 a1 ∧ M = M2) := by
  refine z_metI hw0 (by decide) rfl (fun X C hr => ?_)
  show Zj X 2 w M 0 [(0, .int a0), (1, .int a1)] []
  refine z_iload_n C d_R_letterOf_0 rfl 0 rfl ?_
  refine z_i2l C d_R_letterOf_1 ?_
  refine z_ldc2 C d_R_letterOf_2 tw_872 ?_
  refine z_iload_n C d_R_letterOf_5 rfl 1 rfl ?_
  refine z_i2l C d_R_letterOf_6 ?_
  refine z_callSi C (As := [.long (Int32.toInt64 a0), .long (97), .long (Int32.toInt64 a1)]) (rest := []) m_R_in tw_786 ⟨rfl, rfl⟩ (c_R_in hw0 _ _ _ _) rfl rfl rfl d_R_letterOf_7 (fun r M2 hq => ?_)
  obtain ⟨rfl, rfl⟩ := hq
  refine z_if_eq C 20 d_R_letterOf_10 (by decide) (fun h2 => ?_) (fun h2 => ?_)
  · refine z_bipush (v := (-9)) C d_R_letterOf_20 (by decide) ?_
    exact z_iret C hr ⟨by rw [pf_R_letterOf, if_pos h2], rfl⟩ d_R_letterOf_22
  · refine z_iload_n C d_R_letterOf_13 rfl 0 rfl ?_
    refine z_bipush (v := 97) C d_R_letterOf_14 (by decide) ?_
    refine z_isub C d_R_letterOf_16 ?_
    refine z_goto C 22 d_R_letterOf_17 (by decide) ?_
    exact z_iret C hr ⟨by rw [pf_R_letterOf, if_neg h2], rfl⟩ d_R_letterOf_22
theorem d_R_isMile_0 : decode prog_8_method_34_code 0 = .ok (.iload_n 0, 1) := by decide +kernel
theorem d_R_isMile_1 : decode prog_8_method_34_code 1 = .ok (.i2l, 1) := by decide +kernel
theorem d_R_isMile_2 : decode prog_8_method_34_code 2 = .ok (.lconst 0, 1) := by decide +kernel
theorem d_R_isMile_3 : decode prog_8_method_34_code 3 = .ok (.ldc2_w 171, 3) := by decide +kernel
theorem d_R_isMile_6 : decode prog_8_method_34_code 6 = .ok (.invokestatic 97, 3) := by decide +kernel
theorem d_R_isMile_9 : decode prog_8_method_34_code 9 = .ok (.ireturn, 1) := by decide +kernel
def pf_R_isMile (a0 : Int32) : Int32 :=
  (pf_R_in (Int32.toInt64 a0) 0 (11))
theorem pz_R_isMile (a0 : Int32) : pf_R_isMile a0 = 0 ∨ pf_R_isMile a0 = 1 := by
  unfold pf_R_isMile
  repeat' split
  all_goals first | exact Or.inl rfl | exact Or.inr rfl | exact pz_R_in _ _ _
set_option maxHeartbeats 4000000 in
set_option maxRecDepth 100000 in
theorem c_R_isMile {w : ZW} (hw0 : Zok w) (M : Mem) (a0 : Int32) : CtI w y_R_isMile prog_8_method_34_code 1 (some .boolean) (rl 1) [.int a0] M (fun r M2 => r = pf_R_isMile a0 ∧ M = M2) := by
  refine z_metI hw0 (by decide) rfl (fun X C hr => ?_)
  show Zj X 1 w M 0 [(0, .int a0)] []
  refine z_iload_n C d_R_isMile_0 rfl 0 rfl ?_
  refine z_i2l C d_R_isMile_1 ?_
  refine z_lconst (v := 0) C d_R_isMile_2 (by decide) ?_
  refine z_ldc2 C d_R_isMile_3 tw_884 ?_
  refine z_callSi C (As := [.long (Int32.toInt64 a0), .long 0, .long (11)]) (rest := []) m_R_in tw_786 ⟨rfl, rfl⟩ (c_R_in hw0 _ _ _ _) rfl rfl rfl d_R_isMile_6 (fun r M2 hq => ?_)
  obtain ⟨rfl, rfl⟩ := hq
  exact z_zret C hr (pz_R_in _ _ _) ⟨by rw [pf_R_isMile], rfl⟩ d_R_isMile_9
theorem d_R_isHour_0 : decode prog_8_method_35_code 0 = .ok (.iload_n 0, 1) := by decide +kernel
theorem d_R_isHour_1 : decode prog_8_method_35_code 1 = .ok (.i2l, 1) := by decide +kernel
theorem d_R_isHour_2 : decode prog_8_method_35_code 2 = .ok (.lconst 0, 1) := by decide +kernel
theorem d_R_isHour_3 : decode prog_8_method_35_code 3 = .ok (.ldc2_w 173, 3) := by decide +kernel
theorem d_R_isHour_6 : decode prog_8_method_35_code 6 = .ok (.invokestatic 97, 3) := by decide +kernel
theorem d_R_isHour_9 : decode prog_8_method_35_code 9 = .ok (.ireturn, 1) := by decide +kernel
def pf_R_isHour (a0 : Int32) : Int32 :=
  (pf_R_in (Int32.toInt64 a0) 0 (23))
theorem pz_R_isHour (a0 : Int32) : pf_R_isHour a0 = 0 ∨ pf_R_isHour a0 = 1 := by
  unfold pf_R_isHour
  repeat' split
  all_goals first | exact Or.inl rfl | exact Or.inr rfl | exact pz_R_in _ _ _
set_option maxHeartbeats 4000000 in
set_option maxRecDepth 100000 in
theorem c_R_isHour {w : ZW} (hw0 : Zok w) (M : Mem) (a0 : Int32) : CtI w y_R_isHour prog_8_method_35_code 1 (some .boolean) (rl 1) [.int a0] M (fun r M2 => r = pf_R_isHour a0 ∧ M = M2) := by
  refine z_metI hw0 (by decide) rfl (fun X C hr => ?_)
  show Zj X 1 w M 0 [(0, .int a0)] []
  refine z_iload_n C d_R_isHour_0 rfl 0 rfl ?_
  refine z_i2l C d_R_isHour_1 ?_
  refine z_lconst (v := 0) C d_R_isHour_2 (by decide) ?_
  refine z_ldc2 C d_R_isHour_3 tw_892 ?_
  refine z_callSi C (As := [.long (Int32.toInt64 a0), .long 0, .long (23)]) (rest := []) m_R_in tw_786 ⟨rfl, rfl⟩ (c_R_in hw0 _ _ _ _) rfl rfl rfl d_R_isHour_6 (fun r M2 hq => ?_)
  obtain ⟨rfl, rfl⟩ := hq
  exact z_zret C hr (pz_R_in _ _ _) ⟨by rw [pf_R_isHour], rfl⟩ d_R_isHour_9
theorem d_R_ploughOf_0 : decode prog_8_method_29_code 0 = .ok (.iload_n 0, 1) := by decide +kernel
theorem d_R_ploughOf_1 : decode prog_8_method_29_code 1 = .ok (.tableswitch 63 0 2 #[27, 34, 40], 27) := by decide +kernel
theorem d_R_ploughOf_28 : decode prog_8_method_29_code 28 = .ok (.iload_n 1, 1) := by decide +kernel
theorem d_R_ploughOf_29 : decode prog_8_method_29_code 29 = .ok (.bipush 108, 2) := by decide +kernel
theorem d_R_ploughOf_31 : decode prog_8_method_29_code 31 = .ok (.invokestatic 143, 3) := by decide +kernel
theorem d_R_ploughOf_34 : decode prog_8_method_29_code 34 = .ok (.ireturn, 1) := by decide +kernel
theorem d_R_ploughOf_35 : decode prog_8_method_29_code 35 = .ok (.iload_n 1, 1) := by decide +kernel
theorem d_R_ploughOf_36 : decode prog_8_method_29_code 36 = .ok (.iconst 1, 1) := by decide +kernel
theorem d_R_ploughOf_37 : decode prog_8_method_29_code 37 = .ok (.invokestatic 140, 3) := by decide +kernel
theorem d_R_ploughOf_40 : decode prog_8_method_29_code 40 = .ok (.ireturn, 1) := by decide +kernel
theorem d_R_ploughOf_41 : decode prog_8_method_29_code 41 = .ok (.iload_n 1, 1) := by decide +kernel
theorem d_R_ploughOf_42 : decode prog_8_method_29_code 42 = .ok (.bipush 101, 2) := by decide +kernel
theorem d_R_ploughOf_44 : decode prog_8_method_29_code 44 = .ok (.if_icmp .ne (7), 3) := by decide +kernel
theorem d_R_ploughOf_47 : decode prog_8_method_29_code 47 = .ok (.iconst 0, 1) := by decide +kernel
theorem d_R_ploughOf_48 : decode prog_8_method_29_code 48 = .ok (.goto (15), 3) := by decide +kernel
theorem d_R_ploughOf_51 : decode prog_8_method_29_code 51 = .ok (.iload_n 1, 1) := by decide +kernel
theorem d_R_ploughOf_52 : decode prog_8_method_29_code 52 = .ok (.bipush 119, 2) := by decide +kernel
theorem d_R_ploughOf_54 : decode prog_8_method_29_code 54 = .ok (.if_icmp .ne (7), 3) := by decide +kernel
theorem d_R_ploughOf_57 : decode prog_8_method_29_code 57 = .ok (.iconst 1, 1) := by decide +kernel
theorem d_R_ploughOf_58 : decode prog_8_method_29_code 58 = .ok (.goto (5), 3) := by decide +kernel
theorem d_R_ploughOf_61 : decode prog_8_method_29_code 61 = .ok (.bipush (-9), 2) := by decide +kernel
theorem d_R_ploughOf_63 : decode prog_8_method_29_code 63 = .ok (.ireturn, 1) := by decide +kernel
theorem d_R_ploughOf_64 : decode prog_8_method_29_code 64 = .ok (.iload_n 1, 1) := by decide +kernel
theorem d_R_ploughOf_65 : decode prog_8_method_29_code 65 = .ok (.bipush 59, 2) := by decide +kernel
theorem d_R_ploughOf_67 : decode prog_8_method_29_code 67 = .ok (.if_icmp .ne (7), 3) := by decide +kernel
theorem d_R_ploughOf_70 : decode prog_8_method_29_code 70 = .ok (.iconst 0, 1) := by decide +kernel
theorem d_R_ploughOf_71 : decode prog_8_method_29_code 71 = .ok (.goto (5), 3) := by decide +kernel
theorem d_R_ploughOf_74 : decode prog_8_method_29_code 74 = .ok (.bipush (-9), 2) := by decide +kernel
theorem d_R_ploughOf_76 : decode prog_8_method_29_code 76 = .ok (.ireturn, 1) := by decide +kernel
def pf_R_ploughOf (a0 : Int32) (a1 : Int32) : Int32 :=
  (if a0 = 0 then (pf_R_letterOf a1 108) else (if a0 = 1 then (pf_R_figureOf a1 1) else (if a0 = 2 then (if a1 = 101 then 0 else (if a1 = 119 then 1 else (-9))) else (if a1 = 59 then 0 else (-9)))))
set_option maxHeartbeats 4000000 in
set_option maxRecDepth 100000 in
theorem c_R_ploughOf {w : ZW} (hw0 : Zok w) (M : Mem) (a0 : Int32) (a1 : Int32) : CtI w y_R_ploughOf prog_8_method_29_code 2 (some .int) (rl 2) [.int a0, .int a1] M (fun r M2 => r = pf_R_ploughOf a0 a1 ∧ M = M2) := by
  refine z_metI hw0 (by decide) rfl (fun X C hr => ?_)
  show Zj X 2 w M 0 [(0, .int a0), (1, .int a1)] []
  refine z_iload_n C d_R_ploughOf_0 rfl 0 rfl ?_
  refine z_table C [28, 35, 41] 64 d_R_ploughOf_1 rfl rfl rfl (by decide) (fun k t hk hx => ?_) (fun hx => ?_)
  · rcases k with _ | _ | _ | k
    · cases hk
      have hp : a0 = 0 := hx
      refine z_iload_n C d_R_ploughOf_28 rfl 1 rfl ?_
      refine z_bipush (v := 108) C d_R_ploughOf_29 (by decide) ?_
      refine z_callSi C (As := [.int a1, .int 108]) (rest := []) m_R_letterOf tw_869 ⟨rfl, rfl⟩ (c_R_letterOf hw0 _ _ _) rfl rfl rfl d_R_ploughOf_31 (fun r M2 hq => ?_)
      obtain ⟨rfl, rfl⟩ := hq
      exact z_iret C hr ⟨by rw [pf_R_ploughOf, if_pos hp], rfl⟩ d_R_ploughOf_34
    · cases hk
      have hn0 : ¬ a0 = 0 := by rw [hx]; decide
      have hp : a0 = 1 := hx
      refine z_iload_n C d_R_ploughOf_35 rfl 1 rfl ?_
      refine z_iconst (v := 1) C d_R_ploughOf_36 (by decide) ?_
      refine z_callSi C (As := [.int a1, .int 1]) (rest := []) m_R_figureOf tw_858 ⟨rfl, rfl⟩ (c_R_figureOf hw0 _ _ _) rfl rfl rfl d_R_ploughOf_37 (fun r M2 hq => ?_)
      obtain ⟨rfl, rfl⟩ := hq
      exact z_iret C hr ⟨by rw [pf_R_ploughOf, if_neg hn0, if_pos hp], rfl⟩ d_R_ploughOf_40
    · cases hk
      have hn0 : ¬ a0 = 0 := by rw [hx]; decide
      have hn1 : ¬ a0 = 1 := by rw [hx]; decide
      have hp : a0 = 2 := hx
      refine z_iload_n C d_R_ploughOf_41 rfl 1 rfl ?_
      refine z_bipush (v := 101) C d_R_ploughOf_42 (by decide) ?_
      refine z_ic_ne C 51 d_R_ploughOf_44 (by decide) (fun h3 => ?_) (fun h3 => ?_)
      · refine z_iload_n C d_R_ploughOf_51 rfl 1 rfl ?_
        refine z_bipush (v := 119) C d_R_ploughOf_52 (by decide) ?_
        refine z_ic_ne C 61 d_R_ploughOf_54 (by decide) (fun h4 => ?_) (fun h4 => ?_)
        · refine z_bipush (v := (-9)) C d_R_ploughOf_61 (by decide) ?_
          exact z_iret C hr ⟨by rw [pf_R_ploughOf, if_neg hn0, if_neg hn1, if_pos hp, if_neg h3, if_neg h4], rfl⟩ d_R_ploughOf_63
        · refine z_iconst (v := 1) C d_R_ploughOf_57 (by decide) ?_
          refine z_goto C 63 d_R_ploughOf_58 (by decide) ?_
          exact z_iret C hr ⟨by rw [pf_R_ploughOf, if_neg hn0, if_neg hn1, if_pos hp, if_neg h3, if_pos h4], rfl⟩ d_R_ploughOf_63
      · refine z_iconst (v := 0) C d_R_ploughOf_47 (by decide) ?_
        refine z_goto C 63 d_R_ploughOf_48 (by decide) ?_
        exact z_iret C hr ⟨by rw [pf_R_ploughOf, if_neg hn0, if_neg hn1, if_pos hp, if_pos h3], rfl⟩ d_R_ploughOf_63
    · simp at hk
  · have hn0 : ¬ a0 = 0 := hx 0 (by decide)
    have hn1 : ¬ a0 = 1 := hx 1 (by decide)
    have hn2 : ¬ a0 = 2 := hx 2 (by decide)
    refine z_iload_n C d_R_ploughOf_64 rfl 1 rfl ?_
    refine z_bipush (v := 59) C d_R_ploughOf_65 (by decide) ?_
    refine z_ic_ne C 74 d_R_ploughOf_67 (by decide) (fun h5 => ?_) (fun h5 => ?_)
    · refine z_bipush (v := (-9)) C d_R_ploughOf_74 (by decide) ?_
      exact z_iret C hr ⟨by rw [pf_R_ploughOf, if_neg hn0, if_neg hn1, if_neg hn2, if_neg h5], rfl⟩ d_R_ploughOf_76
    · refine z_iconst (v := 0) C d_R_ploughOf_70 (by decide) ?_
      refine z_goto C 76 d_R_ploughOf_71 (by decide) ?_
      exact z_iret C hr ⟨by rw [pf_R_ploughOf, if_neg hn0, if_neg hn1, if_neg hn2, if_pos h5], rfl⟩ d_R_ploughOf_76
theorem d_X_forget_0 : decode prog_1_method_28_code 0 = .ok (.aload_n 0, 1) := by decide +kernel
theorem d_X_forget_1 : decode prog_1_method_28_code 1 = .ok (.getfield 25, 3) := by decide +kernel
theorem d_X_forget_4 : decode prog_1_method_28_code 4 = .ok (.getfield 217, 3) := by decide +kernel
theorem d_X_forget_7 : decode prog_1_method_28_code 7 = .ok (.istore_n 1, 1) := by decide +kernel
theorem d_X_forget_8 : decode prog_1_method_28_code 8 = .ok (.aload_n 0, 1) := by decide +kernel
theorem d_X_forget_9 : decode prog_1_method_28_code 9 = .ok (.getfield 25, 3) := by decide +kernel
theorem d_X_forget_12 : decode prog_1_method_28_code 12 = .ok (.iconst 0, 1) := by decide +kernel
theorem d_X_forget_13 : decode prog_1_method_28_code 13 = .ok (.putfield 217, 3) := by decide +kernel
theorem d_X_forget_16 : decode prog_1_method_28_code 16 = .ok (.iload_n 1, 1) := by decide +kernel
theorem d_X_forget_17 : decode prog_1_method_28_code 17 = .ok (.ireturn, 1) := by decide +kernel
def wp_X_forget (M : Mem) (post : Int32 → Mem → Prop) : Prop :=
  ∀ M1 : Mem, M1 = upm M 20 2 0 → post (M 20 2) M1
set_option maxHeartbeats 4000000 in
set_option maxRecDepth 100000 in
theorem c_X_forget (g : GX) {M : Mem} {post : Int32 → Mem → Prop} (hw : wp_X_forget M post) : CtI (oX g) y_X_forget prog_1_method_28_code 2 (some .int) (rl 0) [.ref (ax g 0)] M post := by
  refine z_metI (oX_ok g) (by decide) rfl (fun X C hr => ?_)
  show Zj X 2 (oX g) M 0 [(0, .ref (ax g 0))] []
  unfold wp_X_forget at hw
  refine z_aload_n C d_X_forget_0 rfl 0 rfl ?_
  refine gf_X_25 C d_X_forget_1 ?_
  refine gf_X_217 C d_X_forget_4 ?_
  refine z_istore_n (lv' := [(1, .int (M 20 2)), (0, .ref (ax g 0))]) C d_X_forget_7 rfl rfl rfl ?_
  refine z_aload_n C d_X_forget_8 rfl 1 rfl ?_
  refine gf_X_25 C d_X_forget_9 ?_
  refine z_iconst (v := 0) C d_X_forget_12 (by decide) ?_
  refine pp_X_217 C d_X_forget_13 (fun M1 hM1 => ?_)
  replace hw := hw M1 hM1
  refine z_iload_n C d_X_forget_16 rfl 0 rfl ?_
  exact z_iret C hr hw d_X_forget_17
theorem d_X_found_0 : decode prog_1_method_47_code 0 = .ok (.aload_n 0, 1) := by decide +kernel
theorem d_X_found_1 : decode prog_1_method_47_code 1 = .ok (.iload_n 1, 1) := by decide +kernel
theorem d_X_found_2 : decode prog_1_method_47_code 2 = .ok (.putfield 35, 3) := by decide +kernel
theorem d_X_found_5 : decode prog_1_method_47_code 5 = .ok (.bipush (-10), 2) := by decide +kernel
theorem d_X_found_7 : decode prog_1_method_47_code 7 = .ok (.iload_n 1, 1) := by decide +kernel
theorem d_X_found_8 : decode prog_1_method_47_code 8 = .ok (.isub, 1) := by decide +kernel
theorem d_X_found_9 : decode prog_1_method_47_code 9 = .ok (.ireturn, 1) := by decide +kernel
def wp_X_found (a1 : Int32) (M : Mem) (post : Int32 → Mem → Prop) : Prop :=
  ∀ M1 : Mem, M1 = upm M 0 4 a1 → post ((-10) - a1) M1
set_option maxHeartbeats 4000000 in
set_option maxRecDepth 100000 in
theorem c_X_found (g : GX) {a1 : Int32} {M : Mem} {post : Int32 → Mem → Prop} (hw : wp_X_found a1 M post) : CtI (oX g) y_X_found prog_1_method_47_code 2 (some .int) (rl 0) [.ref (ax g 0), .int a1] M post := by
  refine z_metI (oX_ok g) (by decide) rfl (fun X C hr => ?_)
  show Zj X 2 (oX g) M 0 [(0, .ref (ax g 0)), (1, .int a1)] []
  unfold wp_X_found at hw
  refine z_aload_n C d_X_found_0 rfl 0 rfl ?_
  refine z_iload_n C d_X_found_1 rfl 1 rfl ?_
  refine pp_X_35 C d_X_found_2 (fun M1 hM1 => ?_)
  replace hw := hw M1 hM1
  refine z_bipush (v := (-10)) C d_X_found_5 (by decide) ?_
  refine z_iload_n C d_X_found_7 rfl 1 rfl ?_
  refine z_isub C d_X_found_8 ?_
  exact z_iret C hr hw d_X_found_9
