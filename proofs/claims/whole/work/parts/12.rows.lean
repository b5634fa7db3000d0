/-! each decoded row by its place -/
theorem r_0_0 : sm_ic 0 0 = some (.aload_n 0, 0, 0, 0) := rfl
theorem r_0_1 : sm_ic 0 1 = some (.invokespecial 1, 9999, 0, 58) := rfl
theorem r_0_4 : sm_ic 0 4 = some (.aload_n 0, 0, 0, 0) := rfl
theorem r_0_5 : sm_ic 0 5 = some (.new 7, 5, 0, 61) := rfl
theorem r_0_8 : sm_ic 0 8 = some (.dup, 0, 0, 0) := rfl
theorem r_0_9 : sm_ic 0 9 = some (.invokespecial 9, 1, 1, 63) := rfl
theorem r_0_12 : sm_ic 0 12 = some (.putfield 10, 0, 0, 348) := rfl
theorem r_0_15 : sm_ic 0 15 = some (.aload_n 0, 0, 0, 0) := rfl
theorem r_0_16 : sm_ic 0 16 = some (.new 16, 2, 0, 75) := rfl
theorem r_0_19 : sm_ic 0 19 = some (.dup, 0, 0, 0) := rfl
theorem r_0_20 : sm_ic 0 20 = some (.invokespecial 18, 2, 1, 77) := rfl
theorem r_0_23 : sm_ic 0 23 = some (.putfield 19, 0, 1, 349) := rfl
theorem r_0_26 : sm_ic 0 26 = some (.aload_n 0, 0, 0, 0) := rfl
theorem r_0_27 : sm_ic 0 27 = some (.new 23, 1, 0, 92) := rfl
theorem r_0_30 : sm_ic 0 30 = some (.dup, 0, 0, 0) := rfl
theorem r_0_31 : sm_ic 0 31 = some (.invokespecial 25, 3, 1, 94) := rfl
theorem r_0_34 : sm_ic 0 34 = some (.putfield 26, 0, 2, 350) := rfl
theorem r_0_37 : sm_ic 0 37 = some (.aload_n 0, 0, 0, 0) := rfl
theorem r_0_38 : sm_ic 0 38 = some (.new 23, 1, 0, 92) := rfl
theorem r_0_41 : sm_ic 0 41 = some (.dup, 0, 0, 0) := rfl
theorem r_0_42 : sm_ic 0 42 = some (.invokespecial 25, 3, 1, 94) := rfl
theorem r_0_45 : sm_ic 0 45 = some (.putfield 30, 0, 3, 351) := rfl
theorem r_0_48 : sm_ic 0 48 = some (.aload_n 0, 0, 0, 0) := rfl
theorem r_0_49 : sm_ic 0 49 = some (.new 33, 3, 0, 129) := rfl
theorem r_0_52 : sm_ic 0 52 = some (.dup, 0, 0, 0) := rfl
theorem r_0_53 : sm_ic 0 53 = some (.invokespecial 35, 4, 1, 131) := rfl
theorem r_0_56 : sm_ic 0 56 = some (.putfield 36, 0, 4, 352) := rfl
theorem r_0_59 : sm_ic 0 59 = some (.aload_n 0, 0, 0, 0) := rfl
theorem r_0_60 : sm_ic 0 60 = some (.new 40, 4, 0, 151) := rfl
theorem r_0_63 : sm_ic 0 63 = some (.dup, 0, 0, 0) := rfl
theorem r_0_64 : sm_ic 0 64 = some (.bipush 8, 0, 0, 0) := rfl
theorem r_0_66 : sm_ic 0 66 = some (.invokespecial 42, 5, 2, 153) := rfl
theorem r_0_69 : sm_ic 0 69 = some (.putfield 45, 0, 5, 353) := rfl
theorem r_0_72 : sm_ic 0 72 = some (.aload_n 0, 0, 0, 0) := rfl
theorem r_0_73 : sm_ic 0 73 = some (.new 40, 4, 0, 151) := rfl
theorem r_0_76 : sm_ic 0 76 = some (.dup, 0, 0, 0) := rfl
theorem r_0_77 : sm_ic 0 77 = some (.iconst 2, 0, 0, 0) := rfl
theorem r_0_78 : sm_ic 0 78 = some (.invokespecial 42, 5, 2, 153) := rfl
theorem r_0_81 : sm_ic 0 81 = some (.putfield 49, 0, 6, 354) := rfl
theorem r_0_84 : sm_ic 0 84 = some (.aload_n 0, 0, 0, 0) := rfl
theorem r_0_85 : sm_ic 0 85 = some (.new 52, 6, 0, 168) := rfl
theorem r_0_88 : sm_ic 0 88 = some (.dup, 0, 0, 0) := rfl
theorem r_0_89 : sm_ic 0 89 = some (.invokespecial 54, 6, 1, 170) := rfl
theorem r_0_92 : sm_ic 0 92 = some (.putfield 55, 0, 7, 355) := rfl
theorem r_0_95 : sm_ic 0 95 = some (.aload_n 0, 0, 0, 0) := rfl
theorem r_0_96 : sm_ic 0 96 = some (.invokevirtual 59, 7, 1, 184) := rfl
theorem r_0_99 : sm_ic 0 99 = some (.return_, 0, 0, 0) := rfl
theorem r_1_0 : sm_ic 1 0 = some (.aload_n 0, 0, 0, 0) := rfl
theorem r_1_1 : sm_ic 1 1 = some (.invokespecial 3, 9999, 0, 66) := rfl
theorem r_1_4 : sm_ic 1 4 = some (.aload_n 0, 0, 0, 0) := rfl
theorem r_1_5 : sm_ic 1 5 = some (.sipush 200, 0, 0, 0) := rfl
theorem r_1_8 : sm_ic 1 8 = some (.newarray .char, 1, 0, 74) := rfl
theorem r_1_10 : sm_ic 1 10 = some (.putfield 9, 5, 0, 67) := rfl
theorem r_1_13 : sm_ic 1 13 = some (.return_, 0, 0, 0) := rfl
theorem r_2_0 : sm_ic 2 0 = some (.aload_n 0, 0, 0, 0) := rfl
theorem r_2_1 : sm_ic 2 1 = some (.invokespecial 3, 9999, 0, 80) := rfl
theorem r_2_4 : sm_ic 2 4 = some (.aload_n 0, 0, 0, 0) := rfl
theorem r_2_5 : sm_ic 2 5 = some (.iconst 4, 0, 0, 0) := rfl
theorem r_2_6 : sm_ic 2 6 = some (.newarray .int, 0, 0, 91) := rfl
theorem r_2_8 : sm_ic 2 8 = some (.putfield 9, 2, 0, 81) := rfl
theorem r_2_11 : sm_ic 2 11 = some (.return_, 0, 0, 0) := rfl
theorem r_3_0 : sm_ic 3 0 = some (.aload_n 0, 0, 0, 0) := rfl
theorem r_3_1 : sm_ic 3 1 = some (.invokespecial 3, 9999, 0, 97) := rfl
theorem r_3_4 : sm_ic 3 4 = some (.aload_n 0, 0, 0, 0) := rfl
theorem r_3_5 : sm_ic 3 5 = some (.bipush 8, 0, 0, 0) := rfl
theorem r_3_7 : sm_ic 3 7 = some (.newarray .int, 0, 0, 91) := rfl
theorem r_3_9 : sm_ic 3 9 = some (.putfield 9, 1, 0, 98) := rfl
theorem r_3_12 : sm_ic 3 12 = some (.aload_n 0, 0, 0, 0) := rfl
theorem r_3_13 : sm_ic 3 13 = some (.bipush 8, 0, 0, 0) := rfl
theorem r_3_15 : sm_ic 3 15 = some (.newarray .int, 0, 0, 91) := rfl
theorem r_3_17 : sm_ic 3 17 = some (.putfield 15, 1, 1, 99) := rfl
theorem r_3_20 : sm_ic 3 20 = some (.aload_n 0, 0, 0, 0) := rfl
theorem r_3_21 : sm_ic 3 21 = some (.iconst 5, 0, 0, 0) := rfl
theorem r_3_22 : sm_ic 3 22 = some (.newarray .int, 0, 0, 91) := rfl
theorem r_3_24 : sm_ic 3 24 = some (.putfield 18, 1, 2, 100) := rfl
theorem r_3_27 : sm_ic 3 27 = some (.return_, 0, 0, 0) := rfl
theorem r_4_0 : sm_ic 4 0 = some (.aload_n 0, 0, 0, 0) := rfl
theorem r_4_1 : sm_ic 4 1 = some (.invokespecial 3, 9999, 0, 134) := rfl
theorem r_4_4 : sm_ic 4 4 = some (.aload_n 0, 0, 0, 0) := rfl
theorem r_4_5 : sm_ic 4 5 = some (.bipush 8, 0, 0, 0) := rfl
theorem r_4_7 : sm_ic 4 7 = some (.newarray .int, 0, 0, 91) := rfl
theorem r_4_9 : sm_ic 4 9 = some (.putfield 9, 3, 0, 135) := rfl
theorem r_4_12 : sm_ic 4 12 = some (.return_, 0, 0, 0) := rfl
theorem r_5_0 : sm_ic 5 0 = some (.aload_n 0, 0, 0, 0) := rfl
theorem r_5_1 : sm_ic 5 1 = some (.invokespecial 1, 9999, 0, 156) := rfl
theorem r_5_4 : sm_ic 5 4 = some (.aload_n 0, 0, 0, 0) := rfl
theorem r_5_5 : sm_ic 5 5 = some (.iload_n 1, 0, 0, 0) := rfl
theorem r_5_6 : sm_ic 5 6 = some (.iconst 0, 0, 0, 0) := rfl
theorem r_5_7 : sm_ic 5 7 = some (.invokestatic 7, 9997, 0, 157) := rfl
theorem r_5_10 : sm_ic 5 10 = some (.newarray .long, 2, 0, 167) := rfl
theorem r_5_12 : sm_ic 5 12 = some (.putfield 13, 4, 0, 160) := rfl
theorem r_5_15 : sm_ic 5 15 = some (.return_, 0, 0, 0) := rfl
theorem r_6_0 : sm_ic 6 0 = some (.aload_n 0, 0, 0, 0) := rfl
theorem r_6_1 : sm_ic 6 1 = some (.invokespecial 3, 9999, 0, 173) := rfl
theorem r_6_4 : sm_ic 6 4 = some (.aload_n 0, 0, 0, 0) := rfl
theorem r_6_5 : sm_ic 6 5 = some (.bipush 8, 0, 0, 0) := rfl
theorem r_6_7 : sm_ic 6 7 = some (.newarray .int, 0, 0, 91) := rfl
theorem r_6_9 : sm_ic 6 9 = some (.putfield 9, 6, 0, 174) := rfl
theorem r_6_12 : sm_ic 6 12 = some (.aload_n 0, 0, 0, 0) := rfl
theorem r_6_13 : sm_ic 6 13 = some (.bipush 8, 0, 0, 0) := rfl
theorem r_6_15 : sm_ic 6 15 = some (.newarray .int, 0, 0, 91) := rfl
theorem r_6_17 : sm_ic 6 17 = some (.putfield 15, 6, 1, 175) := rfl
theorem r_6_20 : sm_ic 6 20 = some (.return_, 0, 0, 0) := rfl
theorem r_7_0 : sm_ic 7 0 = some (.iconst 0, 0, 0, 0) := rfl
theorem r_7_1 : sm_ic 7 1 = some (.istore_n 1, 0, 0, 0) := rfl
theorem r_7_2 : sm_ic 7 2 = some (.iload_n 1, 0, 0, 0) := rfl
theorem r_7_3 : sm_ic 7 3 = some (.ldc_w 258, 0, 0, 0) := rfl
theorem r_7_6 : sm_ic 7 6 = some (.invokevirtual 260, 8, 1, 189) := rfl
theorem r_7_9 : sm_ic 7 9 = some (.if_icmp .ge 24, 33, 0, 0) := rfl
theorem r_7_12 : sm_ic 7 12 = some (.aload_n 0, 0, 0, 0) := rfl
theorem r_7_13 : sm_ic 7 13 = some (.getfield 10, 0, 0, 348) := rfl
theorem r_7_16 : sm_ic 7 16 = some (.ldc_w 258, 0, 0, 0) := rfl
theorem r_7_19 : sm_ic 7 19 = some (.iload_n 1, 0, 0, 0) := rfl
theorem r_7_20 : sm_ic 7 20 = some (.invokevirtual 263, 10, 2, 199) := rfl
theorem r_7_23 : sm_ic 7 23 = some (.invokevirtual 62, 15, 2, 237) := rfl
theorem r_7_26 : sm_ic 7 26 = some (.pop, 0, 0, 0) := rfl
theorem r_7_27 : sm_ic 7 27 = some (.iinc 1 1, 0, 0, 0) := rfl
theorem r_7_30 : sm_ic 7 30 = some (.goto (-28), 2, 0, 0) := rfl
theorem r_7_33 : sm_ic 7 33 = some (.aload_n 0, 0, 0, 0) := rfl
theorem r_7_34 : sm_ic 7 34 = some (.getfield 26, 0, 2, 350) := rfl
theorem r_7_37 : sm_ic 7 37 = some (.aload_n 0, 0, 0, 0) := rfl
theorem r_7_38 : sm_ic 7 38 = some (.getfield 10, 0, 0, 348) := rfl
theorem r_7_41 : sm_ic 7 41 = some (.aload_n 0, 0, 0, 0) := rfl
theorem r_7_42 : sm_ic 7 42 = some (.getfield 19, 0, 1, 349) := rfl
theorem r_7_45 : sm_ic 7 45 = some (.invokevirtual 73, 16, 3, 241) := rfl
theorem r_7_48 : sm_ic 7 48 = some (.pop, 0, 0, 0) := rfl
theorem r_7_49 : sm_ic 7 49 = some (.aload_n 0, 0, 0, 0) := rfl
theorem r_7_50 : sm_ic 7 50 = some (.getfield 30, 0, 3, 351) := rfl
theorem r_7_53 : sm_ic 7 53 = some (.aload_n 0, 0, 0, 0) := rfl
theorem r_7_54 : sm_ic 7 54 = some (.getfield 26, 0, 2, 350) := rfl
theorem r_7_57 : sm_ic 7 57 = some (.invokevirtual 81, 38, 2, 324) := rfl
theorem r_7_60 : sm_ic 7 60 = some (.aload_n 0, 0, 0, 0) := rfl
theorem r_7_61 : sm_ic 7 61 = some (.aload_n 0, 0, 0, 0) := rfl
theorem r_7_62 : sm_ic 7 62 = some (.getfield 30, 0, 3, 351) := rfl
theorem r_7_65 : sm_ic 7 65 = some (.invokevirtual 85, 42, 1, 340) := rfl
theorem r_7_68 : sm_ic 7 68 = some (.putfield 89, 0, 8, 356) := rfl
theorem r_7_71 : sm_ic 7 71 = some (.aload_n 0, 0, 0, 0) := rfl
theorem r_7_72 : sm_ic 7 72 = some (.getfield 10, 0, 0, 348) := rfl
theorem r_7_75 : sm_ic 7 75 = some (.invokevirtual 70, 43, 1, 344) := rfl
theorem r_7_78 : sm_ic 7 78 = some (.return_, 0, 0, 0) := rfl
theorem r_8_0 : sm_ic 8 0 = some (.aload_n 0, 0, 0, 0) := rfl
theorem r_8_1 : sm_ic 8 1 = some (.getfield 9, 100, 1, 1043) := rfl
theorem r_8_4 : sm_ic 8 4 = some (.arraylength, 0, 0, 0) := rfl
theorem r_8_5 : sm_ic 8 5 = some (.aload_n 0, 0, 0, 0) := rfl
theorem r_8_6 : sm_ic 8 6 = some (.invokevirtual 335, 9, 1, 193) := rfl
theorem r_8_9 : sm_ic 8 9 = some (.ishr, 0, 0, 0) := rfl
theorem r_8_10 : sm_ic 8 10 = some (.ireturn, 0, 0, 0) := rfl
theorem r_9_0 : sm_ic 9 0 = some (.getstatic 38, 0, 0, 197) := rfl
theorem r_9_3 : sm_ic 9 3 = some (.ifCond .eq 10, 13, 0, 0) := rfl
theorem r_9_6 : sm_ic 9 6 = some (.aload_n 0, 0, 0, 0) := rfl
theorem r_9_7 : sm_ic 9 7 = some (.getfield 15, 100, 0, 1044) := rfl
theorem r_9_10 : sm_ic 9 10 = some (.goto 4, 14, 0, 0) := rfl
theorem r_9_13 : sm_ic 9 13 = some (.iconst 1, 0, 0, 0) := rfl
theorem r_9_14 : sm_ic 9 14 = some (.ireturn, 0, 0, 0) := rfl
theorem r_10_0 : sm_ic 10 0 = some (.aload_n 0, 0, 0, 0) := rfl
theorem r_10_1 : sm_ic 10 1 = some (.invokevirtual 492, 11, 1, 203) := rfl
theorem r_10_4 : sm_ic 10 4 = some (.ifCond .eq 12, 16, 0, 0) := rfl
theorem r_10_7 : sm_ic 10 7 = some (.aload_n 0, 0, 0, 0) := rfl
theorem r_10_8 : sm_ic 10 8 = some (.getfield 9, 100, 1, 1043) := rfl
theorem r_10_11 : sm_ic 10 11 = some (.iload_n 1, 0, 0, 0) := rfl
theorem r_10_12 : sm_ic 10 12 = some (.invokestatic 495, 12, 2, 207) := rfl
theorem r_10_15 : sm_ic 10 15 = some (.ireturn, 0, 0, 0) := rfl
theorem r_10_16 : sm_ic 10 16 = some (.aload_n 0, 0, 0, 0) := rfl
theorem r_10_17 : sm_ic 10 17 = some (.getfield 9, 100, 1, 1043) := rfl
theorem r_10_20 : sm_ic 10 20 = some (.iload_n 1, 0, 0, 0) := rfl
theorem r_10_21 : sm_ic 10 21 = some (.invokestatic 498, 9998, 0, 218) := rfl
theorem r_10_24 : sm_ic 10 24 = some (.ireturn, 0, 0, 0) := rfl
theorem r_11_0 : sm_ic 11 0 = some (.getstatic 38, 0, 0, 197) := rfl
theorem r_11_3 : sm_ic 11 3 = some (.ifCond .eq 14, 17, 0, 0) := rfl
theorem r_11_6 : sm_ic 11 6 = some (.aload_n 0, 0, 0, 0) := rfl
theorem r_11_7 : sm_ic 11 7 = some (.getfield 15, 100, 0, 1044) := rfl
theorem r_11_10 : sm_ic 11 10 = some (.ifCond .ne 7, 17, 0, 0) := rfl
theorem r_11_13 : sm_ic 11 13 = some (.iconst 1, 0, 0, 0) := rfl
theorem r_11_14 : sm_ic 11 14 = some (.goto 4, 18, 0, 0) := rfl
theorem r_11_17 : sm_ic 11 17 = some (.iconst 0, 0, 0, 0) := rfl
theorem r_11_18 : sm_ic 11 18 = some (.ireturn, 0, 0, 0) := rfl
theorem r_12_0 : sm_ic 12 0 = some (.iload_n 1, 0, 0, 0) := rfl
theorem r_12_1 : sm_ic 12 1 = some (.aload_n 0, 0, 0, 0) := rfl
theorem r_12_2 : sm_ic 12 2 = some (.arraylength, 0, 0, 0) := rfl
theorem r_12_3 : sm_ic 12 3 = some (.invokestatic 9, 13, 2, 210) := rfl
theorem r_12_6 : sm_ic 12 6 = some (.aload_n 0, 0, 0, 0) := rfl
theorem r_12_7 : sm_ic 12 7 = some (.iload_n 1, 0, 0, 0) := rfl
theorem r_12_8 : sm_ic 12 8 = some (.baload, 0, 0, 0) := rfl
theorem r_12_9 : sm_ic 12 9 = some (.sipush 255, 0, 0, 0) := rfl
theorem r_12_12 : sm_ic 12 12 = some (.iand, 0, 0, 0) := rfl
theorem r_12_13 : sm_ic 12 13 = some (.i2c, 0, 0, 0) := rfl
theorem r_12_14 : sm_ic 12 14 = some (.ireturn, 0, 0, 0) := rfl
theorem r_13_0 : sm_ic 13 0 = some (.iload_n 0, 0, 0, 0) := rfl
theorem r_13_1 : sm_ic 13 1 = some (.iload_n 1, 0, 0, 0) := rfl
theorem r_13_2 : sm_ic 13 2 = some (.getstatic 1053, 1, 0, 213) := rfl
theorem r_13_5 : sm_ic 13 5 = some (.invokestatic 1059, 14, 3, 215) := rfl
theorem r_13_8 : sm_ic 13 8 = some (.pop, 0, 0, 0) := rfl
theorem r_13_9 : sm_ic 13 9 = some (.return_, 0, 0, 0) := rfl
theorem r_15_0 : sm_ic 15 0 = some (.aload_n 0, 0, 0, 0) := rfl
theorem r_15_1 : sm_ic 15 1 = some (.getfield 15, 5, 1, 68) := rfl
theorem r_15_4 : sm_ic 15 4 = some (.ifCond .lt 15, 19, 0, 0) := rfl
theorem r_15_7 : sm_ic 15 7 = some (.aload_n 0, 0, 0, 0) := rfl
theorem r_15_8 : sm_ic 15 8 = some (.getfield 15, 5, 1, 68) := rfl
theorem r_15_11 : sm_ic 15 11 = some (.aload_n 0, 0, 0, 0) := rfl
theorem r_15_12 : sm_ic 15 12 = some (.getfield 9, 5, 0, 67) := rfl
theorem r_15_15 : sm_ic 15 15 = some (.arraylength, 0, 0, 0) := rfl
theorem r_15_16 : sm_ic 15 16 = some (.if_icmp .lt 5, 21, 0, 0) := rfl
theorem r_15_19 : sm_ic 15 19 = some (.iconst 0, 0, 0, 0) := rfl
theorem r_15_20 : sm_ic 15 20 = some (.ireturn, 0, 0, 0) := rfl
theorem r_15_21 : sm_ic 15 21 = some (.aload_n 0, 0, 0, 0) := rfl
theorem r_15_22 : sm_ic 15 22 = some (.getfield 9, 5, 0, 67) := rfl
theorem r_15_25 : sm_ic 15 25 = some (.aload_n 0, 0, 0, 0) := rfl
theorem r_15_26 : sm_ic 15 26 = some (.getfield 15, 5, 1, 68) := rfl
theorem r_15_29 : sm_ic 15 29 = some (.iload_n 1, 0, 0, 0) := rfl
theorem r_15_30 : sm_ic 15 30 = some (.i2c, 0, 0, 0) := rfl
theorem r_15_31 : sm_ic 15 31 = some (.castore, 0, 0, 0) := rfl
theorem r_15_32 : sm_ic 15 32 = some (.aload_n 0, 0, 0, 0) := rfl
theorem r_15_33 : sm_ic 15 33 = some (.dup, 0, 0, 0) := rfl
theorem r_15_34 : sm_ic 15 34 = some (.getfield 15, 5, 1, 68) := rfl
theorem r_15_37 : sm_ic 15 37 = some (.iconst 1, 0, 0, 0) := rfl
theorem r_15_38 : sm_ic 15 38 = some (.iadd, 0, 0, 0) := rfl
theorem r_15_39 : sm_ic 15 39 = some (.putfield 15, 5, 1, 68) := rfl
theorem r_15_42 : sm_ic 15 42 = some (.iconst 1, 0, 0, 0) := rfl
theorem r_15_43 : sm_ic 15 43 = some (.ireturn, 0, 0, 0) := rfl
theorem r_16_0 : sm_ic 16 0 = some (.aload_n 0, 0, 0, 0) := rfl
theorem r_16_1 : sm_ic 16 1 = some (.invokevirtual 21, 17, 1, 245) := rfl
theorem r_16_4 : sm_ic 16 4 = some (.iconst 0, 0, 0, 0) := rfl
theorem r_16_5 : sm_ic 16 5 = some (.istore_n 3, 0, 0, 0) := rfl
theorem r_16_6 : sm_ic 16 6 = some (.iconst 0, 0, 0, 0) := rfl
theorem r_16_7 : sm_ic 16 7 = some (.istore 4, 0, 0, 0) := rfl
theorem r_16_9 : sm_ic 16 9 = some (.iload 4, 0, 0, 0) := rfl
theorem r_16_11 : sm_ic 16 11 = some (.sipush 200, 0, 0, 0) := rfl
theorem r_16_14 : sm_ic 16 14 = some (.if_icmp .ge 41, 55, 0, 0) := rfl
theorem r_16_17 : sm_ic 16 17 = some (.iload_n 3, 0, 0, 0) := rfl
theorem r_16_18 : sm_ic 16 18 = some (.aload_n 1, 0, 0, 0) := rfl
theorem r_16_19 : sm_ic 16 19 = some (.invokevirtual 24, 20, 1, 257) := rfl
theorem r_16_22 : sm_ic 16 22 = some (.if_icmp .ge 33, 55, 0, 0) := rfl
theorem r_16_25 : sm_ic 16 25 = some (.aload_n 2, 0, 0, 0) := rfl
theorem r_16_26 : sm_ic 16 26 = some (.aload_n 1, 0, 0, 0) := rfl
theorem r_16_27 : sm_ic 16 27 = some (.iload_n 3, 0, 0, 0) := rfl
theorem r_16_28 : sm_ic 16 28 = some (.invokevirtual 30, 21, 3, 261) := rfl
theorem r_16_31 : sm_ic 16 31 = some (.ifCond .eq 11, 42, 0, 0) := rfl
theorem r_16_34 : sm_ic 16 34 = some (.aload_n 0, 0, 0, 0) := rfl
theorem r_16_35 : sm_ic 16 35 = some (.aload_n 2, 0, 0, 0) := rfl
theorem r_16_36 : sm_ic 16 36 = some (.invokevirtual 36, 29, 2, 290) := rfl
theorem r_16_39 : sm_ic 16 39 = some (.ifCond .ne 5, 44, 0, 0) := rfl
theorem r_16_42 : sm_ic 16 42 = some (.iload_n 3, 0, 0, 0) := rfl
theorem r_16_43 : sm_ic 16 43 = some (.ireturn, 0, 0, 0) := rfl
theorem r_16_44 : sm_ic 16 44 = some (.aload_n 2, 0, 0, 0) := rfl
theorem r_16_45 : sm_ic 16 45 = some (.invokevirtual 40, 37, 1, 320) := rfl
theorem r_16_48 : sm_ic 16 48 = some (.istore_n 3, 0, 0, 0) := rfl
theorem r_16_49 : sm_ic 16 49 = some (.iinc 4 1, 0, 0, 0) := rfl
theorem r_16_52 : sm_ic 16 52 = some (.goto (-43), 9, 0, 0) := rfl
theorem r_16_55 : sm_ic 16 55 = some (.bipush (-4), 0, 0, 0) := rfl
theorem r_16_57 : sm_ic 16 57 = some (.ireturn, 0, 0, 0) := rfl
theorem r_17_0 : sm_ic 17 0 = some (.iconst 0, 0, 0, 0) := rfl
theorem r_17_1 : sm_ic 17 1 = some (.istore_n 1, 0, 0, 0) := rfl
theorem r_17_2 : sm_ic 17 2 = some (.iload_n 1, 0, 0, 0) := rfl
theorem r_17_3 : sm_ic 17 3 = some (.bipush 8, 0, 0, 0) := rfl
theorem r_17_5 : sm_ic 17 5 = some (.if_icmp .ge 16, 21, 0, 0) := rfl
theorem r_17_8 : sm_ic 17 8 = some (.aload_n 0, 0, 0, 0) := rfl
theorem r_17_9 : sm_ic 17 9 = some (.iload_n 1, 0, 0, 0) := rfl
theorem r_17_10 : sm_ic 17 10 = some (.iconst 0, 0, 0, 0) := rfl
theorem r_17_11 : sm_ic 17 11 = some (.iconst 0, 0, 0, 0) := rfl
theorem r_17_12 : sm_ic 17 12 = some (.invokevirtual 64, 18, 4, 249) := rfl
theorem r_17_15 : sm_ic 17 15 = some (.iinc 1 1, 0, 0, 0) := rfl
theorem r_17_18 : sm_ic 17 18 = some (.goto (-16), 2, 0, 0) := rfl
theorem r_17_21 : sm_ic 17 21 = some (.iconst 0, 0, 0, 0) := rfl
theorem r_17_22 : sm_ic 17 22 = some (.istore_n 1, 0, 0, 0) := rfl
theorem r_17_23 : sm_ic 17 23 = some (.iload_n 1, 0, 0, 0) := rfl
theorem r_17_24 : sm_ic 17 24 = some (.iconst 5, 0, 0, 0) := rfl
theorem r_17_25 : sm_ic 17 25 = some (.if_icmp .ge 15, 40, 0, 0) := rfl
theorem r_17_28 : sm_ic 17 28 = some (.aload_n 0, 0, 0, 0) := rfl
theorem r_17_29 : sm_ic 17 29 = some (.iload_n 1, 0, 0, 0) := rfl
theorem r_17_30 : sm_ic 17 30 = some (.iconst 0, 0, 0, 0) := rfl
theorem r_17_31 : sm_ic 17 31 = some (.invokevirtual 71, 19, 3, 253) := rfl
theorem r_17_34 : sm_ic 17 34 = some (.iinc 1 1, 0, 0, 0) := rfl
theorem r_17_37 : sm_ic 17 37 = some (.goto (-14), 23, 0, 0) := rfl
theorem r_17_40 : sm_ic 17 40 = some (.aload_n 0, 0, 0, 0) := rfl
theorem r_17_41 : sm_ic 17 41 = some (.iconst 0, 0, 0, 0) := rfl
theorem r_17_42 : sm_ic 17 42 = some (.putfield 43, 1, 3, 101) := rfl
theorem r_17_45 : sm_ic 17 45 = some (.aload_n 0, 0, 0, 0) := rfl
theorem r_17_46 : sm_ic 17 46 = some (.iconst 0, 0, 0, 0) := rfl
theorem r_17_47 : sm_ic 17 47 = some (.putfield 75, 1, 4, 102) := rfl
theorem r_17_50 : sm_ic 17 50 = some (.aload_n 0, 0, 0, 0) := rfl
theorem r_17_51 : sm_ic 17 51 = some (.iconst 4, 0, 0, 0) := rfl
theorem r_17_52 : sm_ic 17 52 = some (.putfield 78, 1, 5, 103) := rfl
theorem r_17_55 : sm_ic 17 55 = some (.aload_n 0, 0, 0, 0) := rfl
theorem r_17_56 : sm_ic 17 56 = some (.iconst 0, 0, 0, 0) := rfl
theorem r_17_57 : sm_ic 17 57 = some (.putfield 81, 1, 6, 104) := rfl
theorem r_17_60 : sm_ic 17 60 = some (.aload_n 0, 0, 0, 0) := rfl
theorem r_17_61 : sm_ic 17 61 = some (.iconst 5, 0, 0, 0) := rfl
theorem r_17_62 : sm_ic 17 62 = some (.putfield 84, 1, 7, 105) := rfl
theorem r_17_65 : sm_ic 17 65 = some (.aload_n 0, 0, 0, 0) := rfl
theorem r_17_66 : sm_ic 17 66 = some (.iconst 3, 0, 0, 0) := rfl
theorem r_17_67 : sm_ic 17 67 = some (.putfield 87, 1, 8, 106) := rfl
theorem r_17_70 : sm_ic 17 70 = some (.aload_n 0, 0, 0, 0) := rfl
theorem r_17_71 : sm_ic 17 71 = some (.lconst 0, 0, 0, 0) := rfl
theorem r_17_72 : sm_ic 17 72 = some (.putfield 47, 1, 9, 107) := rfl
theorem r_17_75 : sm_ic 17 75 = some (.return_, 0, 0, 0) := rfl
theorem r_18_0 : sm_ic 18 0 = some (.iload_n 1, 0, 0, 0) := rfl
theorem r_18_1 : sm_ic 18 1 = some (.ifCond .lt 35, 36, 0, 0) := rfl
theorem r_18_4 : sm_ic 18 4 = some (.iload_n 1, 0, 0, 0) := rfl
theorem r_18_5 : sm_ic 18 5 = some (.aload_n 0, 0, 0, 0) := rfl
theorem r_18_6 : sm_ic 18 6 = some (.getfield 9, 1, 0, 98) := rfl
theorem r_18_9 : sm_ic 18 9 = some (.arraylength, 0, 0, 0) := rfl
theorem r_18_10 : sm_ic 18 10 = some (.if_icmp .ge 26, 36, 0, 0) := rfl
theorem r_18_13 : sm_ic 18 13 = some (.iload_n 1, 0, 0, 0) := rfl
theorem r_18_14 : sm_ic 18 14 = some (.aload_n 0, 0, 0, 0) := rfl
theorem r_18_15 : sm_ic 18 15 = some (.getfield 15, 1, 1, 99) := rfl
theorem r_18_18 : sm_ic 18 18 = some (.arraylength, 0, 0, 0) := rfl
theorem r_18_19 : sm_ic 18 19 = some (.if_icmp .ge 17, 36, 0, 0) := rfl
theorem r_18_22 : sm_ic 18 22 = some (.aload_n 0, 0, 0, 0) := rfl
theorem r_18_23 : sm_ic 18 23 = some (.getfield 9, 1, 0, 98) := rfl
theorem r_18_26 : sm_ic 18 26 = some (.iload_n 1, 0, 0, 0) := rfl
theorem r_18_27 : sm_ic 18 27 = some (.iload_n 2, 0, 0, 0) := rfl
theorem r_18_28 : sm_ic 18 28 = some (.iastore, 0, 0, 0) := rfl
theorem r_18_29 : sm_ic 18 29 = some (.aload_n 0, 0, 0, 0) := rfl
theorem r_18_30 : sm_ic 18 30 = some (.getfield 15, 1, 1, 99) := rfl
theorem r_18_33 : sm_ic 18 33 = some (.iload_n 1, 0, 0, 0) := rfl
theorem r_18_34 : sm_ic 18 34 = some (.iload_n 3, 0, 0, 0) := rfl
theorem r_18_35 : sm_ic 18 35 = some (.iastore, 0, 0, 0) := rfl
theorem r_18_36 : sm_ic 18 36 = some (.return_, 0, 0, 0) := rfl
theorem r_19_0 : sm_ic 19 0 = some (.iload_n 1, 0, 0, 0) := rfl
theorem r_19_1 : sm_ic 19 1 = some (.ifCond .lt 19, 20, 0, 0) := rfl
theorem r_19_4 : sm_ic 19 4 = some (.iload_n 1, 0, 0, 0) := rfl
theorem r_19_5 : sm_ic 19 5 = some (.aload_n 0, 0, 0, 0) := rfl
theorem r_19_6 : sm_ic 19 6 = some (.getfield 18, 1, 2, 100) := rfl
theorem r_19_9 : sm_ic 19 9 = some (.arraylength, 0, 0, 0) := rfl
theorem r_19_10 : sm_ic 19 10 = some (.if_icmp .ge 10, 20, 0, 0) := rfl
theorem r_19_13 : sm_ic 19 13 = some (.aload_n 0, 0, 0, 0) := rfl
theorem r_19_14 : sm_ic 19 14 = some (.getfield 18, 1, 2, 100) := rfl
theorem r_19_17 : sm_ic 19 17 = some (.iload_n 1, 0, 0, 0) := rfl
theorem r_19_18 : sm_ic 19 18 = some (.iload_n 2, 0, 0, 0) := rfl
theorem r_19_19 : sm_ic 19 19 = some (.iastore, 0, 0, 0) := rfl
theorem r_19_20 : sm_ic 19 20 = some (.return_, 0, 0, 0) := rfl
theorem r_20_0 : sm_ic 20 0 = some (.aload_n 0, 0, 0, 0) := rfl
theorem r_20_1 : sm_ic 20 1 = some (.getfield 15, 5, 1, 68) := rfl
theorem r_20_4 : sm_ic 20 4 = some (.ireturn, 0, 0, 0) := rfl
theorem r_21_0 : sm_ic 21 0 = some (.aload_n 0, 0, 0, 0) := rfl
theorem r_21_1 : sm_ic 21 1 = some (.aload_n 1, 0, 0, 0) := rfl
theorem r_21_2 : sm_ic 21 2 = some (.iload_n 2, 0, 0, 0) := rfl
theorem r_21_3 : sm_ic 21 3 = some (.invokevirtual 15, 22, 2, 265) := rfl
theorem r_21_6 : sm_ic 21 6 = some (.putfield 21, 2, 1, 82) := rfl
theorem r_21_9 : sm_ic 21 9 = some (.aload_n 0, 0, 0, 0) := rfl
theorem r_21_10 : sm_ic 21 10 = some (.getfield 21, 2, 1, 82) := rfl
theorem r_21_13 : sm_ic 21 13 = some (.invokestatic 25, 23, 1, 269) := rfl
theorem r_21_16 : sm_ic 21 16 = some (.istore_n 3, 0, 0, 0) := rfl
theorem r_21_17 : sm_ic 21 17 = some (.iload_n 2, 0, 0, 0) := rfl
theorem r_21_18 : sm_ic 21 18 = some (.iconst 1, 0, 0, 0) := rfl
theorem r_21_19 : sm_ic 21 19 = some (.iadd, 0, 0, 0) := rfl
theorem r_21_20 : sm_ic 21 20 = some (.istore 4, 0, 0, 0) := rfl
theorem r_21_22 : sm_ic 21 22 = some (.iconst 0, 0, 0, 0) := rfl
theorem r_21_23 : sm_ic 21 23 = some (.istore 5, 0, 0, 0) := rfl
theorem r_21_25 : sm_ic 21 25 = some (.iload 5, 0, 0, 0) := rfl
theorem r_21_27 : sm_ic 21 27 = some (.iload_n 3, 0, 0, 0) := rfl
theorem r_21_28 : sm_ic 21 28 = some (.if_icmp .ge 115, 143, 0, 0) := rfl
theorem r_21_31 : sm_ic 21 31 = some (.iload 5, 0, 0, 0) := rfl
theorem r_21_33 : sm_ic 21 33 = some (.aload_n 0, 0, 0, 0) := rfl
theorem r_21_34 : sm_ic 21 34 = some (.getfield 9, 2, 0, 81) := rfl
theorem r_21_37 : sm_ic 21 37 = some (.arraylength, 0, 0, 0) := rfl
theorem r_21_38 : sm_ic 21 38 = some (.if_icmp .ge 105, 143, 0, 0) := rfl
theorem r_21_41 : sm_ic 21 41 = some (.aload_n 1, 0, 0, 0) := rfl
theorem r_21_42 : sm_ic 21 42 = some (.iload 4, 0, 0, 0) := rfl
theorem r_21_44 : sm_ic 21 44 = some (.invokevirtual 28, 24, 2, 272) := rfl
theorem r_21_47 : sm_ic 21 47 = some (.istore 6, 0, 0, 0) := rfl
theorem r_21_49 : sm_ic 21 49 = some (.aload_n 1, 0, 0, 0) := rfl
theorem r_21_50 : sm_ic 21 50 = some (.iload 4, 0, 0, 0) := rfl
theorem r_21_52 : sm_ic 21 52 = some (.iload 6, 0, 0, 0) := rfl
theorem r_21_54 : sm_ic 21 54 = some (.invokevirtual 31, 26, 3, 280) := rfl
theorem r_21_57 : sm_ic 21 57 = some (.istore 7, 0, 0, 0) := rfl
theorem r_21_59 : sm_ic 21 59 = some (.iload 6, 0, 0, 0) := rfl
theorem r_21_61 : sm_ic 21 61 = some (.ifCond .eq 29, 90, 0, 0) := rfl
theorem r_21_64 : sm_ic 21 64 = some (.iload 7, 0, 0, 0) := rfl
theorem r_21_66 : sm_ic 21 66 = some (.aload_n 0, 0, 0, 0) := rfl
theorem r_21_67 : sm_ic 21 67 = some (.getfield 21, 2, 1, 82) := rfl
theorem r_21_70 : sm_ic 21 70 = some (.invokestatic 35, 27, 1, 284) := rfl
theorem r_21_73 : sm_ic 21 73 = some (.if_icmp .lt 17, 90, 0, 0) := rfl
theorem r_21_76 : sm_ic 21 76 = some (.iload 7, 0, 0, 0) := rfl
theorem r_21_78 : sm_ic 21 78 = some (.aload_n 0, 0, 0, 0) := rfl
theorem r_21_79 : sm_ic 21 79 = some (.getfield 21, 2, 1, 82) := rfl
theorem r_21_82 : sm_ic 21 82 = some (.iload 5, 0, 0, 0) := rfl
theorem r_21_84 : sm_ic 21 84 = some (.invokestatic 38, 28, 2, 287) := rfl
theorem r_21_87 : sm_ic 21 87 = some (.if_icmp .le 5, 92, 0, 0) := rfl
theorem r_21_90 : sm_ic 21 90 = some (.iconst 0, 0, 0, 0) := rfl
theorem r_21_91 : sm_ic 21 91 = some (.ireturn, 0, 0, 0) := rfl
theorem r_21_92 : sm_ic 21 92 = some (.iload 4, 0, 0, 0) := rfl
theorem r_21_94 : sm_ic 21 94 = some (.iload 6, 0, 0, 0) := rfl
theorem r_21_96 : sm_ic 21 96 = some (.iadd, 0, 0, 0) := rfl
theorem r_21_97 : sm_ic 21 97 = some (.istore 4, 0, 0, 0) := rfl
theorem r_21_99 : sm_ic 21 99 = some (.aload_n 1, 0, 0, 0) := rfl
theorem r_21_100 : sm_ic 21 100 = some (.iload 4, 0, 0, 0) := rfl
theorem r_21_102 : sm_ic 21 102 = some (.invokevirtual 15, 22, 2, 265) := rfl
theorem r_21_105 : sm_ic 21 105 = some (.iload 5, 0, 0, 0) := rfl
theorem r_21_107 : sm_ic 21 107 = some (.iconst 1, 0, 0, 0) := rfl
theorem r_21_108 : sm_ic 21 108 = some (.iadd, 0, 0, 0) := rfl
theorem r_21_109 : sm_ic 21 109 = some (.iload_n 3, 0, 0, 0) := rfl
theorem r_21_110 : sm_ic 21 110 = some (.if_icmp .ge 8, 118, 0, 0) := rfl
theorem r_21_113 : sm_ic 21 113 = some (.bipush 44, 0, 0, 0) := rfl
theorem r_21_115 : sm_ic 21 115 = some (.goto 5, 120, 0, 0) := rfl
theorem r_21_118 : sm_ic 21 118 = some (.bipush 59, 0, 0, 0) := rfl
theorem r_21_120 : sm_ic 21 120 = some (.if_icmp .eq 5, 125, 0, 0) := rfl
theorem r_21_123 : sm_ic 21 123 = some (.iconst 0, 0, 0, 0) := rfl
theorem r_21_124 : sm_ic 21 124 = some (.ireturn, 0, 0, 0) := rfl
theorem r_21_125 : sm_ic 21 125 = some (.iinc 4 1, 0, 0, 0) := rfl
theorem r_21_128 : sm_ic 21 128 = some (.aload_n 0, 0, 0, 0) := rfl
theorem r_21_129 : sm_ic 21 129 = some (.getfield 9, 2, 0, 81) := rfl
theorem r_21_132 : sm_ic 21 132 = some (.iload 5, 0, 0, 0) := rfl
theorem r_21_134 : sm_ic 21 134 = some (.iload 7, 0, 0, 0) := rfl
theorem r_21_136 : sm_ic 21 136 = some (.iastore, 0, 0, 0) := rfl
theorem r_21_137 : sm_ic 21 137 = some (.iinc 5 1, 0, 0, 0) := rfl
theorem r_21_140 : sm_ic 21 140 = some (.goto (-115), 25, 0, 0) := rfl
theorem r_21_143 : sm_ic 21 143 = some (.aload_n 0, 0, 0, 0) := rfl
theorem r_21_144 : sm_ic 21 144 = some (.iload 4, 0, 0, 0) := rfl
theorem r_21_146 : sm_ic 21 146 = some (.putfield 41, 2, 2, 83) := rfl
theorem r_21_149 : sm_ic 21 149 = some (.iload_n 3, 0, 0, 0) := rfl
theorem r_21_150 : sm_ic 21 150 = some (.ifCond .le 7, 157, 0, 0) := rfl
theorem r_21_153 : sm_ic 21 153 = some (.iconst 1, 0, 0, 0) := rfl
theorem r_21_154 : sm_ic 21 154 = some (.goto 4, 158, 0, 0) := rfl
theorem r_21_157 : sm_ic 21 157 = some (.iconst 0, 0, 0, 0) := rfl
theorem r_21_158 : sm_ic 21 158 = some (.ireturn, 0, 0, 0) := rfl
theorem r_22_0 : sm_ic 22 0 = some (.iload_n 1, 0, 0, 0) := rfl
theorem r_22_1 : sm_ic 22 1 = some (.ifCond .lt 29, 30, 0, 0) := rfl
theorem r_22_4 : sm_ic 22 4 = some (.iload_n 1, 0, 0, 0) := rfl
theorem r_22_5 : sm_ic 22 5 = some (.aload_n 0, 0, 0, 0) := rfl
theorem r_22_6 : sm_ic 22 6 = some (.getfield 15, 5, 1, 68) := rfl
theorem r_22_9 : sm_ic 22 9 = some (.if_icmp .ge 21, 30, 0, 0) := rfl
theorem r_22_12 : sm_ic 22 12 = some (.iload_n 1, 0, 0, 0) := rfl
theorem r_22_13 : sm_ic 22 13 = some (.aload_n 0, 0, 0, 0) := rfl
theorem r_22_14 : sm_ic 22 14 = some (.getfield 9, 5, 0, 67) := rfl
theorem r_22_17 : sm_ic 22 17 = some (.arraylength, 0, 0, 0) := rfl
theorem r_22_18 : sm_ic 22 18 = some (.if_icmp .ge 12, 30, 0, 0) := rfl
theorem r_22_21 : sm_ic 22 21 = some (.aload_n 0, 0, 0, 0) := rfl
theorem r_22_22 : sm_ic 22 22 = some (.getfield 9, 5, 0, 67) := rfl
theorem r_22_25 : sm_ic 22 25 = some (.iload_n 1, 0, 0, 0) := rfl
theorem r_22_26 : sm_ic 22 26 = some (.caload, 0, 0, 0) := rfl
theorem r_22_27 : sm_ic 22 27 = some (.goto 4, 31, 0, 0) := rfl
theorem r_22_30 : sm_ic 22 30 = some (.iconst 0, 0, 0, 0) := rfl
theorem r_22_31 : sm_ic 22 31 = some (.ireturn, 0, 0, 0) := rfl
theorem r_23_0 : sm_ic 23 0 = some (.iload_n 0, 0, 0, 0) := rfl
theorem r_23_1 : sm_ic 23 1 = some (.tableswitch 91 98 115 #[89, 91, 89, 91, 91, 91, 89, 87, 91, 91, 91, 89, 91, 91, 91, 91, 91, 89], 0, 0, 0) := rfl
theorem r_23_88 : sm_ic 23 88 = some (.iconst 4, 0, 0, 0) := rfl
theorem r_23_89 : sm_ic 23 89 = some (.ireturn, 0, 0, 0) := rfl
theorem r_23_90 : sm_ic 23 90 = some (.iconst 1, 0, 0, 0) := rfl
theorem r_23_91 : sm_ic 23 91 = some (.ireturn, 0, 0, 0) := rfl
theorem r_23_92 : sm_ic 23 92 = some (.iconst 0, 0, 0, 0) := rfl
theorem r_23_93 : sm_ic 23 93 = some (.ireturn, 0, 0, 0) := rfl
theorem r_24_0 : sm_ic 24 0 = some (.aload_n 0, 0, 0, 0) := rfl
theorem r_24_1 : sm_ic 24 1 = some (.iload_n 1, 0, 0, 0) := rfl
theorem r_24_2 : sm_ic 24 2 = some (.invokevirtual 19, 22, 2, 276) := rfl
theorem r_24_5 : sm_ic 24 5 = some (.invokestatic 23, 25, 1, 277) := rfl
theorem r_24_8 : sm_ic 24 8 = some (.ifCond .ne 5, 13, 0, 0) := rfl
theorem r_24_11 : sm_ic 24 11 = some (.iconst 0, 0, 0, 0) := rfl
theorem r_24_12 : sm_ic 24 12 = some (.ireturn, 0, 0, 0) := rfl
theorem r_24_13 : sm_ic 24 13 = some (.aload_n 0, 0, 0, 0) := rfl
theorem r_24_14 : sm_ic 24 14 = some (.iload_n 1, 0, 0, 0) := rfl
theorem r_24_15 : sm_ic 24 15 = some (.iconst 1, 0, 0, 0) := rfl
theorem r_24_16 : sm_ic 24 16 = some (.iadd, 0, 0, 0) := rfl
theorem r_24_17 : sm_ic 24 17 = some (.invokevirtual 19, 22, 2, 276) := rfl
theorem r_24_20 : sm_ic 24 20 = some (.invokestatic 23, 25, 1, 277) := rfl
theorem r_24_23 : sm_ic 24 23 = some (.ifCond .eq 7, 30, 0, 0) := rfl
theorem r_24_26 : sm_ic 24 26 = some (.iconst 2, 0, 0, 0) := rfl
theorem r_24_27 : sm_ic 24 27 = some (.goto 4, 31, 0, 0) := rfl
theorem r_24_30 : sm_ic 24 30 = some (.iconst 1, 0, 0, 0) := rfl
theorem r_24_31 : sm_ic 24 31 = some (.ireturn, 0, 0, 0) := rfl
theorem r_25_0 : sm_ic 25 0 = some (.iload_n 0, 0, 0, 0) := rfl
theorem r_25_1 : sm_ic 25 1 = some (.bipush 48, 0, 0, 0) := rfl
theorem r_25_3 : sm_ic 25 3 = some (.if_icmp .lt 13, 16, 0, 0) := rfl
theorem r_25_6 : sm_ic 25 6 = some (.iload_n 0, 0, 0, 0) := rfl
theorem r_25_7 : sm_ic 25 7 = some (.bipush 57, 0, 0, 0) := rfl
theorem r_25_9 : sm_ic 25 9 = some (.if_icmp .gt 7, 16, 0, 0) := rfl
theorem r_25_12 : sm_ic 25 12 = some (.iconst 1, 0, 0, 0) := rfl
theorem r_25_13 : sm_ic 25 13 = some (.goto 4, 17, 0, 0) := rfl
theorem r_25_16 : sm_ic 25 16 = some (.iconst 0, 0, 0, 0) := rfl
theorem r_25_17 : sm_ic 25 17 = some (.ireturn, 0, 0, 0) := rfl
theorem r_26_0 : sm_ic 26 0 = some (.aload_n 0, 0, 0, 0) := rfl
theorem r_26_1 : sm_ic 26 1 = some (.iload_n 1, 0, 0, 0) := rfl
theorem r_26_2 : sm_ic 26 2 = some (.invokevirtual 19, 22, 2, 276) := rfl
theorem r_26_5 : sm_ic 26 5 = some (.bipush 48, 0, 0, 0) := rfl
theorem r_26_7 : sm_ic 26 7 = some (.isub, 0, 0, 0) := rfl
theorem r_26_8 : sm_ic 26 8 = some (.istore_n 3, 0, 0, 0) := rfl
theorem r_26_9 : sm_ic 26 9 = some (.iload_n 2, 0, 0, 0) := rfl
theorem r_26_10 : sm_ic 26 10 = some (.iconst 2, 0, 0, 0) := rfl
theorem r_26_11 : sm_ic 26 11 = some (.if_icmp .ne 21, 32, 0, 0) := rfl
theorem r_26_14 : sm_ic 26 14 = some (.bipush 10, 0, 0, 0) := rfl
theorem r_26_16 : sm_ic 26 16 = some (.iload_n 3, 0, 0, 0) := rfl
theorem r_26_17 : sm_ic 26 17 = some (.imul, 0, 0, 0) := rfl
theorem r_26_18 : sm_ic 26 18 = some (.aload_n 0, 0, 0, 0) := rfl
theorem r_26_19 : sm_ic 26 19 = some (.iload_n 1, 0, 0, 0) := rfl
theorem r_26_20 : sm_ic 26 20 = some (.iconst 1, 0, 0, 0) := rfl
theorem r_26_21 : sm_ic 26 21 = some (.iadd, 0, 0, 0) := rfl
theorem r_26_22 : sm_ic 26 22 = some (.invokevirtual 19, 22, 2, 276) := rfl
theorem r_26_25 : sm_ic 26 25 = some (.iadd, 0, 0, 0) := rfl
theorem r_26_26 : sm_ic 26 26 = some (.bipush 48, 0, 0, 0) := rfl
theorem r_26_28 : sm_ic 26 28 = some (.isub, 0, 0, 0) := rfl
theorem r_26_29 : sm_ic 26 29 = some (.goto 4, 33, 0, 0) := rfl
theorem r_26_32 : sm_ic 26 32 = some (.iload_n 3, 0, 0, 0) := rfl
theorem r_26_33 : sm_ic 26 33 = some (.ireturn, 0, 0, 0) := rfl
theorem r_27_0 : sm_ic 27 0 = some (.iload_n 0, 0, 0, 0) := rfl
theorem r_27_1 : sm_ic 27 1 = some (.bipush 98, 0, 0, 0) := rfl
theorem r_27_3 : sm_ic 27 3 = some (.if_icmp .eq 9, 12, 0, 0) := rfl
theorem r_27_6 : sm_ic 27 6 = some (.iload_n 0, 0, 0, 0) := rfl
theorem r_27_7 : sm_ic 27 7 = some (.bipush 104, 0, 0, 0) := rfl
theorem r_27_9 : sm_ic 27 9 = some (.if_icmp .ne 7, 16, 0, 0) := rfl
theorem r_27_12 : sm_ic 27 12 = some (.iconst 1, 0, 0, 0) := rfl
theorem r_27_13 : sm_ic 27 13 = some (.goto 4, 17, 0, 0) := rfl
theorem r_27_16 : sm_ic 27 16 = some (.iconst 0, 0, 0, 0) := rfl
theorem r_27_17 : sm_ic 27 17 = some (.ireturn, 0, 0, 0) := rfl
theorem r_28_0 : sm_ic 28 0 = some (.iload_n 0, 0, 0, 0) := rfl
theorem r_28_1 : sm_ic 28 1 = some (.tableswitch 97 98 109 #[85, 97, 88, 97, 97, 97, 94, 63, 97, 97, 97, 91], 0, 0, 0) := rfl
theorem r_28_64 : sm_ic 28 64 = some (.iload_n 1, 0, 0, 0) := rfl
theorem r_28_65 : sm_ic 28 65 = some (.iconst 2, 0, 0, 0) := rfl
theorem r_28_66 : sm_ic 28 66 = some (.if_icmp .ge 7, 73, 0, 0) := rfl
theorem r_28_69 : sm_ic 28 69 = some (.iconst 3, 0, 0, 0) := rfl
theorem r_28_70 : sm_ic 28 70 = some (.goto 15, 85, 0, 0) := rfl
theorem r_28_73 : sm_ic 28 73 = some (.iload_n 1, 0, 0, 0) := rfl
theorem r_28_74 : sm_ic 28 74 = some (.iconst 2, 0, 0, 0) := rfl
theorem r_28_75 : sm_ic 28 75 = some (.if_icmp .ne 8, 83, 0, 0) := rfl
theorem r_28_78 : sm_ic 28 78 = some (.bipush 7, 0, 0, 0) := rfl
theorem r_28_80 : sm_ic 28 80 = some (.goto 5, 85, 0, 0) := rfl
theorem r_28_83 : sm_ic 28 83 = some (.bipush 9, 0, 0, 0) := rfl
theorem r_28_85 : sm_ic 28 85 = some (.ireturn, 0, 0, 0) := rfl
theorem r_28_86 : sm_ic 28 86 = some (.bipush 8, 0, 0, 0) := rfl
theorem r_28_88 : sm_ic 28 88 = some (.ireturn, 0, 0, 0) := rfl
theorem r_28_89 : sm_ic 28 89 = some (.bipush 9, 0, 0, 0) := rfl
theorem r_28_91 : sm_ic 28 91 = some (.ireturn, 0, 0, 0) := rfl
theorem r_28_92 : sm_ic 28 92 = some (.bipush 40, 0, 0, 0) := rfl
theorem r_28_94 : sm_ic 28 94 = some (.ireturn, 0, 0, 0) := rfl
theorem r_28_95 : sm_ic 28 95 = some (.bipush 9, 0, 0, 0) := rfl
theorem r_28_97 : sm_ic 28 97 = some (.ireturn, 0, 0, 0) := rfl
theorem r_28_98 : sm_ic 28 98 = some (.bipush 10, 0, 0, 0) := rfl
theorem r_28_100 : sm_ic 28 100 = some (.ireturn, 0, 0, 0) := rfl
theorem r_29_0 : sm_ic 29 0 = some (.aload_n 1, 0, 0, 0) := rfl
theorem r_29_1 : sm_ic 29 1 = some (.iconst 0, 0, 0, 0) := rfl
theorem r_29_2 : sm_ic 29 2 = some (.invokevirtual 101, 30, 2, 294) := rfl
theorem r_29_5 : sm_ic 29 5 = some (.istore_n 2, 0, 0, 0) := rfl
theorem r_29_6 : sm_ic 29 6 = some (.aload_n 1, 0, 0, 0) := rfl
theorem r_29_7 : sm_ic 29 7 = some (.invokevirtual 104, 31, 1, 298) := rfl
theorem r_29_10 : sm_ic 29 10 = some (.tableswitch 126 98 115 #[92, 126, 98, 126, 126, 126, 112, 86, 126, 126, 126, 105, 126, 126, 126, 126, 126, 119], 0, 0, 0) := rfl
theorem r_29_96 : sm_ic 29 96 = some (.aload_n 0, 0, 0, 0) := rfl
theorem r_29_97 : sm_ic 29 97 = some (.aload_n 1, 0, 0, 0) := rfl
theorem r_29_98 : sm_ic 29 98 = some (.invokevirtual 107, 32, 2, 302) := rfl
theorem r_29_101 : sm_ic 29 101 = some (.ireturn, 0, 0, 0) := rfl
theorem r_29_102 : sm_ic 29 102 = some (.aload_n 0, 0, 0, 0) := rfl
theorem r_29_103 : sm_ic 29 103 = some (.iload_n 2, 0, 0, 0) := rfl
theorem r_29_104 : sm_ic 29 104 = some (.invokevirtual 110, 36, 2, 316) := rfl
theorem r_29_107 : sm_ic 29 107 = some (.ireturn, 0, 0, 0) := rfl
theorem r_29_108 : sm_ic 29 108 = some (.aload_n 0, 0, 0, 0) := rfl
theorem r_29_109 : sm_ic 29 109 = some (.iload_n 2, 0, 0, 0) := rfl
theorem r_29_110 : sm_ic 29 110 = some (.putfield 78, 1, 5, 103) := rfl
theorem r_29_113 : sm_ic 29 113 = some (.iconst 1, 0, 0, 0) := rfl
theorem r_29_114 : sm_ic 29 114 = some (.ireturn, 0, 0, 0) := rfl
theorem r_29_115 : sm_ic 29 115 = some (.aload_n 0, 0, 0, 0) := rfl
theorem r_29_116 : sm_ic 29 116 = some (.iload_n 2, 0, 0, 0) := rfl
theorem r_29_117 : sm_ic 29 117 = some (.putfield 81, 1, 6, 104) := rfl
theorem r_29_120 : sm_ic 29 120 = some (.iconst 1, 0, 0, 0) := rfl
theorem r_29_121 : sm_ic 29 121 = some (.ireturn, 0, 0, 0) := rfl
theorem r_29_122 : sm_ic 29 122 = some (.aload_n 0, 0, 0, 0) := rfl
theorem r_29_123 : sm_ic 29 123 = some (.iload_n 2, 0, 0, 0) := rfl
theorem r_29_124 : sm_ic 29 124 = some (.putfield 84, 1, 7, 105) := rfl
theorem r_29_127 : sm_ic 29 127 = some (.iconst 1, 0, 0, 0) := rfl
theorem r_29_128 : sm_ic 29 128 = some (.ireturn, 0, 0, 0) := rfl
theorem r_29_129 : sm_ic 29 129 = some (.aload_n 0, 0, 0, 0) := rfl
theorem r_29_130 : sm_ic 29 130 = some (.iload_n 2, 0, 0, 0) := rfl
theorem r_29_131 : sm_ic 29 131 = some (.putfield 87, 1, 8, 106) := rfl
theorem r_29_134 : sm_ic 29 134 = some (.iconst 1, 0, 0, 0) := rfl
theorem r_29_135 : sm_ic 29 135 = some (.ireturn, 0, 0, 0) := rfl
theorem r_29_136 : sm_ic 29 136 = some (.iconst 0, 0, 0, 0) := rfl
theorem r_29_137 : sm_ic 29 137 = some (.ireturn, 0, 0, 0) := rfl
theorem r_30_0 : sm_ic 30 0 = some (.iload_n 1, 0, 0, 0) := rfl
theorem r_30_1 : sm_ic 30 1 = some (.ifCond .lt 21, 22, 0, 0) := rfl
theorem r_30_4 : sm_ic 30 4 = some (.iload_n 1, 0, 0, 0) := rfl
theorem r_30_5 : sm_ic 30 5 = some (.aload_n 0, 0, 0, 0) := rfl
theorem r_30_6 : sm_ic 30 6 = some (.getfield 9, 2, 0, 81) := rfl
theorem r_30_9 : sm_ic 30 9 = some (.arraylength, 0, 0, 0) := rfl
theorem r_30_10 : sm_ic 30 10 = some (.if_icmp .ge 12, 22, 0, 0) := rfl
theorem r_30_13 : sm_ic 30 13 = some (.aload_n 0, 0, 0, 0) := rfl
theorem r_30_14 : sm_ic 30 14 = some (.getfield 9, 2, 0, 81) := rfl
theorem r_30_17 : sm_ic 30 17 = some (.iload_n 1, 0, 0, 0) := rfl
theorem r_30_18 : sm_ic 30 18 = some (.iaload, 0, 0, 0) := rfl
theorem r_30_19 : sm_ic 30 19 = some (.goto 4, 23, 0, 0) := rfl
theorem r_30_22 : sm_ic 30 22 = some (.iconst 0, 0, 0, 0) := rfl
theorem r_30_23 : sm_ic 30 23 = some (.ireturn, 0, 0, 0) := rfl
theorem r_31_0 : sm_ic 31 0 = some (.aload_n 0, 0, 0, 0) := rfl
theorem r_31_1 : sm_ic 31 1 = some (.getfield 21, 2, 1, 82) := rfl
theorem r_31_4 : sm_ic 31 4 = some (.ireturn, 0, 0, 0) := rfl
theorem r_32_0 : sm_ic 32 0 = some (.aload_n 0, 0, 0, 0) := rfl
theorem r_32_1 : sm_ic 32 1 = some (.getfield 43, 1, 3, 101) := rfl
theorem r_32_4 : sm_ic 32 4 = some (.bipush 8, 0, 0, 0) := rfl
theorem r_32_6 : sm_ic 32 6 = some (.if_icmp .lt 5, 11, 0, 0) := rfl
theorem r_32_9 : sm_ic 32 9 = some (.iconst 0, 0, 0, 0) := rfl
theorem r_32_10 : sm_ic 32 10 = some (.ireturn, 0, 0, 0) := rfl
theorem r_32_11 : sm_ic 32 11 = some (.aload_n 0, 0, 0, 0) := rfl
theorem r_32_12 : sm_ic 32 12 = some (.aload_n 0, 0, 0, 0) := rfl
theorem r_32_13 : sm_ic 32 13 = some (.getfield 43, 1, 3, 101) := rfl
theorem r_32_16 : sm_ic 32 16 = some (.aload_n 1, 0, 0, 0) := rfl
theorem r_32_17 : sm_ic 32 17 = some (.iconst 0, 0, 0, 0) := rfl
theorem r_32_18 : sm_ic 32 18 = some (.invokevirtual 101, 30, 2, 294) := rfl
theorem r_32_21 : sm_ic 32 21 = some (.aload_n 1, 0, 0, 0) := rfl
theorem r_32_22 : sm_ic 32 22 = some (.iconst 3, 0, 0, 0) := rfl
theorem r_32_23 : sm_ic 32 23 = some (.invokevirtual 101, 30, 2, 294) := rfl
theorem r_32_26 : sm_ic 32 26 = some (.invokevirtual 64, 18, 4, 249) := rfl
theorem r_32_29 : sm_ic 32 29 = some (.aload_n 0, 0, 0, 0) := rfl
theorem r_32_30 : sm_ic 32 30 = some (.aload_n 0, 0, 0, 0) := rfl
theorem r_32_31 : sm_ic 32 31 = some (.getfield 47, 1, 9, 107) := rfl
theorem r_32_34 : sm_ic 32 34 = some (.aload_n 0, 0, 0, 0) := rfl
theorem r_32_35 : sm_ic 32 35 = some (.getfield 43, 1, 3, 101) := rfl
theorem r_32_38 : sm_ic 32 38 = some (.aload_n 1, 0, 0, 0) := rfl
theorem r_32_39 : sm_ic 32 39 = some (.iconst 1, 0, 0, 0) := rfl
theorem r_32_40 : sm_ic 32 40 = some (.invokevirtual 101, 30, 2, 294) := rfl
theorem r_32_43 : sm_ic 32 43 = some (.invokestatic 114, 33, 3, 306) := rfl
theorem r_32_46 : sm_ic 32 46 = some (.putfield 47, 1, 9, 107) := rfl
theorem r_32_49 : sm_ic 32 49 = some (.aload_n 0, 0, 0, 0) := rfl
theorem r_32_50 : sm_ic 32 50 = some (.aload_n 0, 0, 0, 0) := rfl
theorem r_32_51 : sm_ic 32 51 = some (.getfield 47, 1, 9, 107) := rfl
theorem r_32_54 : sm_ic 32 54 = some (.aload_n 0, 0, 0, 0) := rfl
theorem r_32_55 : sm_ic 32 55 = some (.getfield 43, 1, 3, 101) := rfl
theorem r_32_58 : sm_ic 32 58 = some (.aload_n 1, 0, 0, 0) := rfl
theorem r_32_59 : sm_ic 32 59 = some (.iconst 2, 0, 0, 0) := rfl
theorem r_32_60 : sm_ic 32 60 = some (.invokevirtual 101, 30, 2, 294) := rfl
theorem r_32_63 : sm_ic 32 63 = some (.invokestatic 118, 35, 3, 313) := rfl
theorem r_32_66 : sm_ic 32 66 = some (.putfield 47, 1, 9, 107) := rfl
theorem r_32_69 : sm_ic 32 69 = some (.aload_n 0, 0, 0, 0) := rfl
theorem r_32_70 : sm_ic 32 70 = some (.dup, 0, 0, 0) := rfl
theorem r_32_71 : sm_ic 32 71 = some (.getfield 43, 1, 3, 101) := rfl
theorem r_32_74 : sm_ic 32 74 = some (.iconst 1, 0, 0, 0) := rfl
theorem r_32_75 : sm_ic 32 75 = some (.iadd, 0, 0, 0) := rfl
theorem r_32_76 : sm_ic 32 76 = some (.putfield 43, 1, 3, 101) := rfl
theorem r_32_79 : sm_ic 32 79 = some (.iconst 1, 0, 0, 0) := rfl
theorem r_32_80 : sm_ic 32 80 = some (.ireturn, 0, 0, 0) := rfl
theorem r_33_0 : sm_ic 33 0 = some (.lload_n 0, 0, 0, 0) := rfl
theorem r_33_1 : sm_ic 33 1 = some (.iload_n 2, 0, 0, 0) := rfl
theorem r_33_2 : sm_ic 33 2 = some (.iconst 1, 0, 0, 0) := rfl
theorem r_33_3 : sm_ic 33 3 = some (.iload_n 3, 0, 0, 0) := rfl
theorem r_33_4 : sm_ic 33 4 = some (.iconst 1, 0, 0, 0) := rfl
theorem r_33_5 : sm_ic 33 5 = some (.iand, 0, 0, 0) := rfl
theorem r_33_6 : sm_ic 33 6 = some (.invokestatic 15, 34, 4, 309) := rfl
theorem r_33_9 : sm_ic 33 9 = some (.lstore 4, 0, 0, 0) := rfl
theorem r_33_11 : sm_ic 33 11 = some (.lload 4, 0, 0, 0) := rfl
theorem r_33_13 : sm_ic 33 13 = some (.bipush 8, 0, 0, 0) := rfl
theorem r_33_15 : sm_ic 33 15 = some (.iload_n 2, 0, 0, 0) := rfl
theorem r_33_16 : sm_ic 33 16 = some (.iadd, 0, 0, 0) := rfl
theorem r_33_17 : sm_ic 33 17 = some (.iconst 1, 0, 0, 0) := rfl
theorem r_33_18 : sm_ic 33 18 = some (.iload_n 3, 0, 0, 0) := rfl
theorem r_33_19 : sm_ic 33 19 = some (.iconst 1, 0, 0, 0) := rfl
theorem r_33_20 : sm_ic 33 20 = some (.iushr, 0, 0, 0) := rfl
theorem r_33_21 : sm_ic 33 21 = some (.invokestatic 15, 34, 4, 309) := rfl
theorem r_33_24 : sm_ic 33 24 = some (.lreturn, 0, 0, 0) := rfl
theorem r_34_0 : sm_ic 34 0 = some (.lconst 1, 0, 0, 0) := rfl
theorem r_34_1 : sm_ic 34 1 = some (.iload_n 3, 0, 0, 0) := rfl
theorem r_34_2 : sm_ic 34 2 = some (.lshl, 0, 0, 0) := rfl
theorem r_34_3 : sm_ic 34 3 = some (.lconst 1, 0, 0, 0) := rfl
theorem r_34_4 : sm_ic 34 4 = some (.lsub, 0, 0, 0) := rfl
theorem r_34_5 : sm_ic 34 5 = some (.lstore 5, 0, 0, 0) := rfl
theorem r_34_7 : sm_ic 34 7 = some (.lload_n 0, 0, 0, 0) := rfl
theorem r_34_8 : sm_ic 34 8 = some (.lload 5, 0, 0, 0) := rfl
theorem r_34_10 : sm_ic 34 10 = some (.iload_n 2, 0, 0, 0) := rfl
theorem r_34_11 : sm_ic 34 11 = some (.lshl, 0, 0, 0) := rfl
theorem r_34_12 : sm_ic 34 12 = some (.ldc2_w 23, 1, 1, 312) := rfl
theorem r_34_15 : sm_ic 34 15 = some (.lxor, 0, 0, 0) := rfl
theorem r_34_16 : sm_ic 34 16 = some (.land, 0, 0, 0) := rfl
theorem r_34_17 : sm_ic 34 17 = some (.iload 4, 0, 0, 0) := rfl
theorem r_34_19 : sm_ic 34 19 = some (.i2l, 0, 0, 0) := rfl
theorem r_34_20 : sm_ic 34 20 = some (.lload 5, 0, 0, 0) := rfl
theorem r_34_22 : sm_ic 34 22 = some (.land, 0, 0, 0) := rfl
theorem r_34_23 : sm_ic 34 23 = some (.iload_n 2, 0, 0, 0) := rfl
theorem r_34_24 : sm_ic 34 24 = some (.lshl, 0, 0, 0) := rfl
theorem r_34_25 : sm_ic 34 25 = some (.lor, 0, 0, 0) := rfl
theorem r_34_26 : sm_ic 34 26 = some (.lreturn, 0, 0, 0) := rfl
theorem r_35_0 : sm_ic 35 0 = some (.lload_n 0, 0, 0, 0) := rfl
theorem r_35_1 : sm_ic 35 1 = some (.bipush 16, 0, 0, 0) := rfl
theorem r_35_3 : sm_ic 35 3 = some (.iconst 3, 0, 0, 0) := rfl
theorem r_35_4 : sm_ic 35 4 = some (.iload_n 2, 0, 0, 0) := rfl
theorem r_35_5 : sm_ic 35 5 = some (.imul, 0, 0, 0) := rfl
theorem r_35_6 : sm_ic 35 6 = some (.iadd, 0, 0, 0) := rfl
theorem r_35_7 : sm_ic 35 7 = some (.iconst 3, 0, 0, 0) := rfl
theorem r_35_8 : sm_ic 35 8 = some (.iload_n 3, 0, 0, 0) := rfl
theorem r_35_9 : sm_ic 35 9 = some (.invokestatic 15, 34, 4, 309) := rfl
theorem r_35_12 : sm_ic 35 12 = some (.lreturn, 0, 0, 0) := rfl
theorem r_36_0 : sm_ic 36 0 = some (.aload_n 0, 0, 0, 0) := rfl
theorem r_36_1 : sm_ic 36 1 = some (.getfield 75, 1, 4, 102) := rfl
theorem r_36_4 : sm_ic 36 4 = some (.iconst 5, 0, 0, 0) := rfl
theorem r_36_5 : sm_ic 36 5 = some (.if_icmp .lt 5, 10, 0, 0) := rfl
theorem r_36_8 : sm_ic 36 8 = some (.iconst 0, 0, 0, 0) := rfl
theorem r_36_9 : sm_ic 36 9 = some (.ireturn, 0, 0, 0) := rfl
theorem r_36_10 : sm_ic 36 10 = some (.aload_n 0, 0, 0, 0) := rfl
theorem r_36_11 : sm_ic 36 11 = some (.aload_n 0, 0, 0, 0) := rfl
theorem r_36_12 : sm_ic 36 12 = some (.getfield 75, 1, 4, 102) := rfl
theorem r_36_15 : sm_ic 36 15 = some (.iload_n 1, 0, 0, 0) := rfl
theorem r_36_16 : sm_ic 36 16 = some (.invokevirtual 71, 19, 3, 253) := rfl
theorem r_36_19 : sm_ic 36 19 = some (.aload_n 0, 0, 0, 0) := rfl
theorem r_36_20 : sm_ic 36 20 = some (.dup, 0, 0, 0) := rfl
theorem r_36_21 : sm_ic 36 21 = some (.getfield 75, 1, 4, 102) := rfl
theorem r_36_24 : sm_ic 36 24 = some (.iconst 1, 0, 0, 0) := rfl
theorem r_36_25 : sm_ic 36 25 = some (.iadd, 0, 0, 0) := rfl
theorem r_36_26 : sm_ic 36 26 = some (.putfield 75, 1, 4, 102) := rfl
theorem r_36_29 : sm_ic 36 29 = some (.iconst 1, 0, 0, 0) := rfl
theorem r_36_30 : sm_ic 36 30 = some (.ireturn, 0, 0, 0) := rfl
theorem r_37_0 : sm_ic 37 0 = some (.aload_n 0, 0, 0, 0) := rfl
theorem r_37_1 : sm_ic 37 1 = some (.getfield 41, 2, 2, 83) := rfl
theorem r_37_4 : sm_ic 37 4 = some (.ireturn, 0, 0, 0) := rfl
theorem r_38_0 : sm_ic 38 0 = some (.iconst 0, 0, 0, 0) := rfl
theorem r_38_1 : sm_ic 38 1 = some (.istore_n 2, 0, 0, 0) := rfl
theorem r_38_2 : sm_ic 38 2 = some (.iload_n 2, 0, 0, 0) := rfl
theorem r_38_3 : sm_ic 38 3 = some (.bipush 8, 0, 0, 0) := rfl
theorem r_38_5 : sm_ic 38 5 = some (.if_icmp .ge 26, 31, 0, 0) := rfl
theorem r_38_8 : sm_ic 38 8 = some (.aload_n 0, 0, 0, 0) := rfl
theorem r_38_9 : sm_ic 38 9 = some (.iload_n 2, 0, 0, 0) := rfl
theorem r_38_10 : sm_ic 38 10 = some (.aload_n 1, 0, 0, 0) := rfl
theorem r_38_11 : sm_ic 38 11 = some (.iload_n 2, 0, 0, 0) := rfl
theorem r_38_12 : sm_ic 38 12 = some (.invokevirtual 57, 39, 2, 328) := rfl
theorem r_38_15 : sm_ic 38 15 = some (.aload_n 1, 0, 0, 0) := rfl
theorem r_38_16 : sm_ic 38 16 = some (.iconst 1, 0, 0, 0) := rfl
theorem r_38_17 : sm_ic 38 17 = some (.iload_n 2, 0, 0, 0) := rfl
theorem r_38_18 : sm_ic 38 18 = some (.ishl, 0, 0, 0) := rfl
theorem r_38_19 : sm_ic 38 19 = some (.invokevirtual 61, 40, 2, 332) := rfl
theorem r_38_22 : sm_ic 38 22 = some (.invokevirtual 64, 18, 4, 249) := rfl
theorem r_38_25 : sm_ic 38 25 = some (.iinc 2 1, 0, 0, 0) := rfl
theorem r_38_28 : sm_ic 38 28 = some (.goto (-26), 2, 0, 0) := rfl
theorem r_38_31 : sm_ic 38 31 = some (.iconst 0, 0, 0, 0) := rfl
theorem r_38_32 : sm_ic 38 32 = some (.istore_n 2, 0, 0, 0) := rfl
theorem r_38_33 : sm_ic 38 33 = some (.iload_n 2, 0, 0, 0) := rfl
theorem r_38_34 : sm_ic 38 34 = some (.iconst 5, 0, 0, 0) := rfl
theorem r_38_35 : sm_ic 38 35 = some (.if_icmp .ge 21, 56, 0, 0) := rfl
theorem r_38_38 : sm_ic 38 38 = some (.aload_n 0, 0, 0, 0) := rfl
theorem r_38_39 : sm_ic 38 39 = some (.iload_n 2, 0, 0, 0) := rfl
theorem r_38_40 : sm_ic 38 40 = some (.aload_n 1, 0, 0, 0) := rfl
theorem r_38_41 : sm_ic 38 41 = some (.iconst 1, 0, 0, 0) := rfl
theorem r_38_42 : sm_ic 38 42 = some (.iload_n 2, 0, 0, 0) := rfl
theorem r_38_43 : sm_ic 38 43 = some (.ishl, 0, 0, 0) := rfl
theorem r_38_44 : sm_ic 38 44 = some (.invokevirtual 68, 41, 2, 336) := rfl
theorem r_38_47 : sm_ic 38 47 = some (.invokevirtual 71, 19, 3, 253) := rfl
theorem r_38_50 : sm_ic 38 50 = some (.iinc 2 1, 0, 0, 0) := rfl
theorem r_38_53 : sm_ic 38 53 = some (.goto (-20), 33, 0, 0) := rfl
theorem r_38_56 : sm_ic 38 56 = some (.aload_n 0, 0, 0, 0) := rfl
theorem r_38_57 : sm_ic 38 57 = some (.aload_n 1, 0, 0, 0) := rfl
theorem r_38_58 : sm_ic 38 58 = some (.getfield 43, 1, 3, 101) := rfl
theorem r_38_61 : sm_ic 38 61 = some (.putfield 43, 1, 3, 101) := rfl
theorem r_38_64 : sm_ic 38 64 = some (.aload_n 0, 0, 0, 0) := rfl
theorem r_38_65 : sm_ic 38 65 = some (.aload_n 1, 0, 0, 0) := rfl
theorem r_38_66 : sm_ic 38 66 = some (.getfield 75, 1, 4, 102) := rfl
theorem r_38_69 : sm_ic 38 69 = some (.putfield 75, 1, 4, 102) := rfl
theorem r_38_72 : sm_ic 38 72 = some (.aload_n 0, 0, 0, 0) := rfl
theorem r_38_73 : sm_ic 38 73 = some (.aload_n 1, 0, 0, 0) := rfl
theorem r_38_74 : sm_ic 38 74 = some (.getfield 78, 1, 5, 103) := rfl
theorem r_38_77 : sm_ic 38 77 = some (.putfield 78, 1, 5, 103) := rfl
theorem r_38_80 : sm_ic 38 80 = some (.aload_n 0, 0, 0, 0) := rfl
theorem r_38_81 : sm_ic 38 81 = some (.aload_n 1, 0, 0, 0) := rfl
theorem r_38_82 : sm_ic 38 82 = some (.getfield 81, 1, 6, 104) := rfl
theorem r_38_85 : sm_ic 38 85 = some (.putfield 81, 1, 6, 104) := rfl
theorem r_38_88 : sm_ic 38 88 = some (.aload_n 0, 0, 0, 0) := rfl
theorem r_38_89 : sm_ic 38 89 = some (.aload_n 1, 0, 0, 0) := rfl
theorem r_38_90 : sm_ic 38 90 = some (.getfield 84, 1, 7, 105) := rfl
theorem r_38_93 : sm_ic 38 93 = some (.putfield 84, 1, 7, 105) := rfl
theorem r_38_96 : sm_ic 38 96 = some (.aload_n 0, 0, 0, 0) := rfl
theorem r_38_97 : sm_ic 38 97 = some (.aload_n 1, 0, 0, 0) := rfl
theorem r_38_98 : sm_ic 38 98 = some (.getfield 87, 1, 8, 106) := rfl
theorem r_38_101 : sm_ic 38 101 = some (.putfield 87, 1, 8, 106) := rfl
theorem r_38_104 : sm_ic 38 104 = some (.aload_n 0, 0, 0, 0) := rfl
theorem r_38_105 : sm_ic 38 105 = some (.aload_n 1, 0, 0, 0) := rfl
theorem r_38_106 : sm_ic 38 106 = some (.getfield 47, 1, 9, 107) := rfl
theorem r_38_109 : sm_ic 38 109 = some (.putfield 47, 1, 9, 107) := rfl
theorem r_38_112 : sm_ic 38 112 = some (.return_, 0, 0, 0) := rfl
theorem r_39_0 : sm_ic 39 0 = some (.iload_n 1, 0, 0, 0) := rfl
theorem r_39_1 : sm_ic 39 1 = some (.ifCond .lt 21, 22, 0, 0) := rfl
theorem r_39_4 : sm_ic 39 4 = some (.iload_n 1, 0, 0, 0) := rfl
theorem r_39_5 : sm_ic 39 5 = some (.aload_n 0, 0, 0, 0) := rfl
theorem r_39_6 : sm_ic 39 6 = some (.getfield 9, 1, 0, 98) := rfl
theorem r_39_9 : sm_ic 39 9 = some (.arraylength, 0, 0, 0) := rfl
theorem r_39_10 : sm_ic 39 10 = some (.if_icmp .ge 12, 22, 0, 0) := rfl
theorem r_39_13 : sm_ic 39 13 = some (.aload_n 0, 0, 0, 0) := rfl
theorem r_39_14 : sm_ic 39 14 = some (.getfield 9, 1, 0, 98) := rfl
theorem r_39_17 : sm_ic 39 17 = some (.iload_n 1, 0, 0, 0) := rfl
theorem r_39_18 : sm_ic 39 18 = some (.iaload, 0, 0, 0) := rfl
theorem r_39_19 : sm_ic 39 19 = some (.goto 4, 23, 0, 0) := rfl
theorem r_39_22 : sm_ic 39 22 = some (.iconst 0, 0, 0, 0) := rfl
theorem r_39_23 : sm_ic 39 23 = some (.ireturn, 0, 0, 0) := rfl
theorem r_40_0 : sm_ic 40 0 = some (.iconst 0, 0, 0, 0) := rfl
theorem r_40_1 : sm_ic 40 1 = some (.istore_n 2, 0, 0, 0) := rfl
theorem r_40_2 : sm_ic 40 2 = some (.iconst 0, 0, 0, 0) := rfl
theorem r_40_3 : sm_ic 40 3 = some (.istore_n 3, 0, 0, 0) := rfl
theorem r_40_4 : sm_ic 40 4 = some (.iload_n 3, 0, 0, 0) := rfl
theorem r_40_5 : sm_ic 40 5 = some (.aload_n 0, 0, 0, 0) := rfl
theorem r_40_6 : sm_ic 40 6 = some (.getfield 15, 1, 1, 99) := rfl
theorem r_40_9 : sm_ic 40 9 = some (.arraylength, 0, 0, 0) := rfl
theorem r_40_10 : sm_ic 40 10 = some (.if_icmp .ge 27, 37, 0, 0) := rfl
theorem r_40_13 : sm_ic 40 13 = some (.iload_n 1, 0, 0, 0) := rfl
theorem r_40_14 : sm_ic 40 14 = some (.iload_n 3, 0, 0, 0) := rfl
theorem r_40_15 : sm_ic 40 15 = some (.iushr, 0, 0, 0) := rfl
theorem r_40_16 : sm_ic 40 16 = some (.iconst 1, 0, 0, 0) := rfl
theorem r_40_17 : sm_ic 40 17 = some (.iand, 0, 0, 0) := rfl
theorem r_40_18 : sm_ic 40 18 = some (.iconst 1, 0, 0, 0) := rfl
theorem r_40_19 : sm_ic 40 19 = some (.if_icmp .ne 12, 31, 0, 0) := rfl
theorem r_40_22 : sm_ic 40 22 = some (.iload_n 2, 0, 0, 0) := rfl
theorem r_40_23 : sm_ic 40 23 = some (.aload_n 0, 0, 0, 0) := rfl
theorem r_40_24 : sm_ic 40 24 = some (.getfield 15, 1, 1, 99) := rfl
theorem r_40_27 : sm_ic 40 27 = some (.iload_n 3, 0, 0, 0) := rfl
theorem r_40_28 : sm_ic 40 28 = some (.iaload, 0, 0, 0) := rfl
theorem r_40_29 : sm_ic 40 29 = some (.iadd, 0, 0, 0) := rfl
theorem r_40_30 : sm_ic 40 30 = some (.istore_n 2, 0, 0, 0) := rfl
theorem r_40_31 : sm_ic 40 31 = some (.iinc 3 1, 0, 0, 0) := rfl
theorem r_40_34 : sm_ic 40 34 = some (.goto (-30), 4, 0, 0) := rfl
theorem r_40_37 : sm_ic 40 37 = some (.iload_n 2, 0, 0, 0) := rfl
theorem r_40_38 : sm_ic 40 38 = some (.ireturn, 0, 0, 0) := rfl
theorem r_41_0 : sm_ic 41 0 = some (.iconst 0, 0, 0, 0) := rfl
theorem r_41_1 : sm_ic 41 1 = some (.istore_n 2, 0, 0, 0) := rfl
theorem r_41_2 : sm_ic 41 2 = some (.iconst 0, 0, 0, 0) := rfl
theorem r_41_3 : sm_ic 41 3 = some (.istore_n 3, 0, 0, 0) := rfl
theorem r_41_4 : sm_ic 41 4 = some (.iload_n 3, 0, 0, 0) := rfl
theorem r_41_5 : sm_ic 41 5 = some (.aload_n 0, 0, 0, 0) := rfl
theorem r_41_6 : sm_ic 41 6 = some (.getfield 18, 1, 2, 100) := rfl
theorem r_41_9 : sm_ic 41 9 = some (.arraylength, 0, 0, 0) := rfl
theorem r_41_10 : sm_ic 41 10 = some (.if_icmp .ge 27, 37, 0, 0) := rfl
theorem r_41_13 : sm_ic 41 13 = some (.iload_n 1, 0, 0, 0) := rfl
theorem r_41_14 : sm_ic 41 14 = some (.iload_n 3, 0, 0, 0) := rfl
theorem r_41_15 : sm_ic 41 15 = some (.iushr, 0, 0, 0) := rfl
theorem r_41_16 : sm_ic 41 16 = some (.iconst 1, 0, 0, 0) := rfl
theorem r_41_17 : sm_ic 41 17 = some (.iand, 0, 0, 0) := rfl
theorem r_41_18 : sm_ic 41 18 = some (.iconst 1, 0, 0, 0) := rfl
theorem r_41_19 : sm_ic 41 19 = some (.if_icmp .ne 12, 31, 0, 0) := rfl
theorem r_41_22 : sm_ic 41 22 = some (.iload_n 2, 0, 0, 0) := rfl
theorem r_41_23 : sm_ic 41 23 = some (.aload_n 0, 0, 0, 0) := rfl
theorem r_41_24 : sm_ic 41 24 = some (.getfield 18, 1, 2, 100) := rfl
theorem r_41_27 : sm_ic 41 27 = some (.iload_n 3, 0, 0, 0) := rfl
theorem r_41_28 : sm_ic 41 28 = some (.iaload, 0, 0, 0) := rfl
theorem r_41_29 : sm_ic 41 29 = some (.iadd, 0, 0, 0) := rfl
theorem r_41_30 : sm_ic 41 30 = some (.istore_n 2, 0, 0, 0) := rfl
theorem r_41_31 : sm_ic 41 31 = some (.iinc 3 1, 0, 0, 0) := rfl
theorem r_41_34 : sm_ic 41 34 = some (.goto (-30), 4, 0, 0) := rfl
theorem r_41_37 : sm_ic 41 37 = some (.iload_n 2, 0, 0, 0) := rfl
theorem r_41_38 : sm_ic 41 38 = some (.ireturn, 0, 0, 0) := rfl
theorem r_42_0 : sm_ic 42 0 = some (.aload_n 0, 0, 0, 0) := rfl
theorem r_42_1 : sm_ic 42 1 = some (.getfield 47, 1, 9, 107) := rfl
theorem r_42_4 : sm_ic 42 4 = some (.lreturn, 0, 0, 0) := rfl
theorem r_43_0 : sm_ic 43 0 = some (.aload_n 0, 0, 0, 0) := rfl
theorem r_43_1 : sm_ic 43 1 = some (.iconst 0, 0, 0, 0) := rfl
theorem r_43_2 : sm_ic 43 2 = some (.putfield 15, 5, 1, 68) := rfl
theorem r_43_5 : sm_ic 43 5 = some (.return_, 0, 0, 0) := rfl
theorem r_44_0 : sm_ic 44 0 = some (.iload_n 1, 0, 0, 0) := rfl
theorem r_44_1 : sm_ic 44 1 = some (.bipush 32, 0, 0, 0) := rfl
theorem r_44_3 : sm_ic 44 3 = some (.if_icmp .lt 9, 12, 0, 0) := rfl
theorem r_44_6 : sm_ic 44 6 = some (.iload_n 1, 0, 0, 0) := rfl
theorem r_44_7 : sm_ic 44 7 = some (.bipush 126, 0, 0, 0) := rfl
theorem r_44_9 : sm_ic 44 9 = some (.if_icmp .le 5, 14, 0, 0) := rfl
theorem r_44_12 : sm_ic 44 12 = some (.iconst (-1), 0, 0, 0) := rfl
theorem r_44_13 : sm_ic 44 13 = some (.ireturn, 0, 0, 0) := rfl
theorem r_44_14 : sm_ic 44 14 = some (.aload_n 0, 0, 0, 0) := rfl
theorem r_44_15 : sm_ic 44 15 = some (.getfield 10, 0, 0, 348) := rfl
theorem r_44_18 : sm_ic 44 18 = some (.iload_n 1, 0, 0, 0) := rfl
theorem r_44_19 : sm_ic 44 19 = some (.invokevirtual 62, 15, 2, 237) := rfl
theorem r_44_22 : sm_ic 44 22 = some (.ifCond .eq 13, 35, 0, 0) := rfl
theorem r_44_25 : sm_ic 44 25 = some (.aload_n 0, 0, 0, 0) := rfl
theorem r_44_26 : sm_ic 44 26 = some (.getfield 10, 0, 0, 348) := rfl
theorem r_44_29 : sm_ic 44 29 = some (.invokevirtual 66, 20, 1, 381) := rfl
theorem r_44_32 : sm_ic 44 32 = some (.goto 5, 37, 0, 0) := rfl
theorem r_44_35 : sm_ic 44 35 = some (.bipush (-3), 0, 0, 0) := rfl
theorem r_44_37 : sm_ic 44 37 = some (.ireturn, 0, 0, 0) := rfl
theorem r_45_0 : sm_ic 45 0 = some (.aload_n 0, 0, 0, 0) := rfl
theorem r_45_1 : sm_ic 45 1 = some (.getfield 10, 0, 0, 348) := rfl
theorem r_45_4 : sm_ic 45 4 = some (.invokevirtual 66, 20, 1, 381) := rfl
theorem r_45_7 : sm_ic 45 7 = some (.istore_n 1, 0, 0, 0) := rfl
theorem r_45_8 : sm_ic 45 8 = some (.aload_n 0, 0, 0, 0) := rfl
theorem r_45_9 : sm_ic 45 9 = some (.getfield 10, 0, 0, 348) := rfl
theorem r_45_12 : sm_ic 45 12 = some (.invokevirtual 70, 43, 1, 344) := rfl
theorem r_45_15 : sm_ic 45 15 = some (.iload_n 1, 0, 0, 0) := rfl
theorem r_45_16 : sm_ic 45 16 = some (.ireturn, 0, 0, 0) := rfl
theorem r_46_0 : sm_ic 46 0 = some (.aload_n 0, 0, 0, 0) := rfl
theorem r_46_1 : sm_ic 46 1 = some (.getfield 26, 0, 2, 350) := rfl
theorem r_46_4 : sm_ic 46 4 = some (.aload_n 0, 0, 0, 0) := rfl
theorem r_46_5 : sm_ic 46 5 = some (.getfield 10, 0, 0, 348) := rfl
theorem r_46_8 : sm_ic 46 8 = some (.aload_n 0, 0, 0, 0) := rfl
theorem r_46_9 : sm_ic 46 9 = some (.getfield 19, 0, 1, 349) := rfl
theorem r_46_12 : sm_ic 46 12 = some (.invokevirtual 73, 16, 3, 241) := rfl
theorem r_46_15 : sm_ic 46 15 = some (.ireturn, 0, 0, 0) := rfl
theorem r_47_0 : sm_ic 47 0 = some (.aload_n 0, 0, 0, 0) := rfl
theorem r_47_1 : sm_ic 47 1 = some (.getfield 26, 0, 2, 350) := rfl
theorem r_47_4 : sm_ic 47 4 = some (.aload_n 0, 0, 0, 0) := rfl
theorem r_47_5 : sm_ic 47 5 = some (.getfield 10, 0, 0, 348) := rfl
theorem r_47_8 : sm_ic 47 8 = some (.aload_n 0, 0, 0, 0) := rfl
theorem r_47_9 : sm_ic 47 9 = some (.getfield 19, 0, 1, 349) := rfl
theorem r_47_12 : sm_ic 47 12 = some (.invokevirtual 73, 16, 3, 241) := rfl
theorem r_47_15 : sm_ic 47 15 = some (.bipush (-4), 0, 0, 0) := rfl
theorem r_47_17 : sm_ic 47 17 = some (.if_icmp .ne 13, 30, 0, 0) := rfl
theorem r_47_20 : sm_ic 47 20 = some (.aload_n 0, 0, 0, 0) := rfl
theorem r_47_21 : sm_ic 47 21 = some (.getfield 26, 0, 2, 350) := rfl
theorem r_47_24 : sm_ic 47 24 = some (.invokevirtual 77, 48, 1, 394) := rfl
theorem r_47_27 : sm_ic 47 27 = some (.ifCond .ne 6, 33, 0, 0) := rfl
theorem r_47_30 : sm_ic 47 30 = some (.bipush (-2), 0, 0, 0) := rfl
theorem r_47_32 : sm_ic 47 32 = some (.ireturn, 0, 0, 0) := rfl
theorem r_47_33 : sm_ic 47 33 = some (.aload_n 0, 0, 0, 0) := rfl
theorem r_47_34 : sm_ic 47 34 = some (.getfield 30, 0, 3, 351) := rfl
theorem r_47_37 : sm_ic 47 37 = some (.aload_n 0, 0, 0, 0) := rfl
theorem r_47_38 : sm_ic 47 38 = some (.getfield 26, 0, 2, 350) := rfl
theorem r_47_41 : sm_ic 47 41 = some (.invokevirtual 81, 38, 2, 324) := rfl
theorem r_47_44 : sm_ic 47 44 = some (.aload_n 0, 0, 0, 0) := rfl
theorem r_47_45 : sm_ic 47 45 = some (.aload_n 0, 0, 0, 0) := rfl
theorem r_47_46 : sm_ic 47 46 = some (.getfield 30, 0, 3, 351) := rfl
theorem r_47_49 : sm_ic 47 49 = some (.invokevirtual 85, 42, 1, 340) := rfl
theorem r_47_52 : sm_ic 47 52 = some (.putfield 89, 0, 8, 356) := rfl
theorem r_47_55 : sm_ic 47 55 = some (.aload_n 0, 0, 0, 0) := rfl
theorem r_47_56 : sm_ic 47 56 = some (.getfield 45, 0, 5, 353) := rfl
theorem r_47_59 : sm_ic 47 59 = some (.invokevirtual 93, 51, 1, 404) := rfl
theorem r_47_62 : sm_ic 47 62 = some (.aload_n 0, 0, 0, 0) := rfl
theorem r_47_63 : sm_ic 47 63 = some (.getfield 49, 0, 6, 354) := rfl
theorem r_47_66 : sm_ic 47 66 = some (.invokevirtual 93, 51, 1, 404) := rfl
theorem r_47_69 : sm_ic 47 69 = some (.aload_n 0, 0, 0, 0) := rfl
theorem r_47_70 : sm_ic 47 70 = some (.getfield 55, 0, 7, 355) := rfl
theorem r_47_73 : sm_ic 47 73 = some (.invokevirtual 94, 52, 1, 408) := rfl
theorem r_47_76 : sm_ic 47 76 = some (.aload_n 0, 0, 0, 0) := rfl
theorem r_47_77 : sm_ic 47 77 = some (.getfield 30, 0, 3, 351) := rfl
theorem r_47_80 : sm_ic 47 80 = some (.invokevirtual 95, 53, 1, 412) := rfl
theorem r_47_83 : sm_ic 47 83 = some (.ireturn, 0, 0, 0) := rfl
theorem r_48_0 : sm_ic 48 0 = some (.iconst 0, 0, 0, 0) := rfl
theorem r_48_1 : sm_ic 48 1 = some (.istore_n 1, 0, 0, 0) := rfl
theorem r_48_2 : sm_ic 48 2 = some (.iload_n 1, 0, 0, 0) := rfl
theorem r_48_3 : sm_ic 48 3 = some (.aload_n 0, 0, 0, 0) := rfl
theorem r_48_4 : sm_ic 48 4 = some (.getfield 43, 1, 3, 101) := rfl
theorem r_48_7 : sm_ic 48 7 = some (.if_icmp .ge 26, 33, 0, 0) := rfl
theorem r_48_10 : sm_ic 48 10 = some (.aload_n 0, 0, 0, 0) := rfl
theorem r_48_11 : sm_ic 48 11 = some (.getfield 47, 1, 9, 107) := rfl
theorem r_48_14 : sm_ic 48 14 = some (.iload_n 1, 0, 0, 0) := rfl
theorem r_48_15 : sm_ic 48 15 = some (.invokestatic 51, 49, 2, 398) := rfl
theorem r_48_18 : sm_ic 48 18 = some (.aload_n 0, 0, 0, 0) := rfl
theorem r_48_19 : sm_ic 48 19 = some (.getfield 43, 1, 3, 101) := rfl
theorem r_48_22 : sm_ic 48 22 = some (.if_icmp .lt 5, 27, 0, 0) := rfl
theorem r_48_25 : sm_ic 48 25 = some (.iconst 0, 0, 0, 0) := rfl
theorem r_48_26 : sm_ic 48 26 = some (.ireturn, 0, 0, 0) := rfl
theorem r_48_27 : sm_ic 48 27 = some (.iinc 1 1, 0, 0, 0) := rfl
theorem r_48_30 : sm_ic 48 30 = some (.goto (-28), 2, 0, 0) := rfl
theorem r_48_33 : sm_ic 48 33 = some (.aload_n 0, 0, 0, 0) := rfl
theorem r_48_34 : sm_ic 48 34 = some (.getfield 43, 1, 3, 101) := rfl
theorem r_48_37 : sm_ic 48 37 = some (.ifCond .le 7, 44, 0, 0) := rfl
theorem r_48_40 : sm_ic 48 40 = some (.iconst 1, 0, 0, 0) := rfl
theorem r_48_41 : sm_ic 48 41 = some (.goto 4, 45, 0, 0) := rfl
theorem r_48_44 : sm_ic 48 44 = some (.iconst 0, 0, 0, 0) := rfl
theorem r_48_45 : sm_ic 48 45 = some (.ireturn, 0, 0, 0) := rfl
theorem r_49_0 : sm_ic 49 0 = some (.lload_n 0, 0, 0, 0) := rfl
theorem r_49_1 : sm_ic 49 1 = some (.bipush 16, 0, 0, 0) := rfl
theorem r_49_3 : sm_ic 49 3 = some (.iconst 3, 0, 0, 0) := rfl
theorem r_49_4 : sm_ic 49 4 = some (.iload_n 2, 0, 0, 0) := rfl
theorem r_49_5 : sm_ic 49 5 = some (.imul, 0, 0, 0) := rfl
theorem r_49_6 : sm_ic 49 6 = some (.iadd, 0, 0, 0) := rfl
theorem r_49_7 : sm_ic 49 7 = some (.iconst 3, 0, 0, 0) := rfl
theorem r_49_8 : sm_ic 49 8 = some (.invokestatic 9, 50, 3, 401) := rfl
theorem r_49_11 : sm_ic 49 11 = some (.ireturn, 0, 0, 0) := rfl
theorem r_50_0 : sm_ic 50 0 = some (.lload_n 0, 0, 0, 0) := rfl
theorem r_50_1 : sm_ic 50 1 = some (.iload_n 2, 0, 0, 0) := rfl
theorem r_50_2 : sm_ic 50 2 = some (.lushr, 0, 0, 0) := rfl
theorem r_50_3 : sm_ic 50 3 = some (.l2i, 0, 0, 0) := rfl
theorem r_50_4 : sm_ic 50 4 = some (.iconst 1, 0, 0, 0) := rfl
theorem r_50_5 : sm_ic 50 5 = some (.iload_n 3, 0, 0, 0) := rfl
theorem r_50_6 : sm_ic 50 6 = some (.ishl, 0, 0, 0) := rfl
theorem r_50_7 : sm_ic 50 7 = some (.iconst 1, 0, 0, 0) := rfl
theorem r_50_8 : sm_ic 50 8 = some (.isub, 0, 0, 0) := rfl
theorem r_50_9 : sm_ic 50 9 = some (.iand, 0, 0, 0) := rfl
theorem r_50_10 : sm_ic 50 10 = some (.ireturn, 0, 0, 0) := rfl
theorem r_51_0 : sm_ic 51 0 = some (.aload_n 0, 0, 0, 0) := rfl
theorem r_51_1 : sm_ic 51 1 = some (.iconst 0, 0, 0, 0) := rfl
theorem r_51_2 : sm_ic 51 2 = some (.putfield 19, 4, 1, 161) := rfl
theorem r_51_5 : sm_ic 51 5 = some (.return_, 0, 0, 0) := rfl
theorem r_52_0 : sm_ic 52 0 = some (.aload_n 0, 0, 0, 0) := rfl
theorem r_52_1 : sm_ic 52 1 = some (.iconst 0, 0, 0, 0) := rfl
theorem r_52_2 : sm_ic 52 2 = some (.putfield 18, 6, 2, 176) := rfl
theorem r_52_5 : sm_ic 52 5 = some (.return_, 0, 0, 0) := rfl
theorem r_53_0 : sm_ic 53 0 = some (.aload_n 0, 0, 0, 0) := rfl
theorem r_53_1 : sm_ic 53 1 = some (.getfield 43, 1, 3, 101) := rfl
theorem r_53_4 : sm_ic 53 4 = some (.ireturn, 0, 0, 0) := rfl
theorem r_54_0 : sm_ic 54 0 = some (.aload_n 0, 0, 0, 0) := rfl
theorem r_54_1 : sm_ic 54 1 = some (.iload_n 1, 0, 0, 0) := rfl
theorem r_54_2 : sm_ic 54 2 = some (.invokevirtual 98, 55, 2, 420) := rfl
theorem r_54_5 : sm_ic 54 5 = some (.ifCond .ne 5, 10, 0, 0) := rfl
theorem r_54_8 : sm_ic 54 8 = some (.iconst (-1), 0, 0, 0) := rfl
theorem r_54_9 : sm_ic 54 9 = some (.ireturn, 0, 0, 0) := rfl
theorem r_54_10 : sm_ic 54 10 = some (.iload_n 2, 0, 0, 0) := rfl
theorem r_54_11 : sm_ic 54 11 = some (.tableswitch 67 0 3 #[29, 38, 47, 56], 0, 0, 0) := rfl
theorem r_54_40 : sm_ic 54 40 = some (.aload_n 0, 0, 0, 0) := rfl
theorem r_54_41 : sm_ic 54 41 = some (.getfield 30, 0, 3, 351) := rfl
theorem r_54_44 : sm_ic 54 44 = some (.iload_n 1, 0, 0, 0) := rfl
theorem r_54_45 : sm_ic 54 45 = some (.invokevirtual 101, 39, 2, 424) := rfl
theorem r_54_48 : sm_ic 54 48 = some (.ireturn, 0, 0, 0) := rfl
theorem r_54_49 : sm_ic 54 49 = some (.aload_n 0, 0, 0, 0) := rfl
theorem r_54_50 : sm_ic 54 50 = some (.getfield 89, 0, 8, 356) := rfl
theorem r_54_53 : sm_ic 54 53 = some (.iload_n 1, 0, 0, 0) := rfl
theorem r_54_54 : sm_ic 54 54 = some (.invokestatic 105, 56, 2, 425) := rfl
theorem r_54_57 : sm_ic 54 57 = some (.ireturn, 0, 0, 0) := rfl
theorem r_54_58 : sm_ic 54 58 = some (.aload_n 0, 0, 0, 0) := rfl
theorem r_54_59 : sm_ic 54 59 = some (.getfield 89, 0, 8, 356) := rfl
theorem r_54_62 : sm_ic 54 62 = some (.iload_n 1, 0, 0, 0) := rfl
theorem r_54_63 : sm_ic 54 63 = some (.invokestatic 111, 49, 2, 428) := rfl
theorem r_54_66 : sm_ic 54 66 = some (.ireturn, 0, 0, 0) := rfl
theorem r_54_67 : sm_ic 54 67 = some (.aload_n 0, 0, 0, 0) := rfl
theorem r_54_68 : sm_ic 54 68 = some (.getfield 30, 0, 3, 351) := rfl
theorem r_54_71 : sm_ic 54 71 = some (.iconst 1, 0, 0, 0) := rfl
theorem r_54_72 : sm_ic 54 72 = some (.iload_n 1, 0, 0, 0) := rfl
theorem r_54_73 : sm_ic 54 73 = some (.ishl, 0, 0, 0) := rfl
theorem r_54_74 : sm_ic 54 74 = some (.invokevirtual 114, 40, 2, 429) := rfl
theorem r_54_77 : sm_ic 54 77 = some (.ireturn, 0, 0, 0) := rfl
theorem r_54_78 : sm_ic 54 78 = some (.iconst (-1), 0, 0, 0) := rfl
theorem r_54_79 : sm_ic 54 79 = some (.ireturn, 0, 0, 0) := rfl
theorem r_55_0 : sm_ic 55 0 = some (.iload_n 1, 0, 0, 0) := rfl
theorem r_55_1 : sm_ic 55 1 = some (.ifCond .lt 18, 19, 0, 0) := rfl
theorem r_55_4 : sm_ic 55 4 = some (.iload_n 1, 0, 0, 0) := rfl
theorem r_55_5 : sm_ic 55 5 = some (.aload_n 0, 0, 0, 0) := rfl
theorem r_55_6 : sm_ic 55 6 = some (.getfield 30, 0, 3, 351) := rfl
theorem r_55_9 : sm_ic 55 9 = some (.invokevirtual 95, 53, 1, 412) := rfl
theorem r_55_12 : sm_ic 55 12 = some (.if_icmp .ge 7, 19, 0, 0) := rfl
theorem r_55_15 : sm_ic 55 15 = some (.iconst 1, 0, 0, 0) := rfl
theorem r_55_16 : sm_ic 55 16 = some (.goto 4, 20, 0, 0) := rfl
theorem r_55_19 : sm_ic 55 19 = some (.iconst 0, 0, 0, 0) := rfl
theorem r_55_20 : sm_ic 55 20 = some (.ireturn, 0, 0, 0) := rfl
theorem r_56_0 : sm_ic 56 0 = some (.lload_n 0, 0, 0, 0) := rfl
theorem r_56_1 : sm_ic 56 1 = some (.iload_n 2, 0, 0, 0) := rfl
theorem r_56_2 : sm_ic 56 2 = some (.iconst 1, 0, 0, 0) := rfl
theorem r_56_3 : sm_ic 56 3 = some (.invokestatic 9, 50, 3, 401) := rfl
theorem r_56_6 : sm_ic 56 6 = some (.iconst 2, 0, 0, 0) := rfl
theorem r_56_7 : sm_ic 56 7 = some (.lload_n 0, 0, 0, 0) := rfl
theorem r_56_8 : sm_ic 56 8 = some (.bipush 8, 0, 0, 0) := rfl
theorem r_56_10 : sm_ic 56 10 = some (.iload_n 2, 0, 0, 0) := rfl
theorem r_56_11 : sm_ic 56 11 = some (.iadd, 0, 0, 0) := rfl
theorem r_56_12 : sm_ic 56 12 = some (.iconst 1, 0, 0, 0) := rfl
theorem r_56_13 : sm_ic 56 13 = some (.invokestatic 9, 50, 3, 401) := rfl
theorem r_56_16 : sm_ic 56 16 = some (.imul, 0, 0, 0) := rfl
theorem r_56_17 : sm_ic 56 17 = some (.iadd, 0, 0, 0) := rfl
theorem r_56_18 : sm_ic 56 18 = some (.ireturn, 0, 0, 0) := rfl
theorem r_57_0 : sm_ic 57 0 = some (.aload_n 0, 0, 0, 0) := rfl
theorem r_57_1 : sm_ic 57 1 = some (.iload_n 1, 0, 0, 0) := rfl
theorem r_57_2 : sm_ic 57 2 = some (.invokevirtual 117, 58, 2, 434) := rfl
theorem r_57_5 : sm_ic 57 5 = some (.ifCond .ne 5, 10, 0, 0) := rfl
theorem r_57_8 : sm_ic 57 8 = some (.iconst (-1), 0, 0, 0) := rfl
theorem r_57_9 : sm_ic 57 9 = some (.ireturn, 0, 0, 0) := rfl
theorem r_57_10 : sm_ic 57 10 = some (.iload_n 2, 0, 0, 0) := rfl
theorem r_57_11 : sm_ic 57 11 = some (.lookupswitch 48 #[(0, 25), (1, 36)], 0, 0, 0) := rfl
theorem r_57_36 : sm_ic 57 36 = some (.aload_n 0, 0, 0, 0) := rfl
theorem r_57_37 : sm_ic 57 37 = some (.getfield 30, 0, 3, 351) := rfl
theorem r_57_40 : sm_ic 57 40 = some (.iconst 1, 0, 0, 0) := rfl
theorem r_57_41 : sm_ic 57 41 = some (.iload_n 1, 0, 0, 0) := rfl
theorem r_57_42 : sm_ic 57 42 = some (.ishl, 0, 0, 0) := rfl
theorem r_57_43 : sm_ic 57 43 = some (.invokevirtual 120, 41, 2, 442) := rfl
theorem r_57_46 : sm_ic 57 46 = some (.ireturn, 0, 0, 0) := rfl
theorem r_57_47 : sm_ic 57 47 = some (.aload_n 0, 0, 0, 0) := rfl
theorem r_57_48 : sm_ic 57 48 = some (.getfield 89, 0, 8, 356) := rfl
theorem r_57_51 : sm_ic 57 51 = some (.invokestatic 123, 60, 1, 443) := rfl
theorem r_57_54 : sm_ic 57 54 = some (.iload_n 1, 0, 0, 0) := rfl
theorem r_57_55 : sm_ic 57 55 = some (.iushr, 0, 0, 0) := rfl
theorem r_57_56 : sm_ic 57 56 = some (.iconst 1, 0, 0, 0) := rfl
theorem r_57_57 : sm_ic 57 57 = some (.iand, 0, 0, 0) := rfl
theorem r_57_58 : sm_ic 57 58 = some (.ireturn, 0, 0, 0) := rfl
theorem r_57_59 : sm_ic 57 59 = some (.iconst (-1), 0, 0, 0) := rfl
theorem r_57_60 : sm_ic 57 60 = some (.ireturn, 0, 0, 0) := rfl
theorem r_58_0 : sm_ic 58 0 = some (.iload_n 1, 0, 0, 0) := rfl
theorem r_58_1 : sm_ic 58 1 = some (.ifCond .lt 18, 19, 0, 0) := rfl
theorem r_58_4 : sm_ic 58 4 = some (.iload_n 1, 0, 0, 0) := rfl
theorem r_58_5 : sm_ic 58 5 = some (.aload_n 0, 0, 0, 0) := rfl
theorem r_58_6 : sm_ic 58 6 = some (.getfield 30, 0, 3, 351) := rfl
theorem r_58_9 : sm_ic 58 9 = some (.invokevirtual 224, 59, 1, 438) := rfl
theorem r_58_12 : sm_ic 58 12 = some (.if_icmp .ge 7, 19, 0, 0) := rfl
theorem r_58_15 : sm_ic 58 15 = some (.iconst 1, 0, 0, 0) := rfl
theorem r_58_16 : sm_ic 58 16 = some (.goto 4, 20, 0, 0) := rfl
theorem r_58_19 : sm_ic 58 19 = some (.iconst 0, 0, 0, 0) := rfl
theorem r_58_20 : sm_ic 58 20 = some (.ireturn, 0, 0, 0) := rfl
theorem r_59_0 : sm_ic 59 0 = some (.aload_n 0, 0, 0, 0) := rfl
theorem r_59_1 : sm_ic 59 1 = some (.getfield 75, 1, 4, 102) := rfl
theorem r_59_4 : sm_ic 59 4 = some (.ireturn, 0, 0, 0) := rfl
theorem r_60_0 : sm_ic 60 0 = some (.lload_n 0, 0, 0, 0) := rfl
theorem r_60_1 : sm_ic 60 1 = some (.bipush 40, 0, 0, 0) := rfl
theorem r_60_3 : sm_ic 60 3 = some (.iconst 5, 0, 0, 0) := rfl
theorem r_60_4 : sm_ic 60 4 = some (.invokestatic 9, 50, 3, 401) := rfl
theorem r_60_7 : sm_ic 60 7 = some (.ireturn, 0, 0, 0) := rfl
theorem r_61_0 : sm_ic 61 0 = some (.iload_n 1, 0, 0, 0) := rfl
theorem r_61_1 : sm_ic 61 1 = some (.invokestatic 127, 62, 1, 450) := rfl
theorem r_61_4 : sm_ic 61 4 = some (.ifCond .ne 5, 9, 0, 0) := rfl
theorem r_61_7 : sm_ic 61 7 = some (.iconst (-1), 0, 0, 0) := rfl
theorem r_61_8 : sm_ic 61 8 = some (.ireturn, 0, 0, 0) := rfl
theorem r_61_9 : sm_ic 61 9 = some (.aload_n 0, 0, 0, 0) := rfl
theorem r_61_10 : sm_ic 61 10 = some (.getfield 36, 0, 4, 352) := rfl
theorem r_61_13 : sm_ic 61 13 = some (.aload_n 0, 0, 0, 0) := rfl
theorem r_61_14 : sm_ic 61 14 = some (.getfield 30, 0, 3, 351) := rfl
theorem r_61_17 : sm_ic 61 17 = some (.aload_n 0, 0, 0, 0) := rfl
theorem r_61_18 : sm_ic 61 18 = some (.getfield 89, 0, 8, 356) := rfl
theorem r_61_21 : sm_ic 61 21 = some (.invokevirtual 130, 63, 3, 453) := rfl
theorem r_61_24 : sm_ic 61 24 = some (.aload_n 0, 0, 0, 0) := rfl
theorem r_61_25 : sm_ic 61 25 = some (.getfield 36, 0, 4, 352) := rfl
theorem r_61_28 : sm_ic 61 28 = some (.aload_n 0, 0, 0, 0) := rfl
theorem r_61_29 : sm_ic 61 29 = some (.getfield 89, 0, 8, 356) := rfl
theorem r_61_32 : sm_ic 61 32 = some (.iload_n 1, 0, 0, 0) := rfl
theorem r_61_33 : sm_ic 61 33 = some (.invokestatic 134, 70, 2, 481) := rfl
theorem r_61_36 : sm_ic 61 36 = some (.iconst 0, 0, 0, 0) := rfl
theorem r_61_37 : sm_ic 61 37 = some (.invokevirtual 137, 71, 3, 484) := rfl
theorem r_61_40 : sm_ic 61 40 = some (.ireturn, 0, 0, 0) := rfl
theorem r_62_0 : sm_ic 62 0 = some (.iload_n 0, 0, 0, 0) := rfl
theorem r_62_1 : sm_ic 62 1 = some (.ifCond .lt 12, 13, 0, 0) := rfl
theorem r_62_4 : sm_ic 62 4 = some (.iload_n 0, 0, 0, 0) := rfl
theorem r_62_5 : sm_ic 62 5 = some (.iconst 2, 0, 0, 0) := rfl
theorem r_62_6 : sm_ic 62 6 = some (.if_icmp .ge 7, 13, 0, 0) := rfl
theorem r_62_9 : sm_ic 62 9 = some (.iconst 1, 0, 0, 0) := rfl
theorem r_62_10 : sm_ic 62 10 = some (.goto 4, 14, 0, 0) := rfl
theorem r_62_13 : sm_ic 62 13 = some (.iconst 0, 0, 0, 0) := rfl
theorem r_62_14 : sm_ic 62 14 = some (.ireturn, 0, 0, 0) := rfl
theorem r_63_0 : sm_ic 63 0 = some (.lload_n 2, 0, 0, 0) := rfl
theorem r_63_1 : sm_ic 63 1 = some (.invokestatic 15, 64, 1, 457) := rfl
theorem r_63_4 : sm_ic 63 4 = some (.istore 4, 0, 0, 0) := rfl
theorem r_63_6 : sm_ic 63 6 = some (.iconst 0, 0, 0, 0) := rfl
theorem r_63_7 : sm_ic 63 7 = some (.istore 5, 0, 0, 0) := rfl
theorem r_63_9 : sm_ic 63 9 = some (.iload 5, 0, 0, 0) := rfl
theorem r_63_11 : sm_ic 63 11 = some (.aload_n 0, 0, 0, 0) := rfl
theorem r_63_12 : sm_ic 63 12 = some (.getfield 9, 3, 0, 135) := rfl
theorem r_63_15 : sm_ic 63 15 = some (.arraylength, 0, 0, 0) := rfl
theorem r_63_16 : sm_ic 63 16 = some (.if_icmp .ge 33, 49, 0, 0) := rfl
theorem r_63_19 : sm_ic 63 19 = some (.aload_n 0, 0, 0, 0) := rfl
theorem r_63_20 : sm_ic 63 20 = some (.getfield 9, 3, 0, 135) := rfl
theorem r_63_23 : sm_ic 63 23 = some (.iload 5, 0, 0, 0) := rfl
theorem r_63_25 : sm_ic 63 25 = some (.iload 4, 0, 0, 0) := rfl
theorem r_63_27 : sm_ic 63 27 = some (.ifCond .eq 8, 35, 0, 0) := rfl
theorem r_63_30 : sm_ic 63 30 = some (.iload 5, 0, 0, 0) := rfl
theorem r_63_32 : sm_ic 63 32 = some (.goto 10, 42, 0, 0) := rfl
theorem r_63_35 : sm_ic 63 35 = some (.aload_n 1, 0, 0, 0) := rfl
theorem r_63_36 : sm_ic 63 36 = some (.lload_n 2, 0, 0, 0) := rfl
theorem r_63_37 : sm_ic 63 37 = some (.iload 5, 0, 0, 0) := rfl
theorem r_63_39 : sm_ic 63 39 = some (.invokestatic 21, 65, 3, 460) := rfl
theorem r_63_42 : sm_ic 63 42 = some (.iastore, 0, 0, 0) := rfl
theorem r_63_43 : sm_ic 63 43 = some (.iinc 5 1, 0, 0, 0) := rfl
theorem r_63_46 : sm_ic 63 46 = some (.goto (-37), 9, 0, 0) := rfl
theorem r_63_49 : sm_ic 63 49 = some (.aload_n 0, 0, 0, 0) := rfl
theorem r_63_50 : sm_ic 63 50 = some (.iload 4, 0, 0, 0) := rfl
theorem r_63_52 : sm_ic 63 52 = some (.ifCond .eq 7, 59, 0, 0) := rfl
theorem r_63_55 : sm_ic 63 55 = some (.iconst 0, 0, 0, 0) := rfl
theorem r_63_56 : sm_ic 63 56 = some (.goto 8, 64, 0, 0) := rfl
theorem r_63_59 : sm_ic 63 59 = some (.aload_n 1, 0, 0, 0) := rfl
theorem r_63_60 : sm_ic 63 60 = some (.iconst 3, 0, 0, 0) := rfl
theorem r_63_61 : sm_ic 63 61 = some (.invokevirtual 25, 67, 2, 468) := rfl
theorem r_63_64 : sm_ic 63 64 = some (.putfield 31, 3, 1, 136) := rfl
theorem r_63_67 : sm_ic 63 67 = some (.aload_n 0, 0, 0, 0) := rfl
theorem r_63_68 : sm_ic 63 68 = some (.iload 4, 0, 0, 0) := rfl
theorem r_63_70 : sm_ic 63 70 = some (.ifCond .eq 8, 78, 0, 0) := rfl
theorem r_63_73 : sm_ic 63 73 = some (.bipush 8, 0, 0, 0) := rfl
theorem r_63_75 : sm_ic 63 75 = some (.goto 16, 91, 0, 0) := rfl
theorem r_63_78 : sm_ic 63 78 = some (.aload_n 1, 0, 0, 0) := rfl
theorem r_63_79 : sm_ic 63 79 = some (.bipush 31, 0, 0, 0) := rfl
theorem r_63_81 : sm_ic 63 81 = some (.lload_n 2, 0, 0, 0) := rfl
theorem r_63_82 : sm_ic 63 82 = some (.invokestatic 35, 60, 1, 472) := rfl
theorem r_63_85 : sm_ic 63 85 = some (.iconst (-1), 0, 0, 0) := rfl
theorem r_63_86 : sm_ic 63 86 = some (.ixor, 0, 0, 0) := rfl
theorem r_63_87 : sm_ic 63 87 = some (.iand, 0, 0, 0) := rfl
theorem r_63_88 : sm_ic 63 88 = some (.invokevirtual 39, 41, 2, 473) := rfl
theorem r_63_91 : sm_ic 63 91 = some (.putfield 42, 3, 2, 137) := rfl
theorem r_63_94 : sm_ic 63 94 = some (.aload_n 0, 0, 0, 0) := rfl
theorem r_63_95 : sm_ic 63 95 = some (.aload_n 1, 0, 0, 0) := rfl
theorem r_63_96 : sm_ic 63 96 = some (.invokevirtual 45, 68, 1, 474) := rfl
theorem r_63_99 : sm_ic 63 99 = some (.putfield 49, 3, 3, 138) := rfl
theorem r_63_102 : sm_ic 63 102 = some (.aload_n 0, 0, 0, 0) := rfl
theorem r_63_103 : sm_ic 63 103 = some (.lload_n 2, 0, 0, 0) := rfl
theorem r_63_104 : sm_ic 63 104 = some (.invokestatic 52, 69, 1, 478) := rfl
theorem r_63_107 : sm_ic 63 107 = some (.ifCond .eq 12, 119, 0, 0) := rfl
theorem r_63_110 : sm_ic 63 110 = some (.iload 4, 0, 0, 0) := rfl
theorem r_63_112 : sm_ic 63 112 = some (.ifCond .ne 7, 119, 0, 0) := rfl
theorem r_63_115 : sm_ic 63 115 = some (.iconst 1, 0, 0, 0) := rfl
theorem r_63_116 : sm_ic 63 116 = some (.goto 4, 120, 0, 0) := rfl
theorem r_63_119 : sm_ic 63 119 = some (.iconst 0, 0, 0, 0) := rfl
theorem r_63_120 : sm_ic 63 120 = some (.putfield 55, 3, 4, 139) := rfl
theorem r_63_123 : sm_ic 63 123 = some (.return_, 0, 0, 0) := rfl
theorem r_64_0 : sm_ic 64 0 = some (.lload_n 0, 0, 0, 0) := rfl
theorem r_64_1 : sm_ic 64 1 = some (.bipush 46, 0, 0, 0) := rfl
theorem r_64_3 : sm_ic 64 3 = some (.iconst 1, 0, 0, 0) := rfl
theorem r_64_4 : sm_ic 64 4 = some (.invokestatic 9, 50, 3, 401) := rfl
theorem r_64_7 : sm_ic 64 7 = some (.iconst 1, 0, 0, 0) := rfl
theorem r_64_8 : sm_ic 64 8 = some (.if_icmp .ne 7, 15, 0, 0) := rfl
theorem r_64_11 : sm_ic 64 11 = some (.iconst 1, 0, 0, 0) := rfl
theorem r_64_12 : sm_ic 64 12 = some (.goto 4, 16, 0, 0) := rfl
theorem r_64_15 : sm_ic 64 15 = some (.iconst 0, 0, 0, 0) := rfl
theorem r_64_16 : sm_ic 64 16 = some (.ireturn, 0, 0, 0) := rfl
theorem r_65_0 : sm_ic 65 0 = some (.iload_n 3, 0, 0, 0) := rfl
theorem r_65_1 : sm_ic 65 1 = some (.istore 4, 0, 0, 0) := rfl
theorem r_65_3 : sm_ic 65 3 = some (.iconst 0, 0, 0, 0) := rfl
theorem r_65_4 : sm_ic 65 4 = some (.istore 5, 0, 0, 0) := rfl
theorem r_65_6 : sm_ic 65 6 = some (.iload 5, 0, 0, 0) := rfl
theorem r_65_8 : sm_ic 65 8 = some (.bipush 8, 0, 0, 0) := rfl
theorem r_65_10 : sm_ic 65 10 = some (.if_icmp .ge 40, 50, 0, 0) := rfl
theorem r_65_13 : sm_ic 65 13 = some (.aload_n 0, 0, 0, 0) := rfl
theorem r_65_14 : sm_ic 65 14 = some (.iload 4, 0, 0, 0) := rfl
theorem r_65_16 : sm_ic 65 16 = some (.invokevirtual 74, 39, 2, 463) := rfl
theorem r_65_19 : sm_ic 65 19 = some (.iconst 2, 0, 0, 0) := rfl
theorem r_65_20 : sm_ic 65 20 = some (.if_icmp .ne 13, 33, 0, 0) := rfl
theorem r_65_23 : sm_ic 65 23 = some (.aload_n 0, 0, 0, 0) := rfl
theorem r_65_24 : sm_ic 65 24 = some (.lload_n 1, 0, 0, 0) := rfl
theorem r_65_25 : sm_ic 65 25 = some (.iload 4, 0, 0, 0) := rfl
theorem r_65_27 : sm_ic 65 27 = some (.invokestatic 77, 66, 3, 464) := rfl
theorem r_65_30 : sm_ic 65 30 = some (.ifCond .eq 6, 36, 0, 0) := rfl
theorem r_65_33 : sm_ic 65 33 = some (.iload 4, 0, 0, 0) := rfl
theorem r_65_35 : sm_ic 65 35 = some (.ireturn, 0, 0, 0) := rfl
theorem r_65_36 : sm_ic 65 36 = some (.lload_n 1, 0, 0, 0) := rfl
theorem r_65_37 : sm_ic 65 37 = some (.iload 4, 0, 0, 0) := rfl
theorem r_65_39 : sm_ic 65 39 = some (.invokestatic 81, 49, 2, 467) := rfl
theorem r_65_42 : sm_ic 65 42 = some (.istore 4, 0, 0, 0) := rfl
theorem r_65_44 : sm_ic 65 44 = some (.iinc 5 1, 0, 0, 0) := rfl
theorem r_65_47 : sm_ic 65 47 = some (.goto (-41), 6, 0, 0) := rfl
theorem r_65_50 : sm_ic 65 50 = some (.iload 4, 0, 0, 0) := rfl
theorem r_65_52 : sm_ic 65 52 = some (.ireturn, 0, 0, 0) := rfl
theorem r_66_0 : sm_ic 66 0 = some (.iload_n 3, 0, 0, 0) := rfl
theorem r_66_1 : sm_ic 66 1 = some (.istore 4, 0, 0, 0) := rfl
theorem r_66_3 : sm_ic 66 3 = some (.iconst 0, 0, 0, 0) := rfl
theorem r_66_4 : sm_ic 66 4 = some (.istore 5, 0, 0, 0) := rfl
theorem r_66_6 : sm_ic 66 6 = some (.iload 5, 0, 0, 0) := rfl
theorem r_66_8 : sm_ic 66 8 = some (.bipush 8, 0, 0, 0) := rfl
theorem r_66_10 : sm_ic 66 10 = some (.if_icmp .ge 37, 47, 0, 0) := rfl
theorem r_66_13 : sm_ic 66 13 = some (.lload_n 1, 0, 0, 0) := rfl
theorem r_66_14 : sm_ic 66 14 = some (.iload 4, 0, 0, 0) := rfl
theorem r_66_16 : sm_ic 66 16 = some (.invokestatic 81, 49, 2, 467) := rfl
theorem r_66_19 : sm_ic 66 19 = some (.istore 4, 0, 0, 0) := rfl
theorem r_66_21 : sm_ic 66 21 = some (.iload 4, 0, 0, 0) := rfl
theorem r_66_23 : sm_ic 66 23 = some (.iload_n 3, 0, 0, 0) := rfl
theorem r_66_24 : sm_ic 66 24 = some (.if_icmp .ne 5, 29, 0, 0) := rfl
theorem r_66_27 : sm_ic 66 27 = some (.iconst 1, 0, 0, 0) := rfl
theorem r_66_28 : sm_ic 66 28 = some (.ireturn, 0, 0, 0) := rfl
theorem r_66_29 : sm_ic 66 29 = some (.aload_n 0, 0, 0, 0) := rfl
theorem r_66_30 : sm_ic 66 30 = some (.iload 4, 0, 0, 0) := rfl
theorem r_66_32 : sm_ic 66 32 = some (.invokevirtual 74, 39, 2, 463) := rfl
theorem r_66_35 : sm_ic 66 35 = some (.iconst 2, 0, 0, 0) := rfl
theorem r_66_36 : sm_ic 66 36 = some (.if_icmp .eq 5, 41, 0, 0) := rfl
theorem r_66_39 : sm_ic 66 39 = some (.iconst 0, 0, 0, 0) := rfl
theorem r_66_40 : sm_ic 66 40 = some (.ireturn, 0, 0, 0) := rfl
theorem r_66_41 : sm_ic 66 41 = some (.iinc 5 1, 0, 0, 0) := rfl
theorem r_66_44 : sm_ic 66 44 = some (.goto (-38), 6, 0, 0) := rfl
theorem r_66_47 : sm_ic 66 47 = some (.iconst 0, 0, 0, 0) := rfl
theorem r_66_48 : sm_ic 66 48 = some (.ireturn, 0, 0, 0) := rfl
theorem r_67_0 : sm_ic 67 0 = some (.iconst 0, 0, 0, 0) := rfl
theorem r_67_1 : sm_ic 67 1 = some (.istore_n 2, 0, 0, 0) := rfl
theorem r_67_2 : sm_ic 67 2 = some (.iconst 0, 0, 0, 0) := rfl
theorem r_67_3 : sm_ic 67 3 = some (.istore_n 3, 0, 0, 0) := rfl
theorem r_67_4 : sm_ic 67 4 = some (.iload_n 3, 0, 0, 0) := rfl
theorem r_67_5 : sm_ic 67 5 = some (.aload_n 0, 0, 0, 0) := rfl
theorem r_67_6 : sm_ic 67 6 = some (.getfield 43, 1, 3, 101) := rfl
theorem r_67_9 : sm_ic 67 9 = some (.if_icmp .ge 24, 33, 0, 0) := rfl
theorem r_67_12 : sm_ic 67 12 = some (.aload_n 0, 0, 0, 0) := rfl
theorem r_67_13 : sm_ic 67 13 = some (.iload_n 3, 0, 0, 0) := rfl
theorem r_67_14 : sm_ic 67 14 = some (.invokevirtual 57, 39, 2, 328) := rfl
theorem r_67_17 : sm_ic 67 17 = some (.iload_n 1, 0, 0, 0) := rfl
theorem r_67_18 : sm_ic 67 18 = some (.if_icmp .ne 9, 27, 0, 0) := rfl
theorem r_67_21 : sm_ic 67 21 = some (.iload_n 2, 0, 0, 0) := rfl
theorem r_67_22 : sm_ic 67 22 = some (.iconst 1, 0, 0, 0) := rfl
theorem r_67_23 : sm_ic 67 23 = some (.iload_n 3, 0, 0, 0) := rfl
theorem r_67_24 : sm_ic 67 24 = some (.ishl, 0, 0, 0) := rfl
theorem r_67_25 : sm_ic 67 25 = some (.ior, 0, 0, 0) := rfl
theorem r_67_26 : sm_ic 67 26 = some (.istore_n 2, 0, 0, 0) := rfl
theorem r_67_27 : sm_ic 67 27 = some (.iinc 3 1, 0, 0, 0) := rfl
theorem r_67_30 : sm_ic 67 30 = some (.goto (-26), 4, 0, 0) := rfl
theorem r_67_33 : sm_ic 67 33 = some (.iload_n 2, 0, 0, 0) := rfl
theorem r_67_34 : sm_ic 67 34 = some (.ireturn, 0, 0, 0) := rfl
theorem r_68_0 : sm_ic 68 0 = some (.aload_n 0, 0, 0, 0) := rfl
theorem r_68_1 : sm_ic 68 1 = some (.getfield 78, 1, 5, 103) := rfl
theorem r_68_4 : sm_ic 68 4 = some (.ireturn, 0, 0, 0) := rfl
theorem r_69_0 : sm_ic 69 0 = some (.lload_n 0, 0, 0, 0) := rfl
theorem r_69_1 : sm_ic 69 1 = some (.bipush 45, 0, 0, 0) := rfl
theorem r_69_3 : sm_ic 69 3 = some (.iconst 1, 0, 0, 0) := rfl
theorem r_69_4 : sm_ic 69 4 = some (.invokestatic 9, 50, 3, 401) := rfl
theorem r_69_7 : sm_ic 69 7 = some (.iconst 1, 0, 0, 0) := rfl
theorem r_69_8 : sm_ic 69 8 = some (.if_icmp .ne 7, 15, 0, 0) := rfl
theorem r_69_11 : sm_ic 69 11 = some (.iconst 1, 0, 0, 0) := rfl
theorem r_69_12 : sm_ic 69 12 = some (.goto 4, 16, 0, 0) := rfl
theorem r_69_15 : sm_ic 69 15 = some (.iconst 0, 0, 0, 0) := rfl
theorem r_69_16 : sm_ic 69 16 = some (.ireturn, 0, 0, 0) := rfl
theorem r_70_0 : sm_ic 70 0 = some (.lload_n 0, 0, 0, 0) := rfl
theorem r_70_1 : sm_ic 70 1 = some (.bipush 8, 0, 0, 0) := rfl
theorem r_70_3 : sm_ic 70 3 = some (.iload_n 2, 0, 0, 0) := rfl
theorem r_70_4 : sm_ic 70 4 = some (.imul, 0, 0, 0) := rfl
theorem r_70_5 : sm_ic 70 5 = some (.bipush 8, 0, 0, 0) := rfl
theorem r_70_7 : sm_ic 70 7 = some (.invokestatic 9, 50, 3, 401) := rfl
theorem r_70_10 : sm_ic 70 10 = some (.ireturn, 0, 0, 0) := rfl
theorem r_71_0 : sm_ic 71 0 = some (.aload_n 0, 0, 0, 0) := rfl
theorem r_71_1 : sm_ic 71 1 = some (.getfield 55, 3, 4, 139) := rfl
theorem r_71_4 : sm_ic 71 4 = some (.ifCond .eq 7, 11, 0, 0) := rfl
theorem r_71_7 : sm_ic 71 7 = some (.iconst 0, 0, 0, 0) := rfl
theorem r_71_8 : sm_ic 71 8 = some (.goto 15, 23, 0, 0) := rfl
theorem r_71_11 : sm_ic 71 11 = some (.iload_n 1, 0, 0, 0) := rfl
theorem r_71_12 : sm_ic 71 12 = some (.aload_n 0, 0, 0, 0) := rfl
theorem r_71_13 : sm_ic 71 13 = some (.getfield 31, 3, 1, 136) := rfl
theorem r_71_16 : sm_ic 71 16 = some (.iconst (-1), 0, 0, 0) := rfl
theorem r_71_17 : sm_ic 71 17 = some (.ixor, 0, 0, 0) := rfl
theorem r_71_18 : sm_ic 71 18 = some (.iand, 0, 0, 0) := rfl
theorem r_71_19 : sm_ic 71 19 = some (.iload_n 2, 0, 0, 0) := rfl
theorem r_71_20 : sm_ic 71 20 = some (.iconst (-1), 0, 0, 0) := rfl
theorem r_71_21 : sm_ic 71 21 = some (.ixor, 0, 0, 0) := rfl
theorem r_71_22 : sm_ic 71 22 = some (.iand, 0, 0, 0) := rfl
theorem r_71_23 : sm_ic 71 23 = some (.istore_n 3, 0, 0, 0) := rfl
theorem r_71_24 : sm_ic 71 24 = some (.iconst 0, 0, 0, 0) := rfl
theorem r_71_25 : sm_ic 71 25 = some (.istore 4, 0, 0, 0) := rfl
theorem r_71_27 : sm_ic 71 27 = some (.iconst 0, 0, 0, 0) := rfl
theorem r_71_28 : sm_ic 71 28 = some (.istore 5, 0, 0, 0) := rfl
theorem r_71_30 : sm_ic 71 30 = some (.iload 5, 0, 0, 0) := rfl
theorem r_71_32 : sm_ic 71 32 = some (.aload_n 0, 0, 0, 0) := rfl
theorem r_71_33 : sm_ic 71 33 = some (.getfield 9, 3, 0, 135) := rfl
theorem r_71_36 : sm_ic 71 36 = some (.arraylength, 0, 0, 0) := rfl
theorem r_71_37 : sm_ic 71 37 = some (.if_icmp .ge 28, 65, 0, 0) := rfl
theorem r_71_40 : sm_ic 71 40 = some (.iload 4, 0, 0, 0) := rfl
theorem r_71_42 : sm_ic 71 42 = some (.iload_n 3, 0, 0, 0) := rfl
theorem r_71_43 : sm_ic 71 43 = some (.aload_n 0, 0, 0, 0) := rfl
theorem r_71_44 : sm_ic 71 44 = some (.getfield 9, 3, 0, 135) := rfl
theorem r_71_47 : sm_ic 71 47 = some (.iload 5, 0, 0, 0) := rfl
theorem r_71_49 : sm_ic 71 49 = some (.iaload, 0, 0, 0) := rfl
theorem r_71_50 : sm_ic 71 50 = some (.iushr, 0, 0, 0) := rfl
theorem r_71_51 : sm_ic 71 51 = some (.iconst 1, 0, 0, 0) := rfl
theorem r_71_52 : sm_ic 71 52 = some (.iand, 0, 0, 0) := rfl
theorem r_71_53 : sm_ic 71 53 = some (.iload 5, 0, 0, 0) := rfl
theorem r_71_55 : sm_ic 71 55 = some (.ishl, 0, 0, 0) := rfl
theorem r_71_56 : sm_ic 71 56 = some (.ior, 0, 0, 0) := rfl
theorem r_71_57 : sm_ic 71 57 = some (.istore 4, 0, 0, 0) := rfl
theorem r_71_59 : sm_ic 71 59 = some (.iinc 5 1, 0, 0, 0) := rfl
theorem r_71_62 : sm_ic 71 62 = some (.goto (-32), 30, 0, 0) := rfl
theorem r_71_65 : sm_ic 71 65 = some (.iload 4, 0, 0, 0) := rfl
theorem r_71_67 : sm_ic 71 67 = some (.ireturn, 0, 0, 0) := rfl
theorem r_72_0 : sm_ic 72 0 = some (.iload_n 1, 0, 0, 0) := rfl
theorem r_72_1 : sm_ic 72 1 = some (.invokestatic 127, 62, 1, 450) := rfl
theorem r_72_4 : sm_ic 72 4 = some (.ifCond .eq 15, 19, 0, 0) := rfl
theorem r_72_7 : sm_ic 72 7 = some (.aload_n 0, 0, 0, 0) := rfl
theorem r_72_8 : sm_ic 72 8 = some (.aload_n 0, 0, 0, 0) := rfl
theorem r_72_9 : sm_ic 72 9 = some (.getfield 89, 0, 8, 356) := rfl
theorem r_72_12 : sm_ic 72 12 = some (.iload_n 1, 0, 0, 0) := rfl
theorem r_72_13 : sm_ic 72 13 = some (.invokevirtual 141, 73, 3, 492) := rfl
theorem r_72_16 : sm_ic 72 16 = some (.goto 4, 20, 0, 0) := rfl
theorem r_72_19 : sm_ic 72 19 = some (.iconst (-1), 0, 0, 0) := rfl
theorem r_72_20 : sm_ic 72 20 = some (.ireturn, 0, 0, 0) := rfl
theorem r_73_0 : sm_ic 73 0 = some (.aload_n 0, 0, 0, 0) := rfl
theorem r_73_1 : sm_ic 73 1 = some (.getfield 36, 0, 4, 352) := rfl
theorem r_73_4 : sm_ic 73 4 = some (.aload_n 0, 0, 0, 0) := rfl
theorem r_73_5 : sm_ic 73 5 = some (.getfield 30, 0, 3, 351) := rfl
theorem r_73_8 : sm_ic 73 8 = some (.lload_n 1, 0, 0, 0) := rfl
theorem r_73_9 : sm_ic 73 9 = some (.invokevirtual 130, 63, 3, 453) := rfl
theorem r_73_12 : sm_ic 73 12 = some (.aload_n 0, 0, 0, 0) := rfl
theorem r_73_13 : sm_ic 73 13 = some (.getfield 36, 0, 4, 352) := rfl
theorem r_73_16 : sm_ic 73 16 = some (.lload_n 1, 0, 0, 0) := rfl
theorem r_73_17 : sm_ic 73 17 = some (.iload_n 3, 0, 0, 0) := rfl
theorem r_73_18 : sm_ic 73 18 = some (.invokestatic 134, 70, 2, 481) := rfl
theorem r_73_21 : sm_ic 73 21 = some (.iconst 0, 0, 0, 0) := rfl
theorem r_73_22 : sm_ic 73 22 = some (.invokevirtual 201, 74, 3, 496) := rfl
theorem r_73_25 : sm_ic 73 25 = some (.ireturn, 0, 0, 0) := rfl
theorem r_74_0 : sm_ic 74 0 = some (.aload_n 0, 0, 0, 0) := rfl
theorem r_74_1 : sm_ic 74 1 = some (.aload_n 0, 0, 0, 0) := rfl
theorem r_74_2 : sm_ic 74 2 = some (.iload_n 1, 0, 0, 0) := rfl
theorem r_74_3 : sm_ic 74 3 = some (.iload_n 2, 0, 0, 0) := rfl
theorem r_74_4 : sm_ic 74 4 = some (.invokevirtual 59, 71, 3, 500) := rfl
theorem r_74_7 : sm_ic 74 7 = some (.aload_n 0, 0, 0, 0) := rfl
theorem r_74_8 : sm_ic 74 8 = some (.getfield 49, 3, 3, 138) := rfl
theorem r_74_11 : sm_ic 74 11 = some (.invokevirtual 63, 75, 3, 501) := rfl
theorem r_74_14 : sm_ic 74 14 = some (.ireturn, 0, 0, 0) := rfl
theorem r_75_0 : sm_ic 75 0 = some (.iload_n 1, 0, 0, 0) := rfl
theorem r_75_1 : sm_ic 75 1 = some (.aload_n 0, 0, 0, 0) := rfl
theorem r_75_2 : sm_ic 75 2 = some (.getfield 42, 3, 2, 137) := rfl
theorem r_75_5 : sm_ic 75 5 = some (.iload_n 2, 0, 0, 0) := rfl
theorem r_75_6 : sm_ic 75 6 = some (.invokestatic 66, 9996, 0, 505) := rfl
theorem r_75_9 : sm_ic 75 9 = some (.invokestatic 71, 76, 2, 5000) := rfl
theorem r_75_12 : sm_ic 75 12 = some (.ireturn, 0, 0, 0) := rfl
theorem r_76_0 : sm_ic 76 0 = some (.iconst 0, 0, 0, 0) := rfl
theorem r_76_1 : sm_ic 76 1 = some (.istore_n 2, 0, 0, 0) := rfl
theorem r_76_2 : sm_ic 76 2 = some (.iconst 0, 0, 0, 0) := rfl
theorem r_76_3 : sm_ic 76 3 = some (.istore_n 3, 0, 0, 0) := rfl
theorem r_76_4 : sm_ic 76 4 = some (.iconst 0, 0, 0, 0) := rfl
theorem r_76_5 : sm_ic 76 5 = some (.istore 4, 0, 0, 0) := rfl
theorem r_76_7 : sm_ic 76 7 = some (.iload 4, 0, 0, 0) := rfl
theorem r_76_9 : sm_ic 76 9 = some (.bipush 8, 0, 0, 0) := rfl
theorem r_76_11 : sm_ic 76 11 = some (.if_icmp .ge 34, 45, 0, 0) := rfl
theorem r_76_14 : sm_ic 76 14 = some (.iload_n 3, 0, 0, 0) := rfl
theorem r_76_15 : sm_ic 76 15 = some (.iload_n 1, 0, 0, 0) := rfl
theorem r_76_16 : sm_ic 76 16 = some (.if_icmp .ge 23, 39, 0, 0) := rfl
theorem r_76_19 : sm_ic 76 19 = some (.iload_n 0, 0, 0, 0) := rfl
theorem r_76_20 : sm_ic 76 20 = some (.iload 4, 0, 0, 0) := rfl
theorem r_76_22 : sm_ic 76 22 = some (.iushr, 0, 0, 0) := rfl
theorem r_76_23 : sm_ic 76 23 = some (.iconst 1, 0, 0, 0) := rfl
theorem r_76_24 : sm_ic 76 24 = some (.iand, 0, 0, 0) := rfl
theorem r_76_25 : sm_ic 76 25 = some (.iconst 1, 0, 0, 0) := rfl
theorem r_76_26 : sm_ic 76 26 = some (.if_icmp .ne 13, 39, 0, 0) := rfl
theorem r_76_29 : sm_ic 76 29 = some (.iload_n 2, 0, 0, 0) := rfl
theorem r_76_30 : sm_ic 76 30 = some (.iconst 1, 0, 0, 0) := rfl
theorem r_76_31 : sm_ic 76 31 = some (.iload 4, 0, 0, 0) := rfl
theorem r_76_33 : sm_ic 76 33 = some (.ishl, 0, 0, 0) := rfl
theorem r_76_34 : sm_ic 76 34 = some (.ior, 0, 0, 0) := rfl
theorem r_76_35 : sm_ic 76 35 = some (.istore_n 2, 0, 0, 0) := rfl
theorem r_76_36 : sm_ic 76 36 = some (.iinc 3 1, 0, 0, 0) := rfl
theorem r_76_39 : sm_ic 76 39 = some (.iinc 4 1, 0, 0, 0) := rfl
theorem r_76_42 : sm_ic 76 42 = some (.goto (-35), 7, 0, 0) := rfl
theorem r_76_45 : sm_ic 76 45 = some (.iload_n 2, 0, 0, 0) := rfl
theorem r_76_46 : sm_ic 76 46 = some (.ireturn, 0, 0, 0) := rfl
theorem r_77_0 : sm_ic 77 0 = some (.iload_n 1, 0, 0, 0) := rfl
theorem r_77_1 : sm_ic 77 1 = some (.invokestatic 127, 62, 1, 450) := rfl
theorem r_77_4 : sm_ic 77 4 = some (.ifCond .eq 11, 15, 0, 0) := rfl
theorem r_77_7 : sm_ic 77 7 = some (.aload_n 0, 0, 0, 0) := rfl
theorem r_77_8 : sm_ic 77 8 = some (.iload_n 2, 0, 0, 0) := rfl
theorem r_77_9 : sm_ic 77 9 = some (.invokevirtual 98, 55, 2, 420) := rfl
theorem r_77_12 : sm_ic 77 12 = some (.ifCond .ne 5, 17, 0, 0) := rfl
theorem r_77_15 : sm_ic 77 15 = some (.iconst (-1), 0, 0, 0) := rfl
theorem r_77_16 : sm_ic 77 16 = some (.ireturn, 0, 0, 0) := rfl
theorem r_77_17 : sm_ic 77 17 = some (.aload_n 0, 0, 0, 0) := rfl
theorem r_77_18 : sm_ic 77 18 = some (.aload_n 0, 0, 0, 0) := rfl
theorem r_77_19 : sm_ic 77 19 = some (.getfield 89, 0, 8, 356) := rfl
theorem r_77_22 : sm_ic 77 22 = some (.iload_n 1, 0, 0, 0) := rfl
theorem r_77_23 : sm_ic 77 23 = some (.invokevirtual 141, 73, 3, 492) := rfl
theorem r_77_26 : sm_ic 77 26 = some (.istore_n 3, 0, 0, 0) := rfl
theorem r_77_27 : sm_ic 77 27 = some (.iload_n 3, 0, 0, 0) := rfl
theorem r_77_28 : sm_ic 77 28 = some (.iload_n 2, 0, 0, 0) := rfl
theorem r_77_29 : sm_ic 77 29 = some (.iushr, 0, 0, 0) := rfl
theorem r_77_30 : sm_ic 77 30 = some (.iconst 1, 0, 0, 0) := rfl
theorem r_77_31 : sm_ic 77 31 = some (.iand, 0, 0, 0) := rfl
theorem r_77_32 : sm_ic 77 32 = some (.ifCond .eq 13, 45, 0, 0) := rfl
theorem r_77_35 : sm_ic 77 35 = some (.aload_n 0, 0, 0, 0) := rfl
theorem r_77_36 : sm_ic 77 36 = some (.getfield 89, 0, 8, 356) := rfl
theorem r_77_39 : sm_ic 77 39 = some (.invokestatic 144, 64, 1, 515) := rfl
theorem r_77_42 : sm_ic 77 42 = some (.ifCond .eq 6, 48, 0, 0) := rfl
theorem r_77_45 : sm_ic 77 45 = some (.bipush (-4), 0, 0, 0) := rfl
theorem r_77_47 : sm_ic 77 47 = some (.ireturn, 0, 0, 0) := rfl
theorem r_77_48 : sm_ic 77 48 = some (.iload_n 3, 0, 0, 0) := rfl
theorem r_77_49 : sm_ic 77 49 = some (.iconst 1, 0, 0, 0) := rfl
theorem r_77_50 : sm_ic 77 50 = some (.iload_n 2, 0, 0, 0) := rfl
theorem r_77_51 : sm_ic 77 51 = some (.ishl, 0, 0, 0) := rfl
theorem r_77_52 : sm_ic 77 52 = some (.iconst 1, 0, 0, 0) := rfl
theorem r_77_53 : sm_ic 77 53 = some (.isub, 0, 0, 0) := rfl
theorem r_77_54 : sm_ic 77 54 = some (.iand, 0, 0, 0) := rfl
theorem r_77_55 : sm_ic 77 55 = some (.invokestatic 148, 78, 1, 516) := rfl
theorem r_77_58 : sm_ic 77 58 = some (.istore 4, 0, 0, 0) := rfl
theorem r_77_60 : sm_ic 77 60 = some (.aload_n 0, 0, 0, 0) := rfl
theorem r_77_61 : sm_ic 77 61 = some (.getfield 30, 0, 3, 351) := rfl
theorem r_77_64 : sm_ic 77 64 = some (.iload 4, 0, 0, 0) := rfl
theorem r_77_66 : sm_ic 77 66 = some (.aload_n 0, 0, 0, 0) := rfl
theorem r_77_67 : sm_ic 77 67 = some (.getfield 89, 0, 8, 356) := rfl
theorem r_77_70 : sm_ic 77 70 = some (.invokestatic 123, 60, 1, 443) := rfl
theorem r_77_73 : sm_ic 77 73 = some (.invokevirtual 153, 79, 3, 522) := rfl
theorem r_77_76 : sm_ic 77 76 = some (.ireturn, 0, 0, 0) := rfl
theorem r_78_0 : sm_ic 78 0 = some (.iload_n 0, 0, 0, 0) := rfl
theorem r_78_1 : sm_ic 78 1 = some (.iload_n 0, 0, 0, 0) := rfl
theorem r_78_2 : sm_ic 78 2 = some (.iconst 1, 0, 0, 0) := rfl
theorem r_78_3 : sm_ic 78 3 = some (.iushr, 0, 0, 0) := rfl
theorem r_78_4 : sm_ic 78 4 = some (.ldc_w 265, 1431655765, 0, 519) := rfl
theorem r_78_7 : sm_ic 78 7 = some (.iand, 0, 0, 0) := rfl
theorem r_78_8 : sm_ic 78 8 = some (.isub, 0, 0, 0) := rfl
theorem r_78_9 : sm_ic 78 9 = some (.istore_n 0, 0, 0, 0) := rfl
theorem r_78_10 : sm_ic 78 10 = some (.iload_n 0, 0, 0, 0) := rfl
theorem r_78_11 : sm_ic 78 11 = some (.ldc_w 266, 858993459, 0, 520) := rfl
theorem r_78_14 : sm_ic 78 14 = some (.iand, 0, 0, 0) := rfl
theorem r_78_15 : sm_ic 78 15 = some (.iload_n 0, 0, 0, 0) := rfl
theorem r_78_16 : sm_ic 78 16 = some (.iconst 2, 0, 0, 0) := rfl
theorem r_78_17 : sm_ic 78 17 = some (.iushr, 0, 0, 0) := rfl
theorem r_78_18 : sm_ic 78 18 = some (.ldc_w 266, 858993459, 0, 520) := rfl
theorem r_78_21 : sm_ic 78 21 = some (.iand, 0, 0, 0) := rfl
theorem r_78_22 : sm_ic 78 22 = some (.iadd, 0, 0, 0) := rfl
theorem r_78_23 : sm_ic 78 23 = some (.istore_n 0, 0, 0, 0) := rfl
theorem r_78_24 : sm_ic 78 24 = some (.iload_n 0, 0, 0, 0) := rfl
theorem r_78_25 : sm_ic 78 25 = some (.iload_n 0, 0, 0, 0) := rfl
theorem r_78_26 : sm_ic 78 26 = some (.iconst 4, 0, 0, 0) := rfl
theorem r_78_27 : sm_ic 78 27 = some (.iushr, 0, 0, 0) := rfl
theorem r_78_28 : sm_ic 78 28 = some (.iadd, 0, 0, 0) := rfl
theorem r_78_29 : sm_ic 78 29 = some (.ldc_w 267, 252645135, 0, 521) := rfl
theorem r_78_32 : sm_ic 78 32 = some (.iand, 0, 0, 0) := rfl
theorem r_78_33 : sm_ic 78 33 = some (.istore_n 0, 0, 0, 0) := rfl
theorem r_78_34 : sm_ic 78 34 = some (.iload_n 0, 0, 0, 0) := rfl
theorem r_78_35 : sm_ic 78 35 = some (.iload_n 0, 0, 0, 0) := rfl
theorem r_78_36 : sm_ic 78 36 = some (.bipush 8, 0, 0, 0) := rfl
theorem r_78_38 : sm_ic 78 38 = some (.iushr, 0, 0, 0) := rfl
theorem r_78_39 : sm_ic 78 39 = some (.iadd, 0, 0, 0) := rfl
theorem r_78_40 : sm_ic 78 40 = some (.istore_n 0, 0, 0, 0) := rfl
theorem r_78_41 : sm_ic 78 41 = some (.iload_n 0, 0, 0, 0) := rfl
theorem r_78_42 : sm_ic 78 42 = some (.iload_n 0, 0, 0, 0) := rfl
theorem r_78_43 : sm_ic 78 43 = some (.bipush 16, 0, 0, 0) := rfl
theorem r_78_45 : sm_ic 78 45 = some (.iushr, 0, 0, 0) := rfl
theorem r_78_46 : sm_ic 78 46 = some (.iadd, 0, 0, 0) := rfl
theorem r_78_47 : sm_ic 78 47 = some (.istore_n 0, 0, 0, 0) := rfl
theorem r_78_48 : sm_ic 78 48 = some (.iload_n 0, 0, 0, 0) := rfl
theorem r_78_49 : sm_ic 78 49 = some (.bipush 63, 0, 0, 0) := rfl
theorem r_78_51 : sm_ic 78 51 = some (.iand, 0, 0, 0) := rfl
theorem r_78_52 : sm_ic 78 52 = some (.ireturn, 0, 0, 0) := rfl
theorem r_79_0 : sm_ic 79 0 = some (.iload_n 1, 0, 0, 0) := rfl
theorem r_79_1 : sm_ic 79 1 = some (.istore_n 3, 0, 0, 0) := rfl
theorem r_79_2 : sm_ic 79 2 = some (.iconst 0, 0, 0, 0) := rfl
theorem r_79_3 : sm_ic 79 3 = some (.istore 4, 0, 0, 0) := rfl
theorem r_79_5 : sm_ic 79 5 = some (.iload 4, 0, 0, 0) := rfl
theorem r_79_7 : sm_ic 79 7 = some (.aload_n 0, 0, 0, 0) := rfl
theorem r_79_8 : sm_ic 79 8 = some (.getfield 75, 1, 4, 102) := rfl
theorem r_79_11 : sm_ic 79 11 = some (.if_icmp .ge 37, 48, 0, 0) := rfl
theorem r_79_14 : sm_ic 79 14 = some (.aload_n 0, 0, 0, 0) := rfl
theorem r_79_15 : sm_ic 79 15 = some (.iconst 1, 0, 0, 0) := rfl
theorem r_79_16 : sm_ic 79 16 = some (.iload 4, 0, 0, 0) := rfl
theorem r_79_18 : sm_ic 79 18 = some (.ishl, 0, 0, 0) := rfl
theorem r_79_19 : sm_ic 79 19 = some (.iload_n 2, 0, 0, 0) := rfl
theorem r_79_20 : sm_ic 79 20 = some (.iconst (-1), 0, 0, 0) := rfl
theorem r_79_21 : sm_ic 79 21 = some (.ixor, 0, 0, 0) := rfl
theorem r_79_22 : sm_ic 79 22 = some (.iand, 0, 0, 0) := rfl
theorem r_79_23 : sm_ic 79 23 = some (.invokevirtual 68, 41, 2, 336) := rfl
theorem r_79_26 : sm_ic 79 26 = some (.istore 5, 0, 0, 0) := rfl
theorem r_79_28 : sm_ic 79 28 = some (.iload_n 3, 0, 0, 0) := rfl
theorem r_79_29 : sm_ic 79 29 = some (.iload 5, 0, 0, 0) := rfl
theorem r_79_31 : sm_ic 79 31 = some (.if_icmp .ge 6, 37, 0, 0) := rfl
theorem r_79_34 : sm_ic 79 34 = some (.iload 4, 0, 0, 0) := rfl
theorem r_79_36 : sm_ic 79 36 = some (.ireturn, 0, 0, 0) := rfl
theorem r_79_37 : sm_ic 79 37 = some (.iload_n 3, 0, 0, 0) := rfl
theorem r_79_38 : sm_ic 79 38 = some (.iload 5, 0, 0, 0) := rfl
theorem r_79_40 : sm_ic 79 40 = some (.isub, 0, 0, 0) := rfl
theorem r_79_41 : sm_ic 79 41 = some (.istore_n 3, 0, 0, 0) := rfl
theorem r_79_42 : sm_ic 79 42 = some (.iinc 4 1, 0, 0, 0) := rfl
theorem r_79_45 : sm_ic 79 45 = some (.goto (-40), 5, 0, 0) := rfl
theorem r_79_48 : sm_ic 79 48 = some (.bipush (-4), 0, 0, 0) := rfl
theorem r_79_50 : sm_ic 79 50 = some (.ireturn, 0, 0, 0) := rfl
theorem r_80_0 : sm_ic 80 0 = some (.iload_n 1, 0, 0, 0) := rfl
theorem r_80_1 : sm_ic 80 1 = some (.invokestatic 127, 62, 1, 450) := rfl
theorem r_80_4 : sm_ic 80 4 = some (.ifCond .eq 25, 29, 0, 0) := rfl
theorem r_80_7 : sm_ic 80 7 = some (.aload_n 0, 0, 0, 0) := rfl
theorem r_80_8 : sm_ic 80 8 = some (.getfield 30, 0, 3, 351) := rfl
theorem r_80_11 : sm_ic 80 11 = some (.aload_n 0, 0, 0, 0) := rfl
theorem r_80_12 : sm_ic 80 12 = some (.aload_n 0, 0, 0, 0) := rfl
theorem r_80_13 : sm_ic 80 13 = some (.getfield 89, 0, 8, 356) := rfl
theorem r_80_16 : sm_ic 80 16 = some (.iload_n 1, 0, 0, 0) := rfl
theorem r_80_17 : sm_ic 80 17 = some (.invokevirtual 141, 73, 3, 492) := rfl
theorem r_80_20 : sm_ic 80 20 = some (.invokevirtual 156, 81, 2, 530) := rfl
theorem r_80_23 : sm_ic 80 23 = some (.invokestatic 159, 82, 1, 535) := rfl
theorem r_80_26 : sm_ic 80 26 = some (.goto 4, 30, 0, 0) := rfl
theorem r_80_29 : sm_ic 80 29 = some (.iconst (-1), 0, 0, 0) := rfl
theorem r_80_30 : sm_ic 80 30 = some (.ireturn, 0, 0, 0) := rfl
theorem r_81_0 : sm_ic 81 0 = some (.bipush 10, 0, 0, 0) := rfl
theorem r_81_2 : sm_ic 81 2 = some (.iload_n 1, 0, 0, 0) := rfl
theorem r_81_3 : sm_ic 81 3 = some (.invokestatic 96, 78, 1, 534) := rfl
theorem r_81_6 : sm_ic 81 6 = some (.imul, 0, 0, 0) := rfl
theorem r_81_7 : sm_ic 81 7 = some (.aload_n 0, 0, 0, 0) := rfl
theorem r_81_8 : sm_ic 81 8 = some (.getfield 84, 1, 7, 105) := rfl
theorem r_81_11 : sm_ic 81 11 = some (.aload_n 0, 0, 0, 0) := rfl
theorem r_81_12 : sm_ic 81 12 = some (.getfield 43, 1, 3, 101) := rfl
theorem r_81_15 : sm_ic 81 15 = some (.imul, 0, 0, 0) := rfl
theorem r_81_16 : sm_ic 81 16 = some (.if_icmp .lt 7, 23, 0, 0) := rfl
theorem r_81_19 : sm_ic 81 19 = some (.iconst 1, 0, 0, 0) := rfl
theorem r_81_20 : sm_ic 81 20 = some (.goto 4, 24, 0, 0) := rfl
theorem r_81_23 : sm_ic 81 23 = some (.iconst 0, 0, 0, 0) := rfl
theorem r_81_24 : sm_ic 81 24 = some (.ireturn, 0, 0, 0) := rfl
theorem r_82_0 : sm_ic 82 0 = some (.iload_n 0, 0, 0, 0) := rfl
theorem r_82_1 : sm_ic 82 1 = some (.ifCond .eq 7, 8, 0, 0) := rfl
theorem r_82_4 : sm_ic 82 4 = some (.iconst 1, 0, 0, 0) := rfl
theorem r_82_5 : sm_ic 82 5 = some (.goto 4, 9, 0, 0) := rfl
theorem r_82_8 : sm_ic 82 8 = some (.iconst 0, 0, 0, 0) := rfl
theorem r_82_9 : sm_ic 82 9 = some (.ireturn, 0, 0, 0) := rfl
theorem r_83_0 : sm_ic 83 0 = some (.iload_n 1, 0, 0, 0) := rfl
theorem r_83_1 : sm_ic 83 1 = some (.invokestatic 127, 62, 1, 450) := rfl
theorem r_83_4 : sm_ic 83 4 = some (.ifCond .eq 10, 14, 0, 0) := rfl
theorem r_83_7 : sm_ic 83 7 = some (.iload_n 2, 0, 0, 0) := rfl
theorem r_83_8 : sm_ic 83 8 = some (.invokestatic 163, 84, 1, 542) := rfl
theorem r_83_11 : sm_ic 83 11 = some (.ifCond .ne 5, 16, 0, 0) := rfl
theorem r_83_14 : sm_ic 83 14 = some (.iconst (-1), 0, 0, 0) := rfl
theorem r_83_15 : sm_ic 83 15 = some (.ireturn, 0, 0, 0) := rfl
theorem r_83_16 : sm_ic 83 16 = some (.aload_n 0, 0, 0, 0) := rfl
theorem r_83_17 : sm_ic 83 17 = some (.aload_n 0, 0, 0, 0) := rfl
theorem r_83_18 : sm_ic 83 18 = some (.getfield 89, 0, 8, 356) := rfl
theorem r_83_21 : sm_ic 83 21 = some (.iload_n 1, 0, 0, 0) := rfl
theorem r_83_22 : sm_ic 83 22 = some (.invokevirtual 141, 73, 3, 492) := rfl
theorem r_83_25 : sm_ic 83 25 = some (.istore_n 3, 0, 0, 0) := rfl
theorem r_83_26 : sm_ic 83 26 = some (.iload_n 2, 0, 0, 0) := rfl
theorem r_83_27 : sm_ic 83 27 = some (.ifCond .ne 14, 41, 0, 0) := rfl
theorem r_83_30 : sm_ic 83 30 = some (.aload_n 0, 0, 0, 0) := rfl
theorem r_83_31 : sm_ic 83 31 = some (.getfield 30, 0, 3, 351) := rfl
theorem r_83_34 : sm_ic 83 34 = some (.iload_n 3, 0, 0, 0) := rfl
theorem r_83_35 : sm_ic 83 35 = some (.invokevirtual 166, 85, 2, 545) := rfl
theorem r_83_38 : sm_ic 83 38 = some (.goto 14, 52, 0, 0) := rfl
theorem r_83_41 : sm_ic 83 41 = some (.aload_n 0, 0, 0, 0) := rfl
theorem r_83_42 : sm_ic 83 42 = some (.getfield 30, 0, 3, 351) := rfl
theorem r_83_45 : sm_ic 83 45 = some (.iload_n 3, 0, 0, 0) := rfl
theorem r_83_46 : sm_ic 83 46 = some (.invokevirtual 169, 87, 2, 553) := rfl
theorem r_83_49 : sm_ic 83 49 = some (.invokestatic 159, 82, 1, 535) := rfl
theorem r_83_52 : sm_ic 83 52 = some (.ireturn, 0, 0, 0) := rfl
theorem r_84_0 : sm_ic 84 0 = some (.iload_n 0, 0, 0, 0) := rfl
theorem r_84_1 : sm_ic 84 1 = some (.ifCond .eq 8, 9, 0, 0) := rfl
theorem r_84_4 : sm_ic 84 4 = some (.iload_n 0, 0, 0, 0) := rfl
theorem r_84_5 : sm_ic 84 5 = some (.iconst 1, 0, 0, 0) := rfl
theorem r_84_6 : sm_ic 84 6 = some (.if_icmp .ne 7, 13, 0, 0) := rfl
theorem r_84_9 : sm_ic 84 9 = some (.iconst 1, 0, 0, 0) := rfl
theorem r_84_10 : sm_ic 84 10 = some (.goto 4, 14, 0, 0) := rfl
theorem r_84_13 : sm_ic 84 13 = some (.iconst 0, 0, 0, 0) := rfl
theorem r_84_14 : sm_ic 84 14 = some (.ireturn, 0, 0, 0) := rfl
theorem r_85_0 : sm_ic 85 0 = some (.aload_n 0, 0, 0, 0) := rfl
theorem r_85_1 : sm_ic 85 1 = some (.aload_n 0, 0, 0, 0) := rfl
theorem r_85_2 : sm_ic 85 2 = some (.invokevirtual 90, 86, 1, 549) := rfl
theorem r_85_5 : sm_ic 85 5 = some (.iload_n 1, 0, 0, 0) := rfl
theorem r_85_6 : sm_ic 85 6 = some (.iconst (-1), 0, 0, 0) := rfl
theorem r_85_7 : sm_ic 85 7 = some (.ixor, 0, 0, 0) := rfl
theorem r_85_8 : sm_ic 85 8 = some (.iand, 0, 0, 0) := rfl
theorem r_85_9 : sm_ic 85 9 = some (.invokevirtual 61, 40, 2, 332) := rfl
theorem r_85_12 : sm_ic 85 12 = some (.ireturn, 0, 0, 0) := rfl
theorem r_86_0 : sm_ic 86 0 = some (.iconst 1, 0, 0, 0) := rfl
theorem r_86_1 : sm_ic 86 1 = some (.aload_n 0, 0, 0, 0) := rfl
theorem r_86_2 : sm_ic 86 2 = some (.getfield 43, 1, 3, 101) := rfl
theorem r_86_5 : sm_ic 86 5 = some (.ishl, 0, 0, 0) := rfl
theorem r_86_6 : sm_ic 86 6 = some (.iconst 1, 0, 0, 0) := rfl
theorem r_86_7 : sm_ic 86 7 = some (.isub, 0, 0, 0) := rfl
theorem r_86_8 : sm_ic 86 8 = some (.ireturn, 0, 0, 0) := rfl
theorem r_87_0 : sm_ic 87 0 = some (.aload_n 0, 0, 0, 0) := rfl
theorem r_87_1 : sm_ic 87 1 = some (.iload_n 1, 0, 0, 0) := rfl
theorem r_87_2 : sm_ic 87 2 = some (.invokevirtual 93, 85, 2, 557) := rfl
theorem r_87_5 : sm_ic 87 5 = some (.aload_n 0, 0, 0, 0) := rfl
theorem r_87_6 : sm_ic 87 6 = some (.getfield 81, 1, 6, 104) := rfl
theorem r_87_9 : sm_ic 87 9 = some (.if_icmp .lt 7, 16, 0, 0) := rfl
theorem r_87_12 : sm_ic 87 12 = some (.iconst 1, 0, 0, 0) := rfl
theorem r_87_13 : sm_ic 87 13 = some (.goto 4, 17, 0, 0) := rfl
theorem r_87_16 : sm_ic 87 16 = some (.iconst 0, 0, 0, 0) := rfl
theorem r_87_17 : sm_ic 87 17 = some (.ireturn, 0, 0, 0) := rfl
theorem r_88_0 : sm_ic 88 0 = some (.aload_n 0, 0, 0, 0) := rfl
theorem r_88_1 : sm_ic 88 1 = some (.iload_n 1, 0, 0, 0) := rfl
theorem r_88_2 : sm_ic 88 2 = some (.invokevirtual 98, 55, 2, 420) := rfl
theorem r_88_5 : sm_ic 88 5 = some (.ifCond .eq 12, 17, 0, 0) := rfl
theorem r_88_8 : sm_ic 88 8 = some (.iload_n 2, 0, 0, 0) := rfl
theorem r_88_9 : sm_ic 88 9 = some (.ifCond .lt 8, 17, 0, 0) := rfl
theorem r_88_12 : sm_ic 88 12 = some (.iload_n 2, 0, 0, 0) := rfl
theorem r_88_13 : sm_ic 88 13 = some (.iconst 3, 0, 0, 0) := rfl
theorem r_88_14 : sm_ic 88 14 = some (.if_icmp .le 5, 19, 0, 0) := rfl
theorem r_88_17 : sm_ic 88 17 = some (.iconst (-1), 0, 0, 0) := rfl
theorem r_88_18 : sm_ic 88 18 = some (.ireturn, 0, 0, 0) := rfl
theorem r_88_19 : sm_ic 88 19 = some (.aload_n 0, 0, 0, 0) := rfl
theorem r_88_20 : sm_ic 88 20 = some (.getfield 89, 0, 8, 356) := rfl
theorem r_88_23 : sm_ic 88 23 = some (.iload_n 1, 0, 0, 0) := rfl
theorem r_88_24 : sm_ic 88 24 = some (.invokestatic 105, 56, 2, 425) := rfl
theorem r_88_27 : sm_ic 88 27 = some (.istore_n 3, 0, 0, 0) := rfl
theorem r_88_28 : sm_ic 88 28 = some (.aload_n 0, 0, 0, 0) := rfl
theorem r_88_29 : sm_ic 88 29 = some (.aload_n 0, 0, 0, 0) := rfl
theorem r_88_30 : sm_ic 88 30 = some (.getfield 89, 0, 8, 356) := rfl
theorem r_88_33 : sm_ic 88 33 = some (.iload_n 1, 0, 0, 0) := rfl
theorem r_88_34 : sm_ic 88 34 = some (.iload_n 2, 0, 0, 0) := rfl
theorem r_88_35 : sm_ic 88 35 = some (.invokestatic 172, 33, 3, 562) := rfl
theorem r_88_38 : sm_ic 88 38 = some (.invokevirtual 176, 89, 2, 563) := rfl
theorem r_88_41 : sm_ic 88 41 = some (.iload_n 3, 0, 0, 0) := rfl
theorem r_88_42 : sm_ic 88 42 = some (.ireturn, 0, 0, 0) := rfl
theorem r_89_0 : sm_ic 89 0 = some (.aload_n 0, 0, 0, 0) := rfl
theorem r_89_1 : sm_ic 89 1 = some (.getfield 45, 0, 5, 353) := rfl
theorem r_89_4 : sm_ic 89 4 = some (.aload_n 0, 0, 0, 0) := rfl
theorem r_89_5 : sm_ic 89 5 = some (.getfield 89, 0, 8, 356) := rfl
theorem r_89_8 : sm_ic 89 8 = some (.invokevirtual 249, 90, 2, 567) := rfl
theorem r_89_11 : sm_ic 89 11 = some (.aload_n 0, 0, 0, 0) := rfl
theorem r_89_12 : sm_ic 89 12 = some (.lload_n 1, 0, 0, 0) := rfl
theorem r_89_13 : sm_ic 89 13 = some (.putfield 89, 0, 8, 356) := rfl
theorem r_89_16 : sm_ic 89 16 = some (.return_, 0, 0, 0) := rfl
theorem r_90_0 : sm_ic 90 0 = some (.aload_n 0, 0, 0, 0) := rfl
theorem r_90_1 : sm_ic 90 1 = some (.getfield 19, 4, 1, 161) := rfl
theorem r_90_4 : sm_ic 90 4 = some (.aload_n 0, 0, 0, 0) := rfl
theorem r_90_5 : sm_ic 90 5 = some (.getfield 13, 4, 0, 160) := rfl
theorem r_90_8 : sm_ic 90 8 = some (.arraylength, 0, 0, 0) := rfl
theorem r_90_9 : sm_ic 90 9 = some (.if_icmp .lt 7, 16, 0, 0) := rfl
theorem r_90_12 : sm_ic 90 12 = some (.aload_n 0, 0, 0, 0) := rfl
theorem r_90_13 : sm_ic 90 13 = some (.invokevirtual 23, 91, 1, 571) := rfl
theorem r_90_16 : sm_ic 90 16 = some (.aload_n 0, 0, 0, 0) := rfl
theorem r_90_17 : sm_ic 90 17 = some (.getfield 19, 4, 1, 161) := rfl
theorem r_90_20 : sm_ic 90 20 = some (.ifCond .lt 35, 55, 0, 0) := rfl
theorem r_90_23 : sm_ic 90 23 = some (.aload_n 0, 0, 0, 0) := rfl
theorem r_90_24 : sm_ic 90 24 = some (.getfield 19, 4, 1, 161) := rfl
theorem r_90_27 : sm_ic 90 27 = some (.aload_n 0, 0, 0, 0) := rfl
theorem r_90_28 : sm_ic 90 28 = some (.getfield 13, 4, 0, 160) := rfl
theorem r_90_31 : sm_ic 90 31 = some (.arraylength, 0, 0, 0) := rfl
theorem r_90_32 : sm_ic 90 32 = some (.if_icmp .ge 23, 55, 0, 0) := rfl
theorem r_90_35 : sm_ic 90 35 = some (.aload_n 0, 0, 0, 0) := rfl
theorem r_90_36 : sm_ic 90 36 = some (.getfield 13, 4, 0, 160) := rfl
theorem r_90_39 : sm_ic 90 39 = some (.aload_n 0, 0, 0, 0) := rfl
theorem r_90_40 : sm_ic 90 40 = some (.getfield 19, 4, 1, 161) := rfl
theorem r_90_43 : sm_ic 90 43 = some (.lload_n 1, 0, 0, 0) := rfl
theorem r_90_44 : sm_ic 90 44 = some (.lastore, 0, 0, 0) := rfl
theorem r_90_45 : sm_ic 90 45 = some (.aload_n 0, 0, 0, 0) := rfl
theorem r_90_46 : sm_ic 90 46 = some (.dup, 0, 0, 0) := rfl
theorem r_90_47 : sm_ic 90 47 = some (.getfield 19, 4, 1, 161) := rfl
theorem r_90_50 : sm_ic 90 50 = some (.iconst 1, 0, 0, 0) := rfl
theorem r_90_51 : sm_ic 90 51 = some (.iadd, 0, 0, 0) := rfl
theorem r_90_52 : sm_ic 90 52 = some (.putfield 19, 4, 1, 161) := rfl
theorem r_90_55 : sm_ic 90 55 = some (.return_, 0, 0, 0) := rfl
theorem r_91_0 : sm_ic 91 0 = some (.iconst 1, 0, 0, 0) := rfl
theorem r_91_1 : sm_ic 91 1 = some (.istore_n 1, 0, 0, 0) := rfl
theorem r_91_2 : sm_ic 91 2 = some (.iload_n 1, 0, 0, 0) := rfl
theorem r_91_3 : sm_ic 91 3 = some (.aload_n 0, 0, 0, 0) := rfl
theorem r_91_4 : sm_ic 91 4 = some (.getfield 13, 4, 0, 160) := rfl
theorem r_91_7 : sm_ic 91 7 = some (.arraylength, 0, 0, 0) := rfl
theorem r_91_8 : sm_ic 91 8 = some (.if_icmp .ge 23, 31, 0, 0) := rfl
theorem r_91_11 : sm_ic 91 11 = some (.aload_n 0, 0, 0, 0) := rfl
theorem r_91_12 : sm_ic 91 12 = some (.getfield 13, 4, 0, 160) := rfl
theorem r_91_15 : sm_ic 91 15 = some (.iload_n 1, 0, 0, 0) := rfl
theorem r_91_16 : sm_ic 91 16 = some (.iconst 1, 0, 0, 0) := rfl
theorem r_91_17 : sm_ic 91 17 = some (.isub, 0, 0, 0) := rfl
theorem r_91_18 : sm_ic 91 18 = some (.aload_n 0, 0, 0, 0) := rfl
theorem r_91_19 : sm_ic 91 19 = some (.getfield 13, 4, 0, 160) := rfl
theorem r_91_22 : sm_ic 91 22 = some (.iload_n 1, 0, 0, 0) := rfl
theorem r_91_23 : sm_ic 91 23 = some (.laload, 0, 0, 0) := rfl
theorem r_91_24 : sm_ic 91 24 = some (.lastore, 0, 0, 0) := rfl
theorem r_91_25 : sm_ic 91 25 = some (.iinc 1 1, 0, 0, 0) := rfl
theorem r_91_28 : sm_ic 91 28 = some (.goto (-26), 2, 0, 0) := rfl
theorem r_91_31 : sm_ic 91 31 = some (.aload_n 0, 0, 0, 0) := rfl
theorem r_91_32 : sm_ic 91 32 = some (.aload_n 0, 0, 0, 0) := rfl
theorem r_91_33 : sm_ic 91 33 = some (.getfield 13, 4, 0, 160) := rfl
theorem r_91_36 : sm_ic 91 36 = some (.arraylength, 0, 0, 0) := rfl
theorem r_91_37 : sm_ic 91 37 = some (.iconst 1, 0, 0, 0) := rfl
theorem r_91_38 : sm_ic 91 38 = some (.isub, 0, 0, 0) := rfl
theorem r_91_39 : sm_ic 91 39 = some (.iconst 0, 0, 0, 0) := rfl
theorem r_91_40 : sm_ic 91 40 = some (.invokestatic 7, 9997, 0, 157) := rfl
theorem r_91_43 : sm_ic 91 43 = some (.putfield 19, 4, 1, 161) := rfl
theorem r_91_46 : sm_ic 91 46 = some (.return_, 0, 0, 0) := rfl
theorem r_92_0 : sm_ic 92 0 = some (.aload_n 0, 0, 0, 0) := rfl
theorem r_92_1 : sm_ic 92 1 = some (.iload_n 1, 0, 0, 0) := rfl
theorem r_92_2 : sm_ic 92 2 = some (.invokevirtual 98, 55, 2, 420) := rfl
theorem r_92_5 : sm_ic 92 5 = some (.ifCond .eq 11, 16, 0, 0) := rfl
theorem r_92_8 : sm_ic 92 8 = some (.aload_n 0, 0, 0, 0) := rfl
theorem r_92_9 : sm_ic 92 9 = some (.iload_n 2, 0, 0, 0) := rfl
theorem r_92_10 : sm_ic 92 10 = some (.invokevirtual 98, 55, 2, 420) := rfl
theorem r_92_13 : sm_ic 92 13 = some (.ifCond .ne 5, 18, 0, 0) := rfl
theorem r_92_16 : sm_ic 92 16 = some (.iconst (-1), 0, 0, 0) := rfl
theorem r_92_17 : sm_ic 92 17 = some (.ireturn, 0, 0, 0) := rfl
theorem r_92_18 : sm_ic 92 18 = some (.aload_n 0, 0, 0, 0) := rfl
theorem r_92_19 : sm_ic 92 19 = some (.getfield 89, 0, 8, 356) := rfl
theorem r_92_22 : sm_ic 92 22 = some (.iload_n 1, 0, 0, 0) := rfl
theorem r_92_23 : sm_ic 92 23 = some (.invokestatic 111, 49, 2, 428) := rfl
theorem r_92_26 : sm_ic 92 26 = some (.istore_n 3, 0, 0, 0) := rfl
theorem r_92_27 : sm_ic 92 27 = some (.aload_n 0, 0, 0, 0) := rfl
theorem r_92_28 : sm_ic 92 28 = some (.aload_n 0, 0, 0, 0) := rfl
theorem r_92_29 : sm_ic 92 29 = some (.getfield 89, 0, 8, 356) := rfl
theorem r_92_32 : sm_ic 92 32 = some (.iload_n 1, 0, 0, 0) := rfl
theorem r_92_33 : sm_ic 92 33 = some (.iload_n 2, 0, 0, 0) := rfl
theorem r_92_34 : sm_ic 92 34 = some (.invokestatic 180, 35, 3, 579) := rfl
theorem r_92_37 : sm_ic 92 37 = some (.invokevirtual 176, 89, 2, 563) := rfl
theorem r_92_40 : sm_ic 92 40 = some (.iload_n 3, 0, 0, 0) := rfl
theorem r_92_41 : sm_ic 92 41 = some (.ireturn, 0, 0, 0) := rfl
theorem r_93_0 : sm_ic 93 0 = some (.aload_n 0, 0, 0, 0) := rfl
theorem r_93_1 : sm_ic 93 1 = some (.iload_n 1, 0, 0, 0) := rfl
theorem r_93_2 : sm_ic 93 2 = some (.invokevirtual 117, 58, 2, 434) := rfl
theorem r_93_5 : sm_ic 93 5 = some (.ifCond .ne 5, 10, 0, 0) := rfl
theorem r_93_8 : sm_ic 93 8 = some (.iconst (-1), 0, 0, 0) := rfl
theorem r_93_9 : sm_ic 93 9 = some (.ireturn, 0, 0, 0) := rfl
theorem r_93_10 : sm_ic 93 10 = some (.aload_n 0, 0, 0, 0) := rfl
theorem r_93_11 : sm_ic 93 11 = some (.getfield 89, 0, 8, 356) := rfl
theorem r_93_14 : sm_ic 93 14 = some (.invokestatic 123, 60, 1, 443) := rfl
theorem r_93_17 : sm_ic 93 17 = some (.iconst 1, 0, 0, 0) := rfl
theorem r_93_18 : sm_ic 93 18 = some (.iload_n 1, 0, 0, 0) := rfl
theorem r_93_19 : sm_ic 93 19 = some (.ishl, 0, 0, 0) := rfl
theorem r_93_20 : sm_ic 93 20 = some (.ixor, 0, 0, 0) := rfl
theorem r_93_21 : sm_ic 93 21 = some (.istore_n 2, 0, 0, 0) := rfl
theorem r_93_22 : sm_ic 93 22 = some (.aload_n 0, 0, 0, 0) := rfl
theorem r_93_23 : sm_ic 93 23 = some (.aload_n 0, 0, 0, 0) := rfl
theorem r_93_24 : sm_ic 93 24 = some (.getfield 89, 0, 8, 356) := rfl
theorem r_93_27 : sm_ic 93 27 = some (.iload_n 2, 0, 0, 0) := rfl
theorem r_93_28 : sm_ic 93 28 = some (.invokestatic 183, 94, 2, 584) := rfl
theorem r_93_31 : sm_ic 93 31 = some (.invokevirtual 176, 89, 2, 563) := rfl
theorem r_93_34 : sm_ic 93 34 = some (.iload_n 2, 0, 0, 0) := rfl
theorem r_93_35 : sm_ic 93 35 = some (.iload_n 1, 0, 0, 0) := rfl
theorem r_93_36 : sm_ic 93 36 = some (.iushr, 0, 0, 0) := rfl
theorem r_93_37 : sm_ic 93 37 = some (.iconst 1, 0, 0, 0) := rfl
theorem r_93_38 : sm_ic 93 38 = some (.iand, 0, 0, 0) := rfl
theorem r_93_39 : sm_ic 93 39 = some (.ireturn, 0, 0, 0) := rfl
theorem r_94_0 : sm_ic 94 0 = some (.lload_n 0, 0, 0, 0) := rfl
theorem r_94_1 : sm_ic 94 1 = some (.bipush 40, 0, 0, 0) := rfl
theorem r_94_3 : sm_ic 94 3 = some (.iconst 5, 0, 0, 0) := rfl
theorem r_94_4 : sm_ic 94 4 = some (.iload_n 2, 0, 0, 0) := rfl
theorem r_94_5 : sm_ic 94 5 = some (.invokestatic 15, 34, 4, 309) := rfl
theorem r_94_8 : sm_ic 94 8 = some (.lreturn, 0, 0, 0) := rfl
theorem r_95_0 : sm_ic 95 0 = some (.iload_n 1, 0, 0, 0) := rfl
theorem r_95_1 : sm_ic 95 1 = some (.invokestatic 163, 84, 1, 542) := rfl
theorem r_95_4 : sm_ic 95 4 = some (.ifCond .ne 5, 9, 0, 0) := rfl
theorem r_95_7 : sm_ic 95 7 = some (.iconst (-1), 0, 0, 0) := rfl
theorem r_95_8 : sm_ic 95 8 = some (.ireturn, 0, 0, 0) := rfl
theorem r_95_9 : sm_ic 95 9 = some (.aload_n 0, 0, 0, 0) := rfl
theorem r_95_10 : sm_ic 95 10 = some (.getfield 89, 0, 8, 356) := rfl
theorem r_95_13 : sm_ic 95 13 = some (.invokestatic 187, 69, 1, 591) := rfl
theorem r_95_16 : sm_ic 95 16 = some (.iload_n 1, 0, 0, 0) := rfl
theorem r_95_17 : sm_ic 95 17 = some (.ifCond .ne 7, 24, 0, 0) := rfl
theorem r_95_20 : sm_ic 95 20 = some (.iconst 1, 0, 0, 0) := rfl
theorem r_95_21 : sm_ic 95 21 = some (.goto 4, 25, 0, 0) := rfl
theorem r_95_24 : sm_ic 95 24 = some (.iconst 0, 0, 0, 0) := rfl
theorem r_95_25 : sm_ic 95 25 = some (.if_icmp .eq 7, 32, 0, 0) := rfl
theorem r_95_28 : sm_ic 95 28 = some (.iconst 1, 0, 0, 0) := rfl
theorem r_95_29 : sm_ic 95 29 = some (.goto 4, 33, 0, 0) := rfl
theorem r_95_32 : sm_ic 95 32 = some (.iconst 0, 0, 0, 0) := rfl
theorem r_95_33 : sm_ic 95 33 = some (.istore_n 2, 0, 0, 0) := rfl
theorem r_95_34 : sm_ic 95 34 = some (.aload_n 0, 0, 0, 0) := rfl
theorem r_95_35 : sm_ic 95 35 = some (.getfield 89, 0, 8, 356) := rfl
theorem r_95_38 : sm_ic 95 38 = some (.invokestatic 144, 64, 1, 515) := rfl
theorem r_95_41 : sm_ic 95 41 = some (.iload_n 1, 0, 0, 0) := rfl
theorem r_95_42 : sm_ic 95 42 = some (.iconst 1, 0, 0, 0) := rfl
theorem r_95_43 : sm_ic 95 43 = some (.if_icmp .ne 7, 50, 0, 0) := rfl
theorem r_95_46 : sm_ic 95 46 = some (.iconst 1, 0, 0, 0) := rfl
theorem r_95_47 : sm_ic 95 47 = some (.goto 4, 51, 0, 0) := rfl
theorem r_95_50 : sm_ic 95 50 = some (.iconst 0, 0, 0, 0) := rfl
theorem r_95_51 : sm_ic 95 51 = some (.if_icmp .eq 7, 58, 0, 0) := rfl
theorem r_95_54 : sm_ic 95 54 = some (.iconst 1, 0, 0, 0) := rfl
theorem r_95_55 : sm_ic 95 55 = some (.goto 4, 59, 0, 0) := rfl
theorem r_95_58 : sm_ic 95 58 = some (.iconst 0, 0, 0, 0) := rfl
theorem r_95_59 : sm_ic 95 59 = some (.istore_n 3, 0, 0, 0) := rfl
theorem r_95_60 : sm_ic 95 60 = some (.aload_n 0, 0, 0, 0) := rfl
theorem r_95_61 : sm_ic 95 61 = some (.aload_n 0, 0, 0, 0) := rfl
theorem r_95_62 : sm_ic 95 62 = some (.getfield 89, 0, 8, 356) := rfl
theorem r_95_65 : sm_ic 95 65 = some (.iload_n 2, 0, 0, 0) := rfl
theorem r_95_66 : sm_ic 95 66 = some (.iload_n 3, 0, 0, 0) := rfl
theorem r_95_67 : sm_ic 95 67 = some (.invokestatic 190, 96, 3, 592) := rfl
theorem r_95_70 : sm_ic 95 70 = some (.invokevirtual 176, 89, 2, 563) := rfl
theorem r_95_73 : sm_ic 95 73 = some (.iload_n 1, 0, 0, 0) := rfl
theorem r_95_74 : sm_ic 95 74 = some (.ifCond .ne 7, 81, 0, 0) := rfl
theorem r_95_77 : sm_ic 95 77 = some (.iload_n 2, 0, 0, 0) := rfl
theorem r_95_78 : sm_ic 95 78 = some (.goto 4, 82, 0, 0) := rfl
theorem r_95_81 : sm_ic 95 81 = some (.iload_n 3, 0, 0, 0) := rfl
theorem r_95_82 : sm_ic 95 82 = some (.invokestatic 159, 82, 1, 535) := rfl
theorem r_95_85 : sm_ic 95 85 = some (.ireturn, 0, 0, 0) := rfl
theorem r_96_0 : sm_ic 96 0 = some (.lload_n 0, 0, 0, 0) := rfl
theorem r_96_1 : sm_ic 96 1 = some (.bipush 45, 0, 0, 0) := rfl
theorem r_96_3 : sm_ic 96 3 = some (.iconst 1, 0, 0, 0) := rfl
theorem r_96_4 : sm_ic 96 4 = some (.iload_n 2, 0, 0, 0) := rfl
theorem r_96_5 : sm_ic 96 5 = some (.invokestatic 19, 82, 1, 5001) := rfl
theorem r_96_8 : sm_ic 96 8 = some (.invokestatic 15, 34, 4, 309) := rfl
theorem r_96_11 : sm_ic 96 11 = some (.bipush 46, 0, 0, 0) := rfl
theorem r_96_13 : sm_ic 96 13 = some (.iconst 1, 0, 0, 0) := rfl
theorem r_96_14 : sm_ic 96 14 = some (.iload_n 3, 0, 0, 0) := rfl
theorem r_96_15 : sm_ic 96 15 = some (.invokestatic 19, 82, 1, 5001) := rfl
theorem r_96_18 : sm_ic 96 18 = some (.invokestatic 15, 34, 4, 309) := rfl
theorem r_96_21 : sm_ic 96 21 = some (.lreturn, 0, 0, 0) := rfl
theorem r_97_0 : sm_ic 97 0 = some (.aload_n 0, 0, 0, 0) := rfl
theorem r_97_1 : sm_ic 97 1 = some (.getfield 45, 0, 5, 353) := rfl
theorem r_97_4 : sm_ic 97 4 = some (.invokevirtual 194, 98, 1, 600) := rfl
theorem r_97_7 : sm_ic 97 7 = some (.ifCond .ne 6, 13, 0, 0) := rfl
theorem r_97_10 : sm_ic 97 10 = some (.bipush (-2), 0, 0, 0) := rfl
theorem r_97_12 : sm_ic 97 12 = some (.ireturn, 0, 0, 0) := rfl
theorem r_97_13 : sm_ic 97 13 = some (.aload_n 0, 0, 0, 0) := rfl
theorem r_97_14 : sm_ic 97 14 = some (.aload_n 0, 0, 0, 0) := rfl
theorem r_97_15 : sm_ic 97 15 = some (.getfield 45, 0, 5, 353) := rfl
theorem r_97_18 : sm_ic 97 18 = some (.aload_n 0, 0, 0, 0) := rfl
theorem r_97_19 : sm_ic 97 19 = some (.getfield 89, 0, 8, 356) := rfl
theorem r_97_22 : sm_ic 97 22 = some (.invokevirtual 197, 99, 2, 604) := rfl
theorem r_97_25 : sm_ic 97 25 = some (.putfield 89, 0, 8, 356) := rfl
theorem r_97_28 : sm_ic 97 28 = some (.aload_n 0, 0, 0, 0) := rfl
theorem r_97_29 : sm_ic 97 29 = some (.getfield 45, 0, 5, 353) := rfl
theorem r_97_32 : sm_ic 97 32 = some (.invokevirtual 194, 98, 1, 600) := rfl
theorem r_97_35 : sm_ic 97 35 = some (.ireturn, 0, 0, 0) := rfl
theorem r_98_0 : sm_ic 98 0 = some (.aload_n 0, 0, 0, 0) := rfl
theorem r_98_1 : sm_ic 98 1 = some (.getfield 19, 4, 1, 161) := rfl
theorem r_98_4 : sm_ic 98 4 = some (.ireturn, 0, 0, 0) := rfl
theorem r_99_0 : sm_ic 99 0 = some (.aload_n 0, 0, 0, 0) := rfl
theorem r_99_1 : sm_ic 99 1 = some (.getfield 19, 4, 1, 161) := rfl
theorem r_99_4 : sm_ic 99 4 = some (.iconst 1, 0, 0, 0) := rfl
theorem r_99_5 : sm_ic 99 5 = some (.isub, 0, 0, 0) := rfl
theorem r_99_6 : sm_ic 99 6 = some (.istore_n 3, 0, 0, 0) := rfl
theorem r_99_7 : sm_ic 99 7 = some (.iload_n 3, 0, 0, 0) := rfl
theorem r_99_8 : sm_ic 99 8 = some (.ifCond .lt 12, 20, 0, 0) := rfl
theorem r_99_11 : sm_ic 99 11 = some (.iload_n 3, 0, 0, 0) := rfl
theorem r_99_12 : sm_ic 99 12 = some (.aload_n 0, 0, 0, 0) := rfl
theorem r_99_13 : sm_ic 99 13 = some (.getfield 13, 4, 0, 160) := rfl
theorem r_99_16 : sm_ic 99 16 = some (.arraylength, 0, 0, 0) := rfl
theorem r_99_17 : sm_ic 99 17 = some (.if_icmp .lt 5, 22, 0, 0) := rfl
theorem r_99_20 : sm_ic 99 20 = some (.lload_n 1, 0, 0, 0) := rfl
theorem r_99_21 : sm_ic 99 21 = some (.lreturn, 0, 0, 0) := rfl
theorem r_99_22 : sm_ic 99 22 = some (.aload_n 0, 0, 0, 0) := rfl
theorem r_99_23 : sm_ic 99 23 = some (.iload_n 3, 0, 0, 0) := rfl
theorem r_99_24 : sm_ic 99 24 = some (.putfield 19, 4, 1, 161) := rfl
theorem r_99_27 : sm_ic 99 27 = some (.aload_n 0, 0, 0, 0) := rfl
theorem r_99_28 : sm_ic 99 28 = some (.getfield 13, 4, 0, 160) := rfl
theorem r_99_31 : sm_ic 99 31 = some (.iload_n 3, 0, 0, 0) := rfl
theorem r_99_32 : sm_ic 99 32 = some (.laload, 0, 0, 0) := rfl
theorem r_99_33 : sm_ic 99 33 = some (.lreturn, 0, 0, 0) := rfl
theorem r_100_0 : sm_ic 100 0 = some (.iload_n 1, 0, 0, 0) := rfl
theorem r_100_1 : sm_ic 100 1 = some (.invokestatic 127, 62, 1, 450) := rfl
theorem r_100_4 : sm_ic 100 4 = some (.ifCond .ne 5, 9, 0, 0) := rfl
theorem r_100_7 : sm_ic 100 7 = some (.iconst (-1), 0, 0, 0) := rfl
theorem r_100_8 : sm_ic 100 8 = some (.ireturn, 0, 0, 0) := rfl
theorem r_100_9 : sm_ic 100 9 = some (.aload_n 0, 0, 0, 0) := rfl
theorem r_100_10 : sm_ic 100 10 = some (.getfield 30, 0, 3, 351) := rfl
theorem r_100_13 : sm_ic 100 13 = some (.aload_n 0, 0, 0, 0) := rfl
theorem r_100_14 : sm_ic 100 14 = some (.aload_n 0, 0, 0, 0) := rfl
theorem r_100_15 : sm_ic 100 15 = some (.getfield 89, 0, 8, 356) := rfl
theorem r_100_18 : sm_ic 100 18 = some (.iload_n 1, 0, 0, 0) := rfl
theorem r_100_19 : sm_ic 100 19 = some (.invokevirtual 141, 73, 3, 492) := rfl
theorem r_100_22 : sm_ic 100 22 = some (.invokevirtual 156, 81, 2, 530) := rfl
theorem r_100_25 : sm_ic 100 25 = some (.istore_n 2, 0, 0, 0) := rfl
theorem r_100_26 : sm_ic 100 26 = some (.aload_n 0, 0, 0, 0) := rfl
theorem r_100_27 : sm_ic 100 27 = some (.getfield 89, 0, 8, 356) := rfl
theorem r_100_30 : sm_ic 100 30 = some (.iload_n 1, 0, 0, 0) := rfl
theorem r_100_31 : sm_ic 100 31 = some (.invokestatic 134, 70, 2, 481) := rfl
theorem r_100_34 : sm_ic 100 34 = some (.istore_n 3, 0, 0, 0) := rfl
theorem r_100_35 : sm_ic 100 35 = some (.iconst 0, 0, 0, 0) := rfl
theorem r_100_36 : sm_ic 100 36 = some (.istore 4, 0, 0, 0) := rfl
theorem r_100_38 : sm_ic 100 38 = some (.iconst 0, 0, 0, 0) := rfl
theorem r_100_39 : sm_ic 100 39 = some (.istore 5, 0, 0, 0) := rfl
theorem r_100_41 : sm_ic 100 41 = some (.iload 5, 0, 0, 0) := rfl
theorem r_100_43 : sm_ic 100 43 = some (.aload_n 0, 0, 0, 0) := rfl
theorem r_100_44 : sm_ic 100 44 = some (.getfield 30, 0, 3, 351) := rfl
theorem r_100_47 : sm_ic 100 47 = some (.invokevirtual 95, 53, 1, 412) := rfl
theorem r_100_50 : sm_ic 100 50 = some (.if_icmp .ge 43, 93, 0, 0) := rfl
theorem r_100_53 : sm_ic 100 53 = some (.aload_n 0, 0, 0, 0) := rfl
theorem r_100_54 : sm_ic 100 54 = some (.getfield 30, 0, 3, 351) := rfl
theorem r_100_57 : sm_ic 100 57 = some (.aload_n 0, 0, 0, 0) := rfl
theorem r_100_58 : sm_ic 100 58 = some (.getfield 36, 0, 4, 352) := rfl
theorem r_100_61 : sm_ic 100 61 = some (.iload_n 3, 0, 0, 0) := rfl
theorem r_100_62 : sm_ic 100 62 = some (.iconst 1, 0, 0, 0) := rfl
theorem r_100_63 : sm_ic 100 63 = some (.iload 5, 0, 0, 0) := rfl
theorem r_100_65 : sm_ic 100 65 = some (.ishl, 0, 0, 0) := rfl
theorem r_100_66 : sm_ic 100 66 = some (.ixor, 0, 0, 0) := rfl
theorem r_100_67 : sm_ic 100 67 = some (.iconst 0, 0, 0, 0) := rfl
theorem r_100_68 : sm_ic 100 68 = some (.invokevirtual 201, 74, 3, 496) := rfl
theorem r_100_71 : sm_ic 100 71 = some (.invokevirtual 156, 81, 2, 530) := rfl
theorem r_100_74 : sm_ic 100 74 = some (.iload_n 2, 0, 0, 0) := rfl
theorem r_100_75 : sm_ic 100 75 = some (.if_icmp .eq 12, 87, 0, 0) := rfl
theorem r_100_78 : sm_ic 100 78 = some (.iload 4, 0, 0, 0) := rfl
theorem r_100_80 : sm_ic 100 80 = some (.iconst 1, 0, 0, 0) := rfl
theorem r_100_81 : sm_ic 100 81 = some (.iload 5, 0, 0, 0) := rfl
theorem r_100_83 : sm_ic 100 83 = some (.ishl, 0, 0, 0) := rfl
theorem r_100_84 : sm_ic 100 84 = some (.ior, 0, 0, 0) := rfl
theorem r_100_85 : sm_ic 100 85 = some (.istore 4, 0, 0, 0) := rfl
theorem r_100_87 : sm_ic 100 87 = some (.iinc 5 1, 0, 0, 0) := rfl
theorem r_100_90 : sm_ic 100 90 = some (.goto (-49), 41, 0, 0) := rfl
theorem r_100_93 : sm_ic 100 93 = some (.iload 4, 0, 0, 0) := rfl
theorem r_100_95 : sm_ic 100 95 = some (.ireturn, 0, 0, 0) := rfl
theorem r_101_0 : sm_ic 101 0 = some (.iload_n 1, 0, 0, 0) := rfl
theorem r_101_1 : sm_ic 101 1 = some (.invokestatic 127, 62, 1, 450) := rfl
theorem r_101_4 : sm_ic 101 4 = some (.ifCond .ne 5, 9, 0, 0) := rfl
theorem r_101_7 : sm_ic 101 7 = some (.iconst (-1), 0, 0, 0) := rfl
theorem r_101_8 : sm_ic 101 8 = some (.ireturn, 0, 0, 0) := rfl
theorem r_101_9 : sm_ic 101 9 = some (.aload_n 0, 0, 0, 0) := rfl
theorem r_101_10 : sm_ic 101 10 = some (.getfield 30, 0, 3, 351) := rfl
theorem r_101_13 : sm_ic 101 13 = some (.aload_n 0, 0, 0, 0) := rfl
theorem r_101_14 : sm_ic 101 14 = some (.aload_n 0, 0, 0, 0) := rfl
theorem r_101_15 : sm_ic 101 15 = some (.getfield 89, 0, 8, 356) := rfl
theorem r_101_18 : sm_ic 101 18 = some (.iload_n 1, 0, 0, 0) := rfl
theorem r_101_19 : sm_ic 101 19 = some (.invokevirtual 141, 73, 3, 492) := rfl
theorem r_101_22 : sm_ic 101 22 = some (.invokevirtual 156, 81, 2, 530) := rfl
theorem r_101_25 : sm_ic 101 25 = some (.istore_n 2, 0, 0, 0) := rfl
theorem r_101_26 : sm_ic 101 26 = some (.aload_n 0, 0, 0, 0) := rfl
theorem r_101_27 : sm_ic 101 27 = some (.getfield 89, 0, 8, 356) := rfl
theorem r_101_30 : sm_ic 101 30 = some (.iload_n 1, 0, 0, 0) := rfl
theorem r_101_31 : sm_ic 101 31 = some (.invokestatic 134, 70, 2, 481) := rfl
theorem r_101_34 : sm_ic 101 34 = some (.istore_n 3, 0, 0, 0) := rfl
theorem r_101_35 : sm_ic 101 35 = some (.bipush (-4), 0, 0, 0) := rfl
theorem r_101_37 : sm_ic 101 37 = some (.istore 4, 0, 0, 0) := rfl
theorem r_101_39 : sm_ic 101 39 = some (.bipush 9, 0, 0, 0) := rfl
theorem r_101_41 : sm_ic 101 41 = some (.istore 5, 0, 0, 0) := rfl
theorem r_101_43 : sm_ic 101 43 = some (.iconst 1, 0, 0, 0) := rfl
theorem r_101_44 : sm_ic 101 44 = some (.istore 6, 0, 0, 0) := rfl
theorem r_101_46 : sm_ic 101 46 = some (.iload 6, 0, 0, 0) := rfl
theorem r_101_48 : sm_ic 101 48 = some (.aload_n 0, 0, 0, 0) := rfl
theorem r_101_49 : sm_ic 101 49 = some (.getfield 30, 0, 3, 351) := rfl
theorem r_101_52 : sm_ic 101 52 = some (.invokevirtual 204, 86, 1, 616) := rfl
theorem r_101_55 : sm_ic 101 55 = some (.if_icmp .gt 65, 120, 0, 0) := rfl
theorem r_101_58 : sm_ic 101 58 = some (.iload 6, 0, 0, 0) := rfl
theorem r_101_60 : sm_ic 101 60 = some (.invokestatic 148, 78, 1, 516) := rfl
theorem r_101_63 : sm_ic 101 63 = some (.iload 5, 0, 0, 0) := rfl
theorem r_101_65 : sm_ic 101 65 = some (.if_icmp .ge 7, 72, 0, 0) := rfl
theorem r_101_68 : sm_ic 101 68 = some (.iconst 1, 0, 0, 0) := rfl
theorem r_101_69 : sm_ic 101 69 = some (.goto 4, 73, 0, 0) := rfl
theorem r_101_72 : sm_ic 101 72 = some (.iconst 0, 0, 0, 0) := rfl
theorem r_101_73 : sm_ic 101 73 = some (.istore 7, 0, 0, 0) := rfl
theorem r_101_75 : sm_ic 101 75 = some (.iload 7, 0, 0, 0) := rfl
theorem r_101_77 : sm_ic 101 77 = some (.ifCond .eq 37, 114, 0, 0) := rfl
theorem r_101_80 : sm_ic 101 80 = some (.aload_n 0, 0, 0, 0) := rfl
theorem r_101_81 : sm_ic 101 81 = some (.getfield 30, 0, 3, 351) := rfl
theorem r_101_84 : sm_ic 101 84 = some (.aload_n 0, 0, 0, 0) := rfl
theorem r_101_85 : sm_ic 101 85 = some (.getfield 36, 0, 4, 352) := rfl
theorem r_101_88 : sm_ic 101 88 = some (.iload_n 3, 0, 0, 0) := rfl
theorem r_101_89 : sm_ic 101 89 = some (.iload 6, 0, 0, 0) := rfl
theorem r_101_91 : sm_ic 101 91 = some (.ixor, 0, 0, 0) := rfl
theorem r_101_92 : sm_ic 101 92 = some (.iconst 0, 0, 0, 0) := rfl
theorem r_101_93 : sm_ic 101 93 = some (.invokevirtual 201, 74, 3, 496) := rfl
theorem r_101_96 : sm_ic 101 96 = some (.invokevirtual 156, 81, 2, 530) := rfl
theorem r_101_99 : sm_ic 101 99 = some (.iload_n 2, 0, 0, 0) := rfl
theorem r_101_100 : sm_ic 101 100 = some (.if_icmp .eq 14, 114, 0, 0) := rfl
theorem r_101_103 : sm_ic 101 103 = some (.iload 6, 0, 0, 0) := rfl
theorem r_101_105 : sm_ic 101 105 = some (.istore 4, 0, 0, 0) := rfl
theorem r_101_107 : sm_ic 101 107 = some (.iload 6, 0, 0, 0) := rfl
theorem r_101_109 : sm_ic 101 109 = some (.invokestatic 148, 78, 1, 516) := rfl
theorem r_101_112 : sm_ic 101 112 = some (.istore 5, 0, 0, 0) := rfl
theorem r_101_114 : sm_ic 101 114 = some (.iinc 6 1, 0, 0, 0) := rfl
theorem r_101_117 : sm_ic 101 117 = some (.goto (-71), 46, 0, 0) := rfl
theorem r_101_120 : sm_ic 101 120 = some (.iload 4, 0, 0, 0) := rfl
theorem r_101_122 : sm_ic 101 122 = some (.ireturn, 0, 0, 0) := rfl
theorem r_102_0 : sm_ic 102 0 = some (.aload_n 0, 0, 0, 0) := rfl
theorem r_102_1 : sm_ic 102 1 = some (.bipush 31, 0, 0, 0) := rfl
theorem r_102_3 : sm_ic 102 3 = some (.invokevirtual 207, 103, 2, 621) := rfl
theorem r_102_6 : sm_ic 102 6 = some (.aload_n 0, 0, 0, 0) := rfl
theorem r_102_7 : sm_ic 102 7 = some (.getfield 30, 0, 3, 351) := rfl
theorem r_102_10 : sm_ic 102 10 = some (.invokevirtual 210, 68, 1, 625) := rfl
theorem r_102_13 : sm_ic 102 13 = some (.invokestatic 213, 9996, 0, 626) := rfl
theorem r_102_16 : sm_ic 102 16 = some (.istore_n 1, 0, 0, 0) := rfl
theorem r_102_17 : sm_ic 102 17 = some (.aload_n 0, 0, 0, 0) := rfl
theorem r_102_18 : sm_ic 102 18 = some (.getfield 89, 0, 8, 356) := rfl
theorem r_102_21 : sm_ic 102 21 = some (.invokestatic 144, 64, 1, 515) := rfl
theorem r_102_24 : sm_ic 102 24 = some (.ifCond .eq 7, 31, 0, 0) := rfl
theorem r_102_27 : sm_ic 102 27 = some (.iconst 0, 0, 0, 0) := rfl
theorem r_102_28 : sm_ic 102 28 = some (.goto 11, 39, 0, 0) := rfl
theorem r_102_31 : sm_ic 102 31 = some (.aload_n 0, 0, 0, 0) := rfl
theorem r_102_32 : sm_ic 102 32 = some (.getfield 30, 0, 3, 351) := rfl
theorem r_102_35 : sm_ic 102 35 = some (.iconst 3, 0, 0, 0) := rfl
theorem r_102_36 : sm_ic 102 36 = some (.invokevirtual 218, 67, 2, 627) := rfl
theorem r_102_39 : sm_ic 102 39 = some (.istore_n 2, 0, 0, 0) := rfl
theorem r_102_40 : sm_ic 102 40 = some (.bipush (-4), 0, 0, 0) := rfl
theorem r_102_42 : sm_ic 102 42 = some (.istore_n 3, 0, 0, 0) := rfl
theorem r_102_43 : sm_ic 102 43 = some (.iload_n 1, 0, 0, 0) := rfl
theorem r_102_44 : sm_ic 102 44 = some (.iconst 1, 0, 0, 0) := rfl
theorem r_102_45 : sm_ic 102 45 = some (.iadd, 0, 0, 0) := rfl
theorem r_102_46 : sm_ic 102 46 = some (.istore 4, 0, 0, 0) := rfl
theorem r_102_48 : sm_ic 102 48 = some (.iconst 0, 0, 0, 0) := rfl
theorem r_102_49 : sm_ic 102 49 = some (.istore 5, 0, 0, 0) := rfl
theorem r_102_51 : sm_ic 102 51 = some (.iload 5, 0, 0, 0) := rfl
theorem r_102_53 : sm_ic 102 53 = some (.aload_n 0, 0, 0, 0) := rfl
theorem r_102_54 : sm_ic 102 54 = some (.getfield 30, 0, 3, 351) := rfl
theorem r_102_57 : sm_ic 102 57 = some (.invokevirtual 204, 86, 1, 616) := rfl
theorem r_102_60 : sm_ic 102 60 = some (.if_icmp .gt 72, 132, 0, 0) := rfl
theorem r_102_63 : sm_ic 102 63 = some (.iload 5, 0, 0, 0) := rfl
theorem r_102_65 : sm_ic 102 65 = some (.invokestatic 148, 78, 1, 516) := rfl
theorem r_102_68 : sm_ic 102 68 = some (.iload 4, 0, 0, 0) := rfl
theorem r_102_70 : sm_ic 102 70 = some (.if_icmp .ge 7, 77, 0, 0) := rfl
theorem r_102_73 : sm_ic 102 73 = some (.iconst 1, 0, 0, 0) := rfl
theorem r_102_74 : sm_ic 102 74 = some (.goto 4, 78, 0, 0) := rfl
theorem r_102_77 : sm_ic 102 77 = some (.iconst 0, 0, 0, 0) := rfl
theorem r_102_78 : sm_ic 102 78 = some (.istore 6, 0, 0, 0) := rfl
theorem r_102_80 : sm_ic 102 80 = some (.iload 6, 0, 0, 0) := rfl
theorem r_102_82 : sm_ic 102 82 = some (.ifCond .eq 44, 126, 0, 0) := rfl
theorem r_102_85 : sm_ic 102 85 = some (.iload 5, 0, 0, 0) := rfl
theorem r_102_87 : sm_ic 102 87 = some (.iload_n 2, 0, 0, 0) := rfl
theorem r_102_88 : sm_ic 102 88 = some (.iand, 0, 0, 0) := rfl
theorem r_102_89 : sm_ic 102 89 = some (.ifCond .ne 37, 126, 0, 0) := rfl
theorem r_102_92 : sm_ic 102 92 = some (.aload_n 0, 0, 0, 0) := rfl
theorem r_102_93 : sm_ic 102 93 = some (.getfield 30, 0, 3, 351) := rfl
theorem r_102_96 : sm_ic 102 96 = some (.iload 5, 0, 0, 0) := rfl
theorem r_102_98 : sm_ic 102 98 = some (.invokevirtual 156, 81, 2, 530) := rfl
theorem r_102_101 : sm_ic 102 101 = some (.ifCond .eq 25, 126, 0, 0) := rfl
theorem r_102_104 : sm_ic 102 104 = some (.aload_n 0, 0, 0, 0) := rfl
theorem r_102_105 : sm_ic 102 105 = some (.getfield 30, 0, 3, 351) := rfl
theorem r_102_108 : sm_ic 102 108 = some (.iload 5, 0, 0, 0) := rfl
theorem r_102_110 : sm_ic 102 110 = some (.invokevirtual 169, 87, 2, 553) := rfl
theorem r_102_113 : sm_ic 102 113 = some (.ifCond .eq 13, 126, 0, 0) := rfl
theorem r_102_116 : sm_ic 102 116 = some (.iload 5, 0, 0, 0) := rfl
theorem r_102_118 : sm_ic 102 118 = some (.istore_n 3, 0, 0, 0) := rfl
theorem r_102_119 : sm_ic 102 119 = some (.iload 5, 0, 0, 0) := rfl
theorem r_102_121 : sm_ic 102 121 = some (.invokestatic 148, 78, 1, 516) := rfl
theorem r_102_124 : sm_ic 102 124 = some (.istore 4, 0, 0, 0) := rfl
theorem r_102_126 : sm_ic 102 126 = some (.iinc 5 1, 0, 0, 0) := rfl
theorem r_102_129 : sm_ic 102 129 = some (.goto (-78), 51, 0, 0) := rfl
theorem r_102_132 : sm_ic 102 132 = some (.iload_n 3, 0, 0, 0) := rfl
theorem r_102_133 : sm_ic 102 133 = some (.ireturn, 0, 0, 0) := rfl
theorem r_103_0 : sm_ic 103 0 = some (.aload_n 0, 0, 0, 0) := rfl
theorem r_103_1 : sm_ic 103 1 = some (.getfield 89, 0, 8, 356) := rfl
theorem r_103_4 : sm_ic 103 4 = some (.invokestatic 144, 64, 1, 515) := rfl
theorem r_103_7 : sm_ic 103 7 = some (.ifCond .eq 8, 15, 0, 0) := rfl
theorem r_103_10 : sm_ic 103 10 = some (.bipush 8, 0, 0, 0) := rfl
theorem r_103_12 : sm_ic 103 12 = some (.goto 21, 33, 0, 0) := rfl
theorem r_103_15 : sm_ic 103 15 = some (.aload_n 0, 0, 0, 0) := rfl
theorem r_103_16 : sm_ic 103 16 = some (.getfield 30, 0, 3, 351) := rfl
theorem r_103_19 : sm_ic 103 19 = some (.iload_n 1, 0, 0, 0) := rfl
theorem r_103_20 : sm_ic 103 20 = some (.aload_n 0, 0, 0, 0) := rfl
theorem r_103_21 : sm_ic 103 21 = some (.getfield 89, 0, 8, 356) := rfl
theorem r_103_24 : sm_ic 103 24 = some (.invokestatic 123, 60, 1, 443) := rfl
theorem r_103_27 : sm_ic 103 27 = some (.iconst (-1), 0, 0, 0) := rfl
theorem r_103_28 : sm_ic 103 28 = some (.ixor, 0, 0, 0) := rfl
theorem r_103_29 : sm_ic 103 29 = some (.iand, 0, 0, 0) := rfl
theorem r_103_30 : sm_ic 103 30 = some (.invokevirtual 120, 41, 2, 442) := rfl
theorem r_103_33 : sm_ic 103 33 = some (.ireturn, 0, 0, 0) := rfl
theorem r_104_0 : sm_ic 104 0 = some (.iload_n 1, 0, 0, 0) := rfl
theorem r_104_1 : sm_ic 104 1 = some (.invokestatic 127, 62, 1, 450) := rfl
theorem r_104_4 : sm_ic 104 4 = some (.ifCond .ne 5, 9, 0, 0) := rfl
theorem r_104_7 : sm_ic 104 7 = some (.iconst (-1), 0, 0, 0) := rfl
theorem r_104_8 : sm_ic 104 8 = some (.ireturn, 0, 0, 0) := rfl
theorem r_104_9 : sm_ic 104 9 = some (.aload_n 0, 0, 0, 0) := rfl
theorem r_104_10 : sm_ic 104 10 = some (.getfield 36, 0, 4, 352) := rfl
theorem r_104_13 : sm_ic 104 13 = some (.aload_n 0, 0, 0, 0) := rfl
theorem r_104_14 : sm_ic 104 14 = some (.getfield 30, 0, 3, 351) := rfl
theorem r_104_17 : sm_ic 104 17 = some (.aload_n 0, 0, 0, 0) := rfl
theorem r_104_18 : sm_ic 104 18 = some (.getfield 89, 0, 8, 356) := rfl
theorem r_104_21 : sm_ic 104 21 = some (.invokevirtual 130, 63, 3, 453) := rfl
theorem r_104_24 : sm_ic 104 24 = some (.aload_n 0, 0, 0, 0) := rfl
theorem r_104_25 : sm_ic 104 25 = some (.getfield 36, 0, 4, 352) := rfl
theorem r_104_28 : sm_ic 104 28 = some (.aload_n 0, 0, 0, 0) := rfl
theorem r_104_29 : sm_ic 104 29 = some (.getfield 89, 0, 8, 356) := rfl
theorem r_104_32 : sm_ic 104 32 = some (.iload_n 1, 0, 0, 0) := rfl
theorem r_104_33 : sm_ic 104 33 = some (.invokestatic 134, 70, 2, 481) := rfl
theorem r_104_36 : sm_ic 104 36 = some (.iconst 0, 0, 0, 0) := rfl
theorem r_104_37 : sm_ic 104 37 = some (.invokevirtual 137, 71, 3, 484) := rfl
theorem r_104_40 : sm_ic 104 40 = some (.istore_n 2, 0, 0, 0) := rfl
theorem r_104_41 : sm_ic 104 41 = some (.iconst 0, 0, 0, 0) := rfl
theorem r_104_42 : sm_ic 104 42 = some (.istore_n 3, 0, 0, 0) := rfl
theorem r_104_43 : sm_ic 104 43 = some (.iload_n 3, 0, 0, 0) := rfl
theorem r_104_44 : sm_ic 104 44 = some (.bipush 9, 0, 0, 0) := rfl
theorem r_104_46 : sm_ic 104 46 = some (.if_icmp .gt 30, 76, 0, 0) := rfl
theorem r_104_49 : sm_ic 104 49 = some (.aload_n 0, 0, 0, 0) := rfl
theorem r_104_50 : sm_ic 104 50 = some (.getfield 30, 0, 3, 351) := rfl
theorem r_104_53 : sm_ic 104 53 = some (.aload_n 0, 0, 0, 0) := rfl
theorem r_104_54 : sm_ic 104 54 = some (.getfield 36, 0, 4, 352) := rfl
theorem r_104_57 : sm_ic 104 57 = some (.iload_n 2, 0, 0, 0) := rfl
theorem r_104_58 : sm_ic 104 58 = some (.iload_n 3, 0, 0, 0) := rfl
theorem r_104_59 : sm_ic 104 59 = some (.invokevirtual 221, 75, 3, 632) := rfl
theorem r_104_62 : sm_ic 104 62 = some (.invokevirtual 156, 81, 2, 530) := rfl
theorem r_104_65 : sm_ic 104 65 = some (.ifCond .eq 5, 70, 0, 0) := rfl
theorem r_104_68 : sm_ic 104 68 = some (.iload_n 3, 0, 0, 0) := rfl
theorem r_104_69 : sm_ic 104 69 = some (.ireturn, 0, 0, 0) := rfl
theorem r_104_70 : sm_ic 104 70 = some (.iinc 3 1, 0, 0, 0) := rfl
theorem r_104_73 : sm_ic 104 73 = some (.goto (-30), 43, 0, 0) := rfl
theorem r_104_76 : sm_ic 104 76 = some (.bipush (-4), 0, 0, 0) := rfl
theorem r_104_78 : sm_ic 104 78 = some (.ireturn, 0, 0, 0) := rfl
theorem r_105_0 : sm_ic 105 0 = some (.iload_n 1, 0, 0, 0) := rfl
theorem r_105_1 : sm_ic 105 1 = some (.invokestatic 127, 62, 1, 450) := rfl
theorem r_105_4 : sm_ic 105 4 = some (.ifCond .eq 10, 14, 0, 0) := rfl
theorem r_105_7 : sm_ic 105 7 = some (.iload_n 2, 0, 0, 0) := rfl
theorem r_105_8 : sm_ic 105 8 = some (.invokestatic 163, 84, 1, 542) := rfl
theorem r_105_11 : sm_ic 105 11 = some (.ifCond .ne 5, 16, 0, 0) := rfl
theorem r_105_14 : sm_ic 105 14 = some (.iconst (-1), 0, 0, 0) := rfl
theorem r_105_15 : sm_ic 105 15 = some (.ireturn, 0, 0, 0) := rfl
theorem r_105_16 : sm_ic 105 16 = some (.aload_n 0, 0, 0, 0) := rfl
theorem r_105_17 : sm_ic 105 17 = some (.getfield 89, 0, 8, 356) := rfl
theorem r_105_20 : sm_ic 105 20 = some (.invokestatic 123, 60, 1, 443) := rfl
theorem r_105_23 : sm_ic 105 23 = some (.istore_n 3, 0, 0, 0) := rfl
theorem r_105_24 : sm_ic 105 24 = some (.bipush (-4), 0, 0, 0) := rfl
theorem r_105_26 : sm_ic 105 26 = some (.istore 4, 0, 0, 0) := rfl
theorem r_105_28 : sm_ic 105 28 = some (.bipush (-4), 0, 0, 0) := rfl
theorem r_105_30 : sm_ic 105 30 = some (.istore 5, 0, 0, 0) := rfl
theorem r_105_32 : sm_ic 105 32 = some (.iconst 0, 0, 0, 0) := rfl
theorem r_105_33 : sm_ic 105 33 = some (.istore 6, 0, 0, 0) := rfl
theorem r_105_35 : sm_ic 105 35 = some (.iload 6, 0, 0, 0) := rfl
theorem r_105_37 : sm_ic 105 37 = some (.aload_n 0, 0, 0, 0) := rfl
theorem r_105_38 : sm_ic 105 38 = some (.getfield 30, 0, 3, 351) := rfl
theorem r_105_41 : sm_ic 105 41 = some (.invokevirtual 224, 59, 1, 438) := rfl
theorem r_105_44 : sm_ic 105 44 = some (.if_icmp .ge 59, 103, 0, 0) := rfl
theorem r_105_47 : sm_ic 105 47 = some (.iload_n 3, 0, 0, 0) := rfl
theorem r_105_48 : sm_ic 105 48 = some (.iload 6, 0, 0, 0) := rfl
theorem r_105_50 : sm_ic 105 50 = some (.iushr, 0, 0, 0) := rfl
theorem r_105_51 : sm_ic 105 51 = some (.iconst 1, 0, 0, 0) := rfl
theorem r_105_52 : sm_ic 105 52 = some (.iand, 0, 0, 0) := rfl
theorem r_105_53 : sm_ic 105 53 = some (.ifCond .ne 6, 59, 0, 0) := rfl
theorem r_105_56 : sm_ic 105 56 = some (.goto 41, 97, 0, 0) := rfl
theorem r_105_59 : sm_ic 105 59 = some (.aload_n 0, 0, 0, 0) := rfl
theorem r_105_60 : sm_ic 105 60 = some (.aload_n 0, 0, 0, 0) := rfl
theorem r_105_61 : sm_ic 105 61 = some (.getfield 89, 0, 8, 356) := rfl
theorem r_105_64 : sm_ic 105 64 = some (.iload_n 3, 0, 0, 0) := rfl
theorem r_105_65 : sm_ic 105 65 = some (.iconst 1, 0, 0, 0) := rfl
theorem r_105_66 : sm_ic 105 66 = some (.iload 6, 0, 0, 0) := rfl
theorem r_105_68 : sm_ic 105 68 = some (.ishl, 0, 0, 0) := rfl
theorem r_105_69 : sm_ic 105 69 = some (.ixor, 0, 0, 0) := rfl
theorem r_105_70 : sm_ic 105 70 = some (.invokestatic 183, 94, 2, 584) := rfl
theorem r_105_73 : sm_ic 105 73 = some (.iload_n 1, 0, 0, 0) := rfl
theorem r_105_74 : sm_ic 105 74 = some (.invokevirtual 141, 73, 3, 492) := rfl
theorem r_105_77 : sm_ic 105 77 = some (.invokestatic 148, 78, 1, 516) := rfl
theorem r_105_80 : sm_ic 105 80 = some (.istore 7, 0, 0, 0) := rfl
theorem r_105_82 : sm_ic 105 82 = some (.iload 7, 0, 0, 0) := rfl
theorem r_105_84 : sm_ic 105 84 = some (.iload 5, 0, 0, 0) := rfl
theorem r_105_86 : sm_ic 105 86 = some (.if_icmp .le 11, 97, 0, 0) := rfl
theorem r_105_89 : sm_ic 105 89 = some (.iload 6, 0, 0, 0) := rfl
theorem r_105_91 : sm_ic 105 91 = some (.istore 4, 0, 0, 0) := rfl
theorem r_105_93 : sm_ic 105 93 = some (.iload 7, 0, 0, 0) := rfl
theorem r_105_95 : sm_ic 105 95 = some (.istore 5, 0, 0, 0) := rfl
theorem r_105_97 : sm_ic 105 97 = some (.iinc 6 1, 0, 0, 0) := rfl
theorem r_105_100 : sm_ic 105 100 = some (.goto (-65), 35, 0, 0) := rfl
theorem r_105_103 : sm_ic 105 103 = some (.iload_n 2, 0, 0, 0) := rfl
theorem r_105_104 : sm_ic 105 104 = some (.ifCond .ne 8, 112, 0, 0) := rfl
theorem r_105_107 : sm_ic 105 107 = some (.iload 4, 0, 0, 0) := rfl
theorem r_105_109 : sm_ic 105 109 = some (.goto 5, 114, 0, 0) := rfl
theorem r_105_112 : sm_ic 105 112 = some (.iload 5, 0, 0, 0) := rfl
theorem r_105_114 : sm_ic 105 114 = some (.ireturn, 0, 0, 0) := rfl
theorem r_106_0 : sm_ic 106 0 = some (.iload_n 1, 0, 0, 0) := rfl
theorem r_106_1 : sm_ic 106 1 = some (.invokestatic 127, 62, 1, 450) := rfl
theorem r_106_4 : sm_ic 106 4 = some (.ifCond .ne 5, 9, 0, 0) := rfl
theorem r_106_7 : sm_ic 106 7 = some (.iconst (-1), 0, 0, 0) := rfl
theorem r_106_8 : sm_ic 106 8 = some (.ireturn, 0, 0, 0) := rfl
theorem r_106_9 : sm_ic 106 9 = some (.aload_n 0, 0, 0, 0) := rfl
theorem r_106_10 : sm_ic 106 10 = some (.getfield 36, 0, 4, 352) := rfl
theorem r_106_13 : sm_ic 106 13 = some (.aload_n 0, 0, 0, 0) := rfl
theorem r_106_14 : sm_ic 106 14 = some (.getfield 30, 0, 3, 351) := rfl
theorem r_106_17 : sm_ic 106 17 = some (.aload_n 0, 0, 0, 0) := rfl
theorem r_106_18 : sm_ic 106 18 = some (.getfield 89, 0, 8, 356) := rfl
theorem r_106_21 : sm_ic 106 21 = some (.invokevirtual 130, 63, 3, 453) := rfl
theorem r_106_24 : sm_ic 106 24 = some (.aload_n 0, 0, 0, 0) := rfl
theorem r_106_25 : sm_ic 106 25 = some (.getfield 36, 0, 4, 352) := rfl
theorem r_106_28 : sm_ic 106 28 = some (.aload_n 0, 0, 0, 0) := rfl
theorem r_106_29 : sm_ic 106 29 = some (.getfield 89, 0, 8, 356) := rfl
theorem r_106_32 : sm_ic 106 32 = some (.iconst 0, 0, 0, 0) := rfl
theorem r_106_33 : sm_ic 106 33 = some (.invokestatic 134, 70, 2, 481) := rfl
theorem r_106_36 : sm_ic 106 36 = some (.iconst 0, 0, 0, 0) := rfl
theorem r_106_37 : sm_ic 106 37 = some (.invokevirtual 137, 71, 3, 484) := rfl
theorem r_106_40 : sm_ic 106 40 = some (.istore_n 2, 0, 0, 0) := rfl
theorem r_106_41 : sm_ic 106 41 = some (.aload_n 0, 0, 0, 0) := rfl
theorem r_106_42 : sm_ic 106 42 = some (.getfield 36, 0, 4, 352) := rfl
theorem r_106_45 : sm_ic 106 45 = some (.aload_n 0, 0, 0, 0) := rfl
theorem r_106_46 : sm_ic 106 46 = some (.getfield 89, 0, 8, 356) := rfl
theorem r_106_49 : sm_ic 106 49 = some (.iconst 1, 0, 0, 0) := rfl
theorem r_106_50 : sm_ic 106 50 = some (.invokestatic 134, 70, 2, 481) := rfl
theorem r_106_53 : sm_ic 106 53 = some (.iconst 0, 0, 0, 0) := rfl
theorem r_106_54 : sm_ic 106 54 = some (.invokevirtual 137, 71, 3, 484) := rfl
theorem r_106_57 : sm_ic 106 57 = some (.iload_n 2, 0, 0, 0) := rfl
theorem r_106_58 : sm_ic 106 58 = some (.iconst (-1), 0, 0, 0) := rfl
theorem r_106_59 : sm_ic 106 59 = some (.ixor, 0, 0, 0) := rfl
theorem r_106_60 : sm_ic 106 60 = some (.iand, 0, 0, 0) := rfl
theorem r_106_61 : sm_ic 106 61 = some (.istore_n 3, 0, 0, 0) := rfl
theorem r_106_62 : sm_ic 106 62 = some (.aload_n 0, 0, 0, 0) := rfl
theorem r_106_63 : sm_ic 106 63 = some (.getfield 30, 0, 3, 351) := rfl
theorem r_106_66 : sm_ic 106 66 = some (.invokevirtual 210, 68, 1, 625) := rfl
theorem r_106_69 : sm_ic 106 69 = some (.istore 4, 0, 0, 0) := rfl
theorem r_106_71 : sm_ic 106 71 = some (.iload_n 2, 0, 0, 0) := rfl
theorem r_106_72 : sm_ic 106 72 = some (.invokestatic 148, 78, 1, 516) := rfl
theorem r_106_75 : sm_ic 106 75 = some (.aload_n 0, 0, 0, 0) := rfl
theorem r_106_76 : sm_ic 106 76 = some (.bipush 21, 0, 0, 0) := rfl
theorem r_106_78 : sm_ic 106 78 = some (.invokevirtual 207, 103, 2, 621) := rfl
theorem r_106_81 : sm_ic 106 81 = some (.invokestatic 213, 9996, 0, 626) := rfl
theorem r_106_84 : sm_ic 106 84 = some (.iload 4, 0, 0, 0) := rfl
theorem r_106_86 : sm_ic 106 86 = some (.invokestatic 213, 9996, 0, 626) := rfl
theorem r_106_89 : sm_ic 106 89 = some (.istore 5, 0, 0, 0) := rfl
theorem r_106_91 : sm_ic 106 91 = some (.iload_n 1, 0, 0, 0) := rfl
theorem r_106_92 : sm_ic 106 92 = some (.ifCond .ne 6, 98, 0, 0) := rfl
theorem r_106_95 : sm_ic 106 95 = some (.iload 5, 0, 0, 0) := rfl
theorem r_106_97 : sm_ic 106 97 = some (.ireturn, 0, 0, 0) := rfl
theorem r_106_98 : sm_ic 106 98 = some (.iload_n 3, 0, 0, 0) := rfl
theorem r_106_99 : sm_ic 106 99 = some (.invokestatic 148, 78, 1, 516) := rfl
theorem r_106_102 : sm_ic 106 102 = some (.aload_n 0, 0, 0, 0) := rfl
theorem r_106_103 : sm_ic 106 103 = some (.bipush 10, 0, 0, 0) := rfl
theorem r_106_105 : sm_ic 106 105 = some (.invokevirtual 207, 103, 2, 621) := rfl
theorem r_106_108 : sm_ic 106 108 = some (.invokestatic 213, 9996, 0, 626) := rfl
theorem r_106_111 : sm_ic 106 111 = some (.iload 4, 0, 0, 0) := rfl
theorem r_106_113 : sm_ic 106 113 = some (.iload 5, 0, 0, 0) := rfl
theorem r_106_115 : sm_ic 106 115 = some (.isub, 0, 0, 0) := rfl
theorem r_106_116 : sm_ic 106 116 = some (.invokestatic 213, 9996, 0, 626) := rfl
theorem r_106_119 : sm_ic 106 119 = some (.ireturn, 0, 0, 0) := rfl
theorem r_107_0 : sm_ic 107 0 = some (.iload_n 1, 0, 0, 0) := rfl
theorem r_107_1 : sm_ic 107 1 = some (.invokestatic 127, 62, 1, 450) := rfl
theorem r_107_4 : sm_ic 107 4 = some (.ifCond .eq 13, 17, 0, 0) := rfl
theorem r_107_7 : sm_ic 107 7 = some (.iload_n 2, 0, 0, 0) := rfl
theorem r_107_8 : sm_ic 107 8 = some (.ifCond .lt 9, 17, 0, 0) := rfl
theorem r_107_11 : sm_ic 107 11 = some (.iload_n 2, 0, 0, 0) := rfl
theorem r_107_12 : sm_ic 107 12 = some (.bipush 8, 0, 0, 0) := rfl
theorem r_107_14 : sm_ic 107 14 = some (.if_icmp .le 5, 19, 0, 0) := rfl
theorem r_107_17 : sm_ic 107 17 = some (.iconst (-1), 0, 0, 0) := rfl
theorem r_107_18 : sm_ic 107 18 = some (.ireturn, 0, 0, 0) := rfl
theorem r_107_19 : sm_ic 107 19 = some (.aload_n 0, 0, 0, 0) := rfl
theorem r_107_20 : sm_ic 107 20 = some (.getfield 55, 0, 7, 355) := rfl
theorem r_107_23 : sm_ic 107 23 = some (.iload_n 1, 0, 0, 0) := rfl
theorem r_107_24 : sm_ic 107 24 = some (.iload_n 2, 0, 0, 0) := rfl
theorem r_107_25 : sm_ic 107 25 = some (.invokevirtual 227, 108, 3, 645) := rfl
theorem r_107_28 : sm_ic 107 28 = some (.ifCond .eq 13, 41, 0, 0) := rfl
theorem r_107_31 : sm_ic 107 31 = some (.aload_n 0, 0, 0, 0) := rfl
theorem r_107_32 : sm_ic 107 32 = some (.getfield 55, 0, 7, 355) := rfl
theorem r_107_35 : sm_ic 107 35 = some (.invokevirtual 231, 109, 1, 649) := rfl
theorem r_107_38 : sm_ic 107 38 = some (.goto 5, 43, 0, 0) := rfl
theorem r_107_41 : sm_ic 107 41 = some (.bipush (-3), 0, 0, 0) := rfl
theorem r_107_43 : sm_ic 107 43 = some (.ireturn, 0, 0, 0) := rfl
theorem r_108_0 : sm_ic 108 0 = some (.aload_n 0, 0, 0, 0) := rfl
theorem r_108_1 : sm_ic 108 1 = some (.getfield 18, 6, 2, 176) := rfl
theorem r_108_4 : sm_ic 108 4 = some (.ifCond .lt 27, 31, 0, 0) := rfl
theorem r_108_7 : sm_ic 108 7 = some (.aload_n 0, 0, 0, 0) := rfl
theorem r_108_8 : sm_ic 108 8 = some (.getfield 18, 6, 2, 176) := rfl
theorem r_108_11 : sm_ic 108 11 = some (.aload_n 0, 0, 0, 0) := rfl
theorem r_108_12 : sm_ic 108 12 = some (.getfield 9, 6, 0, 174) := rfl
theorem r_108_15 : sm_ic 108 15 = some (.arraylength, 0, 0, 0) := rfl
theorem r_108_16 : sm_ic 108 16 = some (.if_icmp .ge 15, 31, 0, 0) := rfl
theorem r_108_19 : sm_ic 108 19 = some (.aload_n 0, 0, 0, 0) := rfl
theorem r_108_20 : sm_ic 108 20 = some (.getfield 18, 6, 2, 176) := rfl
theorem r_108_23 : sm_ic 108 23 = some (.aload_n 0, 0, 0, 0) := rfl
theorem r_108_24 : sm_ic 108 24 = some (.getfield 15, 6, 1, 175) := rfl
theorem r_108_27 : sm_ic 108 27 = some (.arraylength, 0, 0, 0) := rfl
theorem r_108_28 : sm_ic 108 28 = some (.if_icmp .lt 5, 33, 0, 0) := rfl
theorem r_108_31 : sm_ic 108 31 = some (.iconst 0, 0, 0, 0) := rfl
theorem r_108_32 : sm_ic 108 32 = some (.ireturn, 0, 0, 0) := rfl
theorem r_108_33 : sm_ic 108 33 = some (.aload_n 0, 0, 0, 0) := rfl
theorem r_108_34 : sm_ic 108 34 = some (.getfield 9, 6, 0, 174) := rfl
theorem r_108_37 : sm_ic 108 37 = some (.aload_n 0, 0, 0, 0) := rfl
theorem r_108_38 : sm_ic 108 38 = some (.getfield 18, 6, 2, 176) := rfl
theorem r_108_41 : sm_ic 108 41 = some (.iload_n 1, 0, 0, 0) := rfl
theorem r_108_42 : sm_ic 108 42 = some (.iastore, 0, 0, 0) := rfl
theorem r_108_43 : sm_ic 108 43 = some (.aload_n 0, 0, 0, 0) := rfl
theorem r_108_44 : sm_ic 108 44 = some (.getfield 15, 6, 1, 175) := rfl
theorem r_108_47 : sm_ic 108 47 = some (.aload_n 0, 0, 0, 0) := rfl
theorem r_108_48 : sm_ic 108 48 = some (.getfield 18, 6, 2, 176) := rfl
theorem r_108_51 : sm_ic 108 51 = some (.iload_n 2, 0, 0, 0) := rfl
theorem r_108_52 : sm_ic 108 52 = some (.iastore, 0, 0, 0) := rfl
theorem r_108_53 : sm_ic 108 53 = some (.aload_n 0, 0, 0, 0) := rfl
theorem r_108_54 : sm_ic 108 54 = some (.dup, 0, 0, 0) := rfl
theorem r_108_55 : sm_ic 108 55 = some (.getfield 18, 6, 2, 176) := rfl
theorem r_108_58 : sm_ic 108 58 = some (.iconst 1, 0, 0, 0) := rfl
theorem r_108_59 : sm_ic 108 59 = some (.iadd, 0, 0, 0) := rfl
theorem r_108_60 : sm_ic 108 60 = some (.putfield 18, 6, 2, 176) := rfl
theorem r_108_63 : sm_ic 108 63 = some (.iconst 1, 0, 0, 0) := rfl
theorem r_108_64 : sm_ic 108 64 = some (.ireturn, 0, 0, 0) := rfl
theorem r_109_0 : sm_ic 109 0 = some (.aload_n 0, 0, 0, 0) := rfl
theorem r_109_1 : sm_ic 109 1 = some (.getfield 18, 6, 2, 176) := rfl
theorem r_109_4 : sm_ic 109 4 = some (.ireturn, 0, 0, 0) := rfl
theorem r_110_0 : sm_ic 110 0 = some (.aload_n 0, 0, 0, 0) := rfl
theorem r_110_1 : sm_ic 110 1 = some (.getfield 55, 0, 7, 355) := rfl
theorem r_110_4 : sm_ic 110 4 = some (.invokevirtual 231, 109, 1, 649) := rfl
theorem r_110_7 : sm_ic 110 7 = some (.istore_n 1, 0, 0, 0) := rfl
theorem r_110_8 : sm_ic 110 8 = some (.aload_n 0, 0, 0, 0) := rfl
theorem r_110_9 : sm_ic 110 9 = some (.getfield 55, 0, 7, 355) := rfl
theorem r_110_12 : sm_ic 110 12 = some (.invokevirtual 94, 52, 1, 408) := rfl
theorem r_110_15 : sm_ic 110 15 = some (.iload_n 1, 0, 0, 0) := rfl
theorem r_110_16 : sm_ic 110 16 = some (.ireturn, 0, 0, 0) := rfl
theorem r_111_0 : sm_ic 111 0 = some (.iload_n 1, 0, 0, 0) := rfl
theorem r_111_1 : sm_ic 111 1 = some (.invokestatic 163, 84, 1, 542) := rfl
theorem r_111_4 : sm_ic 111 4 = some (.ifCond .ne 5, 9, 0, 0) := rfl
theorem r_111_7 : sm_ic 111 7 = some (.iconst (-1), 0, 0, 0) := rfl
theorem r_111_8 : sm_ic 111 8 = some (.ireturn, 0, 0, 0) := rfl
theorem r_111_9 : sm_ic 111 9 = some (.iconst 0, 0, 0, 0) := rfl
theorem r_111_10 : sm_ic 111 10 = some (.istore_n 2, 0, 0, 0) := rfl
theorem r_111_11 : sm_ic 111 11 = some (.bipush (-4), 0, 0, 0) := rfl
theorem r_111_13 : sm_ic 111 13 = some (.istore_n 3, 0, 0, 0) := rfl
theorem r_111_14 : sm_ic 111 14 = some (.iconst 0, 0, 0, 0) := rfl
theorem r_111_15 : sm_ic 111 15 = some (.istore 4, 0, 0, 0) := rfl
theorem r_111_17 : sm_ic 111 17 = some (.iload 4, 0, 0, 0) := rfl
theorem r_111_19 : sm_ic 111 19 = some (.iconst 1, 0, 0, 0) := rfl
theorem r_111_20 : sm_ic 111 20 = some (.aload_n 0, 0, 0, 0) := rfl
theorem r_111_21 : sm_ic 111 21 = some (.getfield 30, 0, 3, 351) := rfl
theorem r_111_24 : sm_ic 111 24 = some (.invokevirtual 224, 59, 1, 438) := rfl
theorem r_111_27 : sm_ic 111 27 = some (.ishl, 0, 0, 0) := rfl
theorem r_111_28 : sm_ic 111 28 = some (.if_icmp .ge 38, 66, 0, 0) := rfl
theorem r_111_31 : sm_ic 111 31 = some (.aload_n 0, 0, 0, 0) := rfl
theorem r_111_32 : sm_ic 111 32 = some (.aload_n 0, 0, 0, 0) := rfl
theorem r_111_33 : sm_ic 111 33 = some (.getfield 89, 0, 8, 356) := rfl
theorem r_111_36 : sm_ic 111 36 = some (.iload 4, 0, 0, 0) := rfl
theorem r_111_38 : sm_ic 111 38 = some (.invokestatic 183, 94, 2, 584) := rfl
theorem r_111_41 : sm_ic 111 41 = some (.invokevirtual 234, 112, 2, 661) := rfl
theorem r_111_44 : sm_ic 111 44 = some (.ifCond .ne 6, 50, 0, 0) := rfl
theorem r_111_47 : sm_ic 111 47 = some (.goto 13, 60, 0, 0) := rfl
theorem r_111_50 : sm_ic 111 50 = some (.iload_n 2, 0, 0, 0) := rfl
theorem r_111_51 : sm_ic 111 51 = some (.ifCond .ne 6, 57, 0, 0) := rfl
theorem r_111_54 : sm_ic 111 54 = some (.iload 4, 0, 0, 0) := rfl
theorem r_111_56 : sm_ic 111 56 = some (.istore_n 3, 0, 0, 0) := rfl
theorem r_111_57 : sm_ic 111 57 = some (.iinc 2 1, 0, 0, 0) := rfl
theorem r_111_60 : sm_ic 111 60 = some (.iinc 4 1, 0, 0, 0) := rfl
theorem r_111_63 : sm_ic 111 63 = some (.goto (-46), 17, 0, 0) := rfl
theorem r_111_66 : sm_ic 111 66 = some (.iload_n 1, 0, 0, 0) := rfl
theorem r_111_67 : sm_ic 111 67 = some (.ifCond .ne 7, 74, 0, 0) := rfl
theorem r_111_70 : sm_ic 111 70 = some (.iload_n 2, 0, 0, 0) := rfl
theorem r_111_71 : sm_ic 111 71 = some (.goto 4, 75, 0, 0) := rfl
theorem r_111_74 : sm_ic 111 74 = some (.iload_n 3, 0, 0, 0) := rfl
theorem r_111_75 : sm_ic 111 75 = some (.ireturn, 0, 0, 0) := rfl
theorem r_112_0 : sm_ic 112 0 = some (.aload_n 0, 0, 0, 0) := rfl
theorem r_112_1 : sm_ic 112 1 = some (.getfield 36, 0, 4, 352) := rfl
theorem r_112_4 : sm_ic 112 4 = some (.aload_n 0, 0, 0, 0) := rfl
theorem r_112_5 : sm_ic 112 5 = some (.getfield 30, 0, 3, 351) := rfl
theorem r_112_8 : sm_ic 112 8 = some (.lload_n 1, 0, 0, 0) := rfl
theorem r_112_9 : sm_ic 112 9 = some (.invokevirtual 130, 63, 3, 453) := rfl
theorem r_112_12 : sm_ic 112 12 = some (.iconst 0, 0, 0, 0) := rfl
theorem r_112_13 : sm_ic 112 13 = some (.istore_n 3, 0, 0, 0) := rfl
theorem r_112_14 : sm_ic 112 14 = some (.iload_n 3, 0, 0, 0) := rfl
theorem r_112_15 : sm_ic 112 15 = some (.aload_n 0, 0, 0, 0) := rfl
theorem r_112_16 : sm_ic 112 16 = some (.getfield 55, 0, 7, 355) := rfl
theorem r_112_19 : sm_ic 112 19 = some (.invokevirtual 231, 109, 1, 649) := rfl
theorem r_112_22 : sm_ic 112 22 = some (.if_icmp .ge 49, 71, 0, 0) := rfl
theorem r_112_25 : sm_ic 112 25 = some (.aload_n 0, 0, 0, 0) := rfl
theorem r_112_26 : sm_ic 112 26 = some (.getfield 36, 0, 4, 352) := rfl
theorem r_112_29 : sm_ic 112 29 = some (.lload_n 1, 0, 0, 0) := rfl
theorem r_112_30 : sm_ic 112 30 = some (.aload_n 0, 0, 0, 0) := rfl
theorem r_112_31 : sm_ic 112 31 = some (.getfield 55, 0, 7, 355) := rfl
theorem r_112_34 : sm_ic 112 34 = some (.iload_n 3, 0, 0, 0) := rfl
theorem r_112_35 : sm_ic 112 35 = some (.invokevirtual 267, 113, 2, 665) := rfl
theorem r_112_38 : sm_ic 112 38 = some (.invokestatic 134, 70, 2, 481) := rfl
theorem r_112_41 : sm_ic 112 41 = some (.iconst 0, 0, 0, 0) := rfl
theorem r_112_42 : sm_ic 112 42 = some (.invokevirtual 201, 74, 3, 496) := rfl
theorem r_112_45 : sm_ic 112 45 = some (.istore 4, 0, 0, 0) := rfl
theorem r_112_47 : sm_ic 112 47 = some (.iload 4, 0, 0, 0) := rfl
theorem r_112_49 : sm_ic 112 49 = some (.invokestatic 148, 78, 1, 516) := rfl
theorem r_112_52 : sm_ic 112 52 = some (.aload_n 0, 0, 0, 0) := rfl
theorem r_112_53 : sm_ic 112 53 = some (.getfield 55, 0, 7, 355) := rfl
theorem r_112_56 : sm_ic 112 56 = some (.iload_n 3, 0, 0, 0) := rfl
theorem r_112_57 : sm_ic 112 57 = some (.invokevirtual 270, 114, 2, 669) := rfl
theorem r_112_60 : sm_ic 112 60 = some (.if_icmp .eq 5, 65, 0, 0) := rfl
theorem r_112_63 : sm_ic 112 63 = some (.iconst 0, 0, 0, 0) := rfl
theorem r_112_64 : sm_ic 112 64 = some (.ireturn, 0, 0, 0) := rfl
theorem r_112_65 : sm_ic 112 65 = some (.iinc 3 1, 0, 0, 0) := rfl
theorem r_112_68 : sm_ic 112 68 = some (.goto (-54), 14, 0, 0) := rfl
theorem r_112_71 : sm_ic 112 71 = some (.iconst 1, 0, 0, 0) := rfl
theorem r_112_72 : sm_ic 112 72 = some (.ireturn, 0, 0, 0) := rfl
theorem r_113_0 : sm_ic 113 0 = some (.iload_n 1, 0, 0, 0) := rfl
theorem r_113_1 : sm_ic 113 1 = some (.ifCond .lt 21, 22, 0, 0) := rfl
theorem r_113_4 : sm_ic 113 4 = some (.iload_n 1, 0, 0, 0) := rfl
theorem r_113_5 : sm_ic 113 5 = some (.aload_n 0, 0, 0, 0) := rfl
theorem r_113_6 : sm_ic 113 6 = some (.getfield 9, 6, 0, 174) := rfl
theorem r_113_9 : sm_ic 113 9 = some (.arraylength, 0, 0, 0) := rfl
theorem r_113_10 : sm_ic 113 10 = some (.if_icmp .ge 12, 22, 0, 0) := rfl
theorem r_113_13 : sm_ic 113 13 = some (.aload_n 0, 0, 0, 0) := rfl
theorem r_113_14 : sm_ic 113 14 = some (.getfield 9, 6, 0, 174) := rfl
theorem r_113_17 : sm_ic 113 17 = some (.iload_n 1, 0, 0, 0) := rfl
theorem r_113_18 : sm_ic 113 18 = some (.iaload, 0, 0, 0) := rfl
theorem r_113_19 : sm_ic 113 19 = some (.goto 4, 23, 0, 0) := rfl
theorem r_113_22 : sm_ic 113 22 = some (.iconst 0, 0, 0, 0) := rfl
theorem r_113_23 : sm_ic 113 23 = some (.ireturn, 0, 0, 0) := rfl
theorem r_114_0 : sm_ic 114 0 = some (.iload_n 1, 0, 0, 0) := rfl
theorem r_114_1 : sm_ic 114 1 = some (.ifCond .lt 21, 22, 0, 0) := rfl
theorem r_114_4 : sm_ic 114 4 = some (.iload_n 1, 0, 0, 0) := rfl
theorem r_114_5 : sm_ic 114 5 = some (.aload_n 0, 0, 0, 0) := rfl
theorem r_114_6 : sm_ic 114 6 = some (.getfield 15, 6, 1, 175) := rfl
theorem r_114_9 : sm_ic 114 9 = some (.arraylength, 0, 0, 0) := rfl
theorem r_114_10 : sm_ic 114 10 = some (.if_icmp .ge 12, 22, 0, 0) := rfl
theorem r_114_13 : sm_ic 114 13 = some (.aload_n 0, 0, 0, 0) := rfl
theorem r_114_14 : sm_ic 114 14 = some (.getfield 15, 6, 1, 175) := rfl
theorem r_114_17 : sm_ic 114 17 = some (.iload_n 1, 0, 0, 0) := rfl
theorem r_114_18 : sm_ic 114 18 = some (.iaload, 0, 0, 0) := rfl
theorem r_114_19 : sm_ic 114 19 = some (.goto 4, 23, 0, 0) := rfl
theorem r_114_22 : sm_ic 114 22 = some (.iconst 0, 0, 0, 0) := rfl
theorem r_114_23 : sm_ic 114 23 = some (.ireturn, 0, 0, 0) := rfl
theorem r_115_0 : sm_ic 115 0 = some (.iload_n 1, 0, 0, 0) := rfl
theorem r_115_1 : sm_ic 115 1 = some (.invokestatic 127, 62, 1, 450) := rfl
theorem r_115_4 : sm_ic 115 4 = some (.ifCond .eq 10, 14, 0, 0) := rfl
theorem r_115_7 : sm_ic 115 7 = some (.iload_n 2, 0, 0, 0) := rfl
theorem r_115_8 : sm_ic 115 8 = some (.invokestatic 163, 84, 1, 542) := rfl
theorem r_115_11 : sm_ic 115 11 = some (.ifCond .ne 5, 16, 0, 0) := rfl
theorem r_115_14 : sm_ic 115 14 = some (.iconst (-1), 0, 0, 0) := rfl
theorem r_115_15 : sm_ic 115 15 = some (.ireturn, 0, 0, 0) := rfl
theorem r_115_16 : sm_ic 115 16 = some (.aload_n 0, 0, 0, 0) := rfl
theorem r_115_17 : sm_ic 115 17 = some (.getfield 36, 0, 4, 352) := rfl
theorem r_115_20 : sm_ic 115 20 = some (.aload_n 0, 0, 0, 0) := rfl
theorem r_115_21 : sm_ic 115 21 = some (.getfield 30, 0, 3, 351) := rfl
theorem r_115_24 : sm_ic 115 24 = some (.aload_n 0, 0, 0, 0) := rfl
theorem r_115_25 : sm_ic 115 25 = some (.getfield 89, 0, 8, 356) := rfl
theorem r_115_28 : sm_ic 115 28 = some (.invokevirtual 130, 63, 3, 453) := rfl
theorem r_115_31 : sm_ic 115 31 = some (.aload_n 0, 0, 0, 0) := rfl
theorem r_115_32 : sm_ic 115 32 = some (.getfield 89, 0, 8, 356) := rfl
theorem r_115_35 : sm_ic 115 35 = some (.iload_n 1, 0, 0, 0) := rfl
theorem r_115_36 : sm_ic 115 36 = some (.invokestatic 134, 70, 2, 481) := rfl
theorem r_115_39 : sm_ic 115 39 = some (.istore_n 3, 0, 0, 0) := rfl
theorem r_115_40 : sm_ic 115 40 = some (.aload_n 0, 0, 0, 0) := rfl
theorem r_115_41 : sm_ic 115 41 = some (.getfield 36, 0, 4, 352) := rfl
theorem r_115_44 : sm_ic 115 44 = some (.iload_n 3, 0, 0, 0) := rfl
theorem r_115_45 : sm_ic 115 45 = some (.iconst 0, 0, 0, 0) := rfl
theorem r_115_46 : sm_ic 115 46 = some (.invokevirtual 137, 71, 3, 484) := rfl
theorem r_115_49 : sm_ic 115 49 = some (.aload_n 0, 0, 0, 0) := rfl
theorem r_115_50 : sm_ic 115 50 = some (.getfield 30, 0, 3, 351) := rfl
theorem r_115_53 : sm_ic 115 53 = some (.iconst 1, 0, 0, 0) := rfl
theorem r_115_54 : sm_ic 115 54 = some (.invokevirtual 218, 67, 2, 627) := rfl
theorem r_115_57 : sm_ic 115 57 = some (.iand, 0, 0, 0) := rfl
theorem r_115_58 : sm_ic 115 58 = some (.istore 4, 0, 0, 0) := rfl
theorem r_115_60 : sm_ic 115 60 = some (.iconst 0, 0, 0, 0) := rfl
theorem r_115_61 : sm_ic 115 61 = some (.istore 5, 0, 0, 0) := rfl
theorem r_115_63 : sm_ic 115 63 = some (.iconst 0, 0, 0, 0) := rfl
theorem r_115_64 : sm_ic 115 64 = some (.istore 6, 0, 0, 0) := rfl
theorem r_115_66 : sm_ic 115 66 = some (.iload 6, 0, 0, 0) := rfl
theorem r_115_68 : sm_ic 115 68 = some (.iload 4, 0, 0, 0) := rfl
theorem r_115_70 : sm_ic 115 70 = some (.if_icmp .gt 75, 145, 0, 0) := rfl
theorem r_115_73 : sm_ic 115 73 = some (.iload 6, 0, 0, 0) := rfl
theorem r_115_75 : sm_ic 115 75 = some (.iload 4, 0, 0, 0) := rfl
theorem r_115_77 : sm_ic 115 77 = some (.iconst (-1), 0, 0, 0) := rfl
theorem r_115_78 : sm_ic 115 78 = some (.ixor, 0, 0, 0) := rfl
theorem r_115_79 : sm_ic 115 79 = some (.iand, 0, 0, 0) := rfl
theorem r_115_80 : sm_ic 115 80 = some (.ifCond .ne 7, 87, 0, 0) := rfl
theorem r_115_83 : sm_ic 115 83 = some (.iconst 1, 0, 0, 0) := rfl
theorem r_115_84 : sm_ic 115 84 = some (.goto 4, 88, 0, 0) := rfl
theorem r_115_87 : sm_ic 115 87 = some (.iconst 0, 0, 0, 0) := rfl
theorem r_115_88 : sm_ic 115 88 = some (.istore 7, 0, 0, 0) := rfl
theorem r_115_90 : sm_ic 115 90 = some (.iload 7, 0, 0, 0) := rfl
theorem r_115_92 : sm_ic 115 92 = some (.ifCond .eq 47, 139, 0, 0) := rfl
theorem r_115_95 : sm_ic 115 95 = some (.aload_n 0, 0, 0, 0) := rfl
theorem r_115_96 : sm_ic 115 96 = some (.getfield 30, 0, 3, 351) := rfl
theorem r_115_99 : sm_ic 115 99 = some (.aload_n 0, 0, 0, 0) := rfl
theorem r_115_100 : sm_ic 115 100 = some (.getfield 36, 0, 4, 352) := rfl
theorem r_115_103 : sm_ic 115 103 = some (.iload_n 3, 0, 0, 0) := rfl
theorem r_115_104 : sm_ic 115 104 = some (.iload 6, 0, 0, 0) := rfl
theorem r_115_106 : sm_ic 115 106 = some (.invokevirtual 201, 74, 3, 496) := rfl
theorem r_115_109 : sm_ic 115 109 = some (.invokevirtual 156, 81, 2, 530) := rfl
theorem r_115_112 : sm_ic 115 112 = some (.ifCond .eq 27, 139, 0, 0) := rfl
theorem r_115_115 : sm_ic 115 115 = some (.iload 5, 0, 0, 0) := rfl
theorem r_115_117 : sm_ic 115 117 = some (.aload_n 0, 0, 0, 0) := rfl
theorem r_115_118 : sm_ic 115 118 = some (.iload 6, 0, 0, 0) := rfl
theorem r_115_120 : sm_ic 115 120 = some (.invokestatic 148, 78, 1, 516) := rfl
theorem r_115_123 : sm_ic 115 123 = some (.iload 4, 0, 0, 0) := rfl
theorem r_115_125 : sm_ic 115 125 = some (.iload 6, 0, 0, 0) := rfl
theorem r_115_127 : sm_ic 115 127 = some (.iconst (-1), 0, 0, 0) := rfl
theorem r_115_128 : sm_ic 115 128 = some (.ixor, 0, 0, 0) := rfl
theorem r_115_129 : sm_ic 115 129 = some (.iand, 0, 0, 0) := rfl
theorem r_115_130 : sm_ic 115 130 = some (.invokestatic 148, 78, 1, 516) := rfl
theorem r_115_133 : sm_ic 115 133 = some (.invokevirtual 237, 116, 3, 677) := rfl
theorem r_115_136 : sm_ic 115 136 = some (.iadd, 0, 0, 0) := rfl
theorem r_115_137 : sm_ic 115 137 = some (.istore 5, 0, 0, 0) := rfl
theorem r_115_139 : sm_ic 115 139 = some (.iinc 6 1, 0, 0, 0) := rfl
theorem r_115_142 : sm_ic 115 142 = some (.goto (-76), 66, 0, 0) := rfl
theorem r_115_145 : sm_ic 115 145 = some (.bipush 10, 0, 0, 0) := rfl
theorem r_115_147 : sm_ic 115 147 = some (.iload 4, 0, 0, 0) := rfl
theorem r_115_149 : sm_ic 115 149 = some (.invokestatic 148, 78, 1, 516) := rfl
theorem r_115_152 : sm_ic 115 152 = some (.invokestatic 240, 118, 2, 685) := rfl
theorem r_115_155 : sm_ic 115 155 = some (.istore 6, 0, 0, 0) := rfl
theorem r_115_157 : sm_ic 115 157 = some (.iload 5, 0, 0, 0) := rfl
theorem r_115_159 : sm_ic 115 159 = some (.iload 6, 0, 0, 0) := rfl
theorem r_115_161 : sm_ic 115 161 = some (.invokestatic 243, 119, 2, 688) := rfl
theorem r_115_164 : sm_ic 115 164 = some (.istore 7, 0, 0, 0) := rfl
theorem r_115_166 : sm_ic 115 166 = some (.iload 7, 0, 0, 0) := rfl
theorem r_115_168 : sm_ic 115 168 = some (.ifCond .gt 6, 174, 0, 0) := rfl
theorem r_115_171 : sm_ic 115 171 = some (.bipush (-4), 0, 0, 0) := rfl
theorem r_115_173 : sm_ic 115 173 = some (.ireturn, 0, 0, 0) := rfl
theorem r_115_174 : sm_ic 115 174 = some (.iload_n 2, 0, 0, 0) := rfl
theorem r_115_175 : sm_ic 115 175 = some (.ifCond .ne 11, 186, 0, 0) := rfl
theorem r_115_178 : sm_ic 115 178 = some (.iload 5, 0, 0, 0) := rfl
theorem r_115_180 : sm_ic 115 180 = some (.iload 7, 0, 0, 0) := rfl
theorem r_115_182 : sm_ic 115 182 = some (.idiv, 0, 0, 0) := rfl
theorem r_115_183 : sm_ic 115 183 = some (.goto 8, 191, 0, 0) := rfl
theorem r_115_186 : sm_ic 115 186 = some (.iload 6, 0, 0, 0) := rfl
theorem r_115_188 : sm_ic 115 188 = some (.iload 7, 0, 0, 0) := rfl
theorem r_115_190 : sm_ic 115 190 = some (.idiv, 0, 0, 0) := rfl
theorem r_115_191 : sm_ic 115 191 = some (.ireturn, 0, 0, 0) := rfl
theorem r_116_0 : sm_ic 116 0 = some (.aload_n 0, 0, 0, 0) := rfl
theorem r_116_1 : sm_ic 116 1 = some (.getfield 30, 0, 3, 351) := rfl
theorem r_116_4 : sm_ic 116 4 = some (.invokevirtual 273, 117, 1, 681) := rfl
theorem r_116_7 : sm_ic 116 7 = some (.iload_n 1, 0, 0, 0) := rfl
theorem r_116_8 : sm_ic 116 8 = some (.invokestatic 240, 118, 2, 685) := rfl
theorem r_116_11 : sm_ic 116 11 = some (.bipush 10, 0, 0, 0) := rfl
theorem r_116_13 : sm_ic 116 13 = some (.aload_n 0, 0, 0, 0) := rfl
theorem r_116_14 : sm_ic 116 14 = some (.getfield 30, 0, 3, 351) := rfl
theorem r_116_17 : sm_ic 116 17 = some (.invokevirtual 273, 117, 1, 681) := rfl
theorem r_116_20 : sm_ic 116 20 = some (.isub, 0, 0, 0) := rfl
theorem r_116_21 : sm_ic 116 21 = some (.iload_n 2, 0, 0, 0) := rfl
theorem r_116_22 : sm_ic 116 22 = some (.invokestatic 240, 118, 2, 685) := rfl
theorem r_116_25 : sm_ic 116 25 = some (.imul, 0, 0, 0) := rfl
theorem r_116_26 : sm_ic 116 26 = some (.ireturn, 0, 0, 0) := rfl
theorem r_117_0 : sm_ic 117 0 = some (.aload_n 0, 0, 0, 0) := rfl
theorem r_117_1 : sm_ic 117 1 = some (.getfield 87, 1, 8, 106) := rfl
theorem r_117_4 : sm_ic 117 4 = some (.ireturn, 0, 0, 0) := rfl
theorem r_118_0 : sm_ic 118 0 = some (.iconst 1, 0, 0, 0) := rfl
theorem r_118_1 : sm_ic 118 1 = some (.istore_n 2, 0, 0, 0) := rfl
theorem r_118_2 : sm_ic 118 2 = some (.iconst 0, 0, 0, 0) := rfl
theorem r_118_3 : sm_ic 118 3 = some (.istore_n 3, 0, 0, 0) := rfl
theorem r_118_4 : sm_ic 118 4 = some (.iload_n 3, 0, 0, 0) := rfl
theorem r_118_5 : sm_ic 118 5 = some (.iload_n 1, 0, 0, 0) := rfl
theorem r_118_6 : sm_ic 118 6 = some (.if_icmp .ge 19, 25, 0, 0) := rfl
theorem r_118_9 : sm_ic 118 9 = some (.iload_n 3, 0, 0, 0) := rfl
theorem r_118_10 : sm_ic 118 10 = some (.bipush 8, 0, 0, 0) := rfl
theorem r_118_12 : sm_ic 118 12 = some (.if_icmp .ge 13, 25, 0, 0) := rfl
theorem r_118_15 : sm_ic 118 15 = some (.iload_n 2, 0, 0, 0) := rfl
theorem r_118_16 : sm_ic 118 16 = some (.iload_n 0, 0, 0, 0) := rfl
theorem r_118_17 : sm_ic 118 17 = some (.imul, 0, 0, 0) := rfl
theorem r_118_18 : sm_ic 118 18 = some (.istore_n 2, 0, 0, 0) := rfl
theorem r_118_19 : sm_ic 118 19 = some (.iinc 3 1, 0, 0, 0) := rfl
theorem r_118_22 : sm_ic 118 22 = some (.goto (-18), 4, 0, 0) := rfl
theorem r_118_25 : sm_ic 118 25 = some (.iload_n 2, 0, 0, 0) := rfl
theorem r_118_26 : sm_ic 118 26 = some (.ireturn, 0, 0, 0) := rfl
theorem r_119_0 : sm_ic 119 0 = some (.iload_n 1, 0, 0, 0) := rfl
theorem r_119_1 : sm_ic 119 1 = some (.istore_n 2, 0, 0, 0) := rfl
theorem r_119_2 : sm_ic 119 2 = some (.iload_n 0, 0, 0, 0) := rfl
theorem r_119_3 : sm_ic 119 3 = some (.istore_n 3, 0, 0, 0) := rfl
theorem r_119_4 : sm_ic 119 4 = some (.iconst 0, 0, 0, 0) := rfl
theorem r_119_5 : sm_ic 119 5 = some (.istore 4, 0, 0, 0) := rfl
theorem r_119_7 : sm_ic 119 7 = some (.iload 4, 0, 0, 0) := rfl
theorem r_119_9 : sm_ic 119 9 = some (.bipush 100, 0, 0, 0) := rfl
theorem r_119_11 : sm_ic 119 11 = some (.if_icmp .ge 23, 34, 0, 0) := rfl
theorem r_119_14 : sm_ic 119 14 = some (.iload_n 3, 0, 0, 0) := rfl
theorem r_119_15 : sm_ic 119 15 = some (.ifCond .eq 19, 34, 0, 0) := rfl
theorem r_119_18 : sm_ic 119 18 = some (.iload_n 2, 0, 0, 0) := rfl
theorem r_119_19 : sm_ic 119 19 = some (.iload_n 3, 0, 0, 0) := rfl
theorem r_119_20 : sm_ic 119 20 = some (.irem, 0, 0, 0) := rfl
theorem r_119_21 : sm_ic 119 21 = some (.istore 5, 0, 0, 0) := rfl
theorem r_119_23 : sm_ic 119 23 = some (.iload_n 3, 0, 0, 0) := rfl
theorem r_119_24 : sm_ic 119 24 = some (.istore_n 2, 0, 0, 0) := rfl
theorem r_119_25 : sm_ic 119 25 = some (.iload 5, 0, 0, 0) := rfl
theorem r_119_27 : sm_ic 119 27 = some (.istore_n 3, 0, 0, 0) := rfl
theorem r_119_28 : sm_ic 119 28 = some (.iinc 4 1, 0, 0, 0) := rfl
theorem r_119_31 : sm_ic 119 31 = some (.goto (-24), 7, 0, 0) := rfl
theorem r_119_34 : sm_ic 119 34 = some (.iload_n 2, 0, 0, 0) := rfl
theorem r_119_35 : sm_ic 119 35 = some (.ireturn, 0, 0, 0) := rfl
theorem r_120_0 : sm_ic 120 0 = some (.iload_n 1, 0, 0, 0) := rfl
theorem r_120_1 : sm_ic 120 1 = some (.ifCond .lt 14, 15, 0, 0) := rfl
theorem r_120_4 : sm_ic 120 4 = some (.iload_n 1, 0, 0, 0) := rfl
theorem r_120_5 : sm_ic 120 5 = some (.aload_n 0, 0, 0, 0) := rfl
theorem r_120_6 : sm_ic 120 6 = some (.getfield 30, 0, 3, 351) := rfl
theorem r_120_9 : sm_ic 120 9 = some (.invokevirtual 204, 86, 1, 616) := rfl
theorem r_120_12 : sm_ic 120 12 = some (.if_icmp .le 5, 17, 0, 0) := rfl
theorem r_120_15 : sm_ic 120 15 = some (.iconst (-1), 0, 0, 0) := rfl
theorem r_120_16 : sm_ic 120 16 = some (.ireturn, 0, 0, 0) := rfl
theorem r_120_17 : sm_ic 120 17 = some (.iconst 0, 0, 0, 0) := rfl
theorem r_120_18 : sm_ic 120 18 = some (.istore_n 2, 0, 0, 0) := rfl
theorem r_120_19 : sm_ic 120 19 = some (.iconst 0, 0, 0, 0) := rfl
theorem r_120_20 : sm_ic 120 20 = some (.istore_n 3, 0, 0, 0) := rfl
theorem r_120_21 : sm_ic 120 21 = some (.iload_n 3, 0, 0, 0) := rfl
theorem r_120_22 : sm_ic 120 22 = some (.iconst 2, 0, 0, 0) := rfl
theorem r_120_23 : sm_ic 120 23 = some (.if_icmp .ge 28, 51, 0, 0) := rfl
theorem r_120_26 : sm_ic 120 26 = some (.aload_n 0, 0, 0, 0) := rfl
theorem r_120_27 : sm_ic 120 27 = some (.aload_n 0, 0, 0, 0) := rfl
theorem r_120_28 : sm_ic 120 28 = some (.getfield 89, 0, 8, 356) := rfl
theorem r_120_31 : sm_ic 120 31 = some (.iload_n 3, 0, 0, 0) := rfl
theorem r_120_32 : sm_ic 120 32 = some (.invokevirtual 141, 73, 3, 492) := rfl
theorem r_120_35 : sm_ic 120 35 = some (.iload_n 1, 0, 0, 0) := rfl
theorem r_120_36 : sm_ic 120 36 = some (.if_icmp .ne 9, 45, 0, 0) := rfl
theorem r_120_39 : sm_ic 120 39 = some (.iload_n 2, 0, 0, 0) := rfl
theorem r_120_40 : sm_ic 120 40 = some (.iconst 1, 0, 0, 0) := rfl
theorem r_120_41 : sm_ic 120 41 = some (.iload_n 3, 0, 0, 0) := rfl
theorem r_120_42 : sm_ic 120 42 = some (.ishl, 0, 0, 0) := rfl
theorem r_120_43 : sm_ic 120 43 = some (.ior, 0, 0, 0) := rfl
theorem r_120_44 : sm_ic 120 44 = some (.istore_n 2, 0, 0, 0) := rfl
theorem r_120_45 : sm_ic 120 45 = some (.iinc 3 1, 0, 0, 0) := rfl
theorem r_120_48 : sm_ic 120 48 = some (.goto (-27), 21, 0, 0) := rfl
theorem r_120_51 : sm_ic 120 51 = some (.iload_n 2, 0, 0, 0) := rfl
theorem r_120_52 : sm_ic 120 52 = some (.ireturn, 0, 0, 0) := rfl
theorem r_121_0 : sm_ic 121 0 = some (.iload_n 1, 0, 0, 0) := rfl
theorem r_121_1 : sm_ic 121 1 = some (.ifCond .lt 28, 29, 0, 0) := rfl
theorem r_121_4 : sm_ic 121 4 = some (.iload_n 1, 0, 0, 0) := rfl
theorem r_121_5 : sm_ic 121 5 = some (.sipush 9999, 0, 0, 0) := rfl
theorem r_121_8 : sm_ic 121 8 = some (.if_icmp .gt 21, 29, 0, 0) := rfl
theorem r_121_11 : sm_ic 121 11 = some (.iload_n 2, 0, 0, 0) := rfl
theorem r_121_12 : sm_ic 121 12 = some (.iconst 1, 0, 0, 0) := rfl
theorem r_121_13 : sm_ic 121 13 = some (.if_icmp .lt 16, 29, 0, 0) := rfl
theorem r_121_16 : sm_ic 121 16 = some (.iload_n 2, 0, 0, 0) := rfl
theorem r_121_17 : sm_ic 121 17 = some (.bipush 60, 0, 0, 0) := rfl
theorem r_121_19 : sm_ic 121 19 = some (.if_icmp .gt 10, 29, 0, 0) := rfl
theorem r_121_22 : sm_ic 121 22 = some (.iload_n 3, 0, 0, 0) := rfl
theorem r_121_23 : sm_ic 121 23 = some (.invokestatic 163, 84, 1, 542) := rfl
theorem r_121_26 : sm_ic 121 26 = some (.ifCond .ne 5, 31, 0, 0) := rfl
theorem r_121_29 : sm_ic 121 29 = some (.iconst (-1), 0, 0, 0) := rfl
theorem r_121_30 : sm_ic 121 30 = some (.ireturn, 0, 0, 0) := rfl
theorem r_121_31 : sm_ic 121 31 = some (.iconst 0, 0, 0, 0) := rfl
theorem r_121_32 : sm_ic 121 32 = some (.istore 4, 0, 0, 0) := rfl
theorem r_121_34 : sm_ic 121 34 = some (.iconst 0, 0, 0, 0) := rfl
theorem r_121_35 : sm_ic 121 35 = some (.istore 5, 0, 0, 0) := rfl
theorem r_121_37 : sm_ic 121 37 = some (.iload 5, 0, 0, 0) := rfl
theorem r_121_39 : sm_ic 121 39 = some (.iload_n 2, 0, 0, 0) := rfl
theorem r_121_40 : sm_ic 121 40 = some (.if_icmp .ge 100, 140, 0, 0) := rfl
theorem r_121_43 : sm_ic 121 43 = some (.iload_n 1, 0, 0, 0) := rfl
theorem r_121_44 : sm_ic 121 44 = some (.iload 5, 0, 0, 0) := rfl
theorem r_121_46 : sm_ic 121 46 = some (.invokestatic 246, 122, 2, 699) := rfl
theorem r_121_49 : sm_ic 121 49 = some (.istore 6, 0, 0, 0) := rfl
theorem r_121_51 : sm_ic 121 51 = some (.aload_n 0, 0, 0, 0) := rfl
theorem r_121_52 : sm_ic 121 52 = some (.getfield 89, 0, 8, 356) := rfl
theorem r_121_55 : sm_ic 121 55 = some (.iload 6, 0, 0, 0) := rfl
theorem r_121_57 : sm_ic 121 57 = some (.iconst 4, 0, 0, 0) := rfl
theorem r_121_58 : sm_ic 121 58 = some (.irem, 0, 0, 0) := rfl
theorem r_121_59 : sm_ic 121 59 = some (.ifCond .ne 7, 66, 0, 0) := rfl
theorem r_121_62 : sm_ic 121 62 = some (.iconst 1, 0, 0, 0) := rfl
theorem r_121_63 : sm_ic 121 63 = some (.goto 4, 67, 0, 0) := rfl
theorem r_121_66 : sm_ic 121 66 = some (.iconst 0, 0, 0, 0) := rfl
theorem r_121_67 : sm_ic 121 67 = some (.iload 6, 0, 0, 0) := rfl
theorem r_121_69 : sm_ic 121 69 = some (.bipush 7, 0, 0, 0) := rfl
theorem r_121_71 : sm_ic 121 71 = some (.irem, 0, 0, 0) := rfl
theorem r_121_72 : sm_ic 121 72 = some (.ifCond .ne 7, 79, 0, 0) := rfl
theorem r_121_75 : sm_ic 121 75 = some (.iconst 1, 0, 0, 0) := rfl
theorem r_121_76 : sm_ic 121 76 = some (.goto 4, 80, 0, 0) := rfl
theorem r_121_79 : sm_ic 121 79 = some (.iconst 0, 0, 0, 0) := rfl
theorem r_121_80 : sm_ic 121 80 = some (.invokestatic 190, 96, 3, 592) := rfl
theorem r_121_83 : sm_ic 121 83 = some (.lstore 7, 0, 0, 0) := rfl
theorem r_121_85 : sm_ic 121 85 = some (.aload_n 0, 0, 0, 0) := rfl
theorem r_121_86 : sm_ic 121 86 = some (.lload 7, 0, 0, 0) := rfl
theorem r_121_88 : sm_ic 121 88 = some (.iload 6, 0, 0, 0) := rfl
theorem r_121_90 : sm_ic 121 90 = some (.bipush 8, 0, 0, 0) := rfl
theorem r_121_92 : sm_ic 121 92 = some (.idiv, 0, 0, 0) := rfl
theorem r_121_93 : sm_ic 121 93 = some (.iconst 2, 0, 0, 0) := rfl
theorem r_121_94 : sm_ic 121 94 = some (.irem, 0, 0, 0) := rfl
theorem r_121_95 : sm_ic 121 95 = some (.invokevirtual 141, 73, 3, 492) := rfl
theorem r_121_98 : sm_ic 121 98 = some (.istore 9, 0, 0, 0) := rfl
theorem r_121_100 : sm_ic 121 100 = some (.iload_n 3, 0, 0, 0) := rfl
theorem r_121_101 : sm_ic 121 101 = some (.ifCond .ne 18, 119, 0, 0) := rfl
theorem r_121_104 : sm_ic 121 104 = some (.aload_n 0, 0, 0, 0) := rfl
theorem r_121_105 : sm_ic 121 105 = some (.getfield 30, 0, 3, 351) := rfl
theorem r_121_108 : sm_ic 121 108 = some (.iload 9, 0, 0, 0) := rfl
theorem r_121_110 : sm_ic 121 110 = some (.invokevirtual 156, 81, 2, 530) := rfl
theorem r_121_113 : sm_ic 121 113 = some (.ifCond .eq 21, 134, 0, 0) := rfl
theorem r_121_116 : sm_ic 121 116 = some (.goto 15, 131, 0, 0) := rfl
theorem r_121_119 : sm_ic 121 119 = some (.aload_n 0, 0, 0, 0) := rfl
theorem r_121_120 : sm_ic 121 120 = some (.getfield 30, 0, 3, 351) := rfl
theorem r_121_123 : sm_ic 121 123 = some (.iload 9, 0, 0, 0) := rfl
theorem r_121_125 : sm_ic 121 125 = some (.invokevirtual 169, 87, 2, 553) := rfl
theorem r_121_128 : sm_ic 121 128 = some (.ifCond .eq 6, 134, 0, 0) := rfl
theorem r_121_131 : sm_ic 121 131 = some (.iinc 4 1, 0, 0, 0) := rfl
theorem r_121_134 : sm_ic 121 134 = some (.iinc 5 1, 0, 0, 0) := rfl
theorem r_121_137 : sm_ic 121 137 = some (.goto (-100), 37, 0, 0) := rfl
theorem r_121_140 : sm_ic 121 140 = some (.iload 4, 0, 0, 0) := rfl
theorem r_121_142 : sm_ic 121 142 = some (.ireturn, 0, 0, 0) := rfl
theorem r_122_0 : sm_ic 122 0 = some (.ldc2_w 276, 7919, 0, 702) := rfl
theorem r_122_3 : sm_ic 122 3 = some (.iload_n 0, 0, 0, 0) := rfl
theorem r_122_4 : sm_ic 122 4 = some (.i2l, 0, 0, 0) := rfl
theorem r_122_5 : sm_ic 122 5 = some (.lmul, 0, 0, 0) := rfl
theorem r_122_6 : sm_ic 122 6 = some (.ldc2_w 278, 6151, 0, 703) := rfl
theorem r_122_9 : sm_ic 122 9 = some (.iload_n 1, 0, 0, 0) := rfl
theorem r_122_10 : sm_ic 122 10 = some (.i2l, 0, 0, 0) := rfl
theorem r_122_11 : sm_ic 122 11 = some (.lmul, 0, 0, 0) := rfl
theorem r_122_12 : sm_ic 122 12 = some (.ladd, 0, 0, 0) := rfl
theorem r_122_13 : sm_ic 122 13 = some (.lconst 1, 0, 0, 0) := rfl
theorem r_122_14 : sm_ic 122 14 = some (.ladd, 0, 0, 0) := rfl
theorem r_122_15 : sm_ic 122 15 = some (.lstore_n 2, 0, 0, 0) := rfl
theorem r_122_16 : sm_ic 122 16 = some (.lload_n 2, 0, 0, 0) := rfl
theorem r_122_17 : sm_ic 122 17 = some (.lload_n 2, 0, 0, 0) := rfl
theorem r_122_18 : sm_ic 122 18 = some (.lmul, 0, 0, 0) := rfl
theorem r_122_19 : sm_ic 122 19 = some (.ldc2_w 280, 65521, 0, 704) := rfl
theorem r_122_22 : sm_ic 122 22 = some (.lrem, 0, 0, 0) := rfl
theorem r_122_23 : sm_ic 122 23 = some (.l2i, 0, 0, 0) := rfl
theorem r_122_24 : sm_ic 122 24 = some (.iconst 2, 0, 0, 0) := rfl
theorem r_122_25 : sm_ic 122 25 = some (.idiv, 0, 0, 0) := rfl
theorem r_122_26 : sm_ic 122 26 = some (.ireturn, 0, 0, 0) := rfl
theorem r_123_0 : sm_ic 123 0 = some (.aload_n 0, 0, 0, 0) := rfl
theorem r_123_1 : sm_ic 123 1 = some (.getfield 49, 0, 6, 354) := rfl
theorem r_123_4 : sm_ic 123 4 = some (.invokevirtual 194, 98, 1, 600) := rfl
theorem r_123_7 : sm_ic 123 7 = some (.iconst 2, 0, 0, 0) := rfl
theorem r_123_8 : sm_ic 123 8 = some (.if_icmp .lt 6, 14, 0, 0) := rfl
theorem r_123_11 : sm_ic 123 11 = some (.bipush (-3), 0, 0, 0) := rfl
theorem r_123_13 : sm_ic 123 13 = some (.ireturn, 0, 0, 0) := rfl
theorem r_123_14 : sm_ic 123 14 = some (.aload_n 0, 0, 0, 0) := rfl
theorem r_123_15 : sm_ic 123 15 = some (.getfield 49, 0, 6, 354) := rfl
theorem r_123_18 : sm_ic 123 18 = some (.aload_n 0, 0, 0, 0) := rfl
theorem r_123_19 : sm_ic 123 19 = some (.getfield 89, 0, 8, 356) := rfl
theorem r_123_22 : sm_ic 123 22 = some (.invokevirtual 249, 90, 2, 567) := rfl
theorem r_123_25 : sm_ic 123 25 = some (.aload_n 0, 0, 0, 0) := rfl
theorem r_123_26 : sm_ic 123 26 = some (.getfield 49, 0, 6, 354) := rfl
theorem r_123_29 : sm_ic 123 29 = some (.invokevirtual 194, 98, 1, 600) := rfl
theorem r_123_32 : sm_ic 123 32 = some (.ireturn, 0, 0, 0) := rfl
theorem r_124_0 : sm_ic 124 0 = some (.aload_n 0, 0, 0, 0) := rfl
theorem r_124_1 : sm_ic 124 1 = some (.getfield 49, 0, 6, 354) := rfl
theorem r_124_4 : sm_ic 124 4 = some (.invokevirtual 194, 98, 1, 600) := rfl
theorem r_124_7 : sm_ic 124 7 = some (.ifCond .ne 6, 13, 0, 0) := rfl
theorem r_124_10 : sm_ic 124 10 = some (.bipush (-2), 0, 0, 0) := rfl
theorem r_124_12 : sm_ic 124 12 = some (.ireturn, 0, 0, 0) := rfl
theorem r_124_13 : sm_ic 124 13 = some (.aload_n 0, 0, 0, 0) := rfl
theorem r_124_14 : sm_ic 124 14 = some (.aload_n 0, 0, 0, 0) := rfl
theorem r_124_15 : sm_ic 124 15 = some (.getfield 49, 0, 6, 354) := rfl
theorem r_124_18 : sm_ic 124 18 = some (.aload_n 0, 0, 0, 0) := rfl
theorem r_124_19 : sm_ic 124 19 = some (.getfield 89, 0, 8, 356) := rfl
theorem r_124_22 : sm_ic 124 22 = some (.invokevirtual 197, 99, 2, 604) := rfl
theorem r_124_25 : sm_ic 124 25 = some (.putfield 89, 0, 8, 356) := rfl
theorem r_124_28 : sm_ic 124 28 = some (.aload_n 0, 0, 0, 0) := rfl
theorem r_124_29 : sm_ic 124 29 = some (.getfield 45, 0, 5, 353) := rfl
theorem r_124_32 : sm_ic 124 32 = some (.invokevirtual 93, 51, 1, 404) := rfl
theorem r_124_35 : sm_ic 124 35 = some (.aload_n 0, 0, 0, 0) := rfl
theorem r_124_36 : sm_ic 124 36 = some (.getfield 49, 0, 6, 354) := rfl
theorem r_124_39 : sm_ic 124 39 = some (.invokevirtual 194, 98, 1, 600) := rfl
theorem r_124_42 : sm_ic 124 42 = some (.ireturn, 0, 0, 0) := rfl
theorem r_125_0 : sm_ic 125 0 = some (.iload_n 1, 0, 0, 0) := rfl
theorem r_125_1 : sm_ic 125 1 = some (.tableswitch 168 0 11 #[63, 71, 79, 90, 101, 112, 120, 128, 136, 144, 152, 160], 0, 0, 0) := rfl
theorem r_125_64 : sm_ic 125 64 = some (.aload_n 0, 0, 0, 0) := rfl
theorem r_125_65 : sm_ic 125 65 = some (.getfield 30, 0, 3, 351) := rfl
theorem r_125_68 : sm_ic 125 68 = some (.invokevirtual 95, 53, 1, 412) := rfl
theorem r_125_71 : sm_ic 125 71 = some (.ireturn, 0, 0, 0) := rfl
theorem r_125_72 : sm_ic 125 72 = some (.aload_n 0, 0, 0, 0) := rfl
theorem r_125_73 : sm_ic 125 73 = some (.getfield 30, 0, 3, 351) := rfl
theorem r_125_76 : sm_ic 125 76 = some (.invokevirtual 224, 59, 1, 438) := rfl
theorem r_125_79 : sm_ic 125 79 = some (.ireturn, 0, 0, 0) := rfl
theorem r_125_80 : sm_ic 125 80 = some (.aload_n 0, 0, 0, 0) := rfl
theorem r_125_81 : sm_ic 125 81 = some (.getfield 89, 0, 8, 356) := rfl
theorem r_125_84 : sm_ic 125 84 = some (.invokestatic 123, 60, 1, 443) := rfl
theorem r_125_87 : sm_ic 125 87 = some (.invokestatic 148, 78, 1, 516) := rfl
theorem r_125_90 : sm_ic 125 90 = some (.ireturn, 0, 0, 0) := rfl
theorem r_125_91 : sm_ic 125 91 = some (.aload_n 0, 0, 0, 0) := rfl
theorem r_125_92 : sm_ic 125 92 = some (.getfield 89, 0, 8, 356) := rfl
theorem r_125_95 : sm_ic 125 95 = some (.invokestatic 187, 69, 1, 591) := rfl
theorem r_125_98 : sm_ic 125 98 = some (.invokestatic 159, 82, 1, 535) := rfl
theorem r_125_101 : sm_ic 125 101 = some (.ireturn, 0, 0, 0) := rfl
theorem r_125_102 : sm_ic 125 102 = some (.aload_n 0, 0, 0, 0) := rfl
theorem r_125_103 : sm_ic 125 103 = some (.getfield 89, 0, 8, 356) := rfl
theorem r_125_106 : sm_ic 125 106 = some (.invokestatic 144, 64, 1, 515) := rfl
theorem r_125_109 : sm_ic 125 109 = some (.invokestatic 159, 82, 1, 535) := rfl
theorem r_125_112 : sm_ic 125 112 = some (.ireturn, 0, 0, 0) := rfl
theorem r_125_113 : sm_ic 125 113 = some (.aload_n 0, 0, 0, 0) := rfl
theorem r_125_114 : sm_ic 125 114 = some (.getfield 30, 0, 3, 351) := rfl
theorem r_125_117 : sm_ic 125 117 = some (.invokevirtual 210, 68, 1, 625) := rfl
theorem r_125_120 : sm_ic 125 120 = some (.ireturn, 0, 0, 0) := rfl
theorem r_125_121 : sm_ic 125 121 = some (.aload_n 0, 0, 0, 0) := rfl
theorem r_125_122 : sm_ic 125 122 = some (.getfield 30, 0, 3, 351) := rfl
theorem r_125_125 : sm_ic 125 125 = some (.invokevirtual 252, 126, 1, 717) := rfl
theorem r_125_128 : sm_ic 125 128 = some (.ireturn, 0, 0, 0) := rfl
theorem r_125_129 : sm_ic 125 129 = some (.aload_n 0, 0, 0, 0) := rfl
theorem r_125_130 : sm_ic 125 130 = some (.getfield 30, 0, 3, 351) := rfl
theorem r_125_133 : sm_ic 125 133 = some (.invokevirtual 255, 127, 1, 721) := rfl
theorem r_125_136 : sm_ic 125 136 = some (.ireturn, 0, 0, 0) := rfl
theorem r_125_137 : sm_ic 125 137 = some (.aload_n 0, 0, 0, 0) := rfl
theorem r_125_138 : sm_ic 125 138 = some (.getfield 55, 0, 7, 355) := rfl
theorem r_125_141 : sm_ic 125 141 = some (.invokevirtual 231, 109, 1, 649) := rfl
theorem r_125_144 : sm_ic 125 144 = some (.ireturn, 0, 0, 0) := rfl
theorem r_125_145 : sm_ic 125 145 = some (.aload_n 0, 0, 0, 0) := rfl
theorem r_125_146 : sm_ic 125 146 = some (.getfield 45, 0, 5, 353) := rfl
theorem r_125_149 : sm_ic 125 149 = some (.invokevirtual 194, 98, 1, 600) := rfl
theorem r_125_152 : sm_ic 125 152 = some (.ireturn, 0, 0, 0) := rfl
theorem r_125_153 : sm_ic 125 153 = some (.aload_n 0, 0, 0, 0) := rfl
theorem r_125_154 : sm_ic 125 154 = some (.getfield 49, 0, 6, 354) := rfl
theorem r_125_157 : sm_ic 125 157 = some (.invokevirtual 194, 98, 1, 600) := rfl
theorem r_125_160 : sm_ic 125 160 = some (.ireturn, 0, 0, 0) := rfl
theorem r_125_161 : sm_ic 125 161 = some (.aload_n 0, 0, 0, 0) := rfl
theorem r_125_162 : sm_ic 125 162 = some (.getfield 10, 0, 0, 348) := rfl
theorem r_125_165 : sm_ic 125 165 = some (.invokevirtual 66, 20, 1, 381) := rfl
theorem r_125_168 : sm_ic 125 168 = some (.ireturn, 0, 0, 0) := rfl
theorem r_125_169 : sm_ic 125 169 = some (.iconst (-1), 0, 0, 0) := rfl
theorem r_125_170 : sm_ic 125 170 = some (.ireturn, 0, 0, 0) := rfl
theorem r_126_0 : sm_ic 126 0 = some (.aload_n 0, 0, 0, 0) := rfl
theorem r_126_1 : sm_ic 126 1 = some (.getfield 81, 1, 6, 104) := rfl
theorem r_126_4 : sm_ic 126 4 = some (.ireturn, 0, 0, 0) := rfl
theorem r_127_0 : sm_ic 127 0 = some (.aload_n 0, 0, 0, 0) := rfl
theorem r_127_1 : sm_ic 127 1 = some (.getfield 84, 1, 7, 105) := rfl
theorem r_127_4 : sm_ic 127 4 = some (.ireturn, 0, 0, 0) := rfl
theorem r_128_0 : sm_ic 128 0 = some (.aload_n 0, 0, 0, 0) := rfl
theorem r_128_1 : sm_ic 128 1 = some (.invokespecial 1, 9999, 0, 730) := rfl
theorem r_128_4 : sm_ic 128 4 = some (.aload_n 0, 0, 0, 0) := rfl
theorem r_128_5 : sm_ic 128 5 = some (.sipush 200, 0, 0, 0) := rfl
theorem r_128_8 : sm_ic 128 8 = some (.newarray .int, 0, 0, 91) := rfl
theorem r_128_10 : sm_ic 128 10 = some (.putfield 7, 7, 1, 744) := rfl
theorem r_128_13 : sm_ic 128 13 = some (.aload_n 0, 0, 0, 0) := rfl
theorem r_128_14 : sm_ic 128 14 = some (.iconst 2, 0, 0, 0) := rfl
theorem r_128_15 : sm_ic 128 15 = some (.newarray .int, 0, 0, 91) := rfl
theorem r_128_17 : sm_ic 128 17 = some (.putfield 13, 7, 2, 745) := rfl
theorem r_128_20 : sm_ic 128 20 = some (.aload_n 0, 0, 0, 0) := rfl
theorem r_128_21 : sm_ic 128 21 = some (.bipush 16, 0, 0, 0) := rfl
theorem r_128_23 : sm_ic 128 23 = some (.newarray .int, 0, 0, 91) := rfl
theorem r_128_25 : sm_ic 128 25 = some (.putfield 16, 7, 3, 746) := rfl
theorem r_128_28 : sm_ic 128 28 = some (.aload_n 0, 0, 0, 0) := rfl
theorem r_128_29 : sm_ic 128 29 = some (.bipush 16, 0, 0, 0) := rfl
theorem r_128_31 : sm_ic 128 31 = some (.newarray .int, 0, 0, 91) := rfl
theorem r_128_33 : sm_ic 128 33 = some (.putfield 19, 7, 4, 747) := rfl
theorem r_128_36 : sm_ic 128 36 = some (.aload_n 0, 0, 0, 0) := rfl
theorem r_128_37 : sm_ic 128 37 = some (.bipush 16, 0, 0, 0) := rfl
theorem r_128_39 : sm_ic 128 39 = some (.newarray .int, 0, 0, 91) := rfl
theorem r_128_41 : sm_ic 128 41 = some (.putfield 22, 7, 5, 748) := rfl
theorem r_128_44 : sm_ic 128 44 = some (.aload_n 0, 0, 0, 0) := rfl
theorem r_128_45 : sm_ic 128 45 = some (.bipush 16, 0, 0, 0) := rfl
theorem r_128_47 : sm_ic 128 47 = some (.newarray .int, 0, 0, 91) := rfl
theorem r_128_49 : sm_ic 128 49 = some (.putfield 25, 7, 6, 749) := rfl
theorem r_128_52 : sm_ic 128 52 = some (.aload_n 0, 0, 0, 0) := rfl
theorem r_128_53 : sm_ic 128 53 = some (.iconst 2, 0, 0, 0) := rfl
theorem r_128_54 : sm_ic 128 54 = some (.newarray .int, 0, 0, 91) := rfl
theorem r_128_56 : sm_ic 128 56 = some (.putfield 28, 7, 7, 750) := rfl
theorem r_128_59 : sm_ic 128 59 = some (.aload_n 0, 0, 0, 0) := rfl
theorem r_128_60 : sm_ic 128 60 = some (.bipush 10, 0, 0, 0) := rfl
theorem r_128_62 : sm_ic 128 62 = some (.newarray .int, 0, 0, 91) := rfl
theorem r_128_64 : sm_ic 128 64 = some (.putfield 31, 7, 8, 751) := rfl
theorem r_128_67 : sm_ic 128 67 = some (.aload_n 0, 0, 0, 0) := rfl
theorem r_128_68 : sm_ic 128 68 = some (.bipush 8, 0, 0, 0) := rfl
theorem r_128_70 : sm_ic 128 70 = some (.newarray .int, 0, 0, 91) := rfl
theorem r_128_72 : sm_ic 128 72 = some (.putfield 34, 7, 9, 752) := rfl
theorem r_128_75 : sm_ic 128 75 = some (.aload_n 0, 0, 0, 0) := rfl
theorem r_128_76 : sm_ic 128 76 = some (.bipush 24, 0, 0, 0) := rfl
theorem r_128_78 : sm_ic 128 78 = some (.newarray .int, 0, 0, 91) := rfl
theorem r_128_80 : sm_ic 128 80 = some (.putfield 37, 7, 10, 753) := rfl
theorem r_128_83 : sm_ic 128 83 = some (.aload_n 0, 0, 0, 0) := rfl
theorem r_128_84 : sm_ic 128 84 = some (.sipush 192, 0, 0, 0) := rfl
theorem r_128_87 : sm_ic 128 87 = some (.newarray .int, 0, 0, 91) := rfl
theorem r_128_89 : sm_ic 128 89 = some (.putfield 40, 7, 11, 754) := rfl
theorem r_128_92 : sm_ic 128 92 = some (.aload_n 0, 0, 0, 0) := rfl
theorem r_128_93 : sm_ic 128 93 = some (.bipush 48, 0, 0, 0) := rfl
theorem r_128_95 : sm_ic 128 95 = some (.newarray .int, 0, 0, 91) := rfl
theorem r_128_97 : sm_ic 128 97 = some (.putfield 43, 7, 13, 756) := rfl
theorem r_128_100 : sm_ic 128 100 = some (.aload_n 0, 0, 0, 0) := rfl
theorem r_128_101 : sm_ic 128 101 = some (.bipush 8, 0, 0, 0) := rfl
theorem r_128_103 : sm_ic 128 103 = some (.newarray .int, 0, 0, 91) := rfl
theorem r_128_105 : sm_ic 128 105 = some (.putfield 46, 7, 16, 759) := rfl
theorem r_128_108 : sm_ic 128 108 = some (.aload_n 0, 0, 0, 0) := rfl
theorem r_128_109 : sm_ic 128 109 = some (.bipush 8, 0, 0, 0) := rfl
theorem r_128_111 : sm_ic 128 111 = some (.newarray .int, 0, 0, 91) := rfl
theorem r_128_113 : sm_ic 128 113 = some (.putfield 49, 7, 17, 760) := rfl
theorem r_128_116 : sm_ic 128 116 = some (.aload_n 0, 0, 0, 0) := rfl
theorem r_128_117 : sm_ic 128 117 = some (.iconst 4, 0, 0, 0) := rfl
theorem r_128_118 : sm_ic 128 118 = some (.newarray .int, 0, 0, 91) := rfl
theorem r_128_120 : sm_ic 128 120 = some (.putfield 52, 7, 19, 762) := rfl
theorem r_128_123 : sm_ic 128 123 = some (.aload_n 0, 0, 0, 0) := rfl
theorem r_128_124 : sm_ic 128 124 = some (.bipush 8, 0, 0, 0) := rfl
theorem r_128_126 : sm_ic 128 126 = some (.newarray .int, 0, 0, 91) := rfl
theorem r_128_128 : sm_ic 128 128 = some (.putfield 55, 7, 20, 763) := rfl
theorem r_128_131 : sm_ic 128 131 = some (.aload_n 0, 0, 0, 0) := rfl
theorem r_128_132 : sm_ic 128 132 = some (.iconst 5, 0, 0, 0) := rfl
theorem r_128_133 : sm_ic 128 133 = some (.newarray .int, 0, 0, 91) := rfl
theorem r_128_135 : sm_ic 128 135 = some (.putfield 58, 7, 21, 764) := rfl
theorem r_128_138 : sm_ic 128 138 = some (.aload_n 0, 0, 0, 0) := rfl
theorem r_128_139 : sm_ic 128 139 = some (.iconst 5, 0, 0, 0) := rfl
theorem r_128_140 : sm_ic 128 140 = some (.newarray .int, 0, 0, 91) := rfl
theorem r_128_142 : sm_ic 128 142 = some (.putfield 61, 7, 22, 765) := rfl
theorem r_128_145 : sm_ic 128 145 = some (.aload_n 0, 0, 0, 0) := rfl
theorem r_128_146 : sm_ic 128 146 = some (.iconst 0, 0, 0, 0) := rfl
theorem r_128_147 : sm_ic 128 147 = some (.invokevirtual 64, 129, 2, 731) := rfl
theorem r_128_150 : sm_ic 128 150 = some (.aload_n 0, 0, 0, 0) := rfl
theorem r_128_151 : sm_ic 128 151 = some (.iconst 0, 0, 0, 0) := rfl
theorem r_128_152 : sm_ic 128 152 = some (.iconst 0, 0, 0, 0) := rfl
theorem r_128_153 : sm_ic 128 153 = some (.iconst 1, 0, 0, 0) := rfl
theorem r_128_154 : sm_ic 128 154 = some (.iconst 0, 0, 0, 0) := rfl
theorem r_128_155 : sm_ic 128 155 = some (.iconst 2, 0, 0, 0) := rfl
theorem r_128_156 : sm_ic 128 156 = some (.invokevirtual 68, 130, 6, 735) := rfl
theorem r_128_159 : sm_ic 128 159 = some (.aload_n 0, 0, 0, 0) := rfl
theorem r_128_160 : sm_ic 128 160 = some (.iconst 0, 0, 0, 0) := rfl
theorem r_128_161 : sm_ic 128 161 = some (.iconst 0, 0, 0, 0) := rfl
theorem r_128_162 : sm_ic 128 162 = some (.iconst 3, 0, 0, 0) := rfl
theorem r_128_163 : sm_ic 128 163 = some (.iconst 0, 0, 0, 0) := rfl
theorem r_128_164 : sm_ic 128 164 = some (.iconst 1, 0, 0, 0) := rfl
theorem r_128_165 : sm_ic 128 165 = some (.invokevirtual 68, 130, 6, 735) := rfl
theorem r_128_168 : sm_ic 128 168 = some (.aload_n 0, 0, 0, 0) := rfl
theorem r_128_169 : sm_ic 128 169 = some (.iconst 0, 0, 0, 0) := rfl
theorem r_128_170 : sm_ic 128 170 = some (.iconst 1, 0, 0, 0) := rfl
theorem r_128_171 : sm_ic 128 171 = some (.iconst 1, 0, 0, 0) := rfl
theorem r_128_172 : sm_ic 128 172 = some (.iconst 0, 0, 0, 0) := rfl
theorem r_128_173 : sm_ic 128 173 = some (.iconst 0, 0, 0, 0) := rfl
theorem r_128_174 : sm_ic 128 174 = some (.invokevirtual 68, 130, 6, 735) := rfl
theorem r_128_177 : sm_ic 128 177 = some (.aload_n 0, 0, 0, 0) := rfl
theorem r_128_178 : sm_ic 128 178 = some (.iconst 0, 0, 0, 0) := rfl
theorem r_128_179 : sm_ic 128 179 = some (.iconst 2, 0, 0, 0) := rfl
theorem r_128_180 : sm_ic 128 180 = some (.iconst 0, 0, 0, 0) := rfl
theorem r_128_181 : sm_ic 128 181 = some (.iconst 1, 0, 0, 0) := rfl
theorem r_128_182 : sm_ic 128 182 = some (.iconst 3, 0, 0, 0) := rfl
theorem r_128_183 : sm_ic 128 183 = some (.invokevirtual 68, 130, 6, 735) := rfl
theorem r_128_186 : sm_ic 128 186 = some (.aload_n 0, 0, 0, 0) := rfl
theorem r_128_187 : sm_ic 128 187 = some (.iconst 0, 0, 0, 0) := rfl
theorem r_128_188 : sm_ic 128 188 = some (.iconst 2, 0, 0, 0) := rfl
theorem r_128_189 : sm_ic 128 189 = some (.iconst 2, 0, 0, 0) := rfl
theorem r_128_190 : sm_ic 128 190 = some (.iconst 5, 0, 0, 0) := rfl
theorem r_128_191 : sm_ic 128 191 = some (.iconst 1, 0, 0, 0) := rfl
theorem r_128_192 : sm_ic 128 192 = some (.invokevirtual 68, 130, 6, 735) := rfl
theorem r_128_195 : sm_ic 128 195 = some (.aload_n 0, 0, 0, 0) := rfl
theorem r_128_196 : sm_ic 128 196 = some (.iconst 0, 0, 0, 0) := rfl
theorem r_128_197 : sm_ic 128 197 = some (.iconst 2, 0, 0, 0) := rfl
theorem r_128_198 : sm_ic 128 198 = some (.iconst 0, 0, 0, 0) := rfl
theorem r_128_199 : sm_ic 128 199 = some (.iconst 4, 0, 0, 0) := rfl
theorem r_128_200 : sm_ic 128 200 = some (.iconst 0, 0, 0, 0) := rfl
theorem r_128_201 : sm_ic 128 201 = some (.invokevirtual 68, 130, 6, 735) := rfl
theorem r_128_204 : sm_ic 128 204 = some (.aload_n 0, 0, 0, 0) := rfl
theorem r_128_205 : sm_ic 128 205 = some (.iconst 0, 0, 0, 0) := rfl
theorem r_128_206 : sm_ic 128 206 = some (.iconst 3, 0, 0, 0) := rfl
theorem r_128_207 : sm_ic 128 207 = some (.iconst 3, 0, 0, 0) := rfl
theorem r_128_208 : sm_ic 128 208 = some (.iconst 0, 0, 0, 0) := rfl
theorem r_128_209 : sm_ic 128 209 = some (.iconst 4, 0, 0, 0) := rfl
theorem r_128_210 : sm_ic 128 210 = some (.invokevirtual 68, 130, 6, 735) := rfl
theorem r_128_213 : sm_ic 128 213 = some (.aload_n 0, 0, 0, 0) := rfl
theorem r_128_214 : sm_ic 128 214 = some (.iconst 0, 0, 0, 0) := rfl
theorem r_128_215 : sm_ic 128 215 = some (.iconst 0, 0, 0, 0) := rfl
theorem r_128_216 : sm_ic 128 216 = some (.iconst 0, 0, 0, 0) := rfl
theorem r_128_217 : sm_ic 128 217 = some (.iconst 0, 0, 0, 0) := rfl
theorem r_128_218 : sm_ic 128 218 = some (.iconst 2, 0, 0, 0) := rfl
theorem r_128_219 : sm_ic 128 219 = some (.invokevirtual 68, 130, 6, 735) := rfl
theorem r_128_222 : sm_ic 128 222 = some (.aload_n 0, 0, 0, 0) := rfl
theorem r_128_223 : sm_ic 128 223 = some (.getfield 28, 7, 7, 750) := rfl
theorem r_128_226 : sm_ic 128 226 = some (.iconst 0, 0, 0, 0) := rfl
theorem r_128_227 : sm_ic 128 227 = some (.iconst 2, 0, 0, 0) := rfl
theorem r_128_228 : sm_ic 128 228 = some (.iastore, 0, 0, 0) := rfl
theorem r_128_229 : sm_ic 128 229 = some (.aload_n 0, 0, 0, 0) := rfl
theorem r_128_230 : sm_ic 128 230 = some (.getfield 31, 7, 8, 751) := rfl
theorem r_128_233 : sm_ic 128 233 = some (.iconst 0, 0, 0, 0) := rfl
theorem r_128_234 : sm_ic 128 234 = some (.iconst 2, 0, 0, 0) := rfl
theorem r_128_235 : sm_ic 128 235 = some (.iastore, 0, 0, 0) := rfl
theorem r_128_236 : sm_ic 128 236 = some (.aload_n 0, 0, 0, 0) := rfl
theorem r_128_237 : sm_ic 128 237 = some (.getfield 31, 7, 8, 751) := rfl
theorem r_128_240 : sm_ic 128 240 = some (.iconst 1, 0, 0, 0) := rfl
theorem r_128_241 : sm_ic 128 241 = some (.iconst 3, 0, 0, 0) := rfl
theorem r_128_242 : sm_ic 128 242 = some (.iastore, 0, 0, 0) := rfl
theorem r_128_243 : sm_ic 128 243 = some (.aload_n 0, 0, 0, 0) := rfl
theorem r_128_244 : sm_ic 128 244 = some (.getfield 34, 7, 9, 752) := rfl
theorem r_128_247 : sm_ic 128 247 = some (.iconst 1, 0, 0, 0) := rfl
theorem r_128_248 : sm_ic 128 248 = some (.bipush 6, 0, 0, 0) := rfl
theorem r_128_250 : sm_ic 128 250 = some (.iastore, 0, 0, 0) := rfl
theorem r_128_251 : sm_ic 128 251 = some (.aload_n 0, 0, 0, 0) := rfl
theorem r_128_252 : sm_ic 128 252 = some (.invokevirtual 72, 131, 1, 739) := rfl
theorem r_128_255 : sm_ic 128 255 = some (.return_, 0, 0, 0) := rfl
theorem r_129_0 : sm_ic 129 0 = some (.aload_n 0, 0, 0, 0) := rfl
theorem r_129_1 : sm_ic 129 1 = some (.getfield 13, 7, 2, 745) := rfl
theorem r_129_4 : sm_ic 129 4 = some (.iload_n 1, 0, 0, 0) := rfl
theorem r_129_5 : sm_ic 129 5 = some (.iconst 0, 0, 0, 0) := rfl
theorem r_129_6 : sm_ic 129 6 = some (.iastore, 0, 0, 0) := rfl
theorem r_129_7 : sm_ic 129 7 = some (.aload_n 0, 0, 0, 0) := rfl
theorem r_129_8 : sm_ic 129 8 = some (.getfield 28, 7, 7, 750) := rfl
theorem r_129_11 : sm_ic 129 11 = some (.iload_n 1, 0, 0, 0) := rfl
theorem r_129_12 : sm_ic 129 12 = some (.iconst 0, 0, 0, 0) := rfl
theorem r_129_13 : sm_ic 129 13 = some (.iastore, 0, 0, 0) := rfl
theorem r_129_14 : sm_ic 129 14 = some (.aload_n 0, 0, 0, 0) := rfl
theorem r_129_15 : sm_ic 129 15 = some (.getfield 34, 7, 9, 752) := rfl
theorem r_129_18 : sm_ic 129 18 = some (.iconst 4, 0, 0, 0) := rfl
theorem r_129_19 : sm_ic 129 19 = some (.iload_n 1, 0, 0, 0) := rfl
theorem r_129_20 : sm_ic 129 20 = some (.imul, 0, 0, 0) := rfl
theorem r_129_21 : sm_ic 129 21 = some (.iconst 4, 0, 0, 0) := rfl
theorem r_129_22 : sm_ic 129 22 = some (.iastore, 0, 0, 0) := rfl
theorem r_129_23 : sm_ic 129 23 = some (.aload_n 0, 0, 0, 0) := rfl
theorem r_129_24 : sm_ic 129 24 = some (.getfield 34, 7, 9, 752) := rfl
theorem r_129_27 : sm_ic 129 27 = some (.iconst 4, 0, 0, 0) := rfl
theorem r_129_28 : sm_ic 129 28 = some (.iload_n 1, 0, 0, 0) := rfl
theorem r_129_29 : sm_ic 129 29 = some (.imul, 0, 0, 0) := rfl
theorem r_129_30 : sm_ic 129 30 = some (.iconst 1, 0, 0, 0) := rfl
theorem r_129_31 : sm_ic 129 31 = some (.iadd, 0, 0, 0) := rfl
theorem r_129_32 : sm_ic 129 32 = some (.iconst 0, 0, 0, 0) := rfl
theorem r_129_33 : sm_ic 129 33 = some (.iastore, 0, 0, 0) := rfl
theorem r_129_34 : sm_ic 129 34 = some (.aload_n 0, 0, 0, 0) := rfl
theorem r_129_35 : sm_ic 129 35 = some (.getfield 34, 7, 9, 752) := rfl
theorem r_129_38 : sm_ic 129 38 = some (.iconst 4, 0, 0, 0) := rfl
theorem r_129_39 : sm_ic 129 39 = some (.iload_n 1, 0, 0, 0) := rfl
theorem r_129_40 : sm_ic 129 40 = some (.imul, 0, 0, 0) := rfl
theorem r_129_41 : sm_ic 129 41 = some (.iconst 2, 0, 0, 0) := rfl
theorem r_129_42 : sm_ic 129 42 = some (.iadd, 0, 0, 0) := rfl
theorem r_129_43 : sm_ic 129 43 = some (.iconst 5, 0, 0, 0) := rfl
theorem r_129_44 : sm_ic 129 44 = some (.iastore, 0, 0, 0) := rfl
theorem r_129_45 : sm_ic 129 45 = some (.aload_n 0, 0, 0, 0) := rfl
theorem r_129_46 : sm_ic 129 46 = some (.getfield 34, 7, 9, 752) := rfl
theorem r_129_49 : sm_ic 129 49 = some (.iconst 4, 0, 0, 0) := rfl
theorem r_129_50 : sm_ic 129 50 = some (.iload_n 1, 0, 0, 0) := rfl
theorem r_129_51 : sm_ic 129 51 = some (.imul, 0, 0, 0) := rfl
theorem r_129_52 : sm_ic 129 52 = some (.iconst 3, 0, 0, 0) := rfl
theorem r_129_53 : sm_ic 129 53 = some (.iadd, 0, 0, 0) := rfl
theorem r_129_54 : sm_ic 129 54 = some (.iconst 3, 0, 0, 0) := rfl
theorem r_129_55 : sm_ic 129 55 = some (.iastore, 0, 0, 0) := rfl
theorem r_129_56 : sm_ic 129 56 = some (.return_, 0, 0, 0) := rfl
theorem r_130_0 : sm_ic 130 0 = some (.bipush 8, 0, 0, 0) := rfl
theorem r_130_2 : sm_ic 130 2 = some (.iload_n 1, 0, 0, 0) := rfl
theorem r_130_3 : sm_ic 130 3 = some (.imul, 0, 0, 0) := rfl
theorem r_130_4 : sm_ic 130 4 = some (.aload_n 0, 0, 0, 0) := rfl
theorem r_130_5 : sm_ic 130 5 = some (.getfield 13, 7, 2, 745) := rfl
theorem r_130_8 : sm_ic 130 8 = some (.iload_n 1, 0, 0, 0) := rfl
theorem r_130_9 : sm_ic 130 9 = some (.iaload, 0, 0, 0) := rfl
theorem r_130_10 : sm_ic 130 10 = some (.iadd, 0, 0, 0) := rfl
theorem r_130_11 : sm_ic 130 11 = some (.istore 6, 0, 0, 0) := rfl
theorem r_130_13 : sm_ic 130 13 = some (.aload_n 0, 0, 0, 0) := rfl
theorem r_130_14 : sm_ic 130 14 = some (.getfield 16, 7, 3, 746) := rfl
theorem r_130_17 : sm_ic 130 17 = some (.iload 6, 0, 0, 0) := rfl
theorem r_130_19 : sm_ic 130 19 = some (.iload_n 2, 0, 0, 0) := rfl
theorem r_130_20 : sm_ic 130 20 = some (.iastore, 0, 0, 0) := rfl
theorem r_130_21 : sm_ic 130 21 = some (.aload_n 0, 0, 0, 0) := rfl
theorem r_130_22 : sm_ic 130 22 = some (.getfield 19, 7, 4, 747) := rfl
theorem r_130_25 : sm_ic 130 25 = some (.iload 6, 0, 0, 0) := rfl
theorem r_130_27 : sm_ic 130 27 = some (.iload_n 3, 0, 0, 0) := rfl
theorem r_130_28 : sm_ic 130 28 = some (.iastore, 0, 0, 0) := rfl
theorem r_130_29 : sm_ic 130 29 = some (.aload_n 0, 0, 0, 0) := rfl
theorem r_130_30 : sm_ic 130 30 = some (.getfield 22, 7, 5, 748) := rfl
theorem r_130_33 : sm_ic 130 33 = some (.iload 6, 0, 0, 0) := rfl
theorem r_130_35 : sm_ic 130 35 = some (.iload 4, 0, 0, 0) := rfl
theorem r_130_37 : sm_ic 130 37 = some (.iastore, 0, 0, 0) := rfl
theorem r_130_38 : sm_ic 130 38 = some (.aload_n 0, 0, 0, 0) := rfl
theorem r_130_39 : sm_ic 130 39 = some (.getfield 25, 7, 6, 749) := rfl
theorem r_130_42 : sm_ic 130 42 = some (.iload 6, 0, 0, 0) := rfl
theorem r_130_44 : sm_ic 130 44 = some (.iload 5, 0, 0, 0) := rfl
theorem r_130_46 : sm_ic 130 46 = some (.iastore, 0, 0, 0) := rfl
theorem r_130_47 : sm_ic 130 47 = some (.aload_n 0, 0, 0, 0) := rfl
theorem r_130_48 : sm_ic 130 48 = some (.getfield 13, 7, 2, 745) := rfl
theorem r_130_51 : sm_ic 130 51 = some (.iload_n 1, 0, 0, 0) := rfl
theorem r_130_52 : sm_ic 130 52 = some (.dup2, 0, 0, 0) := rfl
theorem r_130_53 : sm_ic 130 53 = some (.iaload, 0, 0, 0) := rfl
theorem r_130_54 : sm_ic 130 54 = some (.iconst 1, 0, 0, 0) := rfl
theorem r_130_55 : sm_ic 130 55 = some (.iadd, 0, 0, 0) := rfl
theorem r_130_56 : sm_ic 130 56 = some (.iastore, 0, 0, 0) := rfl
theorem r_130_57 : sm_ic 130 57 = some (.return_, 0, 0, 0) := rfl
theorem r_131_0 : sm_ic 131 0 = some (.iconst 0, 0, 0, 0) := rfl
theorem r_131_1 : sm_ic 131 1 = some (.istore_n 1, 0, 0, 0) := rfl
theorem r_131_2 : sm_ic 131 2 = some (.iload_n 1, 0, 0, 0) := rfl
theorem r_131_3 : sm_ic 131 3 = some (.bipush 24, 0, 0, 0) := rfl
theorem r_131_5 : sm_ic 131 5 = some (.if_icmp .ge 49, 54, 0, 0) := rfl
theorem r_131_8 : sm_ic 131 8 = some (.aload_n 0, 0, 0, 0) := rfl
theorem r_131_9 : sm_ic 131 9 = some (.getfield 37, 7, 10, 753) := rfl
theorem r_131_12 : sm_ic 131 12 = some (.iload_n 1, 0, 0, 0) := rfl
theorem r_131_13 : sm_ic 131 13 = some (.iload_n 1, 0, 0, 0) := rfl
theorem r_131_14 : sm_ic 131 14 = some (.bipush 8, 0, 0, 0) := rfl
theorem r_131_16 : sm_ic 131 16 = some (.if_icmp .ge 12, 28, 0, 0) := rfl
theorem r_131_19 : sm_ic 131 19 = some (.aload_n 0, 0, 0, 0) := rfl
theorem r_131_20 : sm_ic 131 20 = some (.getfield 19, 7, 4, 747) := rfl
theorem r_131_23 : sm_ic 131 23 = some (.iload_n 1, 0, 0, 0) := rfl
theorem r_131_24 : sm_ic 131 24 = some (.iaload, 0, 0, 0) := rfl
theorem r_131_25 : sm_ic 131 25 = some (.goto 22, 47, 0, 0) := rfl
theorem r_131_28 : sm_ic 131 28 = some (.iload_n 1, 0, 0, 0) := rfl
theorem r_131_29 : sm_ic 131 29 = some (.bipush 16, 0, 0, 0) := rfl
theorem r_131_31 : sm_ic 131 31 = some (.if_icmp .ge 15, 46, 0, 0) := rfl
theorem r_131_34 : sm_ic 131 34 = some (.aload_n 0, 0, 0, 0) := rfl
theorem r_131_35 : sm_ic 131 35 = some (.getfield 22, 7, 5, 748) := rfl
theorem r_131_38 : sm_ic 131 38 = some (.iload_n 1, 0, 0, 0) := rfl
theorem r_131_39 : sm_ic 131 39 = some (.bipush 8, 0, 0, 0) := rfl
theorem r_131_41 : sm_ic 131 41 = some (.isub, 0, 0, 0) := rfl
theorem r_131_42 : sm_ic 131 42 = some (.iaload, 0, 0, 0) := rfl
theorem r_131_43 : sm_ic 131 43 = some (.goto 4, 47, 0, 0) := rfl
theorem r_131_46 : sm_ic 131 46 = some (.iconst 0, 0, 0, 0) := rfl
theorem r_131_47 : sm_ic 131 47 = some (.iastore, 0, 0, 0) := rfl
theorem r_131_48 : sm_ic 131 48 = some (.iinc 1 1, 0, 0, 0) := rfl
theorem r_131_51 : sm_ic 131 51 = some (.goto (-49), 2, 0, 0) := rfl
theorem r_131_54 : sm_ic 131 54 = some (.aload_n 0, 0, 0, 0) := rfl
theorem r_131_55 : sm_ic 131 55 = some (.iconst 0, 0, 0, 0) := rfl
theorem r_131_56 : sm_ic 131 56 = some (.putfield 121, 7, 12, 755) := rfl
theorem r_131_59 : sm_ic 131 59 = some (.aload_n 0, 0, 0, 0) := rfl
theorem r_131_60 : sm_ic 131 60 = some (.iconst 0, 0, 0, 0) := rfl
theorem r_131_61 : sm_ic 131 61 = some (.putfield 124, 7, 14, 757) := rfl
theorem r_131_64 : sm_ic 131 64 = some (.aload_n 0, 0, 0, 0) := rfl
theorem r_131_65 : sm_ic 131 65 = some (.iconst 0, 0, 0, 0) := rfl
theorem r_131_66 : sm_ic 131 66 = some (.putfield 127, 7, 15, 758) := rfl
theorem r_131_69 : sm_ic 131 69 = some (.return_, 0, 0, 0) := rfl
theorem r_132_0 : sm_ic 132 0 = some (.iload_n 1, 0, 0, 0) := rfl
theorem r_132_1 : sm_ic 132 1 = some (.i2l, 0, 0, 0) := rfl
theorem r_132_2 : sm_ic 132 2 = some (.ldc2_w 75, 32, 0, 817) := rfl
theorem r_132_5 : sm_ic 132 5 = some (.ldc2_w 77, 126, 0, 818) := rfl
theorem r_132_8 : sm_ic 132 8 = some (.invokestatic 79, 133, 3, 819) := rfl
theorem r_132_11 : sm_ic 132 11 = some (.ifCond .ne 5, 16, 0, 0) := rfl
theorem r_132_14 : sm_ic 132 14 = some (.iconst (-1), 0, 0, 0) := rfl
theorem r_132_15 : sm_ic 132 15 = some (.ireturn, 0, 0, 0) := rfl
theorem r_132_16 : sm_ic 132 16 = some (.aload_n 0, 0, 0, 0) := rfl
theorem r_132_17 : sm_ic 132 17 = some (.getfield 83, 7, 0, 743) := rfl
theorem r_132_20 : sm_ic 132 20 = some (.sipush 200, 0, 0, 0) := rfl
theorem r_132_23 : sm_ic 132 23 = some (.if_icmp .ne 6, 29, 0, 0) := rfl
theorem r_132_26 : sm_ic 132 26 = some (.bipush (-3), 0, 0, 0) := rfl
theorem r_132_28 : sm_ic 132 28 = some (.ireturn, 0, 0, 0) := rfl
theorem r_132_29 : sm_ic 132 29 = some (.aload_n 0, 0, 0, 0) := rfl
theorem r_132_30 : sm_ic 132 30 = some (.getfield 7, 7, 1, 744) := rfl
theorem r_132_33 : sm_ic 132 33 = some (.aload_n 0, 0, 0, 0) := rfl
theorem r_132_34 : sm_ic 132 34 = some (.getfield 83, 7, 0, 743) := rfl
theorem r_132_37 : sm_ic 132 37 = some (.iload_n 1, 0, 0, 0) := rfl
theorem r_132_38 : sm_ic 132 38 = some (.iastore, 0, 0, 0) := rfl
theorem r_132_39 : sm_ic 132 39 = some (.aload_n 0, 0, 0, 0) := rfl
theorem r_132_40 : sm_ic 132 40 = some (.dup, 0, 0, 0) := rfl
theorem r_132_41 : sm_ic 132 41 = some (.getfield 83, 7, 0, 743) := rfl
theorem r_132_44 : sm_ic 132 44 = some (.iconst 1, 0, 0, 0) := rfl
theorem r_132_45 : sm_ic 132 45 = some (.iadd, 0, 0, 0) := rfl
theorem r_132_46 : sm_ic 132 46 = some (.putfield 83, 7, 0, 743) := rfl
theorem r_132_49 : sm_ic 132 49 = some (.aload_n 0, 0, 0, 0) := rfl
theorem r_132_50 : sm_ic 132 50 = some (.getfield 83, 7, 0, 743) := rfl
theorem r_132_53 : sm_ic 132 53 = some (.ireturn, 0, 0, 0) := rfl
theorem r_133_0 : sm_ic 133 0 = some (.lload_n 0, 0, 0, 0) := rfl
theorem r_133_1 : sm_ic 133 1 = some (.lload_n 2, 0, 0, 0) := rfl
theorem r_133_2 : sm_ic 133 2 = some (.lcmp, 0, 0, 0) := rfl
theorem r_133_3 : sm_ic 133 3 = some (.ifCond .lt 14, 17, 0, 0) := rfl
theorem r_133_6 : sm_ic 133 6 = some (.lload_n 0, 0, 0, 0) := rfl
theorem r_133_7 : sm_ic 133 7 = some (.lload 4, 0, 0, 0) := rfl
theorem r_133_9 : sm_ic 133 9 = some (.lcmp, 0, 0, 0) := rfl
theorem r_133_10 : sm_ic 133 10 = some (.ifCond .gt 7, 17, 0, 0) := rfl
theorem r_133_13 : sm_ic 133 13 = some (.iconst 1, 0, 0, 0) := rfl
theorem r_133_14 : sm_ic 133 14 = some (.goto 4, 18, 0, 0) := rfl
theorem r_133_17 : sm_ic 133 17 = some (.iconst 0, 0, 0, 0) := rfl
theorem r_133_18 : sm_ic 133 18 = some (.ireturn, 0, 0, 0) := rfl
theorem r_134_0 : sm_ic 134 0 = some (.aload_n 0, 0, 0, 0) := rfl
theorem r_134_1 : sm_ic 134 1 = some (.getfield 83, 7, 0, 743) := rfl
theorem r_134_4 : sm_ic 134 4 = some (.istore_n 1, 0, 0, 0) := rfl
theorem r_134_5 : sm_ic 134 5 = some (.aload_n 0, 0, 0, 0) := rfl
theorem r_134_6 : sm_ic 134 6 = some (.iconst 0, 0, 0, 0) := rfl
theorem r_134_7 : sm_ic 134 7 = some (.putfield 83, 7, 0, 743) := rfl
theorem r_134_10 : sm_ic 134 10 = some (.iload_n 1, 0, 0, 0) := rfl
theorem r_134_11 : sm_ic 134 11 = some (.ireturn, 0, 0, 0) := rfl
theorem r_135_0 : sm_ic 135 0 = some (.aload_n 0, 0, 0, 0) := rfl
theorem r_135_1 : sm_ic 135 1 = some (.invokevirtual 117, 136, 1, 830) := rfl
theorem r_135_4 : sm_ic 135 4 = some (.ireturn, 0, 0, 0) := rfl
theorem r_136_0 : sm_ic 136 0 = some (.aload_n 0, 0, 0, 0) := rfl
theorem r_136_1 : sm_ic 136 1 = some (.iconst 1, 0, 0, 0) := rfl
theorem r_136_2 : sm_ic 136 2 = some (.invokevirtual 64, 129, 2, 731) := rfl
theorem r_136_5 : sm_ic 136 5 = some (.aload_n 0, 0, 0, 0) := rfl
theorem r_136_6 : sm_ic 136 6 = some (.iconst 0, 0, 0, 0) := rfl
theorem r_136_7 : sm_ic 136 7 = some (.putfield 87, 7, 18, 761) := rfl
theorem r_136_10 : sm_ic 136 10 = some (.aload_n 0, 0, 0, 0) := rfl
theorem r_136_11 : sm_ic 136 11 = some (.getfield 87, 7, 18, 761) := rfl
theorem r_136_14 : sm_ic 136 14 = some (.aload_n 0, 0, 0, 0) := rfl
theorem r_136_15 : sm_ic 136 15 = some (.getfield 83, 7, 0, 743) := rfl
theorem r_136_18 : sm_ic 136 18 = some (.if_icmp .ge 20, 38, 0, 0) := rfl
theorem r_136_21 : sm_ic 136 21 = some (.aload_n 0, 0, 0, 0) := rfl
theorem r_136_22 : sm_ic 136 22 = some (.getfield 87, 7, 18, 761) := rfl
theorem r_136_25 : sm_ic 136 25 = some (.istore_n 1, 0, 0, 0) := rfl
theorem r_136_26 : sm_ic 136 26 = some (.aload_n 0, 0, 0, 0) := rfl
theorem r_136_27 : sm_ic 136 27 = some (.invokevirtual 114, 137, 1, 834) := rfl
theorem r_136_30 : sm_ic 136 30 = some (.ifCond .ne 5, 35, 0, 0) := rfl
theorem r_136_33 : sm_ic 136 33 = some (.iload_n 1, 0, 0, 0) := rfl
theorem r_136_34 : sm_ic 136 34 = some (.ireturn, 0, 0, 0) := rfl
theorem r_136_35 : sm_ic 136 35 = some (.goto (-25), 10, 0, 0) := rfl
theorem r_136_38 : sm_ic 136 38 = some (.bipush (-4), 0, 0, 0) := rfl
theorem r_136_40 : sm_ic 136 40 = some (.ireturn, 0, 0, 0) := rfl
theorem r_137_0 : sm_ic 137 0 = some (.aload_n 0, 0, 0, 0) := rfl
theorem r_137_1 : sm_ic 137 1 = some (.aload_n 0, 0, 0, 0) := rfl
theorem r_137_2 : sm_ic 137 2 = some (.getfield 87, 7, 18, 761) := rfl
theorem r_137_5 : sm_ic 137 5 = some (.invokevirtual 90, 138, 2, 838) := rfl
theorem r_137_8 : sm_ic 137 8 = some (.istore_n 1, 0, 0, 0) := rfl
theorem r_137_9 : sm_ic 137 9 = some (.aload_n 0, 0, 0, 0) := rfl
theorem r_137_10 : sm_ic 137 10 = some (.dup, 0, 0, 0) := rfl
theorem r_137_11 : sm_ic 137 11 = some (.getfield 87, 7, 18, 761) := rfl
theorem r_137_14 : sm_ic 137 14 = some (.iconst 1, 0, 0, 0) := rfl
theorem r_137_15 : sm_ic 137 15 = some (.iadd, 0, 0, 0) := rfl
theorem r_137_16 : sm_ic 137 16 = some (.putfield 87, 7, 18, 761) := rfl
theorem r_137_19 : sm_ic 137 19 = some (.iload_n 1, 0, 0, 0) := rfl
theorem r_137_20 : sm_ic 137 20 = some (.tableswitch 197 98 115 #[93, 197, 161, 197, 197, 197, 179, 88, 197, 197, 197, 170, 197, 197, 197, 197, 197, 188], 0, 0, 0) := rfl
theorem r_137_108 : sm_ic 137 108 = some (.aload_n 0, 0, 0, 0) := rfl
theorem r_137_109 : sm_ic 137 109 = some (.invokevirtual 104, 139, 1, 842) := rfl
theorem r_137_112 : sm_ic 137 112 = some (.ireturn, 0, 0, 0) := rfl
theorem r_137_113 : sm_ic 137 113 = some (.aload_n 0, 0, 0, 0) := rfl
theorem r_137_114 : sm_ic 137 114 = some (.iconst 1, 0, 0, 0) := rfl
theorem r_137_115 : sm_ic 137 115 = some (.invokevirtual 100, 140, 2, 846) := rfl
theorem r_137_118 : sm_ic 137 118 = some (.ifCond .eq 30, 148, 0, 0) := rfl
theorem r_137_121 : sm_ic 137 121 = some (.aload_n 0, 0, 0, 0) := rfl
theorem r_137_122 : sm_ic 137 122 = some (.getfield 28, 7, 7, 750) := rfl
theorem r_137_125 : sm_ic 137 125 = some (.iconst 1, 0, 0, 0) := rfl
theorem r_137_126 : sm_ic 137 126 = some (.iaload, 0, 0, 0) := rfl
theorem r_137_127 : sm_ic 137 127 = some (.iconst 5, 0, 0, 0) := rfl
theorem r_137_128 : sm_ic 137 128 = some (.if_icmp .eq 20, 148, 0, 0) := rfl
theorem r_137_131 : sm_ic 137 131 = some (.aload_n 0, 0, 0, 0) := rfl
theorem r_137_132 : sm_ic 137 132 = some (.getfield 52, 7, 19, 762) := rfl
theorem r_137_135 : sm_ic 137 135 = some (.iconst 0, 0, 0, 0) := rfl
theorem r_137_136 : sm_ic 137 136 = some (.iaload, 0, 0, 0) := rfl
theorem r_137_137 : sm_ic 137 137 = some (.i2l, 0, 0, 0) := rfl
theorem r_137_138 : sm_ic 137 138 = some (.lconst 1, 0, 0, 0) := rfl
theorem r_137_139 : sm_ic 137 139 = some (.ldc2_w 108, 8, 0, 853) := rfl
theorem r_137_142 : sm_ic 137 142 = some (.invokestatic 79, 133, 3, 819) := rfl
theorem r_137_145 : sm_ic 137 145 = some (.ifCond .ne 5, 150, 0, 0) := rfl
theorem r_137_148 : sm_ic 137 148 = some (.iconst 0, 0, 0, 0) := rfl
theorem r_137_149 : sm_ic 137 149 = some (.ireturn, 0, 0, 0) := rfl
theorem r_137_150 : sm_ic 137 150 = some (.aload_n 0, 0, 0, 0) := rfl
theorem r_137_151 : sm_ic 137 151 = some (.getfield 31, 7, 8, 751) := rfl
theorem r_137_154 : sm_ic 137 154 = some (.iconst 5, 0, 0, 0) := rfl
theorem r_137_155 : sm_ic 137 155 = some (.aload_n 0, 0, 0, 0) := rfl
theorem r_137_156 : sm_ic 137 156 = some (.getfield 28, 7, 7, 750) := rfl
theorem r_137_159 : sm_ic 137 159 = some (.iconst 1, 0, 0, 0) := rfl
theorem r_137_160 : sm_ic 137 160 = some (.iaload, 0, 0, 0) := rfl
theorem r_137_161 : sm_ic 137 161 = some (.iadd, 0, 0, 0) := rfl
theorem r_137_162 : sm_ic 137 162 = some (.aload_n 0, 0, 0, 0) := rfl
theorem r_137_163 : sm_ic 137 163 = some (.getfield 52, 7, 19, 762) := rfl
theorem r_137_166 : sm_ic 137 166 = some (.iconst 0, 0, 0, 0) := rfl
theorem r_137_167 : sm_ic 137 167 = some (.iaload, 0, 0, 0) := rfl
theorem r_137_168 : sm_ic 137 168 = some (.iastore, 0, 0, 0) := rfl
theorem r_137_169 : sm_ic 137 169 = some (.aload_n 0, 0, 0, 0) := rfl
theorem r_137_170 : sm_ic 137 170 = some (.getfield 28, 7, 7, 750) := rfl
theorem r_137_173 : sm_ic 137 173 = some (.iconst 1, 0, 0, 0) := rfl
theorem r_137_174 : sm_ic 137 174 = some (.dup2, 0, 0, 0) := rfl
theorem r_137_175 : sm_ic 137 175 = some (.iaload, 0, 0, 0) := rfl
theorem r_137_176 : sm_ic 137 176 = some (.iconst 1, 0, 0, 0) := rfl
theorem r_137_177 : sm_ic 137 177 = some (.iadd, 0, 0, 0) := rfl
theorem r_137_178 : sm_ic 137 178 = some (.iastore, 0, 0, 0) := rfl
theorem r_137_179 : sm_ic 137 179 = some (.iconst 1, 0, 0, 0) := rfl
theorem r_137_180 : sm_ic 137 180 = some (.ireturn, 0, 0, 0) := rfl
theorem r_137_181 : sm_ic 137 181 = some (.aload_n 0, 0, 0, 0) := rfl
theorem r_137_182 : sm_ic 137 182 = some (.iconst 0, 0, 0, 0) := rfl
theorem r_137_183 : sm_ic 137 183 = some (.iconst 0, 0, 0, 0) := rfl
theorem r_137_184 : sm_ic 137 184 = some (.bipush 9, 0, 0, 0) := rfl
theorem r_137_186 : sm_ic 137 186 = some (.invokevirtual 110, 141, 4, 854) := rfl
theorem r_137_189 : sm_ic 137 189 = some (.ireturn, 0, 0, 0) := rfl
theorem r_137_190 : sm_ic 137 190 = some (.aload_n 0, 0, 0, 0) := rfl
theorem r_137_191 : sm_ic 137 191 = some (.iconst 1, 0, 0, 0) := rfl
theorem r_137_192 : sm_ic 137 192 = some (.iconst 0, 0, 0, 0) := rfl
theorem r_137_193 : sm_ic 137 193 = some (.bipush 40, 0, 0, 0) := rfl
theorem r_137_195 : sm_ic 137 195 = some (.invokevirtual 110, 141, 4, 854) := rfl
theorem r_137_198 : sm_ic 137 198 = some (.ireturn, 0, 0, 0) := rfl
theorem r_137_199 : sm_ic 137 199 = some (.aload_n 0, 0, 0, 0) := rfl
theorem r_137_200 : sm_ic 137 200 = some (.iconst 2, 0, 0, 0) := rfl
theorem r_137_201 : sm_ic 137 201 = some (.iconst 1, 0, 0, 0) := rfl
theorem r_137_202 : sm_ic 137 202 = some (.bipush 9, 0, 0, 0) := rfl
theorem r_137_204 : sm_ic 137 204 = some (.invokevirtual 110, 141, 4, 854) := rfl
theorem r_137_207 : sm_ic 137 207 = some (.ireturn, 0, 0, 0) := rfl
theorem r_137_208 : sm_ic 137 208 = some (.aload_n 0, 0, 0, 0) := rfl
theorem r_137_209 : sm_ic 137 209 = some (.iconst 3, 0, 0, 0) := rfl
theorem r_137_210 : sm_ic 137 210 = some (.iconst 0, 0, 0, 0) := rfl
theorem r_137_211 : sm_ic 137 211 = some (.bipush 10, 0, 0, 0) := rfl
theorem r_137_213 : sm_ic 137 213 = some (.invokevirtual 110, 141, 4, 854) := rfl
theorem r_137_216 : sm_ic 137 216 = some (.ireturn, 0, 0, 0) := rfl
theorem r_137_217 : sm_ic 137 217 = some (.iconst 0, 0, 0, 0) := rfl
theorem r_137_218 : sm_ic 137 218 = some (.ireturn, 0, 0, 0) := rfl
theorem r_138_0 : sm_ic 138 0 = some (.iload_n 1, 0, 0, 0) := rfl
theorem r_138_1 : sm_ic 138 1 = some (.aload_n 0, 0, 0, 0) := rfl
theorem r_138_2 : sm_ic 138 2 = some (.getfield 83, 7, 0, 743) := rfl
theorem r_138_5 : sm_ic 138 5 = some (.if_icmp .ge 12, 17, 0, 0) := rfl
theorem r_138_8 : sm_ic 138 8 = some (.aload_n 0, 0, 0, 0) := rfl
theorem r_138_9 : sm_ic 138 9 = some (.getfield 7, 7, 1, 744) := rfl
theorem r_138_12 : sm_ic 138 12 = some (.iload_n 1, 0, 0, 0) := rfl
theorem r_138_13 : sm_ic 138 13 = some (.iaload, 0, 0, 0) := rfl
theorem r_138_14 : sm_ic 138 14 = some (.goto 4, 18, 0, 0) := rfl
theorem r_138_17 : sm_ic 138 17 = some (.iconst 0, 0, 0, 0) := rfl
theorem r_138_18 : sm_ic 138 18 = some (.ireturn, 0, 0, 0) := rfl
theorem r_139_0 : sm_ic 139 0 = some (.aload_n 0, 0, 0, 0) := rfl
theorem r_139_1 : sm_ic 139 1 = some (.iconst 4, 0, 0, 0) := rfl
theorem r_139_2 : sm_ic 139 2 = some (.invokevirtual 100, 140, 2, 846) := rfl
theorem r_139_5 : sm_ic 139 5 = some (.ifCond .eq 60, 65, 0, 0) := rfl
theorem r_139_8 : sm_ic 139 8 = some (.aload_n 0, 0, 0, 0) := rfl
theorem r_139_9 : sm_ic 139 9 = some (.getfield 13, 7, 2, 745) := rfl
theorem r_139_12 : sm_ic 139 12 = some (.iconst 1, 0, 0, 0) := rfl
theorem r_139_13 : sm_ic 139 13 = some (.iaload, 0, 0, 0) := rfl
theorem r_139_14 : sm_ic 139 14 = some (.bipush 8, 0, 0, 0) := rfl
theorem r_139_16 : sm_ic 139 16 = some (.if_icmp .ge 49, 65, 0, 0) := rfl
theorem r_139_19 : sm_ic 139 19 = some (.aload_n 0, 0, 0, 0) := rfl
theorem r_139_20 : sm_ic 139 20 = some (.getfield 52, 7, 19, 762) := rfl
theorem r_139_23 : sm_ic 139 23 = some (.iconst 0, 0, 0, 0) := rfl
theorem r_139_24 : sm_ic 139 24 = some (.iaload, 0, 0, 0) := rfl
theorem r_139_25 : sm_ic 139 25 = some (.iconst 4, 0, 0, 0) := rfl
theorem r_139_26 : sm_ic 139 26 = some (.if_icmp .ge 39, 65, 0, 0) := rfl
theorem r_139_29 : sm_ic 139 29 = some (.aload_n 0, 0, 0, 0) := rfl
theorem r_139_30 : sm_ic 139 30 = some (.getfield 52, 7, 19, 762) := rfl
theorem r_139_33 : sm_ic 139 33 = some (.iconst 1, 0, 0, 0) := rfl
theorem r_139_34 : sm_ic 139 34 = some (.iaload, 0, 0, 0) := rfl
theorem r_139_35 : sm_ic 139 35 = some (.iconst 4, 0, 0, 0) := rfl
theorem r_139_36 : sm_ic 139 36 = some (.if_icmp .ge 29, 65, 0, 0) := rfl
theorem r_139_39 : sm_ic 139 39 = some (.aload_n 0, 0, 0, 0) := rfl
theorem r_139_40 : sm_ic 139 40 = some (.getfield 52, 7, 19, 762) := rfl
theorem r_139_43 : sm_ic 139 43 = some (.iconst 2, 0, 0, 0) := rfl
theorem r_139_44 : sm_ic 139 44 = some (.iaload, 0, 0, 0) := rfl
theorem r_139_45 : sm_ic 139 45 = some (.bipush 8, 0, 0, 0) := rfl
theorem r_139_47 : sm_ic 139 47 = some (.if_icmp .ge 18, 65, 0, 0) := rfl
theorem r_139_50 : sm_ic 139 50 = some (.aload_n 0, 0, 0, 0) := rfl
theorem r_139_51 : sm_ic 139 51 = some (.getfield 52, 7, 19, 762) := rfl
theorem r_139_54 : sm_ic 139 54 = some (.iconst 3, 0, 0, 0) := rfl
theorem r_139_55 : sm_ic 139 55 = some (.iaload, 0, 0, 0) := rfl
theorem r_139_56 : sm_ic 139 56 = some (.bipush 10, 0, 0, 0) := rfl
theorem r_139_58 : sm_ic 139 58 = some (.if_icmp .ge 7, 65, 0, 0) := rfl
theorem r_139_61 : sm_ic 139 61 = some (.iconst 1, 0, 0, 0) := rfl
theorem r_139_62 : sm_ic 139 62 = some (.goto 4, 66, 0, 0) := rfl
theorem r_139_65 : sm_ic 139 65 = some (.iconst 0, 0, 0, 0) := rfl
theorem r_139_66 : sm_ic 139 66 = some (.istore_n 1, 0, 0, 0) := rfl
theorem r_139_67 : sm_ic 139 67 = some (.iload_n 1, 0, 0, 0) := rfl
theorem r_139_68 : sm_ic 139 68 = some (.ifCond .eq 32, 100, 0, 0) := rfl
theorem r_139_71 : sm_ic 139 71 = some (.aload_n 0, 0, 0, 0) := rfl
theorem r_139_72 : sm_ic 139 72 = some (.iconst 1, 0, 0, 0) := rfl
theorem r_139_73 : sm_ic 139 73 = some (.aload_n 0, 0, 0, 0) := rfl
theorem r_139_74 : sm_ic 139 74 = some (.getfield 52, 7, 19, 762) := rfl
theorem r_139_77 : sm_ic 139 77 = some (.iconst 0, 0, 0, 0) := rfl
theorem r_139_78 : sm_ic 139 78 = some (.iaload, 0, 0, 0) := rfl
theorem r_139_79 : sm_ic 139 79 = some (.aload_n 0, 0, 0, 0) := rfl
theorem r_139_80 : sm_ic 139 80 = some (.getfield 52, 7, 19, 762) := rfl
theorem r_139_83 : sm_ic 139 83 = some (.iconst 1, 0, 0, 0) := rfl
theorem r_139_84 : sm_ic 139 84 = some (.iaload, 0, 0, 0) := rfl
theorem r_139_85 : sm_ic 139 85 = some (.aload_n 0, 0, 0, 0) := rfl
theorem r_139_86 : sm_ic 139 86 = some (.getfield 52, 7, 19, 762) := rfl
theorem r_139_89 : sm_ic 139 89 = some (.iconst 2, 0, 0, 0) := rfl
theorem r_139_90 : sm_ic 139 90 = some (.iaload, 0, 0, 0) := rfl
theorem r_139_91 : sm_ic 139 91 = some (.aload_n 0, 0, 0, 0) := rfl
theorem r_139_92 : sm_ic 139 92 = some (.getfield 52, 7, 19, 762) := rfl
theorem r_139_95 : sm_ic 139 95 = some (.iconst 3, 0, 0, 0) := rfl
theorem r_139_96 : sm_ic 139 96 = some (.iaload, 0, 0, 0) := rfl
theorem r_139_97 : sm_ic 139 97 = some (.invokevirtual 68, 130, 6, 735) := rfl
theorem r_139_100 : sm_ic 139 100 = some (.iload_n 1, 0, 0, 0) := rfl
theorem r_139_101 : sm_ic 139 101 = some (.ireturn, 0, 0, 0) := rfl
theorem r_140_0 : sm_ic 140 0 = some (.iconst 0, 0, 0, 0) := rfl
theorem r_140_1 : sm_ic 140 1 = some (.istore_n 2, 0, 0, 0) := rfl
theorem r_140_2 : sm_ic 140 2 = some (.iload_n 2, 0, 0, 0) := rfl
theorem r_140_3 : sm_ic 140 3 = some (.iload_n 1, 0, 0, 0) := rfl
theorem r_140_4 : sm_ic 140 4 = some (.if_icmp .ge 132, 136, 0, 0) := rfl
theorem r_140_7 : sm_ic 140 7 = some (.iconst 0, 0, 0, 0) := rfl
theorem r_140_8 : sm_ic 140 8 = some (.istore_n 3, 0, 0, 0) := rfl
theorem r_140_9 : sm_ic 140 9 = some (.iconst 0, 0, 0, 0) := rfl
theorem r_140_10 : sm_ic 140 10 = some (.istore 4, 0, 0, 0) := rfl
theorem r_140_12 : sm_ic 140 12 = some (.aload_n 0, 0, 0, 0) := rfl
theorem r_140_13 : sm_ic 140 13 = some (.aload_n 0, 0, 0, 0) := rfl
theorem r_140_14 : sm_ic 140 14 = some (.getfield 87, 7, 18, 761) := rfl
theorem r_140_17 : sm_ic 140 17 = some (.invokevirtual 90, 138, 2, 838) := rfl
theorem r_140_20 : sm_ic 140 20 = some (.i2l, 0, 0, 0) := rfl
theorem r_140_21 : sm_ic 140 21 = some (.ldc2_w 94, 48, 0, 850) := rfl
theorem r_140_24 : sm_ic 140 24 = some (.ldc2_w 96, 57, 0, 851) := rfl
theorem r_140_27 : sm_ic 140 27 = some (.invokestatic 79, 133, 3, 819) := rfl
theorem r_140_30 : sm_ic 140 30 = some (.ifCond .eq 43, 73, 0, 0) := rfl
theorem r_140_33 : sm_ic 140 33 = some (.iload_n 3, 0, 0, 0) := rfl
theorem r_140_34 : sm_ic 140 34 = some (.iconst 3, 0, 0, 0) := rfl
theorem r_140_35 : sm_ic 140 35 = some (.if_icmp .ge 38, 73, 0, 0) := rfl
theorem r_140_38 : sm_ic 140 38 = some (.bipush 10, 0, 0, 0) := rfl
theorem r_140_40 : sm_ic 140 40 = some (.iload 4, 0, 0, 0) := rfl
theorem r_140_42 : sm_ic 140 42 = some (.imul, 0, 0, 0) := rfl
theorem r_140_43 : sm_ic 140 43 = some (.aload_n 0, 0, 0, 0) := rfl
theorem r_140_44 : sm_ic 140 44 = some (.aload_n 0, 0, 0, 0) := rfl
theorem r_140_45 : sm_ic 140 45 = some (.getfield 87, 7, 18, 761) := rfl
theorem r_140_48 : sm_ic 140 48 = some (.invokevirtual 90, 138, 2, 838) := rfl
theorem r_140_51 : sm_ic 140 51 = some (.iadd, 0, 0, 0) := rfl
theorem r_140_52 : sm_ic 140 52 = some (.bipush 48, 0, 0, 0) := rfl
theorem r_140_54 : sm_ic 140 54 = some (.isub, 0, 0, 0) := rfl
theorem r_140_55 : sm_ic 140 55 = some (.istore 4, 0, 0, 0) := rfl
theorem r_140_57 : sm_ic 140 57 = some (.iinc 3 1, 0, 0, 0) := rfl
theorem r_140_60 : sm_ic 140 60 = some (.aload_n 0, 0, 0, 0) := rfl
theorem r_140_61 : sm_ic 140 61 = some (.dup, 0, 0, 0) := rfl
theorem r_140_62 : sm_ic 140 62 = some (.getfield 87, 7, 18, 761) := rfl
theorem r_140_65 : sm_ic 140 65 = some (.iconst 1, 0, 0, 0) := rfl
theorem r_140_66 : sm_ic 140 66 = some (.iadd, 0, 0, 0) := rfl
theorem r_140_67 : sm_ic 140 67 = some (.putfield 87, 7, 18, 761) := rfl
theorem r_140_70 : sm_ic 140 70 = some (.goto (-58), 12, 0, 0) := rfl
theorem r_140_73 : sm_ic 140 73 = some (.iload_n 3, 0, 0, 0) := rfl
theorem r_140_74 : sm_ic 140 74 = some (.i2l, 0, 0, 0) := rfl
theorem r_140_75 : sm_ic 140 75 = some (.lconst 1, 0, 0, 0) := rfl
theorem r_140_76 : sm_ic 140 76 = some (.ldc2_w 98, 2, 0, 852) := rfl
theorem r_140_79 : sm_ic 140 79 = some (.invokestatic 79, 133, 3, 819) := rfl
theorem r_140_82 : sm_ic 140 82 = some (.ifCond .eq 28, 110, 0, 0) := rfl
theorem r_140_85 : sm_ic 140 85 = some (.aload_n 0, 0, 0, 0) := rfl
theorem r_140_86 : sm_ic 140 86 = some (.aload_n 0, 0, 0, 0) := rfl
theorem r_140_87 : sm_ic 140 87 = some (.getfield 87, 7, 18, 761) := rfl
theorem r_140_90 : sm_ic 140 90 = some (.invokevirtual 90, 138, 2, 838) := rfl
theorem r_140_93 : sm_ic 140 93 = some (.iload_n 2, 0, 0, 0) := rfl
theorem r_140_94 : sm_ic 140 94 = some (.iload_n 1, 0, 0, 0) := rfl
theorem r_140_95 : sm_ic 140 95 = some (.iconst 1, 0, 0, 0) := rfl
theorem r_140_96 : sm_ic 140 96 = some (.isub, 0, 0, 0) := rfl
theorem r_140_97 : sm_ic 140 97 = some (.if_icmp .ge 8, 105, 0, 0) := rfl
theorem r_140_100 : sm_ic 140 100 = some (.bipush 44, 0, 0, 0) := rfl
theorem r_140_102 : sm_ic 140 102 = some (.goto 5, 107, 0, 0) := rfl
theorem r_140_105 : sm_ic 140 105 = some (.bipush 59, 0, 0, 0) := rfl
theorem r_140_107 : sm_ic 140 107 = some (.if_icmp .eq 5, 112, 0, 0) := rfl
theorem r_140_110 : sm_ic 140 110 = some (.iconst 0, 0, 0, 0) := rfl
theorem r_140_111 : sm_ic 140 111 = some (.ireturn, 0, 0, 0) := rfl
theorem r_140_112 : sm_ic 140 112 = some (.aload_n 0, 0, 0, 0) := rfl
theorem r_140_113 : sm_ic 140 113 = some (.getfield 52, 7, 19, 762) := rfl
theorem r_140_116 : sm_ic 140 116 = some (.iload_n 2, 0, 0, 0) := rfl
theorem r_140_117 : sm_ic 140 117 = some (.iload 4, 0, 0, 0) := rfl
theorem r_140_119 : sm_ic 140 119 = some (.iastore, 0, 0, 0) := rfl
theorem r_140_120 : sm_ic 140 120 = some (.aload_n 0, 0, 0, 0) := rfl
theorem r_140_121 : sm_ic 140 121 = some (.dup, 0, 0, 0) := rfl
theorem r_140_122 : sm_ic 140 122 = some (.getfield 87, 7, 18, 761) := rfl
theorem r_140_125 : sm_ic 140 125 = some (.iconst 1, 0, 0, 0) := rfl
theorem r_140_126 : sm_ic 140 126 = some (.iadd, 0, 0, 0) := rfl
theorem r_140_127 : sm_ic 140 127 = some (.putfield 87, 7, 18, 761) := rfl
theorem r_140_130 : sm_ic 140 130 = some (.iinc 2 1, 0, 0, 0) := rfl
theorem r_140_133 : sm_ic 140 133 = some (.goto (-131), 2, 0, 0) := rfl
theorem r_140_136 : sm_ic 140 136 = some (.iconst 1, 0, 0, 0) := rfl
theorem r_140_137 : sm_ic 140 137 = some (.ireturn, 0, 0, 0) := rfl
theorem r_141_0 : sm_ic 141 0 = some (.aload_n 0, 0, 0, 0) := rfl
theorem r_141_1 : sm_ic 141 1 = some (.iconst 1, 0, 0, 0) := rfl
theorem r_141_2 : sm_ic 141 2 = some (.invokevirtual 100, 140, 2, 846) := rfl
theorem r_141_5 : sm_ic 141 5 = some (.ifCond .eq 24, 29, 0, 0) := rfl
theorem r_141_8 : sm_ic 141 8 = some (.aload_n 0, 0, 0, 0) := rfl
theorem r_141_9 : sm_ic 141 9 = some (.getfield 52, 7, 19, 762) := rfl
theorem r_141_12 : sm_ic 141 12 = some (.iconst 0, 0, 0, 0) := rfl
theorem r_141_13 : sm_ic 141 13 = some (.iaload, 0, 0, 0) := rfl
theorem r_141_14 : sm_ic 141 14 = some (.i2l, 0, 0, 0) := rfl
theorem r_141_15 : sm_ic 141 15 = some (.iload_n 2, 0, 0, 0) := rfl
theorem r_141_16 : sm_ic 141 16 = some (.i2l, 0, 0, 0) := rfl
theorem r_141_17 : sm_ic 141 17 = some (.iload_n 3, 0, 0, 0) := rfl
theorem r_141_18 : sm_ic 141 18 = some (.i2l, 0, 0, 0) := rfl
theorem r_141_19 : sm_ic 141 19 = some (.invokestatic 79, 133, 3, 819) := rfl
theorem r_141_22 : sm_ic 141 22 = some (.ifCond .eq 7, 29, 0, 0) := rfl
theorem r_141_25 : sm_ic 141 25 = some (.iconst 1, 0, 0, 0) := rfl
theorem r_141_26 : sm_ic 141 26 = some (.goto 4, 30, 0, 0) := rfl
theorem r_141_29 : sm_ic 141 29 = some (.iconst 0, 0, 0, 0) := rfl
theorem r_141_30 : sm_ic 141 30 = some (.istore 4, 0, 0, 0) := rfl
theorem r_141_32 : sm_ic 141 32 = some (.aload_n 0, 0, 0, 0) := rfl
theorem r_141_33 : sm_ic 141 33 = some (.getfield 34, 7, 9, 752) := rfl
theorem r_141_36 : sm_ic 141 36 = some (.iconst 4, 0, 0, 0) := rfl
theorem r_141_37 : sm_ic 141 37 = some (.iload_n 1, 0, 0, 0) := rfl
theorem r_141_38 : sm_ic 141 38 = some (.iadd, 0, 0, 0) := rfl
theorem r_141_39 : sm_ic 141 39 = some (.iload 4, 0, 0, 0) := rfl
theorem r_141_41 : sm_ic 141 41 = some (.ifCond .eq 12, 53, 0, 0) := rfl
theorem r_141_44 : sm_ic 141 44 = some (.aload_n 0, 0, 0, 0) := rfl
theorem r_141_45 : sm_ic 141 45 = some (.getfield 52, 7, 19, 762) := rfl
theorem r_141_48 : sm_ic 141 48 = some (.iconst 0, 0, 0, 0) := rfl
theorem r_141_49 : sm_ic 141 49 = some (.iaload, 0, 0, 0) := rfl
theorem r_141_50 : sm_ic 141 50 = some (.goto 11, 61, 0, 0) := rfl
theorem r_141_53 : sm_ic 141 53 = some (.aload_n 0, 0, 0, 0) := rfl
theorem r_141_54 : sm_ic 141 54 = some (.getfield 34, 7, 9, 752) := rfl
theorem r_141_57 : sm_ic 141 57 = some (.iconst 4, 0, 0, 0) := rfl
theorem r_141_58 : sm_ic 141 58 = some (.iload_n 1, 0, 0, 0) := rfl
theorem r_141_59 : sm_ic 141 59 = some (.iadd, 0, 0, 0) := rfl
theorem r_141_60 : sm_ic 141 60 = some (.iaload, 0, 0, 0) := rfl
theorem r_141_61 : sm_ic 141 61 = some (.iastore, 0, 0, 0) := rfl
theorem r_141_62 : sm_ic 141 62 = some (.iload 4, 0, 0, 0) := rfl
theorem r_141_64 : sm_ic 141 64 = some (.ireturn, 0, 0, 0) := rfl
theorem r_142_0 : sm_ic 142 0 = some (.aload_n 0, 0, 0, 0) := rfl
theorem r_142_1 : sm_ic 142 1 = some (.invokevirtual 117, 136, 1, 830) := rfl
theorem r_142_4 : sm_ic 142 4 = some (.bipush (-4), 0, 0, 0) := rfl
theorem r_142_6 : sm_ic 142 6 = some (.if_icmp .ne 16, 22, 0, 0) := rfl
theorem r_142_9 : sm_ic 142 9 = some (.aload_n 0, 0, 0, 0) := rfl
theorem r_142_10 : sm_ic 142 10 = some (.getfield 13, 7, 2, 745) := rfl
theorem r_142_13 : sm_ic 142 13 = some (.iconst 1, 0, 0, 0) := rfl
theorem r_142_14 : sm_ic 142 14 = some (.iaload, 0, 0, 0) := rfl
theorem r_142_15 : sm_ic 142 15 = some (.ifCond .le 7, 22, 0, 0) := rfl
theorem r_142_18 : sm_ic 142 18 = some (.iconst 1, 0, 0, 0) := rfl
theorem r_142_19 : sm_ic 142 19 = some (.goto 4, 23, 0, 0) := rfl
theorem r_142_22 : sm_ic 142 22 = some (.iconst 0, 0, 0, 0) := rfl
theorem r_142_23 : sm_ic 142 23 = some (.istore_n 1, 0, 0, 0) := rfl
theorem r_142_24 : sm_ic 142 24 = some (.iconst 0, 0, 0, 0) := rfl
theorem r_142_25 : sm_ic 142 25 = some (.istore_n 2, 0, 0, 0) := rfl
theorem r_142_26 : sm_ic 142 26 = some (.iload_n 2, 0, 0, 0) := rfl
theorem r_142_27 : sm_ic 142 27 = some (.aload_n 0, 0, 0, 0) := rfl
theorem r_142_28 : sm_ic 142 28 = some (.getfield 13, 7, 2, 745) := rfl
theorem r_142_31 : sm_ic 142 31 = some (.iconst 1, 0, 0, 0) := rfl
theorem r_142_32 : sm_ic 142 32 = some (.iaload, 0, 0, 0) := rfl
theorem r_142_33 : sm_ic 142 33 = some (.if_icmp .ge 37, 70, 0, 0) := rfl
theorem r_142_36 : sm_ic 142 36 = some (.iload_n 1, 0, 0, 0) := rfl
theorem r_142_37 : sm_ic 142 37 = some (.ifCond .eq 33, 70, 0, 0) := rfl
theorem r_142_40 : sm_ic 142 40 = some (.aload_n 0, 0, 0, 0) := rfl
theorem r_142_41 : sm_ic 142 41 = some (.getfield 22, 7, 5, 748) := rfl
theorem r_142_44 : sm_ic 142 44 = some (.bipush 8, 0, 0, 0) := rfl
theorem r_142_46 : sm_ic 142 46 = some (.iload_n 2, 0, 0, 0) := rfl
theorem r_142_47 : sm_ic 142 47 = some (.iadd, 0, 0, 0) := rfl
theorem r_142_48 : sm_ic 142 48 = some (.iaload, 0, 0, 0) := rfl
theorem r_142_49 : sm_ic 142 49 = some (.aload_n 0, 0, 0, 0) := rfl
theorem r_142_50 : sm_ic 142 50 = some (.getfield 13, 7, 2, 745) := rfl
theorem r_142_53 : sm_ic 142 53 = some (.iconst 1, 0, 0, 0) := rfl
theorem r_142_54 : sm_ic 142 54 = some (.iaload, 0, 0, 0) := rfl
theorem r_142_55 : sm_ic 142 55 = some (.if_icmp .ge 7, 62, 0, 0) := rfl
theorem r_142_58 : sm_ic 142 58 = some (.iconst 1, 0, 0, 0) := rfl
theorem r_142_59 : sm_ic 142 59 = some (.goto 4, 63, 0, 0) := rfl
theorem r_142_62 : sm_ic 142 62 = some (.iconst 0, 0, 0, 0) := rfl
theorem r_142_63 : sm_ic 142 63 = some (.istore_n 1, 0, 0, 0) := rfl
theorem r_142_64 : sm_ic 142 64 = some (.iinc 2 1, 0, 0, 0) := rfl
theorem r_142_67 : sm_ic 142 67 = some (.goto (-41), 26, 0, 0) := rfl
theorem r_142_70 : sm_ic 142 70 = some (.iload_n 1, 0, 0, 0) := rfl
theorem r_142_71 : sm_ic 142 71 = some (.ifCond .ne 6, 77, 0, 0) := rfl
theorem r_142_74 : sm_ic 142 74 = some (.bipush (-2), 0, 0, 0) := rfl
theorem r_142_76 : sm_ic 142 76 = some (.ireturn, 0, 0, 0) := rfl
theorem r_142_77 : sm_ic 142 77 = some (.aload_n 0, 0, 0, 0) := rfl
theorem r_142_78 : sm_ic 142 78 = some (.getfield 13, 7, 2, 745) := rfl
theorem r_142_81 : sm_ic 142 81 = some (.iconst 0, 0, 0, 0) := rfl
theorem r_142_82 : sm_ic 142 82 = some (.aload_n 0, 0, 0, 0) := rfl
theorem r_142_83 : sm_ic 142 83 = some (.getfield 13, 7, 2, 745) := rfl
theorem r_142_86 : sm_ic 142 86 = some (.iconst 1, 0, 0, 0) := rfl
theorem r_142_87 : sm_ic 142 87 = some (.iaload, 0, 0, 0) := rfl
theorem r_142_88 : sm_ic 142 88 = some (.iastore, 0, 0, 0) := rfl
theorem r_142_89 : sm_ic 142 89 = some (.aload_n 0, 0, 0, 0) := rfl
theorem r_142_90 : sm_ic 142 90 = some (.getfield 28, 7, 7, 750) := rfl
theorem r_142_93 : sm_ic 142 93 = some (.iconst 0, 0, 0, 0) := rfl
theorem r_142_94 : sm_ic 142 94 = some (.aload_n 0, 0, 0, 0) := rfl
theorem r_142_95 : sm_ic 142 95 = some (.getfield 28, 7, 7, 750) := rfl
theorem r_142_98 : sm_ic 142 98 = some (.iconst 1, 0, 0, 0) := rfl
theorem r_142_99 : sm_ic 142 99 = some (.iaload, 0, 0, 0) := rfl
theorem r_142_100 : sm_ic 142 100 = some (.iastore, 0, 0, 0) := rfl
theorem r_142_101 : sm_ic 142 101 = some (.iconst 0, 0, 0, 0) := rfl
theorem r_142_102 : sm_ic 142 102 = some (.istore_n 2, 0, 0, 0) := rfl
theorem r_142_103 : sm_ic 142 103 = some (.iload_n 2, 0, 0, 0) := rfl
theorem r_142_104 : sm_ic 142 104 = some (.bipush 8, 0, 0, 0) := rfl
theorem r_142_106 : sm_ic 142 106 = some (.if_icmp .ge 69, 175, 0, 0) := rfl
theorem r_142_109 : sm_ic 142 109 = some (.aload_n 0, 0, 0, 0) := rfl
theorem r_142_110 : sm_ic 142 110 = some (.getfield 16, 7, 3, 746) := rfl
theorem r_142_113 : sm_ic 142 113 = some (.iload_n 2, 0, 0, 0) := rfl
theorem r_142_114 : sm_ic 142 114 = some (.aload_n 0, 0, 0, 0) := rfl
theorem r_142_115 : sm_ic 142 115 = some (.getfield 16, 7, 3, 746) := rfl
theorem r_142_118 : sm_ic 142 118 = some (.bipush 8, 0, 0, 0) := rfl
theorem r_142_120 : sm_ic 142 120 = some (.iload_n 2, 0, 0, 0) := rfl
theorem r_142_121 : sm_ic 142 121 = some (.iadd, 0, 0, 0) := rfl
theorem r_142_122 : sm_ic 142 122 = some (.iaload, 0, 0, 0) := rfl
theorem r_142_123 : sm_ic 142 123 = some (.iastore, 0, 0, 0) := rfl
theorem r_142_124 : sm_ic 142 124 = some (.aload_n 0, 0, 0, 0) := rfl
theorem r_142_125 : sm_ic 142 125 = some (.getfield 19, 7, 4, 747) := rfl
theorem r_142_128 : sm_ic 142 128 = some (.iload_n 2, 0, 0, 0) := rfl
theorem r_142_129 : sm_ic 142 129 = some (.aload_n 0, 0, 0, 0) := rfl
theorem r_142_130 : sm_ic 142 130 = some (.getfield 19, 7, 4, 747) := rfl
theorem r_142_133 : sm_ic 142 133 = some (.bipush 8, 0, 0, 0) := rfl
theorem r_142_135 : sm_ic 142 135 = some (.iload_n 2, 0, 0, 0) := rfl
theorem r_142_136 : sm_ic 142 136 = some (.iadd, 0, 0, 0) := rfl
theorem r_142_137 : sm_ic 142 137 = some (.iaload, 0, 0, 0) := rfl
theorem r_142_138 : sm_ic 142 138 = some (.iastore, 0, 0, 0) := rfl
theorem r_142_139 : sm_ic 142 139 = some (.aload_n 0, 0, 0, 0) := rfl
theorem r_142_140 : sm_ic 142 140 = some (.getfield 22, 7, 5, 748) := rfl
theorem r_142_143 : sm_ic 142 143 = some (.iload_n 2, 0, 0, 0) := rfl
theorem r_142_144 : sm_ic 142 144 = some (.aload_n 0, 0, 0, 0) := rfl
theorem r_142_145 : sm_ic 142 145 = some (.getfield 22, 7, 5, 748) := rfl
theorem r_142_148 : sm_ic 142 148 = some (.bipush 8, 0, 0, 0) := rfl
theorem r_142_150 : sm_ic 142 150 = some (.iload_n 2, 0, 0, 0) := rfl
theorem r_142_151 : sm_ic 142 151 = some (.iadd, 0, 0, 0) := rfl
theorem r_142_152 : sm_ic 142 152 = some (.iaload, 0, 0, 0) := rfl
theorem r_142_153 : sm_ic 142 153 = some (.iastore, 0, 0, 0) := rfl
theorem r_142_154 : sm_ic 142 154 = some (.aload_n 0, 0, 0, 0) := rfl
theorem r_142_155 : sm_ic 142 155 = some (.getfield 25, 7, 6, 749) := rfl
theorem r_142_158 : sm_ic 142 158 = some (.iload_n 2, 0, 0, 0) := rfl
theorem r_142_159 : sm_ic 142 159 = some (.aload_n 0, 0, 0, 0) := rfl
theorem r_142_160 : sm_ic 142 160 = some (.getfield 25, 7, 6, 749) := rfl
theorem r_142_163 : sm_ic 142 163 = some (.bipush 8, 0, 0, 0) := rfl
theorem r_142_165 : sm_ic 142 165 = some (.iload_n 2, 0, 0, 0) := rfl
theorem r_142_166 : sm_ic 142 166 = some (.iadd, 0, 0, 0) := rfl
theorem r_142_167 : sm_ic 142 167 = some (.iaload, 0, 0, 0) := rfl
theorem r_142_168 : sm_ic 142 168 = some (.iastore, 0, 0, 0) := rfl
theorem r_142_169 : sm_ic 142 169 = some (.iinc 2 1, 0, 0, 0) := rfl
theorem r_142_172 : sm_ic 142 172 = some (.goto (-69), 103, 0, 0) := rfl
theorem r_142_175 : sm_ic 142 175 = some (.iconst 0, 0, 0, 0) := rfl
theorem r_142_176 : sm_ic 142 176 = some (.istore_n 2, 0, 0, 0) := rfl
theorem r_142_177 : sm_ic 142 177 = some (.iload_n 2, 0, 0, 0) := rfl
theorem r_142_178 : sm_ic 142 178 = some (.iconst 5, 0, 0, 0) := rfl
theorem r_142_179 : sm_ic 142 179 = some (.if_icmp .ge 23, 202, 0, 0) := rfl
theorem r_142_182 : sm_ic 142 182 = some (.aload_n 0, 0, 0, 0) := rfl
theorem r_142_183 : sm_ic 142 183 = some (.getfield 31, 7, 8, 751) := rfl
theorem r_142_186 : sm_ic 142 186 = some (.iload_n 2, 0, 0, 0) := rfl
theorem r_142_187 : sm_ic 142 187 = some (.aload_n 0, 0, 0, 0) := rfl
theorem r_142_188 : sm_ic 142 188 = some (.getfield 31, 7, 8, 751) := rfl
theorem r_142_191 : sm_ic 142 191 = some (.iconst 5, 0, 0, 0) := rfl
theorem r_142_192 : sm_ic 142 192 = some (.iload_n 2, 0, 0, 0) := rfl
theorem r_142_193 : sm_ic 142 193 = some (.iadd, 0, 0, 0) := rfl
theorem r_142_194 : sm_ic 142 194 = some (.iaload, 0, 0, 0) := rfl
theorem r_142_195 : sm_ic 142 195 = some (.iastore, 0, 0, 0) := rfl
theorem r_142_196 : sm_ic 142 196 = some (.iinc 2 1, 0, 0, 0) := rfl
theorem r_142_199 : sm_ic 142 199 = some (.goto (-22), 177, 0, 0) := rfl
theorem r_142_202 : sm_ic 142 202 = some (.iconst 0, 0, 0, 0) := rfl
theorem r_142_203 : sm_ic 142 203 = some (.istore_n 2, 0, 0, 0) := rfl
theorem r_142_204 : sm_ic 142 204 = some (.iload_n 2, 0, 0, 0) := rfl
theorem r_142_205 : sm_ic 142 205 = some (.iconst 4, 0, 0, 0) := rfl
theorem r_142_206 : sm_ic 142 206 = some (.if_icmp .ge 23, 229, 0, 0) := rfl
theorem r_142_209 : sm_ic 142 209 = some (.aload_n 0, 0, 0, 0) := rfl
theorem r_142_210 : sm_ic 142 210 = some (.getfield 34, 7, 9, 752) := rfl
theorem r_142_213 : sm_ic 142 213 = some (.iload_n 2, 0, 0, 0) := rfl
theorem r_142_214 : sm_ic 142 214 = some (.aload_n 0, 0, 0, 0) := rfl
theorem r_142_215 : sm_ic 142 215 = some (.getfield 34, 7, 9, 752) := rfl
theorem r_142_218 : sm_ic 142 218 = some (.iconst 4, 0, 0, 0) := rfl
theorem r_142_219 : sm_ic 142 219 = some (.iload_n 2, 0, 0, 0) := rfl
theorem r_142_220 : sm_ic 142 220 = some (.iadd, 0, 0, 0) := rfl
theorem r_142_221 : sm_ic 142 221 = some (.iaload, 0, 0, 0) := rfl
theorem r_142_222 : sm_ic 142 222 = some (.iastore, 0, 0, 0) := rfl
theorem r_142_223 : sm_ic 142 223 = some (.iinc 2 1, 0, 0, 0) := rfl
theorem r_142_226 : sm_ic 142 226 = some (.goto (-22), 204, 0, 0) := rfl
theorem r_142_229 : sm_ic 142 229 = some (.aload_n 0, 0, 0, 0) := rfl
theorem r_142_230 : sm_ic 142 230 = some (.invokevirtual 72, 131, 1, 739) := rfl
theorem r_142_233 : sm_ic 142 233 = some (.aload_n 0, 0, 0, 0) := rfl
theorem r_142_234 : sm_ic 142 234 = some (.getfield 13, 7, 2, 745) := rfl
theorem r_142_237 : sm_ic 142 237 = some (.iconst 0, 0, 0, 0) := rfl
theorem r_142_238 : sm_ic 142 238 = some (.iaload, 0, 0, 0) := rfl
theorem r_142_239 : sm_ic 142 239 = some (.ireturn, 0, 0, 0) := rfl
theorem r_143_0 : sm_ic 143 0 = some (.aload_n 0, 0, 0, 0) := rfl
theorem r_143_1 : sm_ic 143 1 = some (.iload_n 1, 0, 0, 0) := rfl
theorem r_143_2 : sm_ic 143 2 = some (.invokevirtual 130, 144, 2, 866) := rfl
theorem r_143_5 : sm_ic 143 5 = some (.ifCond .eq 15, 20, 0, 0) := rfl
theorem r_143_8 : sm_ic 143 8 = some (.iload_n 2, 0, 0, 0) := rfl
theorem r_143_9 : sm_ic 143 9 = some (.i2l, 0, 0, 0) := rfl
theorem r_143_10 : sm_ic 143 10 = some (.lconst 0, 0, 0, 0) := rfl
theorem r_143_11 : sm_ic 143 11 = some (.ldc2_w 133, 3, 0, 870) := rfl
theorem r_143_14 : sm_ic 143 14 = some (.invokestatic 79, 133, 3, 819) := rfl
theorem r_143_17 : sm_ic 143 17 = some (.ifCond .ne 5, 22, 0, 0) := rfl
theorem r_143_20 : sm_ic 143 20 = some (.iconst (-1), 0, 0, 0) := rfl
theorem r_143_21 : sm_ic 143 21 = some (.ireturn, 0, 0, 0) := rfl
theorem r_143_22 : sm_ic 143 22 = some (.iload_n 2, 0, 0, 0) := rfl
theorem r_143_23 : sm_ic 143 23 = some (.ifCond .ne 12, 35, 0, 0) := rfl
theorem r_143_26 : sm_ic 143 26 = some (.aload_n 0, 0, 0, 0) := rfl
theorem r_143_27 : sm_ic 143 27 = some (.getfield 16, 7, 3, 746) := rfl
theorem r_143_30 : sm_ic 143 30 = some (.iload_n 1, 0, 0, 0) := rfl
theorem r_143_31 : sm_ic 143 31 = some (.iaload, 0, 0, 0) := rfl
theorem r_143_32 : sm_ic 143 32 = some (.goto 40, 72, 0, 0) := rfl
theorem r_143_35 : sm_ic 143 35 = some (.iload_n 2, 0, 0, 0) := rfl
theorem r_143_36 : sm_ic 143 36 = some (.iconst 1, 0, 0, 0) := rfl
theorem r_143_37 : sm_ic 143 37 = some (.if_icmp .ne 12, 49, 0, 0) := rfl
theorem r_143_40 : sm_ic 143 40 = some (.aload_n 0, 0, 0, 0) := rfl
theorem r_143_41 : sm_ic 143 41 = some (.getfield 37, 7, 10, 753) := rfl
theorem r_143_44 : sm_ic 143 44 = some (.iload_n 1, 0, 0, 0) := rfl
theorem r_143_45 : sm_ic 143 45 = some (.iaload, 0, 0, 0) := rfl
theorem r_143_46 : sm_ic 143 46 = some (.goto 26, 72, 0, 0) := rfl
theorem r_143_49 : sm_ic 143 49 = some (.iload_n 2, 0, 0, 0) := rfl
theorem r_143_50 : sm_ic 143 50 = some (.iconst 2, 0, 0, 0) := rfl
theorem r_143_51 : sm_ic 143 51 = some (.if_icmp .ne 15, 66, 0, 0) := rfl
theorem r_143_54 : sm_ic 143 54 = some (.aload_n 0, 0, 0, 0) := rfl
theorem r_143_55 : sm_ic 143 55 = some (.getfield 37, 7, 10, 753) := rfl
theorem r_143_58 : sm_ic 143 58 = some (.bipush 8, 0, 0, 0) := rfl
theorem r_143_60 : sm_ic 143 60 = some (.iload_n 1, 0, 0, 0) := rfl
theorem r_143_61 : sm_ic 143 61 = some (.iadd, 0, 0, 0) := rfl
theorem r_143_62 : sm_ic 143 62 = some (.iaload, 0, 0, 0) := rfl
theorem r_143_63 : sm_ic 143 63 = some (.goto 9, 72, 0, 0) := rfl
theorem r_143_66 : sm_ic 143 66 = some (.aload_n 0, 0, 0, 0) := rfl
theorem r_143_67 : sm_ic 143 67 = some (.getfield 25, 7, 6, 749) := rfl
theorem r_143_70 : sm_ic 143 70 = some (.iload_n 1, 0, 0, 0) := rfl
theorem r_143_71 : sm_ic 143 71 = some (.iaload, 0, 0, 0) := rfl
theorem r_143_72 : sm_ic 143 72 = some (.ireturn, 0, 0, 0) := rfl
theorem r_144_0 : sm_ic 144 0 = some (.iload_n 1, 0, 0, 0) := rfl
theorem r_144_1 : sm_ic 144 1 = some (.i2l, 0, 0, 0) := rfl
theorem r_144_2 : sm_ic 144 2 = some (.lconst 0, 0, 0, 0) := rfl
theorem r_144_3 : sm_ic 144 3 = some (.aload_n 0, 0, 0, 0) := rfl
theorem r_144_4 : sm_ic 144 4 = some (.getfield 13, 7, 2, 745) := rfl
theorem r_144_7 : sm_ic 144 7 = some (.iconst 0, 0, 0, 0) := rfl
theorem r_144_8 : sm_ic 144 8 = some (.iaload, 0, 0, 0) := rfl
theorem r_144_9 : sm_ic 144 9 = some (.iconst 1, 0, 0, 0) := rfl
theorem r_144_10 : sm_ic 144 10 = some (.isub, 0, 0, 0) := rfl
theorem r_144_11 : sm_ic 144 11 = some (.i2l, 0, 0, 0) := rfl
theorem r_144_12 : sm_ic 144 12 = some (.invokestatic 79, 133, 3, 819) := rfl
theorem r_144_15 : sm_ic 144 15 = some (.ireturn, 0, 0, 0) := rfl
theorem r_145_0 : sm_ic 145 0 = some (.aload_n 0, 0, 0, 0) := rfl
theorem r_145_1 : sm_ic 145 1 = some (.iload_n 1, 0, 0, 0) := rfl
theorem r_145_2 : sm_ic 145 2 = some (.invokevirtual 135, 146, 2, 875) := rfl
theorem r_145_5 : sm_ic 145 5 = some (.ifCond .eq 13, 18, 0, 0) := rfl
theorem r_145_8 : sm_ic 145 8 = some (.iload_n 2, 0, 0, 0) := rfl
theorem r_145_9 : sm_ic 145 9 = some (.i2l, 0, 0, 0) := rfl
theorem r_145_10 : sm_ic 145 10 = some (.lconst 0, 0, 0, 0) := rfl
theorem r_145_11 : sm_ic 145 11 = some (.lconst 1, 0, 0, 0) := rfl
theorem r_145_12 : sm_ic 145 12 = some (.invokestatic 79, 133, 3, 819) := rfl
theorem r_145_15 : sm_ic 145 15 = some (.ifCond .ne 7, 22, 0, 0) := rfl
theorem r_145_18 : sm_ic 145 18 = some (.iconst (-1), 0, 0, 0) := rfl
theorem r_145_19 : sm_ic 145 19 = some (.goto 25, 44, 0, 0) := rfl
theorem r_145_22 : sm_ic 145 22 = some (.iload_n 2, 0, 0, 0) := rfl
theorem r_145_23 : sm_ic 145 23 = some (.ifCond .ne 12, 35, 0, 0) := rfl
theorem r_145_26 : sm_ic 145 26 = some (.aload_n 0, 0, 0, 0) := rfl
theorem r_145_27 : sm_ic 145 27 = some (.getfield 31, 7, 8, 751) := rfl
theorem r_145_30 : sm_ic 145 30 = some (.iload_n 1, 0, 0, 0) := rfl
theorem r_145_31 : sm_ic 145 31 = some (.iaload, 0, 0, 0) := rfl
theorem r_145_32 : sm_ic 145 32 = some (.goto 12, 44, 0, 0) := rfl
theorem r_145_35 : sm_ic 145 35 = some (.aload_n 0, 0, 0, 0) := rfl
theorem r_145_36 : sm_ic 145 36 = some (.getfield 37, 7, 10, 753) := rfl
theorem r_145_39 : sm_ic 145 39 = some (.bipush 16, 0, 0, 0) := rfl
theorem r_145_41 : sm_ic 145 41 = some (.iload_n 1, 0, 0, 0) := rfl
theorem r_145_42 : sm_ic 145 42 = some (.iadd, 0, 0, 0) := rfl
theorem r_145_43 : sm_ic 145 43 = some (.iaload, 0, 0, 0) := rfl
theorem r_145_44 : sm_ic 145 44 = some (.ireturn, 0, 0, 0) := rfl
theorem r_146_0 : sm_ic 146 0 = some (.iload_n 1, 0, 0, 0) := rfl
theorem r_146_1 : sm_ic 146 1 = some (.i2l, 0, 0, 0) := rfl
theorem r_146_2 : sm_ic 146 2 = some (.lconst 0, 0, 0, 0) := rfl
theorem r_146_3 : sm_ic 146 3 = some (.aload_n 0, 0, 0, 0) := rfl
theorem r_146_4 : sm_ic 146 4 = some (.getfield 28, 7, 7, 750) := rfl
theorem r_146_7 : sm_ic 146 7 = some (.iconst 0, 0, 0, 0) := rfl
theorem r_146_8 : sm_ic 146 8 = some (.iaload, 0, 0, 0) := rfl
theorem r_146_9 : sm_ic 146 9 = some (.iconst 1, 0, 0, 0) := rfl
theorem r_146_10 : sm_ic 146 10 = some (.isub, 0, 0, 0) := rfl
theorem r_146_11 : sm_ic 146 11 = some (.i2l, 0, 0, 0) := rfl
theorem r_146_12 : sm_ic 146 12 = some (.invokestatic 79, 133, 3, 819) := rfl
theorem r_146_15 : sm_ic 146 15 = some (.ireturn, 0, 0, 0) := rfl
theorem r_147_0 : sm_ic 147 0 = some (.iload_n 1, 0, 0, 0) := rfl
theorem r_147_1 : sm_ic 147 1 = some (.invokestatic 164, 148, 1, 883) := rfl
theorem r_147_4 : sm_ic 147 4 = some (.ifCond .eq 12, 16, 0, 0) := rfl
theorem r_147_7 : sm_ic 147 7 = some (.aload_n 0, 0, 0, 0) := rfl
theorem r_147_8 : sm_ic 147 8 = some (.iload_n 1, 0, 0, 0) := rfl
theorem r_147_9 : sm_ic 147 9 = some (.iconst 0, 0, 0, 0) := rfl
theorem r_147_10 : sm_ic 147 10 = some (.invokevirtual 145, 149, 3, 886) := rfl
theorem r_147_13 : sm_ic 147 13 = some (.goto 4, 17, 0, 0) := rfl
theorem r_147_16 : sm_ic 147 16 = some (.iconst (-1), 0, 0, 0) := rfl
theorem r_147_17 : sm_ic 147 17 = some (.ireturn, 0, 0, 0) := rfl
theorem r_148_0 : sm_ic 148 0 = some (.iload_n 0, 0, 0, 0) := rfl
theorem r_148_1 : sm_ic 148 1 = some (.i2l, 0, 0, 0) := rfl
theorem r_148_2 : sm_ic 148 2 = some (.lconst 0, 0, 0, 0) := rfl
theorem r_148_3 : sm_ic 148 3 = some (.lconst 1, 0, 0, 0) := rfl
theorem r_148_4 : sm_ic 148 4 = some (.invokestatic 79, 133, 3, 819) := rfl
theorem r_148_7 : sm_ic 148 7 = some (.ireturn, 0, 0, 0) := rfl
theorem r_149_0 : sm_ic 149 0 = some (.iconst 0, 0, 0, 0) := rfl
theorem r_149_1 : sm_ic 149 1 = some (.istore_n 3, 0, 0, 0) := rfl
theorem r_149_2 : sm_ic 149 2 = some (.iconst 0, 0, 0, 0) := rfl
theorem r_149_3 : sm_ic 149 3 = some (.istore 4, 0, 0, 0) := rfl
theorem r_149_5 : sm_ic 149 5 = some (.iload 4, 0, 0, 0) := rfl
theorem r_149_7 : sm_ic 149 7 = some (.aload_n 0, 0, 0, 0) := rfl
theorem r_149_8 : sm_ic 149 8 = some (.getfield 13, 7, 2, 745) := rfl
theorem r_149_11 : sm_ic 149 11 = some (.iconst 0, 0, 0, 0) := rfl
theorem r_149_12 : sm_ic 149 12 = some (.iaload, 0, 0, 0) := rfl
theorem r_149_13 : sm_ic 149 13 = some (.if_icmp .ge 31, 44, 0, 0) := rfl
theorem r_149_16 : sm_ic 149 16 = some (.iload_n 3, 0, 0, 0) := rfl
theorem r_149_17 : sm_ic 149 17 = some (.aload_n 0, 0, 0, 0) := rfl
theorem r_149_18 : sm_ic 149 18 = some (.iload_n 1, 0, 0, 0) := rfl
theorem r_149_19 : sm_ic 149 19 = some (.iload 4, 0, 0, 0) := rfl
theorem r_149_21 : sm_ic 149 21 = some (.iload_n 2, 0, 0, 0) := rfl
theorem r_149_22 : sm_ic 149 22 = some (.invokevirtual 142, 150, 4, 890) := rfl
theorem r_149_25 : sm_ic 149 25 = some (.ifCond .eq 10, 35, 0, 0) := rfl
theorem r_149_28 : sm_ic 149 28 = some (.iconst 1, 0, 0, 0) := rfl
theorem r_149_29 : sm_ic 149 29 = some (.iload 4, 0, 0, 0) := rfl
theorem r_149_31 : sm_ic 149 31 = some (.ishl, 0, 0, 0) := rfl
theorem r_149_32 : sm_ic 149 32 = some (.goto 4, 36, 0, 0) := rfl
theorem r_149_35 : sm_ic 149 35 = some (.iconst 0, 0, 0, 0) := rfl
theorem r_149_36 : sm_ic 149 36 = some (.ior, 0, 0, 0) := rfl
theorem r_149_37 : sm_ic 149 37 = some (.istore_n 3, 0, 0, 0) := rfl
theorem r_149_38 : sm_ic 149 38 = some (.iinc 4 1, 0, 0, 0) := rfl
theorem r_149_41 : sm_ic 149 41 = some (.goto (-36), 5, 0, 0) := rfl
theorem r_149_44 : sm_ic 149 44 = some (.iload_n 3, 0, 0, 0) := rfl
theorem r_149_45 : sm_ic 149 45 = some (.ireturn, 0, 0, 0) := rfl
theorem r_150_0 : sm_ic 150 0 = some (.aload_n 0, 0, 0, 0) := rfl
theorem r_150_1 : sm_ic 150 1 = some (.getfield 37, 7, 10, 753) := rfl
theorem r_150_4 : sm_ic 150 4 = some (.bipush 22, 0, 0, 0) := rfl
theorem r_150_6 : sm_ic 150 6 = some (.iaload, 0, 0, 0) := rfl
theorem r_150_7 : sm_ic 150 7 = some (.iconst 1, 0, 0, 0) := rfl
theorem r_150_8 : sm_ic 150 8 = some (.if_icmp .ne 7, 15, 0, 0) := rfl
theorem r_150_11 : sm_ic 150 11 = some (.iconst 1, 0, 0, 0) := rfl
theorem r_150_12 : sm_ic 150 12 = some (.goto 4, 16, 0, 0) := rfl
theorem r_150_15 : sm_ic 150 15 = some (.iconst 0, 0, 0, 0) := rfl
theorem r_150_16 : sm_ic 150 16 = some (.istore 4, 0, 0, 0) := rfl
theorem r_150_18 : sm_ic 150 18 = some (.aload_n 0, 0, 0, 0) := rfl
theorem r_150_19 : sm_ic 150 19 = some (.getfield 37, 7, 10, 753) := rfl
theorem r_150_22 : sm_ic 150 22 = some (.bipush 21, 0, 0, 0) := rfl
theorem r_150_24 : sm_ic 150 24 = some (.iaload, 0, 0, 0) := rfl
theorem r_150_25 : sm_ic 150 25 = some (.iconst 1, 0, 0, 0) := rfl
theorem r_150_26 : sm_ic 150 26 = some (.if_icmp .ne 10, 36, 0, 0) := rfl
theorem r_150_29 : sm_ic 150 29 = some (.iload 4, 0, 0, 0) := rfl
theorem r_150_31 : sm_ic 150 31 = some (.ifCond .ne 5, 36, 0, 0) := rfl
theorem r_150_34 : sm_ic 150 34 = some (.iconst 0, 0, 0, 0) := rfl
theorem r_150_35 : sm_ic 150 35 = some (.ireturn, 0, 0, 0) := rfl
theorem r_150_36 : sm_ic 150 36 = some (.iload_n 2, 0, 0, 0) := rfl
theorem r_150_37 : sm_ic 150 37 = some (.istore 5, 0, 0, 0) := rfl
theorem r_150_39 : sm_ic 150 39 = some (.iconst 0, 0, 0, 0) := rfl
theorem r_150_40 : sm_ic 150 40 = some (.istore 6, 0, 0, 0) := rfl
theorem r_150_42 : sm_ic 150 42 = some (.iload 4, 0, 0, 0) := rfl
theorem r_150_44 : sm_ic 150 44 = some (.ifCond .ne 48, 92, 0, 0) := rfl
theorem r_150_47 : sm_ic 150 47 = some (.aload_n 0, 0, 0, 0) := rfl
theorem r_150_48 : sm_ic 150 48 = some (.getfield 16, 7, 3, 746) := rfl
theorem r_150_51 : sm_ic 150 51 = some (.iload 5, 0, 0, 0) := rfl
theorem r_150_53 : sm_ic 150 53 = some (.iaload, 0, 0, 0) := rfl
theorem r_150_54 : sm_ic 150 54 = some (.iconst 2, 0, 0, 0) := rfl
theorem r_150_55 : sm_ic 150 55 = some (.if_icmp .ne 37, 92, 0, 0) := rfl
theorem r_150_58 : sm_ic 150 58 = some (.iload 6, 0, 0, 0) := rfl
theorem r_150_60 : sm_ic 150 60 = some (.iload 5, 0, 0, 0) := rfl
theorem r_150_62 : sm_ic 150 62 = some (.invokestatic 138, 151, 2, 894) := rfl
theorem r_150_65 : sm_ic 150 65 = some (.ifCond .ne 27, 92, 0, 0) := rfl
theorem r_150_68 : sm_ic 150 68 = some (.iload 6, 0, 0, 0) := rfl
theorem r_150_70 : sm_ic 150 70 = some (.iconst 1, 0, 0, 0) := rfl
theorem r_150_71 : sm_ic 150 71 = some (.iload 5, 0, 0, 0) := rfl
theorem r_150_73 : sm_ic 150 73 = some (.ishl, 0, 0, 0) := rfl
theorem r_150_74 : sm_ic 150 74 = some (.ior, 0, 0, 0) := rfl
theorem r_150_75 : sm_ic 150 75 = some (.istore 6, 0, 0, 0) := rfl
theorem r_150_77 : sm_ic 150 77 = some (.aload_n 0, 0, 0, 0) := rfl
theorem r_150_78 : sm_ic 150 78 = some (.getfield 37, 7, 10, 753) := rfl
theorem r_150_81 : sm_ic 150 81 = some (.bipush 8, 0, 0, 0) := rfl
theorem r_150_83 : sm_ic 150 83 = some (.iload 5, 0, 0, 0) := rfl
theorem r_150_85 : sm_ic 150 85 = some (.iadd, 0, 0, 0) := rfl
theorem r_150_86 : sm_ic 150 86 = some (.iaload, 0, 0, 0) := rfl
theorem r_150_87 : sm_ic 150 87 = some (.istore 5, 0, 0, 0) := rfl
theorem r_150_89 : sm_ic 150 89 = some (.goto (-47), 42, 0, 0) := rfl
theorem r_150_92 : sm_ic 150 92 = some (.iload 4, 0, 0, 0) := rfl
theorem r_150_94 : sm_ic 150 94 = some (.ifCond .ne 18, 112, 0, 0) := rfl
theorem r_150_97 : sm_ic 150 97 = some (.aload_n 0, 0, 0, 0) := rfl
theorem r_150_98 : sm_ic 150 98 = some (.getfield 16, 7, 3, 746) := rfl
theorem r_150_101 : sm_ic 150 101 = some (.iload 5, 0, 0, 0) := rfl
theorem r_150_103 : sm_ic 150 103 = some (.iaload, 0, 0, 0) := rfl
theorem r_150_104 : sm_ic 150 104 = some (.iconst 3, 0, 0, 0) := rfl
theorem r_150_105 : sm_ic 150 105 = some (.if_icmp .ne 7, 112, 0, 0) := rfl
theorem r_150_108 : sm_ic 150 108 = some (.iconst 1, 0, 0, 0) := rfl
theorem r_150_109 : sm_ic 150 109 = some (.goto 4, 113, 0, 0) := rfl
theorem r_150_112 : sm_ic 150 112 = some (.iconst 0, 0, 0, 0) := rfl
theorem r_150_113 : sm_ic 150 113 = some (.istore 7, 0, 0, 0) := rfl
theorem r_150_115 : sm_ic 150 115 = some (.aload_n 0, 0, 0, 0) := rfl
theorem r_150_116 : sm_ic 150 116 = some (.getfield 37, 7, 10, 753) := rfl
theorem r_150_119 : sm_ic 150 119 = some (.iload 5, 0, 0, 0) := rfl
theorem r_150_121 : sm_ic 150 121 = some (.iaload, 0, 0, 0) := rfl
theorem r_150_122 : sm_ic 150 122 = some (.iload_n 1, 0, 0, 0) := rfl
theorem r_150_123 : sm_ic 150 123 = some (.invokestatic 138, 151, 2, 894) := rfl
theorem r_150_126 : sm_ic 150 126 = some (.ifCond .eq 21, 147, 0, 0) := rfl
theorem r_150_129 : sm_ic 150 129 = some (.iload 7, 0, 0, 0) := rfl
theorem r_150_131 : sm_ic 150 131 = some (.ifCond .ne 16, 147, 0, 0) := rfl
theorem r_150_134 : sm_ic 150 134 = some (.iload_n 3, 0, 0, 0) := rfl
theorem r_150_135 : sm_ic 150 135 = some (.iload 5, 0, 0, 0) := rfl
theorem r_150_137 : sm_ic 150 137 = some (.invokestatic 138, 151, 2, 894) := rfl
theorem r_150_140 : sm_ic 150 140 = some (.ifCond .ne 7, 147, 0, 0) := rfl
theorem r_150_143 : sm_ic 150 143 = some (.iconst 1, 0, 0, 0) := rfl
theorem r_150_144 : sm_ic 150 144 = some (.goto 4, 148, 0, 0) := rfl
theorem r_150_147 : sm_ic 150 147 = some (.iconst 0, 0, 0, 0) := rfl
theorem r_150_148 : sm_ic 150 148 = some (.ireturn, 0, 0, 0) := rfl
theorem r_151_0 : sm_ic 151 0 = some (.iload_n 0, 0, 0, 0) := rfl
theorem r_151_1 : sm_ic 151 1 = some (.iload_n 1, 0, 0, 0) := rfl
theorem r_151_2 : sm_ic 151 2 = some (.ishr, 0, 0, 0) := rfl
theorem r_151_3 : sm_ic 151 3 = some (.iconst 1, 0, 0, 0) := rfl
theorem r_151_4 : sm_ic 151 4 = some (.iand, 0, 0, 0) := rfl
theorem r_151_5 : sm_ic 151 5 = some (.iconst 1, 0, 0, 0) := rfl
theorem r_151_6 : sm_ic 151 6 = some (.if_icmp .ne 7, 13, 0, 0) := rfl
theorem r_151_9 : sm_ic 151 9 = some (.iconst 1, 0, 0, 0) := rfl
theorem r_151_10 : sm_ic 151 10 = some (.goto 4, 14, 0, 0) := rfl
theorem r_151_13 : sm_ic 151 13 = some (.iconst 0, 0, 0, 0) := rfl
theorem r_151_14 : sm_ic 151 14 = some (.ireturn, 0, 0, 0) := rfl
theorem r_152_0 : sm_ic 152 0 = some (.iload_n 1, 0, 0, 0) := rfl
theorem r_152_1 : sm_ic 152 1 = some (.invokestatic 164, 148, 1, 883) := rfl
theorem r_152_4 : sm_ic 152 4 = some (.ifCond .eq 11, 15, 0, 0) := rfl
theorem r_152_7 : sm_ic 152 7 = some (.aload_n 0, 0, 0, 0) := rfl
theorem r_152_8 : sm_ic 152 8 = some (.iload_n 1, 0, 0, 0) := rfl
theorem r_152_9 : sm_ic 152 9 = some (.invokevirtual 155, 153, 2, 901) := rfl
theorem r_152_12 : sm_ic 152 12 = some (.goto 4, 16, 0, 0) := rfl
theorem r_152_15 : sm_ic 152 15 = some (.iconst (-1), 0, 0, 0) := rfl
theorem r_152_16 : sm_ic 152 16 = some (.ireturn, 0, 0, 0) := rfl
theorem r_153_0 : sm_ic 153 0 = some (.aload_n 0, 0, 0, 0) := rfl
theorem r_153_1 : sm_ic 153 1 = some (.aload_n 0, 0, 0, 0) := rfl
theorem r_153_2 : sm_ic 153 2 = some (.iload_n 1, 0, 0, 0) := rfl
theorem r_153_3 : sm_ic 153 3 = some (.iconst 0, 0, 0, 0) := rfl
theorem r_153_4 : sm_ic 153 4 = some (.invokevirtual 145, 149, 3, 886) := rfl
theorem r_153_7 : sm_ic 153 7 = some (.iconst (-1), 0, 0, 0) := rfl
theorem r_153_8 : sm_ic 153 8 = some (.invokevirtual 149, 154, 3, 905) := rfl
theorem r_153_11 : sm_ic 153 11 = some (.aload_n 0, 0, 0, 0) := rfl
theorem r_153_12 : sm_ic 153 12 = some (.getfield 34, 7, 9, 752) := rfl
theorem r_153_15 : sm_ic 153 15 = some (.iconst 0, 0, 0, 0) := rfl
theorem r_153_16 : sm_ic 153 16 = some (.iaload, 0, 0, 0) := rfl
theorem r_153_17 : sm_ic 153 17 = some (.invokestatic 152, 155, 2, 909) := rfl
theorem r_153_20 : sm_ic 153 20 = some (.ireturn, 0, 0, 0) := rfl
theorem r_154_0 : sm_ic 154 0 = some (.iconst 0, 0, 0, 0) := rfl
theorem r_154_1 : sm_ic 154 1 = some (.istore_n 3, 0, 0, 0) := rfl
theorem r_154_2 : sm_ic 154 2 = some (.iconst 0, 0, 0, 0) := rfl
theorem r_154_3 : sm_ic 154 3 = some (.istore 4, 0, 0, 0) := rfl
theorem r_154_5 : sm_ic 154 5 = some (.iload 4, 0, 0, 0) := rfl
theorem r_154_7 : sm_ic 154 7 = some (.iconst 5, 0, 0, 0) := rfl
theorem r_154_8 : sm_ic 154 8 = some (.if_icmp .ge 75, 83, 0, 0) := rfl
theorem r_154_11 : sm_ic 154 11 = some (.iload 4, 0, 0, 0) := rfl
theorem r_154_13 : sm_ic 154 13 = some (.aload_n 0, 0, 0, 0) := rfl
theorem r_154_14 : sm_ic 154 14 = some (.getfield 28, 7, 7, 750) := rfl
theorem r_154_17 : sm_ic 154 17 = some (.iconst 0, 0, 0, 0) := rfl
theorem r_154_18 : sm_ic 154 18 = some (.iaload, 0, 0, 0) := rfl
theorem r_154_19 : sm_ic 154 19 = some (.if_icmp .ge 32, 51, 0, 0) := rfl
theorem r_154_22 : sm_ic 154 22 = some (.aload_n 0, 0, 0, 0) := rfl
theorem r_154_23 : sm_ic 154 23 = some (.getfield 37, 7, 10, 753) := rfl
theorem r_154_26 : sm_ic 154 26 = some (.bipush 16, 0, 0, 0) := rfl
theorem r_154_28 : sm_ic 154 28 = some (.iload 4, 0, 0, 0) := rfl
theorem r_154_30 : sm_ic 154 30 = some (.iadd, 0, 0, 0) := rfl
theorem r_154_31 : sm_ic 154 31 = some (.iaload, 0, 0, 0) := rfl
theorem r_154_32 : sm_ic 154 32 = some (.ifCond .ne 19, 51, 0, 0) := rfl
theorem r_154_35 : sm_ic 154 35 = some (.iload_n 2, 0, 0, 0) := rfl
theorem r_154_36 : sm_ic 154 36 = some (.ifCond .lt 11, 47, 0, 0) := rfl
theorem r_154_39 : sm_ic 154 39 = some (.iload 4, 0, 0, 0) := rfl
theorem r_154_41 : sm_ic 154 41 = some (.iconst 2, 0, 0, 0) := rfl
theorem r_154_42 : sm_ic 154 42 = some (.irem, 0, 0, 0) := rfl
theorem r_154_43 : sm_ic 154 43 = some (.iload_n 2, 0, 0, 0) := rfl
theorem r_154_44 : sm_ic 154 44 = some (.if_icmp .ne 7, 51, 0, 0) := rfl
theorem r_154_47 : sm_ic 154 47 = some (.iconst 1, 0, 0, 0) := rfl
theorem r_154_48 : sm_ic 154 48 = some (.goto 4, 52, 0, 0) := rfl
theorem r_154_51 : sm_ic 154 51 = some (.iconst 0, 0, 0, 0) := rfl
theorem r_154_52 : sm_ic 154 52 = some (.istore 5, 0, 0, 0) := rfl
theorem r_154_54 : sm_ic 154 54 = some (.aload_n 0, 0, 0, 0) := rfl
theorem r_154_55 : sm_ic 154 55 = some (.getfield 58, 7, 21, 764) := rfl
theorem r_154_58 : sm_ic 154 58 = some (.iload 4, 0, 0, 0) := rfl
theorem r_154_60 : sm_ic 154 60 = some (.iload 5, 0, 0, 0) := rfl
theorem r_154_62 : sm_ic 154 62 = some (.ifCond .eq 13, 75, 0, 0) := rfl
theorem r_154_65 : sm_ic 154 65 = some (.aload_n 0, 0, 0, 0) := rfl
theorem r_154_66 : sm_ic 154 66 = some (.getfield 31, 7, 8, 751) := rfl
theorem r_154_69 : sm_ic 154 69 = some (.iload 4, 0, 0, 0) := rfl
theorem r_154_71 : sm_ic 154 71 = some (.iaload, 0, 0, 0) := rfl
theorem r_154_72 : sm_ic 154 72 = some (.goto 4, 76, 0, 0) := rfl
theorem r_154_75 : sm_ic 154 75 = some (.iconst 0, 0, 0, 0) := rfl
theorem r_154_76 : sm_ic 154 76 = some (.iastore, 0, 0, 0) := rfl
theorem r_154_77 : sm_ic 154 77 = some (.iinc 4 1, 0, 0, 0) := rfl
theorem r_154_80 : sm_ic 154 80 = some (.goto (-75), 5, 0, 0) := rfl
theorem r_154_83 : sm_ic 154 83 = some (.iconst 0, 0, 0, 0) := rfl
theorem r_154_84 : sm_ic 154 84 = some (.istore 4, 0, 0, 0) := rfl
theorem r_154_86 : sm_ic 154 86 = some (.iload 4, 0, 0, 0) := rfl
theorem r_154_88 : sm_ic 154 88 = some (.bipush 8, 0, 0, 0) := rfl
theorem r_154_90 : sm_ic 154 90 = some (.if_icmp .ge 133, 223, 0, 0) := rfl
theorem r_154_93 : sm_ic 154 93 = some (.aload_n 0, 0, 0, 0) := rfl
theorem r_154_94 : sm_ic 154 94 = some (.getfield 55, 7, 20, 763) := rfl
theorem r_154_97 : sm_ic 154 97 = some (.iload 4, 0, 0, 0) := rfl
theorem r_154_99 : sm_ic 154 99 = some (.bipush (-4), 0, 0, 0) := rfl
theorem r_154_101 : sm_ic 154 101 = some (.iastore, 0, 0, 0) := rfl
theorem r_154_102 : sm_ic 154 102 = some (.iconst 0, 0, 0, 0) := rfl
theorem r_154_103 : sm_ic 154 103 = some (.istore 5, 0, 0, 0) := rfl
theorem r_154_105 : sm_ic 154 105 = some (.iload 5, 0, 0, 0) := rfl
theorem r_154_107 : sm_ic 154 107 = some (.iconst 5, 0, 0, 0) := rfl
theorem r_154_108 : sm_ic 154 108 = some (.if_icmp .ge 68, 176, 0, 0) := rfl
theorem r_154_111 : sm_ic 154 111 = some (.iload_n 1, 0, 0, 0) := rfl
theorem r_154_112 : sm_ic 154 112 = some (.iload 4, 0, 0, 0) := rfl
theorem r_154_114 : sm_ic 154 114 = some (.invokestatic 138, 151, 2, 894) := rfl
theorem r_154_117 : sm_ic 154 117 = some (.ifCond .eq 59, 176, 0, 0) := rfl
theorem r_154_120 : sm_ic 154 120 = some (.aload_n 0, 0, 0, 0) := rfl
theorem r_154_121 : sm_ic 154 121 = some (.getfield 55, 7, 20, 763) := rfl
theorem r_154_124 : sm_ic 154 124 = some (.iload 4, 0, 0, 0) := rfl
theorem r_154_126 : sm_ic 154 126 = some (.iaload, 0, 0, 0) := rfl
theorem r_154_127 : sm_ic 154 127 = some (.ifCond .ge 49, 176, 0, 0) := rfl
theorem r_154_130 : sm_ic 154 130 = some (.aload_n 0, 0, 0, 0) := rfl
theorem r_154_131 : sm_ic 154 131 = some (.getfield 37, 7, 10, 753) := rfl
theorem r_154_134 : sm_ic 154 134 = some (.bipush 22, 0, 0, 0) := rfl
theorem r_154_136 : sm_ic 154 136 = some (.iaload, 0, 0, 0) := rfl
theorem r_154_137 : sm_ic 154 137 = some (.ifCond .ne 39, 176, 0, 0) := rfl
theorem r_154_140 : sm_ic 154 140 = some (.aload_n 0, 0, 0, 0) := rfl
theorem r_154_141 : sm_ic 154 141 = some (.getfield 58, 7, 21, 764) := rfl
theorem r_154_144 : sm_ic 154 144 = some (.iload 5, 0, 0, 0) := rfl
theorem r_154_146 : sm_ic 154 146 = some (.iaload, 0, 0, 0) := rfl
theorem r_154_147 : sm_ic 154 147 = some (.ifCond .le 23, 170, 0, 0) := rfl
theorem r_154_150 : sm_ic 154 150 = some (.aload_n 0, 0, 0, 0) := rfl
theorem r_154_151 : sm_ic 154 151 = some (.getfield 58, 7, 21, 764) := rfl
theorem r_154_154 : sm_ic 154 154 = some (.iload 5, 0, 0, 0) := rfl
theorem r_154_156 : sm_ic 154 156 = some (.dup2, 0, 0, 0) := rfl
theorem r_154_157 : sm_ic 154 157 = some (.iaload, 0, 0, 0) := rfl
theorem r_154_158 : sm_ic 154 158 = some (.iconst 1, 0, 0, 0) := rfl
theorem r_154_159 : sm_ic 154 159 = some (.isub, 0, 0, 0) := rfl
theorem r_154_160 : sm_ic 154 160 = some (.iastore, 0, 0, 0) := rfl
theorem r_154_161 : sm_ic 154 161 = some (.aload_n 0, 0, 0, 0) := rfl
theorem r_154_162 : sm_ic 154 162 = some (.getfield 55, 7, 20, 763) := rfl
theorem r_154_165 : sm_ic 154 165 = some (.iload 4, 0, 0, 0) := rfl
theorem r_154_167 : sm_ic 154 167 = some (.iload 5, 0, 0, 0) := rfl
theorem r_154_169 : sm_ic 154 169 = some (.iastore, 0, 0, 0) := rfl
theorem r_154_170 : sm_ic 154 170 = some (.iinc 5 1, 0, 0, 0) := rfl
theorem r_154_173 : sm_ic 154 173 = some (.goto (-68), 105, 0, 0) := rfl
theorem r_154_176 : sm_ic 154 176 = some (.iload_n 3, 0, 0, 0) := rfl
theorem r_154_177 : sm_ic 154 177 = some (.iload_n 1, 0, 0, 0) := rfl
theorem r_154_178 : sm_ic 154 178 = some (.iload 4, 0, 0, 0) := rfl
theorem r_154_180 : sm_ic 154 180 = some (.invokestatic 138, 151, 2, 894) := rfl
theorem r_154_183 : sm_ic 154 183 = some (.ifCond .eq 31, 214, 0, 0) := rfl
theorem r_154_186 : sm_ic 154 186 = some (.aload_n 0, 0, 0, 0) := rfl
theorem r_154_187 : sm_ic 154 187 = some (.getfield 55, 7, 20, 763) := rfl
theorem r_154_190 : sm_ic 154 190 = some (.iload 4, 0, 0, 0) := rfl
theorem r_154_192 : sm_ic 154 192 = some (.iaload, 0, 0, 0) := rfl
theorem r_154_193 : sm_ic 154 193 = some (.ifCond .ge 14, 207, 0, 0) := rfl
theorem r_154_196 : sm_ic 154 196 = some (.aload_n 0, 0, 0, 0) := rfl
theorem r_154_197 : sm_ic 154 197 = some (.getfield 37, 7, 10, 753) := rfl
theorem r_154_200 : sm_ic 154 200 = some (.bipush 22, 0, 0, 0) := rfl
theorem r_154_202 : sm_ic 154 202 = some (.iaload, 0, 0, 0) := rfl
theorem r_154_203 : sm_ic 154 203 = some (.iconst 1, 0, 0, 0) := rfl
theorem r_154_204 : sm_ic 154 204 = some (.if_icmp .ne 10, 214, 0, 0) := rfl
theorem r_154_207 : sm_ic 154 207 = some (.iconst 1, 0, 0, 0) := rfl
theorem r_154_208 : sm_ic 154 208 = some (.iload 4, 0, 0, 0) := rfl
theorem r_154_210 : sm_ic 154 210 = some (.ishl, 0, 0, 0) := rfl
theorem r_154_211 : sm_ic 154 211 = some (.goto 4, 215, 0, 0) := rfl
theorem r_154_214 : sm_ic 154 214 = some (.iconst 0, 0, 0, 0) := rfl
theorem r_154_215 : sm_ic 154 215 = some (.ior, 0, 0, 0) := rfl
theorem r_154_216 : sm_ic 154 216 = some (.istore_n 3, 0, 0, 0) := rfl
theorem r_154_217 : sm_ic 154 217 = some (.iinc 4 1, 0, 0, 0) := rfl
theorem r_154_220 : sm_ic 154 220 = some (.goto (-134), 86, 0, 0) := rfl
theorem r_154_223 : sm_ic 154 223 = some (.iload_n 3, 0, 0, 0) := rfl
theorem r_154_224 : sm_ic 154 224 = some (.ireturn, 0, 0, 0) := rfl
theorem r_155_0 : sm_ic 155 0 = some (.iconst 0, 0, 0, 0) := rfl
theorem r_155_1 : sm_ic 155 1 = some (.istore_n 2, 0, 0, 0) := rfl
theorem r_155_2 : sm_ic 155 2 = some (.iconst 0, 0, 0, 0) := rfl
theorem r_155_3 : sm_ic 155 3 = some (.istore_n 3, 0, 0, 0) := rfl
theorem r_155_4 : sm_ic 155 4 = some (.iconst 0, 0, 0, 0) := rfl
theorem r_155_5 : sm_ic 155 5 = some (.istore 4, 0, 0, 0) := rfl
theorem r_155_7 : sm_ic 155 7 = some (.iload 4, 0, 0, 0) := rfl
theorem r_155_9 : sm_ic 155 9 = some (.bipush 8, 0, 0, 0) := rfl
theorem r_155_11 : sm_ic 155 11 = some (.if_icmp .ge 33, 44, 0, 0) := rfl
theorem r_155_14 : sm_ic 155 14 = some (.iload_n 0, 0, 0, 0) := rfl
theorem r_155_15 : sm_ic 155 15 = some (.iload 4, 0, 0, 0) := rfl
theorem r_155_17 : sm_ic 155 17 = some (.invokestatic 138, 151, 2, 894) := rfl
theorem r_155_20 : sm_ic 155 20 = some (.ifCond .eq 18, 38, 0, 0) := rfl
theorem r_155_23 : sm_ic 155 23 = some (.iload_n 3, 0, 0, 0) := rfl
theorem r_155_24 : sm_ic 155 24 = some (.iload_n 1, 0, 0, 0) := rfl
theorem r_155_25 : sm_ic 155 25 = some (.if_icmp .ge 13, 38, 0, 0) := rfl
theorem r_155_28 : sm_ic 155 28 = some (.iload_n 2, 0, 0, 0) := rfl
theorem r_155_29 : sm_ic 155 29 = some (.iconst 1, 0, 0, 0) := rfl
theorem r_155_30 : sm_ic 155 30 = some (.iload 4, 0, 0, 0) := rfl
theorem r_155_32 : sm_ic 155 32 = some (.ishl, 0, 0, 0) := rfl
theorem r_155_33 : sm_ic 155 33 = some (.ior, 0, 0, 0) := rfl
theorem r_155_34 : sm_ic 155 34 = some (.istore_n 2, 0, 0, 0) := rfl
theorem r_155_35 : sm_ic 155 35 = some (.iinc 3 1, 0, 0, 0) := rfl
theorem r_155_38 : sm_ic 155 38 = some (.iinc 4 1, 0, 0, 0) := rfl
theorem r_155_41 : sm_ic 155 41 = some (.goto (-34), 7, 0, 0) := rfl
theorem r_155_44 : sm_ic 155 44 = some (.iload_n 2, 0, 0, 0) := rfl
theorem r_155_45 : sm_ic 155 45 = some (.ireturn, 0, 0, 0) := rfl
theorem r_156_0 : sm_ic 156 0 = some (.iload_n 1, 0, 0, 0) := rfl
theorem r_156_1 : sm_ic 156 1 = some (.invokestatic 164, 148, 1, 883) := rfl
theorem r_156_4 : sm_ic 156 4 = some (.ifCond .eq 11, 15, 0, 0) := rfl
theorem r_156_7 : sm_ic 156 7 = some (.aload_n 0, 0, 0, 0) := rfl
theorem r_156_8 : sm_ic 156 8 = some (.iload_n 2, 0, 0, 0) := rfl
theorem r_156_9 : sm_ic 156 9 = some (.invokevirtual 130, 144, 2, 866) := rfl
theorem r_156_12 : sm_ic 156 12 = some (.ifCond .ne 5, 17, 0, 0) := rfl
theorem r_156_15 : sm_ic 156 15 = some (.iconst (-1), 0, 0, 0) := rfl
theorem r_156_16 : sm_ic 156 16 = some (.ireturn, 0, 0, 0) := rfl
theorem r_156_17 : sm_ic 156 17 = some (.aload_n 0, 0, 0, 0) := rfl
theorem r_156_18 : sm_ic 156 18 = some (.iload_n 1, 0, 0, 0) := rfl
theorem r_156_19 : sm_ic 156 19 = some (.invokevirtual 155, 153, 2, 901) := rfl
theorem r_156_22 : sm_ic 156 22 = some (.iload_n 2, 0, 0, 0) := rfl
theorem r_156_23 : sm_ic 156 23 = some (.invokestatic 138, 151, 2, 894) := rfl
theorem r_156_26 : sm_ic 156 26 = some (.ifCond .eq 12, 38, 0, 0) := rfl
theorem r_156_29 : sm_ic 156 29 = some (.aload_n 0, 0, 0, 0) := rfl
theorem r_156_30 : sm_ic 156 30 = some (.getfield 55, 7, 20, 763) := rfl
theorem r_156_33 : sm_ic 156 33 = some (.iload_n 2, 0, 0, 0) := rfl
theorem r_156_34 : sm_ic 156 34 = some (.iaload, 0, 0, 0) := rfl
theorem r_156_35 : sm_ic 156 35 = some (.goto 5, 40, 0, 0) := rfl
theorem r_156_38 : sm_ic 156 38 = some (.bipush (-4), 0, 0, 0) := rfl
theorem r_156_40 : sm_ic 156 40 = some (.ireturn, 0, 0, 0) := rfl
theorem r_157_0 : sm_ic 157 0 = some (.iload_n 1, 0, 0, 0) := rfl
theorem r_157_1 : sm_ic 157 1 = some (.invokestatic 164, 148, 1, 883) := rfl
theorem r_157_4 : sm_ic 157 4 = some (.ifCond .ne 7, 11, 0, 0) := rfl
theorem r_157_7 : sm_ic 157 7 = some (.iconst (-1), 0, 0, 0) := rfl
theorem r_157_8 : sm_ic 157 8 = some (.goto 16, 24, 0, 0) := rfl
theorem r_157_11 : sm_ic 157 11 = some (.aload_n 0, 0, 0, 0) := rfl
theorem r_157_12 : sm_ic 157 12 = some (.iload_n 1, 0, 0, 0) := rfl
theorem r_157_13 : sm_ic 157 13 = some (.invokevirtual 167, 158, 2, 920) := rfl
theorem r_157_16 : sm_ic 157 16 = some (.ifCond .eq 7, 23, 0, 0) := rfl
theorem r_157_19 : sm_ic 157 19 = some (.iconst 1, 0, 0, 0) := rfl
theorem r_157_20 : sm_ic 157 20 = some (.goto 4, 24, 0, 0) := rfl
theorem r_157_23 : sm_ic 157 23 = some (.iconst 0, 0, 0, 0) := rfl
theorem r_157_24 : sm_ic 157 24 = some (.ireturn, 0, 0, 0) := rfl
theorem r_158_0 : sm_ic 158 0 = some (.aload_n 0, 0, 0, 0) := rfl
theorem r_158_1 : sm_ic 158 1 = some (.aload_n 0, 0, 0, 0) := rfl
theorem r_158_2 : sm_ic 158 2 = some (.iload_n 1, 0, 0, 0) := rfl
theorem r_158_3 : sm_ic 158 3 = some (.invokevirtual 155, 153, 2, 901) := rfl
theorem r_158_6 : sm_ic 158 6 = some (.invokestatic 158, 159, 1, 924) := rfl
theorem r_158_9 : sm_ic 158 9 = some (.invokevirtual 161, 160, 2, 927) := rfl
theorem r_158_12 : sm_ic 158 12 = some (.ireturn, 0, 0, 0) := rfl
theorem r_159_0 : sm_ic 159 0 = some (.iconst 0, 0, 0, 0) := rfl
theorem r_159_1 : sm_ic 159 1 = some (.istore_n 1, 0, 0, 0) := rfl
theorem r_159_2 : sm_ic 159 2 = some (.iconst 0, 0, 0, 0) := rfl
theorem r_159_3 : sm_ic 159 3 = some (.istore_n 2, 0, 0, 0) := rfl
theorem r_159_4 : sm_ic 159 4 = some (.iload_n 2, 0, 0, 0) := rfl
theorem r_159_5 : sm_ic 159 5 = some (.bipush 8, 0, 0, 0) := rfl
theorem r_159_7 : sm_ic 159 7 = some (.if_icmp .ge 17, 24, 0, 0) := rfl
theorem r_159_10 : sm_ic 159 10 = some (.iload_n 1, 0, 0, 0) := rfl
theorem r_159_11 : sm_ic 159 11 = some (.iload_n 0, 0, 0, 0) := rfl
theorem r_159_12 : sm_ic 159 12 = some (.iload_n 2, 0, 0, 0) := rfl
theorem r_159_13 : sm_ic 159 13 = some (.ishr, 0, 0, 0) := rfl
theorem r_159_14 : sm_ic 159 14 = some (.iconst 1, 0, 0, 0) := rfl
theorem r_159_15 : sm_ic 159 15 = some (.iand, 0, 0, 0) := rfl
theorem r_159_16 : sm_ic 159 16 = some (.iadd, 0, 0, 0) := rfl
theorem r_159_17 : sm_ic 159 17 = some (.istore_n 1, 0, 0, 0) := rfl
theorem r_159_18 : sm_ic 159 18 = some (.iinc 2 1, 0, 0, 0) := rfl
theorem r_159_21 : sm_ic 159 21 = some (.goto (-17), 4, 0, 0) := rfl
theorem r_159_24 : sm_ic 159 24 = some (.iload_n 1, 0, 0, 0) := rfl
theorem r_159_25 : sm_ic 159 25 = some (.ireturn, 0, 0, 0) := rfl
theorem r_160_0 : sm_ic 160 0 = some (.bipush 10, 0, 0, 0) := rfl
theorem r_160_2 : sm_ic 160 2 = some (.iload_n 1, 0, 0, 0) := rfl
theorem r_160_3 : sm_ic 160 3 = some (.imul, 0, 0, 0) := rfl
theorem r_160_4 : sm_ic 160 4 = some (.aload_n 0, 0, 0, 0) := rfl
theorem r_160_5 : sm_ic 160 5 = some (.getfield 34, 7, 9, 752) := rfl
theorem r_160_8 : sm_ic 160 8 = some (.iconst 2, 0, 0, 0) := rfl
theorem r_160_9 : sm_ic 160 9 = some (.iaload, 0, 0, 0) := rfl
theorem r_160_10 : sm_ic 160 10 = some (.aload_n 0, 0, 0, 0) := rfl
theorem r_160_11 : sm_ic 160 11 = some (.getfield 13, 7, 2, 745) := rfl
theorem r_160_14 : sm_ic 160 14 = some (.iconst 0, 0, 0, 0) := rfl
theorem r_160_15 : sm_ic 160 15 = some (.iaload, 0, 0, 0) := rfl
theorem r_160_16 : sm_ic 160 16 = some (.imul, 0, 0, 0) := rfl
theorem r_160_17 : sm_ic 160 17 = some (.if_icmp .lt 7, 24, 0, 0) := rfl
theorem r_160_20 : sm_ic 160 20 = some (.iconst 1, 0, 0, 0) := rfl
theorem r_160_21 : sm_ic 160 21 = some (.goto 4, 25, 0, 0) := rfl
theorem r_160_24 : sm_ic 160 24 = some (.iconst 0, 0, 0, 0) := rfl
theorem r_160_25 : sm_ic 160 25 = some (.ireturn, 0, 0, 0) := rfl
theorem r_161_0 : sm_ic 161 0 = some (.iload_n 1, 0, 0, 0) := rfl
theorem r_161_1 : sm_ic 161 1 = some (.invokestatic 164, 148, 1, 883) := rfl
theorem r_161_4 : sm_ic 161 4 = some (.ifCond .eq 13, 17, 0, 0) := rfl
theorem r_161_7 : sm_ic 161 7 = some (.iload_n 2, 0, 0, 0) := rfl
theorem r_161_8 : sm_ic 161 8 = some (.i2l, 0, 0, 0) := rfl
theorem r_161_9 : sm_ic 161 9 = some (.lconst 0, 0, 0, 0) := rfl
theorem r_161_10 : sm_ic 161 10 = some (.lconst 1, 0, 0, 0) := rfl
theorem r_161_11 : sm_ic 161 11 = some (.invokestatic 79, 133, 3, 819) := rfl
theorem r_161_14 : sm_ic 161 14 = some (.ifCond .ne 5, 19, 0, 0) := rfl
theorem r_161_17 : sm_ic 161 17 = some (.iconst (-1), 0, 0, 0) := rfl
theorem r_161_18 : sm_ic 161 18 = some (.ireturn, 0, 0, 0) := rfl
theorem r_161_19 : sm_ic 161 19 = some (.aload_n 0, 0, 0, 0) := rfl
theorem r_161_20 : sm_ic 161 20 = some (.aload_n 0, 0, 0, 0) := rfl
theorem r_161_21 : sm_ic 161 21 = some (.iload_n 1, 0, 0, 0) := rfl
theorem r_161_22 : sm_ic 161 22 = some (.invokevirtual 155, 153, 2, 901) := rfl
theorem r_161_25 : sm_ic 161 25 = some (.invokevirtual 170, 162, 2, 935) := rfl
theorem r_161_28 : sm_ic 161 28 = some (.istore_n 3, 0, 0, 0) := rfl
theorem r_161_29 : sm_ic 161 29 = some (.iload_n 2, 0, 0, 0) := rfl
theorem r_161_30 : sm_ic 161 30 = some (.ifCond .ne 7, 37, 0, 0) := rfl
theorem r_161_33 : sm_ic 161 33 = some (.iload_n 3, 0, 0, 0) := rfl
theorem r_161_34 : sm_ic 161 34 = some (.goto 18, 52, 0, 0) := rfl
theorem r_161_37 : sm_ic 161 37 = some (.iload_n 3, 0, 0, 0) := rfl
theorem r_161_38 : sm_ic 161 38 = some (.aload_n 0, 0, 0, 0) := rfl
theorem r_161_39 : sm_ic 161 39 = some (.getfield 34, 7, 9, 752) := rfl
theorem r_161_42 : sm_ic 161 42 = some (.iconst 1, 0, 0, 0) := rfl
theorem r_161_43 : sm_ic 161 43 = some (.iaload, 0, 0, 0) := rfl
theorem r_161_44 : sm_ic 161 44 = some (.if_icmp .lt 7, 51, 0, 0) := rfl
theorem r_161_47 : sm_ic 161 47 = some (.iconst 1, 0, 0, 0) := rfl
theorem r_161_48 : sm_ic 161 48 = some (.goto 4, 52, 0, 0) := rfl
theorem r_161_51 : sm_ic 161 51 = some (.iconst 0, 0, 0, 0) := rfl
theorem r_161_52 : sm_ic 161 52 = some (.ireturn, 0, 0, 0) := rfl
theorem r_162_0 : sm_ic 162 0 = some (.iconst 0, 0, 0, 0) := rfl
theorem r_162_1 : sm_ic 162 1 = some (.istore_n 2, 0, 0, 0) := rfl
theorem r_162_2 : sm_ic 162 2 = some (.iconst 0, 0, 0, 0) := rfl
theorem r_162_3 : sm_ic 162 3 = some (.istore_n 3, 0, 0, 0) := rfl
theorem r_162_4 : sm_ic 162 4 = some (.iload_n 3, 0, 0, 0) := rfl
theorem r_162_5 : sm_ic 162 5 = some (.aload_n 0, 0, 0, 0) := rfl
theorem r_162_6 : sm_ic 162 6 = some (.getfield 13, 7, 2, 745) := rfl
theorem r_162_9 : sm_ic 162 9 = some (.iconst 0, 0, 0, 0) := rfl
theorem r_162_10 : sm_ic 162 10 = some (.iaload, 0, 0, 0) := rfl
theorem r_162_11 : sm_ic 162 11 = some (.if_icmp .ge 30, 41, 0, 0) := rfl
theorem r_162_14 : sm_ic 162 14 = some (.iload_n 2, 0, 0, 0) := rfl
theorem r_162_15 : sm_ic 162 15 = some (.iload_n 1, 0, 0, 0) := rfl
theorem r_162_16 : sm_ic 162 16 = some (.iload_n 3, 0, 0, 0) := rfl
theorem r_162_17 : sm_ic 162 17 = some (.invokestatic 138, 151, 2, 894) := rfl
theorem r_162_20 : sm_ic 162 20 = some (.ifCond .eq 7, 27, 0, 0) := rfl
theorem r_162_23 : sm_ic 162 23 = some (.iconst 0, 0, 0, 0) := rfl
theorem r_162_24 : sm_ic 162 24 = some (.goto 9, 33, 0, 0) := rfl
theorem r_162_27 : sm_ic 162 27 = some (.aload_n 0, 0, 0, 0) := rfl
theorem r_162_28 : sm_ic 162 28 = some (.getfield 25, 7, 6, 749) := rfl
theorem r_162_31 : sm_ic 162 31 = some (.iload_n 3, 0, 0, 0) := rfl
theorem r_162_32 : sm_ic 162 32 = some (.iaload, 0, 0, 0) := rfl
theorem r_162_33 : sm_ic 162 33 = some (.iadd, 0, 0, 0) := rfl
theorem r_162_34 : sm_ic 162 34 = some (.istore_n 2, 0, 0, 0) := rfl
theorem r_162_35 : sm_ic 162 35 = some (.iinc 3 1, 0, 0, 0) := rfl
theorem r_162_38 : sm_ic 162 38 = some (.goto (-34), 4, 0, 0) := rfl
theorem r_162_41 : sm_ic 162 41 = some (.iload_n 2, 0, 0, 0) := rfl
theorem r_162_42 : sm_ic 162 42 = some (.ireturn, 0, 0, 0) := rfl
theorem r_163_0 : sm_ic 163 0 = some (.aload_n 0, 0, 0, 0) := rfl
theorem r_163_1 : sm_ic 163 1 = some (.iload_n 1, 0, 0, 0) := rfl
theorem r_163_2 : sm_ic 163 2 = some (.invokevirtual 130, 144, 2, 866) := rfl
theorem r_163_5 : sm_ic 163 5 = some (.ifCond .eq 24, 29, 0, 0) := rfl
theorem r_163_8 : sm_ic 163 8 = some (.iload_n 2, 0, 0, 0) := rfl
theorem r_163_9 : sm_ic 163 9 = some (.i2l, 0, 0, 0) := rfl
theorem r_163_10 : sm_ic 163 10 = some (.lconst 0, 0, 0, 0) := rfl
theorem r_163_11 : sm_ic 163 11 = some (.ldc2_w 133, 3, 0, 870) := rfl
theorem r_163_14 : sm_ic 163 14 = some (.invokestatic 79, 133, 3, 819) := rfl
theorem r_163_17 : sm_ic 163 17 = some (.ifCond .eq 12, 29, 0, 0) := rfl
theorem r_163_20 : sm_ic 163 20 = some (.aload_n 0, 0, 0, 0) := rfl
theorem r_163_21 : sm_ic 163 21 = some (.iload_n 1, 0, 0, 0) := rfl
theorem r_163_22 : sm_ic 163 22 = some (.iload_n 2, 0, 0, 0) := rfl
theorem r_163_23 : sm_ic 163 23 = some (.invokevirtual 176, 164, 3, 943) := rfl
theorem r_163_26 : sm_ic 163 26 = some (.goto 4, 30, 0, 0) := rfl
theorem r_163_29 : sm_ic 163 29 = some (.iconst (-1), 0, 0, 0) := rfl
theorem r_163_30 : sm_ic 163 30 = some (.ireturn, 0, 0, 0) := rfl
theorem r_164_0 : sm_ic 164 0 = some (.aload_n 0, 0, 0, 0) := rfl
theorem r_164_1 : sm_ic 164 1 = some (.invokevirtual 173, 165, 1, 947) := rfl
theorem r_164_4 : sm_ic 164 4 = some (.aload_n 0, 0, 0, 0) := rfl
theorem r_164_5 : sm_ic 164 5 = some (.getfield 37, 7, 10, 753) := rfl
theorem r_164_8 : sm_ic 164 8 = some (.iload_n 1, 0, 0, 0) := rfl
theorem r_164_9 : sm_ic 164 9 = some (.iaload, 0, 0, 0) := rfl
theorem r_164_10 : sm_ic 164 10 = some (.istore_n 3, 0, 0, 0) := rfl
theorem r_164_11 : sm_ic 164 11 = some (.aload_n 0, 0, 0, 0) := rfl
theorem r_164_12 : sm_ic 164 12 = some (.getfield 37, 7, 10, 753) := rfl
theorem r_164_15 : sm_ic 164 15 = some (.iload_n 1, 0, 0, 0) := rfl
theorem r_164_16 : sm_ic 164 16 = some (.iload_n 2, 0, 0, 0) := rfl
theorem r_164_17 : sm_ic 164 17 = some (.iastore, 0, 0, 0) := rfl
theorem r_164_18 : sm_ic 164 18 = some (.iload_n 3, 0, 0, 0) := rfl
theorem r_164_19 : sm_ic 164 19 = some (.ireturn, 0, 0, 0) := rfl
theorem r_165_0 : sm_ic 165 0 = some (.aload_n 0, 0, 0, 0) := rfl
theorem r_165_1 : sm_ic 165 1 = some (.getfield 121, 7, 12, 755) := rfl
theorem r_165_4 : sm_ic 165 4 = some (.bipush 8, 0, 0, 0) := rfl
theorem r_165_6 : sm_ic 165 6 = some (.if_icmp .ne 43, 49, 0, 0) := rfl
theorem r_165_9 : sm_ic 165 9 = some (.iconst 0, 0, 0, 0) := rfl
theorem r_165_10 : sm_ic 165 10 = some (.istore_n 1, 0, 0, 0) := rfl
theorem r_165_11 : sm_ic 165 11 = some (.iload_n 1, 0, 0, 0) := rfl
theorem r_165_12 : sm_ic 165 12 = some (.sipush 168, 0, 0, 0) := rfl
theorem r_165_15 : sm_ic 165 15 = some (.if_icmp .ge 24, 39, 0, 0) := rfl
theorem r_165_18 : sm_ic 165 18 = some (.aload_n 0, 0, 0, 0) := rfl
theorem r_165_19 : sm_ic 165 19 = some (.getfield 40, 7, 11, 754) := rfl
theorem r_165_22 : sm_ic 165 22 = some (.iload_n 1, 0, 0, 0) := rfl
theorem r_165_23 : sm_ic 165 23 = some (.aload_n 0, 0, 0, 0) := rfl
theorem r_165_24 : sm_ic 165 24 = some (.getfield 40, 7, 11, 754) := rfl
theorem r_165_27 : sm_ic 165 27 = some (.bipush 24, 0, 0, 0) := rfl
theorem r_165_29 : sm_ic 165 29 = some (.iload_n 1, 0, 0, 0) := rfl
theorem r_165_30 : sm_ic 165 30 = some (.iadd, 0, 0, 0) := rfl
theorem r_165_31 : sm_ic 165 31 = some (.iaload, 0, 0, 0) := rfl
theorem r_165_32 : sm_ic 165 32 = some (.iastore, 0, 0, 0) := rfl
theorem r_165_33 : sm_ic 165 33 = some (.iinc 1 1, 0, 0, 0) := rfl
theorem r_165_36 : sm_ic 165 36 = some (.goto (-25), 11, 0, 0) := rfl
theorem r_165_39 : sm_ic 165 39 = some (.aload_n 0, 0, 0, 0) := rfl
theorem r_165_40 : sm_ic 165 40 = some (.dup, 0, 0, 0) := rfl
theorem r_165_41 : sm_ic 165 41 = some (.getfield 121, 7, 12, 755) := rfl
theorem r_165_44 : sm_ic 165 44 = some (.iconst 1, 0, 0, 0) := rfl
theorem r_165_45 : sm_ic 165 45 = some (.isub, 0, 0, 0) := rfl
theorem r_165_46 : sm_ic 165 46 = some (.putfield 121, 7, 12, 755) := rfl
theorem r_165_49 : sm_ic 165 49 = some (.iconst 0, 0, 0, 0) := rfl
theorem r_165_50 : sm_ic 165 50 = some (.istore_n 1, 0, 0, 0) := rfl
theorem r_165_51 : sm_ic 165 51 = some (.iload_n 1, 0, 0, 0) := rfl
theorem r_165_52 : sm_ic 165 52 = some (.bipush 24, 0, 0, 0) := rfl
theorem r_165_54 : sm_ic 165 54 = some (.if_icmp .ge 29, 83, 0, 0) := rfl
theorem r_165_57 : sm_ic 165 57 = some (.aload_n 0, 0, 0, 0) := rfl
theorem r_165_58 : sm_ic 165 58 = some (.getfield 40, 7, 11, 754) := rfl
theorem r_165_61 : sm_ic 165 61 = some (.bipush 24, 0, 0, 0) := rfl
theorem r_165_63 : sm_ic 165 63 = some (.aload_n 0, 0, 0, 0) := rfl
theorem r_165_64 : sm_ic 165 64 = some (.getfield 121, 7, 12, 755) := rfl
theorem r_165_67 : sm_ic 165 67 = some (.imul, 0, 0, 0) := rfl
theorem r_165_68 : sm_ic 165 68 = some (.iload_n 1, 0, 0, 0) := rfl
theorem r_165_69 : sm_ic 165 69 = some (.iadd, 0, 0, 0) := rfl
theorem r_165_70 : sm_ic 165 70 = some (.aload_n 0, 0, 0, 0) := rfl
theorem r_165_71 : sm_ic 165 71 = some (.getfield 37, 7, 10, 753) := rfl
theorem r_165_74 : sm_ic 165 74 = some (.iload_n 1, 0, 0, 0) := rfl
theorem r_165_75 : sm_ic 165 75 = some (.iaload, 0, 0, 0) := rfl
theorem r_165_76 : sm_ic 165 76 = some (.iastore, 0, 0, 0) := rfl
theorem r_165_77 : sm_ic 165 77 = some (.iinc 1 1, 0, 0, 0) := rfl
theorem r_165_80 : sm_ic 165 80 = some (.goto (-29), 51, 0, 0) := rfl
theorem r_165_83 : sm_ic 165 83 = some (.aload_n 0, 0, 0, 0) := rfl
theorem r_165_84 : sm_ic 165 84 = some (.dup, 0, 0, 0) := rfl
theorem r_165_85 : sm_ic 165 85 = some (.getfield 121, 7, 12, 755) := rfl
theorem r_165_88 : sm_ic 165 88 = some (.iconst 1, 0, 0, 0) := rfl
theorem r_165_89 : sm_ic 165 89 = some (.iadd, 0, 0, 0) := rfl
theorem r_165_90 : sm_ic 165 90 = some (.putfield 121, 7, 12, 755) := rfl
theorem r_165_93 : sm_ic 165 93 = some (.return_, 0, 0, 0) := rfl
theorem r_166_0 : sm_ic 166 0 = some (.aload_n 0, 0, 0, 0) := rfl
theorem r_166_1 : sm_ic 166 1 = some (.iload_n 1, 0, 0, 0) := rfl
theorem r_166_2 : sm_ic 166 2 = some (.invokevirtual 130, 144, 2, 866) := rfl
theorem r_166_5 : sm_ic 166 5 = some (.ifCond .eq 23, 28, 0, 0) := rfl
theorem r_166_8 : sm_ic 166 8 = some (.aload_n 0, 0, 0, 0) := rfl
theorem r_166_9 : sm_ic 166 9 = some (.iload_n 2, 0, 0, 0) := rfl
theorem r_166_10 : sm_ic 166 10 = some (.invokevirtual 130, 144, 2, 866) := rfl
theorem r_166_13 : sm_ic 166 13 = some (.ifCond .eq 15, 28, 0, 0) := rfl
theorem r_166_16 : sm_ic 166 16 = some (.aload_n 0, 0, 0, 0) := rfl
theorem r_166_17 : sm_ic 166 17 = some (.bipush 8, 0, 0, 0) := rfl
theorem r_166_19 : sm_ic 166 19 = some (.iload_n 1, 0, 0, 0) := rfl
theorem r_166_20 : sm_ic 166 20 = some (.iadd, 0, 0, 0) := rfl
theorem r_166_21 : sm_ic 166 21 = some (.iload_n 2, 0, 0, 0) := rfl
theorem r_166_22 : sm_ic 166 22 = some (.invokevirtual 176, 164, 3, 943) := rfl
theorem r_166_25 : sm_ic 166 25 = some (.goto 4, 29, 0, 0) := rfl
theorem r_166_28 : sm_ic 166 28 = some (.iconst (-1), 0, 0, 0) := rfl
theorem r_166_29 : sm_ic 166 29 = some (.ireturn, 0, 0, 0) := rfl
theorem r_167_0 : sm_ic 167 0 = some (.aload_n 0, 0, 0, 0) := rfl
theorem r_167_1 : sm_ic 167 1 = some (.iload_n 1, 0, 0, 0) := rfl
theorem r_167_2 : sm_ic 167 2 = some (.invokevirtual 135, 146, 2, 875) := rfl
theorem r_167_5 : sm_ic 167 5 = some (.ifCond .eq 27, 32, 0, 0) := rfl
theorem r_167_8 : sm_ic 167 8 = some (.iconst 1, 0, 0, 0) := rfl
theorem r_167_9 : sm_ic 167 9 = some (.aload_n 0, 0, 0, 0) := rfl
theorem r_167_10 : sm_ic 167 10 = some (.bipush 16, 0, 0, 0) := rfl
theorem r_167_12 : sm_ic 167 12 = some (.iload_n 1, 0, 0, 0) := rfl
theorem r_167_13 : sm_ic 167 13 = some (.iadd, 0, 0, 0) := rfl
theorem r_167_14 : sm_ic 167 14 = some (.iconst 1, 0, 0, 0) := rfl
theorem r_167_15 : sm_ic 167 15 = some (.aload_n 0, 0, 0, 0) := rfl
theorem r_167_16 : sm_ic 167 16 = some (.getfield 37, 7, 10, 753) := rfl
theorem r_167_19 : sm_ic 167 19 = some (.bipush 16, 0, 0, 0) := rfl
theorem r_167_21 : sm_ic 167 21 = some (.iload_n 1, 0, 0, 0) := rfl
theorem r_167_22 : sm_ic 167 22 = some (.iadd, 0, 0, 0) := rfl
theorem r_167_23 : sm_ic 167 23 = some (.iaload, 0, 0, 0) := rfl
theorem r_167_24 : sm_ic 167 24 = some (.isub, 0, 0, 0) := rfl
theorem r_167_25 : sm_ic 167 25 = some (.invokevirtual 176, 164, 3, 943) := rfl
theorem r_167_28 : sm_ic 167 28 = some (.isub, 0, 0, 0) := rfl
theorem r_167_29 : sm_ic 167 29 = some (.goto 4, 33, 0, 0) := rfl
theorem r_167_32 : sm_ic 167 32 = some (.iconst (-1), 0, 0, 0) := rfl
theorem r_167_33 : sm_ic 167 33 = some (.ireturn, 0, 0, 0) := rfl
theorem r_168_0 : sm_ic 168 0 = some (.iload_n 1, 0, 0, 0) := rfl
theorem r_168_1 : sm_ic 168 1 = some (.i2l, 0, 0, 0) := rfl
theorem r_168_2 : sm_ic 168 2 = some (.lconst 0, 0, 0, 0) := rfl
theorem r_168_3 : sm_ic 168 3 = some (.lconst 1, 0, 0, 0) := rfl
theorem r_168_4 : sm_ic 168 4 = some (.invokestatic 79, 133, 3, 819) := rfl
theorem r_168_7 : sm_ic 168 7 = some (.ifCond .eq 27, 34, 0, 0) := rfl
theorem r_168_10 : sm_ic 168 10 = some (.iconst 1, 0, 0, 0) := rfl
theorem r_168_11 : sm_ic 168 11 = some (.aload_n 0, 0, 0, 0) := rfl
theorem r_168_12 : sm_ic 168 12 = some (.bipush 21, 0, 0, 0) := rfl
theorem r_168_14 : sm_ic 168 14 = some (.iload_n 1, 0, 0, 0) := rfl
theorem r_168_15 : sm_ic 168 15 = some (.iadd, 0, 0, 0) := rfl
theorem r_168_16 : sm_ic 168 16 = some (.iconst 1, 0, 0, 0) := rfl
theorem r_168_17 : sm_ic 168 17 = some (.aload_n 0, 0, 0, 0) := rfl
theorem r_168_18 : sm_ic 168 18 = some (.getfield 37, 7, 10, 753) := rfl
theorem r_168_21 : sm_ic 168 21 = some (.bipush 21, 0, 0, 0) := rfl
theorem r_168_23 : sm_ic 168 23 = some (.iload_n 1, 0, 0, 0) := rfl
theorem r_168_24 : sm_ic 168 24 = some (.iadd, 0, 0, 0) := rfl
theorem r_168_25 : sm_ic 168 25 = some (.iaload, 0, 0, 0) := rfl
theorem r_168_26 : sm_ic 168 26 = some (.isub, 0, 0, 0) := rfl
theorem r_168_27 : sm_ic 168 27 = some (.invokevirtual 176, 164, 3, 943) := rfl
theorem r_168_30 : sm_ic 168 30 = some (.isub, 0, 0, 0) := rfl
theorem r_168_31 : sm_ic 168 31 = some (.goto 4, 35, 0, 0) := rfl
theorem r_168_34 : sm_ic 168 34 = some (.iconst (-1), 0, 0, 0) := rfl
theorem r_168_35 : sm_ic 168 35 = some (.ireturn, 0, 0, 0) := rfl
theorem r_169_0 : sm_ic 169 0 = some (.aload_n 0, 0, 0, 0) := rfl
theorem r_169_1 : sm_ic 169 1 = some (.getfield 121, 7, 12, 755) := rfl
theorem r_169_4 : sm_ic 169 4 = some (.ifCond .ne 6, 10, 0, 0) := rfl
theorem r_169_7 : sm_ic 169 7 = some (.bipush (-2), 0, 0, 0) := rfl
theorem r_169_9 : sm_ic 169 9 = some (.ireturn, 0, 0, 0) := rfl
theorem r_169_10 : sm_ic 169 10 = some (.aload_n 0, 0, 0, 0) := rfl
theorem r_169_11 : sm_ic 169 11 = some (.dup, 0, 0, 0) := rfl
theorem r_169_12 : sm_ic 169 12 = some (.getfield 121, 7, 12, 755) := rfl
theorem r_169_15 : sm_ic 169 15 = some (.iconst 1, 0, 0, 0) := rfl
theorem r_169_16 : sm_ic 169 16 = some (.isub, 0, 0, 0) := rfl
theorem r_169_17 : sm_ic 169 17 = some (.putfield 121, 7, 12, 755) := rfl
theorem r_169_20 : sm_ic 169 20 = some (.iconst 0, 0, 0, 0) := rfl
theorem r_169_21 : sm_ic 169 21 = some (.istore_n 1, 0, 0, 0) := rfl
theorem r_169_22 : sm_ic 169 22 = some (.iload_n 1, 0, 0, 0) := rfl
theorem r_169_23 : sm_ic 169 23 = some (.bipush 24, 0, 0, 0) := rfl
theorem r_169_25 : sm_ic 169 25 = some (.if_icmp .ge 29, 54, 0, 0) := rfl
theorem r_169_28 : sm_ic 169 28 = some (.aload_n 0, 0, 0, 0) := rfl
theorem r_169_29 : sm_ic 169 29 = some (.getfield 37, 7, 10, 753) := rfl
theorem r_169_32 : sm_ic 169 32 = some (.iload_n 1, 0, 0, 0) := rfl
theorem r_169_33 : sm_ic 169 33 = some (.aload_n 0, 0, 0, 0) := rfl
theorem r_169_34 : sm_ic 169 34 = some (.getfield 40, 7, 11, 754) := rfl
theorem r_169_37 : sm_ic 169 37 = some (.bipush 24, 0, 0, 0) := rfl
theorem r_169_39 : sm_ic 169 39 = some (.aload_n 0, 0, 0, 0) := rfl
theorem r_169_40 : sm_ic 169 40 = some (.getfield 121, 7, 12, 755) := rfl
theorem r_169_43 : sm_ic 169 43 = some (.imul, 0, 0, 0) := rfl
theorem r_169_44 : sm_ic 169 44 = some (.iload_n 1, 0, 0, 0) := rfl
theorem r_169_45 : sm_ic 169 45 = some (.iadd, 0, 0, 0) := rfl
theorem r_169_46 : sm_ic 169 46 = some (.iaload, 0, 0, 0) := rfl
theorem r_169_47 : sm_ic 169 47 = some (.iastore, 0, 0, 0) := rfl
theorem r_169_48 : sm_ic 169 48 = some (.iinc 1 1, 0, 0, 0) := rfl
theorem r_169_51 : sm_ic 169 51 = some (.goto (-29), 22, 0, 0) := rfl
theorem r_169_54 : sm_ic 169 54 = some (.aload_n 0, 0, 0, 0) := rfl
theorem r_169_55 : sm_ic 169 55 = some (.getfield 121, 7, 12, 755) := rfl
theorem r_169_58 : sm_ic 169 58 = some (.ireturn, 0, 0, 0) := rfl
theorem r_170_0 : sm_ic 170 0 = some (.iload_n 1, 0, 0, 0) := rfl
theorem r_170_1 : sm_ic 170 1 = some (.invokestatic 164, 148, 1, 883) := rfl
theorem r_170_4 : sm_ic 170 4 = some (.ifCond .ne 5, 9, 0, 0) := rfl
theorem r_170_7 : sm_ic 170 7 = some (.iconst (-1), 0, 0, 0) := rfl
theorem r_170_8 : sm_ic 170 8 = some (.ireturn, 0, 0, 0) := rfl
theorem r_170_9 : sm_ic 170 9 = some (.iconst 0, 0, 0, 0) := rfl
theorem r_170_10 : sm_ic 170 10 = some (.istore_n 2, 0, 0, 0) := rfl
theorem r_170_11 : sm_ic 170 11 = some (.iconst 0, 0, 0, 0) := rfl
theorem r_170_12 : sm_ic 170 12 = some (.istore_n 3, 0, 0, 0) := rfl
theorem r_170_13 : sm_ic 170 13 = some (.iload_n 3, 0, 0, 0) := rfl
theorem r_170_14 : sm_ic 170 14 = some (.aload_n 0, 0, 0, 0) := rfl
theorem r_170_15 : sm_ic 170 15 = some (.getfield 13, 7, 2, 745) := rfl
theorem r_170_18 : sm_ic 170 18 = some (.iconst 0, 0, 0, 0) := rfl
theorem r_170_19 : sm_ic 170 19 = some (.iaload, 0, 0, 0) := rfl
theorem r_170_20 : sm_ic 170 20 = some (.if_icmp .ge 35, 55, 0, 0) := rfl
theorem r_170_23 : sm_ic 170 23 = some (.iload_n 2, 0, 0, 0) := rfl
theorem r_170_24 : sm_ic 170 24 = some (.aload_n 0, 0, 0, 0) := rfl
theorem r_170_25 : sm_ic 170 25 = some (.iload_n 1, 0, 0, 0) := rfl
theorem r_170_26 : sm_ic 170 26 = some (.iconst 1, 0, 0, 0) := rfl
theorem r_170_27 : sm_ic 170 27 = some (.iload_n 3, 0, 0, 0) := rfl
theorem r_170_28 : sm_ic 170 28 = some (.ishl, 0, 0, 0) := rfl
theorem r_170_29 : sm_ic 170 29 = some (.invokevirtual 179, 171, 3, 971) := rfl
theorem r_170_32 : sm_ic 170 32 = some (.aload_n 0, 0, 0, 0) := rfl
theorem r_170_33 : sm_ic 170 33 = some (.iload_n 1, 0, 0, 0) := rfl
theorem r_170_34 : sm_ic 170 34 = some (.invokevirtual 167, 158, 2, 920) := rfl
theorem r_170_37 : sm_ic 170 37 = some (.if_icmp .eq 9, 46, 0, 0) := rfl
theorem r_170_40 : sm_ic 170 40 = some (.iconst 1, 0, 0, 0) := rfl
theorem r_170_41 : sm_ic 170 41 = some (.iload_n 3, 0, 0, 0) := rfl
theorem r_170_42 : sm_ic 170 42 = some (.ishl, 0, 0, 0) := rfl
theorem r_170_43 : sm_ic 170 43 = some (.goto 4, 47, 0, 0) := rfl
theorem r_170_46 : sm_ic 170 46 = some (.iconst 0, 0, 0, 0) := rfl
theorem r_170_47 : sm_ic 170 47 = some (.ior, 0, 0, 0) := rfl
theorem r_170_48 : sm_ic 170 48 = some (.istore_n 2, 0, 0, 0) := rfl
theorem r_170_49 : sm_ic 170 49 = some (.iinc 3 1, 0, 0, 0) := rfl
theorem r_170_52 : sm_ic 170 52 = some (.goto (-39), 13, 0, 0) := rfl
theorem r_170_55 : sm_ic 170 55 = some (.iload_n 2, 0, 0, 0) := rfl
theorem r_170_56 : sm_ic 170 56 = some (.ireturn, 0, 0, 0) := rfl
theorem r_171_0 : sm_ic 171 0 = some (.iconst 0, 0, 0, 0) := rfl
theorem r_171_1 : sm_ic 171 1 = some (.istore_n 3, 0, 0, 0) := rfl
theorem r_171_2 : sm_ic 171 2 = some (.iload_n 3, 0, 0, 0) := rfl
theorem r_171_3 : sm_ic 171 3 = some (.aload_n 0, 0, 0, 0) := rfl
theorem r_171_4 : sm_ic 171 4 = some (.getfield 13, 7, 2, 745) := rfl
theorem r_171_7 : sm_ic 171 7 = some (.iconst 0, 0, 0, 0) := rfl
theorem r_171_8 : sm_ic 171 8 = some (.iaload, 0, 0, 0) := rfl
theorem r_171_9 : sm_ic 171 9 = some (.if_icmp .ge 33, 42, 0, 0) := rfl
theorem r_171_12 : sm_ic 171 12 = some (.aload_n 0, 0, 0, 0) := rfl
theorem r_171_13 : sm_ic 171 13 = some (.getfield 37, 7, 10, 753) := rfl
theorem r_171_16 : sm_ic 171 16 = some (.iload_n 3, 0, 0, 0) := rfl
theorem r_171_17 : sm_ic 171 17 = some (.dup2, 0, 0, 0) := rfl
theorem r_171_18 : sm_ic 171 18 = some (.iaload, 0, 0, 0) := rfl
theorem r_171_19 : sm_ic 171 19 = some (.iload_n 2, 0, 0, 0) := rfl
theorem r_171_20 : sm_ic 171 20 = some (.iload_n 3, 0, 0, 0) := rfl
theorem r_171_21 : sm_ic 171 21 = some (.invokestatic 138, 151, 2, 894) := rfl
theorem r_171_24 : sm_ic 171 24 = some (.ifCond .eq 9, 33, 0, 0) := rfl
theorem r_171_27 : sm_ic 171 27 = some (.iconst 1, 0, 0, 0) := rfl
theorem r_171_28 : sm_ic 171 28 = some (.iload_n 1, 0, 0, 0) := rfl
theorem r_171_29 : sm_ic 171 29 = some (.ishl, 0, 0, 0) := rfl
theorem r_171_30 : sm_ic 171 30 = some (.goto 4, 34, 0, 0) := rfl
theorem r_171_33 : sm_ic 171 33 = some (.iconst 0, 0, 0, 0) := rfl
theorem r_171_34 : sm_ic 171 34 = some (.ixor, 0, 0, 0) := rfl
theorem r_171_35 : sm_ic 171 35 = some (.iastore, 0, 0, 0) := rfl
theorem r_171_36 : sm_ic 171 36 = some (.iinc 3 1, 0, 0, 0) := rfl
theorem r_171_39 : sm_ic 171 39 = some (.goto (-37), 2, 0, 0) := rfl
theorem r_171_42 : sm_ic 171 42 = some (.aload_n 0, 0, 0, 0) := rfl
theorem r_171_43 : sm_ic 171 43 = some (.iload_n 1, 0, 0, 0) := rfl
theorem r_171_44 : sm_ic 171 44 = some (.invokevirtual 167, 158, 2, 920) := rfl
theorem r_171_47 : sm_ic 171 47 = some (.istore_n 3, 0, 0, 0) := rfl
theorem r_171_48 : sm_ic 171 48 = some (.iconst 0, 0, 0, 0) := rfl
theorem r_171_49 : sm_ic 171 49 = some (.istore 4, 0, 0, 0) := rfl
theorem r_171_51 : sm_ic 171 51 = some (.iload 4, 0, 0, 0) := rfl
theorem r_171_53 : sm_ic 171 53 = some (.aload_n 0, 0, 0, 0) := rfl
theorem r_171_54 : sm_ic 171 54 = some (.getfield 13, 7, 2, 745) := rfl
theorem r_171_57 : sm_ic 171 57 = some (.iconst 0, 0, 0, 0) := rfl
theorem r_171_58 : sm_ic 171 58 = some (.iaload, 0, 0, 0) := rfl
theorem r_171_59 : sm_ic 171 59 = some (.if_icmp .ge 35, 94, 0, 0) := rfl
theorem r_171_62 : sm_ic 171 62 = some (.aload_n 0, 0, 0, 0) := rfl
theorem r_171_63 : sm_ic 171 63 = some (.getfield 37, 7, 10, 753) := rfl
theorem r_171_66 : sm_ic 171 66 = some (.iload 4, 0, 0, 0) := rfl
theorem r_171_68 : sm_ic 171 68 = some (.dup2, 0, 0, 0) := rfl
theorem r_171_69 : sm_ic 171 69 = some (.iaload, 0, 0, 0) := rfl
theorem r_171_70 : sm_ic 171 70 = some (.iload_n 2, 0, 0, 0) := rfl
theorem r_171_71 : sm_ic 171 71 = some (.iload 4, 0, 0, 0) := rfl
theorem r_171_73 : sm_ic 171 73 = some (.invokestatic 138, 151, 2, 894) := rfl
theorem r_171_76 : sm_ic 171 76 = some (.ifCond .eq 9, 85, 0, 0) := rfl
theorem r_171_79 : sm_ic 171 79 = some (.iconst 1, 0, 0, 0) := rfl
theorem r_171_80 : sm_ic 171 80 = some (.iload_n 1, 0, 0, 0) := rfl
theorem r_171_81 : sm_ic 171 81 = some (.ishl, 0, 0, 0) := rfl
theorem r_171_82 : sm_ic 171 82 = some (.goto 4, 86, 0, 0) := rfl
theorem r_171_85 : sm_ic 171 85 = some (.iconst 0, 0, 0, 0) := rfl
theorem r_171_86 : sm_ic 171 86 = some (.ixor, 0, 0, 0) := rfl
theorem r_171_87 : sm_ic 171 87 = some (.iastore, 0, 0, 0) := rfl
theorem r_171_88 : sm_ic 171 88 = some (.iinc 4 1, 0, 0, 0) := rfl
theorem r_171_91 : sm_ic 171 91 = some (.goto (-40), 51, 0, 0) := rfl
theorem r_171_94 : sm_ic 171 94 = some (.iload_n 3, 0, 0, 0) := rfl
theorem r_171_95 : sm_ic 171 95 = some (.ireturn, 0, 0, 0) := rfl
theorem r_172_0 : sm_ic 172 0 = some (.iload_n 1, 0, 0, 0) := rfl
theorem r_172_1 : sm_ic 172 1 = some (.invokestatic 164, 148, 1, 883) := rfl
theorem r_172_4 : sm_ic 172 4 = some (.ifCond .ne 5, 9, 0, 0) := rfl
theorem r_172_7 : sm_ic 172 7 = some (.iconst (-1), 0, 0, 0) := rfl
theorem r_172_8 : sm_ic 172 8 = some (.ireturn, 0, 0, 0) := rfl
theorem r_172_9 : sm_ic 172 9 = some (.aload_n 0, 0, 0, 0) := rfl
theorem r_172_10 : sm_ic 172 10 = some (.iload_n 1, 0, 0, 0) := rfl
theorem r_172_11 : sm_ic 172 11 = some (.invokevirtual 167, 158, 2, 920) := rfl
theorem r_172_14 : sm_ic 172 14 = some (.istore_n 2, 0, 0, 0) := rfl
theorem r_172_15 : sm_ic 172 15 = some (.bipush (-4), 0, 0, 0) := rfl
theorem r_172_17 : sm_ic 172 17 = some (.istore_n 3, 0, 0, 0) := rfl
theorem r_172_18 : sm_ic 172 18 = some (.iconst 1, 0, 0, 0) := rfl
theorem r_172_19 : sm_ic 172 19 = some (.istore 4, 0, 0, 0) := rfl
theorem r_172_21 : sm_ic 172 21 = some (.iload 4, 0, 0, 0) := rfl
theorem r_172_23 : sm_ic 172 23 = some (.iconst 1, 0, 0, 0) := rfl
theorem r_172_24 : sm_ic 172 24 = some (.aload_n 0, 0, 0, 0) := rfl
theorem r_172_25 : sm_ic 172 25 = some (.getfield 13, 7, 2, 745) := rfl
theorem r_172_28 : sm_ic 172 28 = some (.iconst 0, 0, 0, 0) := rfl
theorem r_172_29 : sm_ic 172 29 = some (.iaload, 0, 0, 0) := rfl
theorem r_172_30 : sm_ic 172 30 = some (.ishl, 0, 0, 0) := rfl
theorem r_172_31 : sm_ic 172 31 = some (.if_icmp .ge 55, 86, 0, 0) := rfl
theorem r_172_34 : sm_ic 172 34 = some (.iload_n 3, 0, 0, 0) := rfl
theorem r_172_35 : sm_ic 172 35 = some (.ifCond .lt 15, 50, 0, 0) := rfl
theorem r_172_38 : sm_ic 172 38 = some (.iload 4, 0, 0, 0) := rfl
theorem r_172_40 : sm_ic 172 40 = some (.invokestatic 158, 159, 1, 924) := rfl
theorem r_172_43 : sm_ic 172 43 = some (.iload_n 3, 0, 0, 0) := rfl
theorem r_172_44 : sm_ic 172 44 = some (.invokestatic 158, 159, 1, 924) := rfl
theorem r_172_47 : sm_ic 172 47 = some (.if_icmp .ge 7, 54, 0, 0) := rfl
theorem r_172_50 : sm_ic 172 50 = some (.iconst 1, 0, 0, 0) := rfl
theorem r_172_51 : sm_ic 172 51 = some (.goto 4, 55, 0, 0) := rfl
theorem r_172_54 : sm_ic 172 54 = some (.iconst 0, 0, 0, 0) := rfl
theorem r_172_55 : sm_ic 172 55 = some (.istore 5, 0, 0, 0) := rfl
theorem r_172_57 : sm_ic 172 57 = some (.iload 5, 0, 0, 0) := rfl
theorem r_172_59 : sm_ic 172 59 = some (.ifCond .eq 19, 78, 0, 0) := rfl
theorem r_172_62 : sm_ic 172 62 = some (.aload_n 0, 0, 0, 0) := rfl
theorem r_172_63 : sm_ic 172 63 = some (.iload_n 1, 0, 0, 0) := rfl
theorem r_172_64 : sm_ic 172 64 = some (.iload 4, 0, 0, 0) := rfl
theorem r_172_66 : sm_ic 172 66 = some (.invokevirtual 179, 171, 3, 971) := rfl
theorem r_172_69 : sm_ic 172 69 = some (.iload_n 2, 0, 0, 0) := rfl
theorem r_172_70 : sm_ic 172 70 = some (.if_icmp .eq 8, 78, 0, 0) := rfl
theorem r_172_73 : sm_ic 172 73 = some (.iload 4, 0, 0, 0) := rfl
theorem r_172_75 : sm_ic 172 75 = some (.goto 4, 79, 0, 0) := rfl
theorem r_172_78 : sm_ic 172 78 = some (.iload_n 3, 0, 0, 0) := rfl
theorem r_172_79 : sm_ic 172 79 = some (.istore_n 3, 0, 0, 0) := rfl
theorem r_172_80 : sm_ic 172 80 = some (.iinc 4 1, 0, 0, 0) := rfl
theorem r_172_83 : sm_ic 172 83 = some (.goto (-62), 21, 0, 0) := rfl
theorem r_172_86 : sm_ic 172 86 = some (.iload_n 3, 0, 0, 0) := rfl
theorem r_172_87 : sm_ic 172 87 = some (.ireturn, 0, 0, 0) := rfl
theorem r_173_0 : sm_ic 173 0 = some (.aload_n 0, 0, 0, 0) := rfl
theorem r_173_1 : sm_ic 173 1 = some (.getfield 37, 7, 10, 753) := rfl
theorem r_173_4 : sm_ic 173 4 = some (.bipush 22, 0, 0, 0) := rfl
theorem r_173_6 : sm_ic 173 6 = some (.iaload, 0, 0, 0) := rfl
theorem r_173_7 : sm_ic 173 7 = some (.iconst 1, 0, 0, 0) := rfl
theorem r_173_8 : sm_ic 173 8 = some (.if_icmp .ne 7, 15, 0, 0) := rfl
theorem r_173_11 : sm_ic 173 11 = some (.iconst 1, 0, 0, 0) := rfl
theorem r_173_12 : sm_ic 173 12 = some (.goto 4, 16, 0, 0) := rfl
theorem r_173_15 : sm_ic 173 15 = some (.iconst 0, 0, 0, 0) := rfl
theorem r_173_16 : sm_ic 173 16 = some (.istore_n 1, 0, 0, 0) := rfl
theorem r_173_17 : sm_ic 173 17 = some (.iconst 0, 0, 0, 0) := rfl
theorem r_173_18 : sm_ic 173 18 = some (.istore_n 2, 0, 0, 0) := rfl
theorem r_173_19 : sm_ic 173 19 = some (.iconst 0, 0, 0, 0) := rfl
theorem r_173_20 : sm_ic 173 20 = some (.istore_n 3, 0, 0, 0) := rfl
theorem r_173_21 : sm_ic 173 21 = some (.iconst 0, 0, 0, 0) := rfl
theorem r_173_22 : sm_ic 173 22 = some (.istore 4, 0, 0, 0) := rfl
theorem r_173_24 : sm_ic 173 24 = some (.iload 4, 0, 0, 0) := rfl
theorem r_173_26 : sm_ic 173 26 = some (.aload_n 0, 0, 0, 0) := rfl
theorem r_173_27 : sm_ic 173 27 = some (.getfield 28, 7, 7, 750) := rfl
theorem r_173_30 : sm_ic 173 30 = some (.iconst 0, 0, 0, 0) := rfl
theorem r_173_31 : sm_ic 173 31 = some (.iaload, 0, 0, 0) := rfl
theorem r_173_32 : sm_ic 173 32 = some (.if_icmp .ge 36, 68, 0, 0) := rfl
theorem r_173_35 : sm_ic 173 35 = some (.iload_n 2, 0, 0, 0) := rfl
theorem r_173_36 : sm_ic 173 36 = some (.aload_n 0, 0, 0, 0) := rfl
theorem r_173_37 : sm_ic 173 37 = some (.getfield 37, 7, 10, 753) := rfl
theorem r_173_40 : sm_ic 173 40 = some (.bipush 16, 0, 0, 0) := rfl
theorem r_173_42 : sm_ic 173 42 = some (.iload 4, 0, 0, 0) := rfl
theorem r_173_44 : sm_ic 173 44 = some (.iadd, 0, 0, 0) := rfl
theorem r_173_45 : sm_ic 173 45 = some (.iaload, 0, 0, 0) := rfl
theorem r_173_46 : sm_ic 173 46 = some (.ifCond .ne 13, 59, 0, 0) := rfl
theorem r_173_49 : sm_ic 173 49 = some (.aload_n 0, 0, 0, 0) := rfl
theorem r_173_50 : sm_ic 173 50 = some (.getfield 31, 7, 8, 751) := rfl
theorem r_173_53 : sm_ic 173 53 = some (.iload 4, 0, 0, 0) := rfl
theorem r_173_55 : sm_ic 173 55 = some (.iaload, 0, 0, 0) := rfl
theorem r_173_56 : sm_ic 173 56 = some (.goto 4, 60, 0, 0) := rfl
theorem r_173_59 : sm_ic 173 59 = some (.iconst 0, 0, 0, 0) := rfl
theorem r_173_60 : sm_ic 173 60 = some (.iadd, 0, 0, 0) := rfl
theorem r_173_61 : sm_ic 173 61 = some (.istore_n 2, 0, 0, 0) := rfl
theorem r_173_62 : sm_ic 173 62 = some (.iinc 4 1, 0, 0, 0) := rfl
theorem r_173_65 : sm_ic 173 65 = some (.goto (-41), 24, 0, 0) := rfl
theorem r_173_68 : sm_ic 173 68 = some (.iconst 0, 0, 0, 0) := rfl
theorem r_173_69 : sm_ic 173 69 = some (.istore 4, 0, 0, 0) := rfl
theorem r_173_71 : sm_ic 173 71 = some (.iload 4, 0, 0, 0) := rfl
theorem r_173_73 : sm_ic 173 73 = some (.aload_n 0, 0, 0, 0) := rfl
theorem r_173_74 : sm_ic 173 74 = some (.getfield 13, 7, 2, 745) := rfl
theorem r_173_77 : sm_ic 173 77 = some (.iconst 0, 0, 0, 0) := rfl
theorem r_173_78 : sm_ic 173 78 = some (.iaload, 0, 0, 0) := rfl
theorem r_173_79 : sm_ic 173 79 = some (.if_icmp .ge 35, 114, 0, 0) := rfl
theorem r_173_82 : sm_ic 173 82 = some (.iload_n 3, 0, 0, 0) := rfl
theorem r_173_83 : sm_ic 173 83 = some (.aload_n 0, 0, 0, 0) := rfl
theorem r_173_84 : sm_ic 173 84 = some (.getfield 16, 7, 3, 746) := rfl
theorem r_173_87 : sm_ic 173 87 = some (.iload 4, 0, 0, 0) := rfl
theorem r_173_89 : sm_ic 173 89 = some (.iaload, 0, 0, 0) := rfl
theorem r_173_90 : sm_ic 173 90 = some (.iconst 3, 0, 0, 0) := rfl
theorem r_173_91 : sm_ic 173 91 = some (.if_icmp .ne 14, 105, 0, 0) := rfl
theorem r_173_94 : sm_ic 173 94 = some (.iload_n 1, 0, 0, 0) := rfl
theorem r_173_95 : sm_ic 173 95 = some (.ifCond .ne 10, 105, 0, 0) := rfl
theorem r_173_98 : sm_ic 173 98 = some (.iconst 1, 0, 0, 0) := rfl
theorem r_173_99 : sm_ic 173 99 = some (.iload 4, 0, 0, 0) := rfl
theorem r_173_101 : sm_ic 173 101 = some (.ishl, 0, 0, 0) := rfl
theorem r_173_102 : sm_ic 173 102 = some (.goto 4, 106, 0, 0) := rfl
theorem r_173_105 : sm_ic 173 105 = some (.iconst 0, 0, 0, 0) := rfl
theorem r_173_106 : sm_ic 173 106 = some (.ior, 0, 0, 0) := rfl
theorem r_173_107 : sm_ic 173 107 = some (.istore_n 3, 0, 0, 0) := rfl
theorem r_173_108 : sm_ic 173 108 = some (.iinc 4 1, 0, 0, 0) := rfl
theorem r_173_111 : sm_ic 173 111 = some (.goto (-40), 71, 0, 0) := rfl
theorem r_173_114 : sm_ic 173 114 = some (.bipush (-4), 0, 0, 0) := rfl
theorem r_173_116 : sm_ic 173 116 = some (.istore 4, 0, 0, 0) := rfl
theorem r_173_118 : sm_ic 173 118 = some (.iconst 0, 0, 0, 0) := rfl
theorem r_173_119 : sm_ic 173 119 = some (.istore 5, 0, 0, 0) := rfl
theorem r_173_121 : sm_ic 173 121 = some (.iload 5, 0, 0, 0) := rfl
theorem r_173_123 : sm_ic 173 123 = some (.iconst 1, 0, 0, 0) := rfl
theorem r_173_124 : sm_ic 173 124 = some (.aload_n 0, 0, 0, 0) := rfl
theorem r_173_125 : sm_ic 173 125 = some (.getfield 13, 7, 2, 745) := rfl
theorem r_173_128 : sm_ic 173 128 = some (.iconst 0, 0, 0, 0) := rfl
theorem r_173_129 : sm_ic 173 129 = some (.iaload, 0, 0, 0) := rfl
theorem r_173_130 : sm_ic 173 130 = some (.ishl, 0, 0, 0) := rfl
theorem r_173_131 : sm_ic 173 131 = some (.if_icmp .ge 104, 235, 0, 0) := rfl
theorem r_173_134 : sm_ic 173 134 = some (.iload 5, 0, 0, 0) := rfl
theorem r_173_136 : sm_ic 173 136 = some (.invokestatic 158, 159, 1, 924) := rfl
theorem r_173_139 : sm_ic 173 139 = some (.istore 6, 0, 0, 0) := rfl
theorem r_173_141 : sm_ic 173 141 = some (.iload 5, 0, 0, 0) := rfl
theorem r_173_143 : sm_ic 173 143 = some (.iload_n 3, 0, 0, 0) := rfl
theorem r_173_144 : sm_ic 173 144 = some (.iand, 0, 0, 0) := rfl
theorem r_173_145 : sm_ic 173 145 = some (.ifCond .ne 52, 197, 0, 0) := rfl
theorem r_173_148 : sm_ic 173 148 = some (.iload 6, 0, 0, 0) := rfl
theorem r_173_150 : sm_ic 173 150 = some (.aload_n 0, 0, 0, 0) := rfl
theorem r_173_151 : sm_ic 173 151 = some (.getfield 34, 7, 9, 752) := rfl
theorem r_173_154 : sm_ic 173 154 = some (.iconst 0, 0, 0, 0) := rfl
theorem r_173_155 : sm_ic 173 155 = some (.iaload, 0, 0, 0) := rfl
theorem r_173_156 : sm_ic 173 156 = some (.if_icmp .gt 41, 197, 0, 0) := rfl
theorem r_173_159 : sm_ic 173 159 = some (.iload_n 1, 0, 0, 0) := rfl
theorem r_173_160 : sm_ic 173 160 = some (.ifCond .ne 9, 169, 0, 0) := rfl
theorem r_173_163 : sm_ic 173 163 = some (.iload 6, 0, 0, 0) := rfl
theorem r_173_165 : sm_ic 173 165 = some (.iload_n 2, 0, 0, 0) := rfl
theorem r_173_166 : sm_ic 173 166 = some (.if_icmp .gt 31, 197, 0, 0) := rfl
theorem r_173_169 : sm_ic 173 169 = some (.aload_n 0, 0, 0, 0) := rfl
theorem r_173_170 : sm_ic 173 170 = some (.iload 6, 0, 0, 0) := rfl
theorem r_173_172 : sm_ic 173 172 = some (.invokevirtual 161, 160, 2, 927) := rfl
theorem r_173_175 : sm_ic 173 175 = some (.ifCond .eq 22, 197, 0, 0) := rfl
theorem r_173_178 : sm_ic 173 178 = some (.aload_n 0, 0, 0, 0) := rfl
theorem r_173_179 : sm_ic 173 179 = some (.iload 5, 0, 0, 0) := rfl
theorem r_173_181 : sm_ic 173 181 = some (.invokevirtual 170, 162, 2, 935) := rfl
theorem r_173_184 : sm_ic 173 184 = some (.aload_n 0, 0, 0, 0) := rfl
theorem r_173_185 : sm_ic 173 185 = some (.getfield 34, 7, 9, 752) := rfl
theorem r_173_188 : sm_ic 173 188 = some (.iconst 1, 0, 0, 0) := rfl
theorem r_173_189 : sm_ic 173 189 = some (.iaload, 0, 0, 0) := rfl
theorem r_173_190 : sm_ic 173 190 = some (.if_icmp .lt 7, 197, 0, 0) := rfl
theorem r_173_193 : sm_ic 173 193 = some (.iconst 1, 0, 0, 0) := rfl
theorem r_173_194 : sm_ic 173 194 = some (.goto 4, 198, 0, 0) := rfl
theorem r_173_197 : sm_ic 173 197 = some (.iconst 0, 0, 0, 0) := rfl
theorem r_173_198 : sm_ic 173 198 = some (.istore 7, 0, 0, 0) := rfl
theorem r_173_200 : sm_ic 173 200 = some (.iload 7, 0, 0, 0) := rfl
theorem r_173_202 : sm_ic 173 202 = some (.ifCond .eq 23, 225, 0, 0) := rfl
theorem r_173_205 : sm_ic 173 205 = some (.iload 4, 0, 0, 0) := rfl
theorem r_173_207 : sm_ic 173 207 = some (.ifCond .lt 13, 220, 0, 0) := rfl
theorem r_173_210 : sm_ic 173 210 = some (.iload 6, 0, 0, 0) := rfl
theorem r_173_212 : sm_ic 173 212 = some (.iload 4, 0, 0, 0) := rfl
theorem r_173_214 : sm_ic 173 214 = some (.invokestatic 158, 159, 1, 924) := rfl
theorem r_173_217 : sm_ic 173 217 = some (.if_icmp .ge 8, 225, 0, 0) := rfl
theorem r_173_220 : sm_ic 173 220 = some (.iload 5, 0, 0, 0) := rfl
theorem r_173_222 : sm_ic 173 222 = some (.goto 5, 227, 0, 0) := rfl
theorem r_173_225 : sm_ic 173 225 = some (.iload 4, 0, 0, 0) := rfl
theorem r_173_227 : sm_ic 173 227 = some (.istore 4, 0, 0, 0) := rfl
theorem r_173_229 : sm_ic 173 229 = some (.iinc 5 1, 0, 0, 0) := rfl
theorem r_173_232 : sm_ic 173 232 = some (.goto (-111), 121, 0, 0) := rfl
theorem r_173_235 : sm_ic 173 235 = some (.iload 4, 0, 0, 0) := rfl
theorem r_173_237 : sm_ic 173 237 = some (.ireturn, 0, 0, 0) := rfl
theorem r_174_0 : sm_ic 174 0 = some (.iload_n 1, 0, 0, 0) := rfl
theorem r_174_1 : sm_ic 174 1 = some (.invokestatic 164, 148, 1, 883) := rfl
theorem r_174_4 : sm_ic 174 4 = some (.ifCond .ne 5, 9, 0, 0) := rfl
theorem r_174_7 : sm_ic 174 7 = some (.iconst (-1), 0, 0, 0) := rfl
theorem r_174_8 : sm_ic 174 8 = some (.ireturn, 0, 0, 0) := rfl
theorem r_174_9 : sm_ic 174 9 = some (.aload_n 0, 0, 0, 0) := rfl
theorem r_174_10 : sm_ic 174 10 = some (.getfield 34, 7, 9, 752) := rfl
theorem r_174_13 : sm_ic 174 13 = some (.iconst 0, 0, 0, 0) := rfl
theorem r_174_14 : sm_ic 174 14 = some (.iaload, 0, 0, 0) := rfl
theorem r_174_15 : sm_ic 174 15 = some (.istore_n 2, 0, 0, 0) := rfl
theorem r_174_16 : sm_ic 174 16 = some (.bipush (-4), 0, 0, 0) := rfl
theorem r_174_18 : sm_ic 174 18 = some (.istore_n 3, 0, 0, 0) := rfl
theorem r_174_19 : sm_ic 174 19 = some (.iconst 0, 0, 0, 0) := rfl
theorem r_174_20 : sm_ic 174 20 = some (.istore 4, 0, 0, 0) := rfl
theorem r_174_22 : sm_ic 174 22 = some (.iload 4, 0, 0, 0) := rfl
theorem r_174_24 : sm_ic 174 24 = some (.bipush 10, 0, 0, 0) := rfl
theorem r_174_26 : sm_ic 174 26 = some (.if_icmp .ge 37, 63, 0, 0) := rfl
theorem r_174_29 : sm_ic 174 29 = some (.iload_n 3, 0, 0, 0) := rfl
theorem r_174_30 : sm_ic 174 30 = some (.ifCond .ge 33, 63, 0, 0) := rfl
theorem r_174_33 : sm_ic 174 33 = some (.aload_n 0, 0, 0, 0) := rfl
theorem r_174_34 : sm_ic 174 34 = some (.getfield 34, 7, 9, 752) := rfl
theorem r_174_37 : sm_ic 174 37 = some (.iconst 0, 0, 0, 0) := rfl
theorem r_174_38 : sm_ic 174 38 = some (.iload 4, 0, 0, 0) := rfl
theorem r_174_40 : sm_ic 174 40 = some (.iastore, 0, 0, 0) := rfl
theorem r_174_41 : sm_ic 174 41 = some (.aload_n 0, 0, 0, 0) := rfl
theorem r_174_42 : sm_ic 174 42 = some (.iload_n 1, 0, 0, 0) := rfl
theorem r_174_43 : sm_ic 174 43 = some (.invokevirtual 167, 158, 2, 920) := rfl
theorem r_174_46 : sm_ic 174 46 = some (.ifCond .eq 8, 54, 0, 0) := rfl
theorem r_174_49 : sm_ic 174 49 = some (.iload 4, 0, 0, 0) := rfl
theorem r_174_51 : sm_ic 174 51 = some (.goto 5, 56, 0, 0) := rfl
theorem r_174_54 : sm_ic 174 54 = some (.bipush (-4), 0, 0, 0) := rfl
theorem r_174_56 : sm_ic 174 56 = some (.istore_n 3, 0, 0, 0) := rfl
theorem r_174_57 : sm_ic 174 57 = some (.iinc 4 1, 0, 0, 0) := rfl
theorem r_174_60 : sm_ic 174 60 = some (.goto (-38), 22, 0, 0) := rfl
theorem r_174_63 : sm_ic 174 63 = some (.aload_n 0, 0, 0, 0) := rfl
theorem r_174_64 : sm_ic 174 64 = some (.getfield 34, 7, 9, 752) := rfl
theorem r_174_67 : sm_ic 174 67 = some (.iconst 0, 0, 0, 0) := rfl
theorem r_174_68 : sm_ic 174 68 = some (.iload_n 2, 0, 0, 0) := rfl
theorem r_174_69 : sm_ic 174 69 = some (.iastore, 0, 0, 0) := rfl
theorem r_174_70 : sm_ic 174 70 = some (.iload_n 3, 0, 0, 0) := rfl
theorem r_174_71 : sm_ic 174 71 = some (.ireturn, 0, 0, 0) := rfl
theorem r_175_0 : sm_ic 175 0 = some (.iload_n 1, 0, 0, 0) := rfl
theorem r_175_1 : sm_ic 175 1 = some (.invokestatic 164, 148, 1, 883) := rfl
theorem r_175_4 : sm_ic 175 4 = some (.ifCond .eq 13, 17, 0, 0) := rfl
theorem r_175_7 : sm_ic 175 7 = some (.iload_n 2, 0, 0, 0) := rfl
theorem r_175_8 : sm_ic 175 8 = some (.i2l, 0, 0, 0) := rfl
theorem r_175_9 : sm_ic 175 9 = some (.lconst 0, 0, 0, 0) := rfl
theorem r_175_10 : sm_ic 175 10 = some (.lconst 1, 0, 0, 0) := rfl
theorem r_175_11 : sm_ic 175 11 = some (.invokestatic 79, 133, 3, 819) := rfl
theorem r_175_14 : sm_ic 175 14 = some (.ifCond .ne 5, 19, 0, 0) := rfl
theorem r_175_17 : sm_ic 175 17 = some (.iconst (-1), 0, 0, 0) := rfl
theorem r_175_18 : sm_ic 175 18 = some (.ireturn, 0, 0, 0) := rfl
theorem r_175_19 : sm_ic 175 19 = some (.bipush (-4), 0, 0, 0) := rfl
theorem r_175_21 : sm_ic 175 21 = some (.istore_n 3, 0, 0, 0) := rfl
theorem r_175_22 : sm_ic 175 22 = some (.bipush (-4), 0, 0, 0) := rfl
theorem r_175_24 : sm_ic 175 24 = some (.istore 4, 0, 0, 0) := rfl
theorem r_175_26 : sm_ic 175 26 = some (.iconst 0, 0, 0, 0) := rfl
theorem r_175_27 : sm_ic 175 27 = some (.istore 5, 0, 0, 0) := rfl
theorem r_175_29 : sm_ic 175 29 = some (.iload 5, 0, 0, 0) := rfl
theorem r_175_31 : sm_ic 175 31 = some (.aload_n 0, 0, 0, 0) := rfl
theorem r_175_32 : sm_ic 175 32 = some (.getfield 28, 7, 7, 750) := rfl
theorem r_175_35 : sm_ic 175 35 = some (.iconst 0, 0, 0, 0) := rfl
theorem r_175_36 : sm_ic 175 36 = some (.iaload, 0, 0, 0) := rfl
theorem r_175_37 : sm_ic 175 37 = some (.if_icmp .ge 85, 122, 0, 0) := rfl
theorem r_175_40 : sm_ic 175 40 = some (.aload_n 0, 0, 0, 0) := rfl
theorem r_175_41 : sm_ic 175 41 = some (.getfield 37, 7, 10, 753) := rfl
theorem r_175_44 : sm_ic 175 44 = some (.bipush 16, 0, 0, 0) := rfl
theorem r_175_46 : sm_ic 175 46 = some (.iload 5, 0, 0, 0) := rfl
theorem r_175_48 : sm_ic 175 48 = some (.iadd, 0, 0, 0) := rfl
theorem r_175_49 : sm_ic 175 49 = some (.iaload, 0, 0, 0) := rfl
theorem r_175_50 : sm_ic 175 50 = some (.iconst 1, 0, 0, 0) := rfl
theorem r_175_51 : sm_ic 175 51 = some (.if_icmp .ne 65, 116, 0, 0) := rfl
theorem r_175_54 : sm_ic 175 54 = some (.aload_n 0, 0, 0, 0) := rfl
theorem r_175_55 : sm_ic 175 55 = some (.getfield 37, 7, 10, 753) := rfl
theorem r_175_58 : sm_ic 175 58 = some (.bipush 16, 0, 0, 0) := rfl
theorem r_175_60 : sm_ic 175 60 = some (.iload 5, 0, 0, 0) := rfl
theorem r_175_62 : sm_ic 175 62 = some (.iadd, 0, 0, 0) := rfl
theorem r_175_63 : sm_ic 175 63 = some (.iconst 0, 0, 0, 0) := rfl
theorem r_175_64 : sm_ic 175 64 = some (.iastore, 0, 0, 0) := rfl
theorem r_175_65 : sm_ic 175 65 = some (.aload_n 0, 0, 0, 0) := rfl
theorem r_175_66 : sm_ic 175 66 = some (.iload_n 1, 0, 0, 0) := rfl
theorem r_175_67 : sm_ic 175 67 = some (.invokevirtual 155, 153, 2, 901) := rfl
theorem r_175_70 : sm_ic 175 70 = some (.invokestatic 158, 159, 1, 924) := rfl
theorem r_175_73 : sm_ic 175 73 = some (.istore 6, 0, 0, 0) := rfl
theorem r_175_75 : sm_ic 175 75 = some (.aload_n 0, 0, 0, 0) := rfl
theorem r_175_76 : sm_ic 175 76 = some (.getfield 37, 7, 10, 753) := rfl
theorem r_175_79 : sm_ic 175 79 = some (.bipush 16, 0, 0, 0) := rfl
theorem r_175_81 : sm_ic 175 81 = some (.iload 5, 0, 0, 0) := rfl
theorem r_175_83 : sm_ic 175 83 = some (.iadd, 0, 0, 0) := rfl
theorem r_175_84 : sm_ic 175 84 = some (.iconst 1, 0, 0, 0) := rfl
theorem r_175_85 : sm_ic 175 85 = some (.iastore, 0, 0, 0) := rfl
theorem r_175_86 : sm_ic 175 86 = some (.iload 6, 0, 0, 0) := rfl
theorem r_175_88 : sm_ic 175 88 = some (.iload 4, 0, 0, 0) := rfl
theorem r_175_90 : sm_ic 175 90 = some (.if_icmp .le 8, 98, 0, 0) := rfl
theorem r_175_93 : sm_ic 175 93 = some (.iload 5, 0, 0, 0) := rfl
theorem r_175_95 : sm_ic 175 95 = some (.goto 4, 99, 0, 0) := rfl
theorem r_175_98 : sm_ic 175 98 = some (.iload_n 3, 0, 0, 0) := rfl
theorem r_175_99 : sm_ic 175 99 = some (.istore_n 3, 0, 0, 0) := rfl
theorem r_175_100 : sm_ic 175 100 = some (.iload 6, 0, 0, 0) := rfl
theorem r_175_102 : sm_ic 175 102 = some (.iload 4, 0, 0, 0) := rfl
theorem r_175_104 : sm_ic 175 104 = some (.if_icmp .le 8, 112, 0, 0) := rfl
theorem r_175_107 : sm_ic 175 107 = some (.iload 6, 0, 0, 0) := rfl
theorem r_175_109 : sm_ic 175 109 = some (.goto 5, 114, 0, 0) := rfl
theorem r_175_112 : sm_ic 175 112 = some (.iload 4, 0, 0, 0) := rfl
theorem r_175_114 : sm_ic 175 114 = some (.istore 4, 0, 0, 0) := rfl
theorem r_175_116 : sm_ic 175 116 = some (.iinc 5 1, 0, 0, 0) := rfl
theorem r_175_119 : sm_ic 175 119 = some (.goto (-90), 29, 0, 0) := rfl
theorem r_175_122 : sm_ic 175 122 = some (.iload_n 2, 0, 0, 0) := rfl
theorem r_175_123 : sm_ic 175 123 = some (.ifCond .ne 7, 130, 0, 0) := rfl
theorem r_175_126 : sm_ic 175 126 = some (.iload_n 3, 0, 0, 0) := rfl
theorem r_175_127 : sm_ic 175 127 = some (.goto 5, 132, 0, 0) := rfl
theorem r_175_130 : sm_ic 175 130 = some (.iload 4, 0, 0, 0) := rfl
theorem r_175_132 : sm_ic 175 132 = some (.ireturn, 0, 0, 0) := rfl
theorem r_176_0 : sm_ic 176 0 = some (.iload_n 1, 0, 0, 0) := rfl
theorem r_176_1 : sm_ic 176 1 = some (.invokestatic 164, 148, 1, 883) := rfl
theorem r_176_4 : sm_ic 176 4 = some (.ifCond .ne 5, 9, 0, 0) := rfl
theorem r_176_7 : sm_ic 176 7 = some (.iconst (-1), 0, 0, 0) := rfl
theorem r_176_8 : sm_ic 176 8 = some (.ireturn, 0, 0, 0) := rfl
theorem r_176_9 : sm_ic 176 9 = some (.aload_n 0, 0, 0, 0) := rfl
theorem r_176_10 : sm_ic 176 10 = some (.iconst 0, 0, 0, 0) := rfl
theorem r_176_11 : sm_ic 176 11 = some (.iconst 0, 0, 0, 0) := rfl
theorem r_176_12 : sm_ic 176 12 = some (.invokevirtual 145, 149, 3, 886) := rfl
theorem r_176_15 : sm_ic 176 15 = some (.istore_n 2, 0, 0, 0) := rfl
theorem r_176_16 : sm_ic 176 16 = some (.aload_n 0, 0, 0, 0) := rfl
theorem r_176_17 : sm_ic 176 17 = some (.iconst 1, 0, 0, 0) := rfl
theorem r_176_18 : sm_ic 176 18 = some (.iconst 0, 0, 0, 0) := rfl
theorem r_176_19 : sm_ic 176 19 = some (.invokevirtual 145, 149, 3, 886) := rfl
theorem r_176_22 : sm_ic 176 22 = some (.iload_n 2, 0, 0, 0) := rfl
theorem r_176_23 : sm_ic 176 23 = some (.iconst (-1), 0, 0, 0) := rfl
theorem r_176_24 : sm_ic 176 24 = some (.ixor, 0, 0, 0) := rfl
theorem r_176_25 : sm_ic 176 25 = some (.iand, 0, 0, 0) := rfl
theorem r_176_26 : sm_ic 176 26 = some (.istore_n 3, 0, 0, 0) := rfl
theorem r_176_27 : sm_ic 176 27 = some (.aload_n 0, 0, 0, 0) := rfl
theorem r_176_28 : sm_ic 176 28 = some (.iload_n 2, 0, 0, 0) := rfl
theorem r_176_29 : sm_ic 176 29 = some (.iconst 0, 0, 0, 0) := rfl
theorem r_176_30 : sm_ic 176 30 = some (.invokevirtual 149, 154, 3, 905) := rfl
theorem r_176_33 : sm_ic 176 33 = some (.aload_n 0, 0, 0, 0) := rfl
theorem r_176_34 : sm_ic 176 34 = some (.getfield 34, 7, 9, 752) := rfl
theorem r_176_37 : sm_ic 176 37 = some (.iconst 0, 0, 0, 0) := rfl
theorem r_176_38 : sm_ic 176 38 = some (.iaload, 0, 0, 0) := rfl
theorem r_176_39 : sm_ic 176 39 = some (.invokestatic 152, 155, 2, 909) := rfl
theorem r_176_42 : sm_ic 176 42 = some (.invokestatic 158, 159, 1, 924) := rfl
theorem r_176_45 : sm_ic 176 45 = some (.istore 4, 0, 0, 0) := rfl
theorem r_176_47 : sm_ic 176 47 = some (.aload_n 0, 0, 0, 0) := rfl
theorem r_176_48 : sm_ic 176 48 = some (.iload_n 3, 0, 0, 0) := rfl
theorem r_176_49 : sm_ic 176 49 = some (.iconst 1, 0, 0, 0) := rfl
theorem r_176_50 : sm_ic 176 50 = some (.invokevirtual 149, 154, 3, 905) := rfl
theorem r_176_53 : sm_ic 176 53 = some (.aload_n 0, 0, 0, 0) := rfl
theorem r_176_54 : sm_ic 176 54 = some (.getfield 34, 7, 9, 752) := rfl
theorem r_176_57 : sm_ic 176 57 = some (.iconst 0, 0, 0, 0) := rfl
theorem r_176_58 : sm_ic 176 58 = some (.iaload, 0, 0, 0) := rfl
theorem r_176_59 : sm_ic 176 59 = some (.iload 4, 0, 0, 0) := rfl
theorem r_176_61 : sm_ic 176 61 = some (.isub, 0, 0, 0) := rfl
theorem r_176_62 : sm_ic 176 62 = some (.invokestatic 152, 155, 2, 909) := rfl
theorem r_176_65 : sm_ic 176 65 = some (.invokestatic 158, 159, 1, 924) := rfl
theorem r_176_68 : sm_ic 176 68 = some (.istore 5, 0, 0, 0) := rfl
theorem r_176_70 : sm_ic 176 70 = some (.iload_n 1, 0, 0, 0) := rfl
theorem r_176_71 : sm_ic 176 71 = some (.ifCond .ne 8, 79, 0, 0) := rfl
theorem r_176_74 : sm_ic 176 74 = some (.iload 4, 0, 0, 0) := rfl
theorem r_176_76 : sm_ic 176 76 = some (.goto 5, 81, 0, 0) := rfl
theorem r_176_79 : sm_ic 176 79 = some (.iload 5, 0, 0, 0) := rfl
theorem r_176_81 : sm_ic 176 81 = some (.ireturn, 0, 0, 0) := rfl
theorem r_177_0 : sm_ic 177 0 = some (.iload_n 1, 0, 0, 0) := rfl
theorem r_177_1 : sm_ic 177 1 = some (.invokestatic 164, 148, 1, 883) := rfl
theorem r_177_4 : sm_ic 177 4 = some (.ifCond .eq 15, 19, 0, 0) := rfl
theorem r_177_7 : sm_ic 177 7 = some (.iload_n 2, 0, 0, 0) := rfl
theorem r_177_8 : sm_ic 177 8 = some (.i2l, 0, 0, 0) := rfl
theorem r_177_9 : sm_ic 177 9 = some (.lconst 0, 0, 0, 0) := rfl
theorem r_177_10 : sm_ic 177 10 = some (.ldc2_w 108, 8, 0, 853) := rfl
theorem r_177_13 : sm_ic 177 13 = some (.invokestatic 79, 133, 3, 819) := rfl
theorem r_177_16 : sm_ic 177 16 = some (.ifCond .ne 5, 21, 0, 0) := rfl
theorem r_177_19 : sm_ic 177 19 = some (.iconst (-1), 0, 0, 0) := rfl
theorem r_177_20 : sm_ic 177 20 = some (.ireturn, 0, 0, 0) := rfl
theorem r_177_21 : sm_ic 177 21 = some (.aload_n 0, 0, 0, 0) := rfl
theorem r_177_22 : sm_ic 177 22 = some (.getfield 127, 7, 15, 758) := rfl
theorem r_177_25 : sm_ic 177 25 = some (.bipush 8, 0, 0, 0) := rfl
theorem r_177_27 : sm_ic 177 27 = some (.if_icmp .ne 6, 33, 0, 0) := rfl
theorem r_177_30 : sm_ic 177 30 = some (.bipush (-3), 0, 0, 0) := rfl
theorem r_177_32 : sm_ic 177 32 = some (.ireturn, 0, 0, 0) := rfl
theorem r_177_33 : sm_ic 177 33 = some (.aload_n 0, 0, 0, 0) := rfl
theorem r_177_34 : sm_ic 177 34 = some (.getfield 46, 7, 16, 759) := rfl
theorem r_177_37 : sm_ic 177 37 = some (.aload_n 0, 0, 0, 0) := rfl
theorem r_177_38 : sm_ic 177 38 = some (.getfield 127, 7, 15, 758) := rfl
theorem r_177_41 : sm_ic 177 41 = some (.iload_n 1, 0, 0, 0) := rfl
theorem r_177_42 : sm_ic 177 42 = some (.iastore, 0, 0, 0) := rfl
theorem r_177_43 : sm_ic 177 43 = some (.aload_n 0, 0, 0, 0) := rfl
theorem r_177_44 : sm_ic 177 44 = some (.getfield 49, 7, 17, 760) := rfl
theorem r_177_47 : sm_ic 177 47 = some (.aload_n 0, 0, 0, 0) := rfl
theorem r_177_48 : sm_ic 177 48 = some (.getfield 127, 7, 15, 758) := rfl
theorem r_177_51 : sm_ic 177 51 = some (.iload_n 2, 0, 0, 0) := rfl
theorem r_177_52 : sm_ic 177 52 = some (.iastore, 0, 0, 0) := rfl
theorem r_177_53 : sm_ic 177 53 = some (.aload_n 0, 0, 0, 0) := rfl
theorem r_177_54 : sm_ic 177 54 = some (.dup, 0, 0, 0) := rfl
theorem r_177_55 : sm_ic 177 55 = some (.getfield 127, 7, 15, 758) := rfl
theorem r_177_58 : sm_ic 177 58 = some (.iconst 1, 0, 0, 0) := rfl
theorem r_177_59 : sm_ic 177 59 = some (.iadd, 0, 0, 0) := rfl
theorem r_177_60 : sm_ic 177 60 = some (.putfield 127, 7, 15, 758) := rfl
theorem r_177_63 : sm_ic 177 63 = some (.aload_n 0, 0, 0, 0) := rfl
theorem r_177_64 : sm_ic 177 64 = some (.getfield 127, 7, 15, 758) := rfl
theorem r_177_67 : sm_ic 177 67 = some (.ireturn, 0, 0, 0) := rfl
theorem r_178_0 : sm_ic 178 0 = some (.aload_n 0, 0, 0, 0) := rfl
theorem r_178_1 : sm_ic 178 1 = some (.getfield 127, 7, 15, 758) := rfl
theorem r_178_4 : sm_ic 178 4 = some (.istore_n 1, 0, 0, 0) := rfl
theorem r_178_5 : sm_ic 178 5 = some (.aload_n 0, 0, 0, 0) := rfl
theorem r_178_6 : sm_ic 178 6 = some (.iconst 0, 0, 0, 0) := rfl
theorem r_178_7 : sm_ic 178 7 = some (.putfield 127, 7, 15, 758) := rfl
theorem r_178_10 : sm_ic 178 10 = some (.iload_n 1, 0, 0, 0) := rfl
theorem r_178_11 : sm_ic 178 11 = some (.ireturn, 0, 0, 0) := rfl
theorem r_179_0 : sm_ic 179 0 = some (.iload_n 1, 0, 0, 0) := rfl
theorem r_179_1 : sm_ic 179 1 = some (.i2l, 0, 0, 0) := rfl
theorem r_179_2 : sm_ic 179 2 = some (.lconst 0, 0, 0, 0) := rfl
theorem r_179_3 : sm_ic 179 3 = some (.lconst 1, 0, 0, 0) := rfl
theorem r_179_4 : sm_ic 179 4 = some (.invokestatic 79, 133, 3, 819) := rfl
theorem r_179_7 : sm_ic 179 7 = some (.ifCond .ne 5, 12, 0, 0) := rfl
theorem r_179_10 : sm_ic 179 10 = some (.iconst (-1), 0, 0, 0) := rfl
theorem r_179_11 : sm_ic 179 11 = some (.ireturn, 0, 0, 0) := rfl
theorem r_179_12 : sm_ic 179 12 = some (.iconst 0, 0, 0, 0) := rfl
theorem r_179_13 : sm_ic 179 13 = some (.istore_n 2, 0, 0, 0) := rfl
theorem r_179_14 : sm_ic 179 14 = some (.iload_n 2, 0, 0, 0) := rfl
theorem r_179_15 : sm_ic 179 15 = some (.iconst 5, 0, 0, 0) := rfl
theorem r_179_16 : sm_ic 179 16 = some (.if_icmp .ge 24, 40, 0, 0) := rfl
theorem r_179_19 : sm_ic 179 19 = some (.aload_n 0, 0, 0, 0) := rfl
theorem r_179_20 : sm_ic 179 20 = some (.getfield 61, 7, 22, 765) := rfl
theorem r_179_23 : sm_ic 179 23 = some (.iload_n 2, 0, 0, 0) := rfl
theorem r_179_24 : sm_ic 179 24 = some (.aload_n 0, 0, 0, 0) := rfl
theorem r_179_25 : sm_ic 179 25 = some (.getfield 37, 7, 10, 753) := rfl
theorem r_179_28 : sm_ic 179 28 = some (.bipush 16, 0, 0, 0) := rfl
theorem r_179_30 : sm_ic 179 30 = some (.iload_n 2, 0, 0, 0) := rfl
theorem r_179_31 : sm_ic 179 31 = some (.iadd, 0, 0, 0) := rfl
theorem r_179_32 : sm_ic 179 32 = some (.iaload, 0, 0, 0) := rfl
theorem r_179_33 : sm_ic 179 33 = some (.iastore, 0, 0, 0) := rfl
theorem r_179_34 : sm_ic 179 34 = some (.iinc 2 1, 0, 0, 0) := rfl
theorem r_179_37 : sm_ic 179 37 = some (.goto (-23), 14, 0, 0) := rfl
theorem r_179_40 : sm_ic 179 40 = some (.iconst 0, 0, 0, 0) := rfl
theorem r_179_41 : sm_ic 179 41 = some (.istore_n 2, 0, 0, 0) := rfl
theorem r_179_42 : sm_ic 179 42 = some (.bipush (-4), 0, 0, 0) := rfl
theorem r_179_44 : sm_ic 179 44 = some (.istore_n 3, 0, 0, 0) := rfl
theorem r_179_45 : sm_ic 179 45 = some (.iconst 0, 0, 0, 0) := rfl
theorem r_179_46 : sm_ic 179 46 = some (.istore 4, 0, 0, 0) := rfl
theorem r_179_48 : sm_ic 179 48 = some (.iload 4, 0, 0, 0) := rfl
theorem r_179_50 : sm_ic 179 50 = some (.iconst 1, 0, 0, 0) := rfl
theorem r_179_51 : sm_ic 179 51 = some (.aload_n 0, 0, 0, 0) := rfl
theorem r_179_52 : sm_ic 179 52 = some (.getfield 28, 7, 7, 750) := rfl
theorem r_179_55 : sm_ic 179 55 = some (.iconst 0, 0, 0, 0) := rfl
theorem r_179_56 : sm_ic 179 56 = some (.iaload, 0, 0, 0) := rfl
theorem r_179_57 : sm_ic 179 57 = some (.ishl, 0, 0, 0) := rfl
theorem r_179_58 : sm_ic 179 58 = some (.if_icmp .ge 132, 190, 0, 0) := rfl
theorem r_179_61 : sm_ic 179 61 = some (.iconst 0, 0, 0, 0) := rfl
theorem r_179_62 : sm_ic 179 62 = some (.istore 5, 0, 0, 0) := rfl
theorem r_179_64 : sm_ic 179 64 = some (.iload 5, 0, 0, 0) := rfl
theorem r_179_66 : sm_ic 179 66 = some (.aload_n 0, 0, 0, 0) := rfl
theorem r_179_67 : sm_ic 179 67 = some (.getfield 28, 7, 7, 750) := rfl
theorem r_179_70 : sm_ic 179 70 = some (.iconst 0, 0, 0, 0) := rfl
theorem r_179_71 : sm_ic 179 71 = some (.iaload, 0, 0, 0) := rfl
theorem r_179_72 : sm_ic 179 72 = some (.if_icmp .ge 26, 98, 0, 0) := rfl
theorem r_179_75 : sm_ic 179 75 = some (.aload_n 0, 0, 0, 0) := rfl
theorem r_179_76 : sm_ic 179 76 = some (.getfield 37, 7, 10, 753) := rfl
theorem r_179_79 : sm_ic 179 79 = some (.bipush 16, 0, 0, 0) := rfl
theorem r_179_81 : sm_ic 179 81 = some (.iload 5, 0, 0, 0) := rfl
theorem r_179_83 : sm_ic 179 83 = some (.iadd, 0, 0, 0) := rfl
theorem r_179_84 : sm_ic 179 84 = some (.iload 4, 0, 0, 0) := rfl
theorem r_179_86 : sm_ic 179 86 = some (.iload 5, 0, 0, 0) := rfl
theorem r_179_88 : sm_ic 179 88 = some (.ishr, 0, 0, 0) := rfl
theorem r_179_89 : sm_ic 179 89 = some (.iconst 1, 0, 0, 0) := rfl
theorem r_179_90 : sm_ic 179 90 = some (.iand, 0, 0, 0) := rfl
theorem r_179_91 : sm_ic 179 91 = some (.iastore, 0, 0, 0) := rfl
theorem r_179_92 : sm_ic 179 92 = some (.iinc 5 1, 0, 0, 0) := rfl
theorem r_179_95 : sm_ic 179 95 = some (.goto (-31), 64, 0, 0) := rfl
theorem r_179_98 : sm_ic 179 98 = some (.iconst 1, 0, 0, 0) := rfl
theorem r_179_99 : sm_ic 179 99 = some (.istore 5, 0, 0, 0) := rfl
theorem r_179_101 : sm_ic 179 101 = some (.iconst 0, 0, 0, 0) := rfl
theorem r_179_102 : sm_ic 179 102 = some (.istore 6, 0, 0, 0) := rfl
theorem r_179_104 : sm_ic 179 104 = some (.iload 6, 0, 0, 0) := rfl
theorem r_179_106 : sm_ic 179 106 = some (.aload_n 0, 0, 0, 0) := rfl
theorem r_179_107 : sm_ic 179 107 = some (.getfield 127, 7, 15, 758) := rfl
theorem r_179_110 : sm_ic 179 110 = some (.if_icmp .ge 45, 155, 0, 0) := rfl
theorem r_179_113 : sm_ic 179 113 = some (.iload 5, 0, 0, 0) := rfl
theorem r_179_115 : sm_ic 179 115 = some (.ifCond .eq 31, 146, 0, 0) := rfl
theorem r_179_118 : sm_ic 179 118 = some (.aload_n 0, 0, 0, 0) := rfl
theorem r_179_119 : sm_ic 179 119 = some (.aload_n 0, 0, 0, 0) := rfl
theorem r_179_120 : sm_ic 179 120 = some (.getfield 46, 7, 16, 759) := rfl
theorem r_179_123 : sm_ic 179 123 = some (.iload 6, 0, 0, 0) := rfl
theorem r_179_125 : sm_ic 179 125 = some (.iaload, 0, 0, 0) := rfl
theorem r_179_126 : sm_ic 179 126 = some (.invokevirtual 155, 153, 2, 901) := rfl
theorem r_179_129 : sm_ic 179 129 = some (.invokestatic 158, 159, 1, 924) := rfl
theorem r_179_132 : sm_ic 179 132 = some (.aload_n 0, 0, 0, 0) := rfl
theorem r_179_133 : sm_ic 179 133 = some (.getfield 49, 7, 17, 760) := rfl
theorem r_179_136 : sm_ic 179 136 = some (.iload 6, 0, 0, 0) := rfl
theorem r_179_138 : sm_ic 179 138 = some (.iaload, 0, 0, 0) := rfl
theorem r_179_139 : sm_ic 179 139 = some (.if_icmp .ne 7, 146, 0, 0) := rfl
theorem r_179_142 : sm_ic 179 142 = some (.iconst 1, 0, 0, 0) := rfl
theorem r_179_143 : sm_ic 179 143 = some (.goto 4, 147, 0, 0) := rfl
theorem r_179_146 : sm_ic 179 146 = some (.iconst 0, 0, 0, 0) := rfl
theorem r_179_147 : sm_ic 179 147 = some (.istore 5, 0, 0, 0) := rfl
theorem r_179_149 : sm_ic 179 149 = some (.iinc 6 1, 0, 0, 0) := rfl
theorem r_179_152 : sm_ic 179 152 = some (.goto (-48), 104, 0, 0) := rfl
theorem r_179_155 : sm_ic 179 155 = some (.iload 5, 0, 0, 0) := rfl
theorem r_179_157 : sm_ic 179 157 = some (.ifCond .eq 12, 169, 0, 0) := rfl
theorem r_179_160 : sm_ic 179 160 = some (.iload_n 2, 0, 0, 0) := rfl
theorem r_179_161 : sm_ic 179 161 = some (.ifCond .ne 8, 169, 0, 0) := rfl
theorem r_179_164 : sm_ic 179 164 = some (.iload 4, 0, 0, 0) := rfl
theorem r_179_166 : sm_ic 179 166 = some (.goto 4, 170, 0, 0) := rfl
theorem r_179_169 : sm_ic 179 169 = some (.iload_n 3, 0, 0, 0) := rfl
theorem r_179_170 : sm_ic 179 170 = some (.istore_n 3, 0, 0, 0) := rfl
theorem r_179_171 : sm_ic 179 171 = some (.iload_n 2, 0, 0, 0) := rfl
theorem r_179_172 : sm_ic 179 172 = some (.iload 5, 0, 0, 0) := rfl
theorem r_179_174 : sm_ic 179 174 = some (.ifCond .eq 7, 181, 0, 0) := rfl
theorem r_179_177 : sm_ic 179 177 = some (.iconst 1, 0, 0, 0) := rfl
theorem r_179_178 : sm_ic 179 178 = some (.goto 4, 182, 0, 0) := rfl
theorem r_179_181 : sm_ic 179 181 = some (.iconst 0, 0, 0, 0) := rfl
theorem r_179_182 : sm_ic 179 182 = some (.iadd, 0, 0, 0) := rfl
theorem r_179_183 : sm_ic 179 183 = some (.istore_n 2, 0, 0, 0) := rfl
theorem r_179_184 : sm_ic 179 184 = some (.iinc 4 1, 0, 0, 0) := rfl
theorem r_179_187 : sm_ic 179 187 = some (.goto (-139), 48, 0, 0) := rfl
theorem r_179_190 : sm_ic 179 190 = some (.iconst 0, 0, 0, 0) := rfl
theorem r_179_191 : sm_ic 179 191 = some (.istore 4, 0, 0, 0) := rfl
theorem r_179_193 : sm_ic 179 193 = some (.iload 4, 0, 0, 0) := rfl
theorem r_179_195 : sm_ic 179 195 = some (.iconst 5, 0, 0, 0) := rfl
theorem r_179_196 : sm_ic 179 196 = some (.if_icmp .ge 26, 222, 0, 0) := rfl
theorem r_179_199 : sm_ic 179 199 = some (.aload_n 0, 0, 0, 0) := rfl
theorem r_179_200 : sm_ic 179 200 = some (.getfield 37, 7, 10, 753) := rfl
theorem r_179_203 : sm_ic 179 203 = some (.bipush 16, 0, 0, 0) := rfl
theorem r_179_205 : sm_ic 179 205 = some (.iload 4, 0, 0, 0) := rfl
theorem r_179_207 : sm_ic 179 207 = some (.iadd, 0, 0, 0) := rfl
theorem r_179_208 : sm_ic 179 208 = some (.aload_n 0, 0, 0, 0) := rfl
theorem r_179_209 : sm_ic 179 209 = some (.getfield 61, 7, 22, 765) := rfl
theorem r_179_212 : sm_ic 179 212 = some (.iload 4, 0, 0, 0) := rfl
theorem r_179_214 : sm_ic 179 214 = some (.iaload, 0, 0, 0) := rfl
theorem r_179_215 : sm_ic 179 215 = some (.iastore, 0, 0, 0) := rfl
theorem r_179_216 : sm_ic 179 216 = some (.iinc 4 1, 0, 0, 0) := rfl
theorem r_179_219 : sm_ic 179 219 = some (.goto (-26), 193, 0, 0) := rfl
theorem r_179_222 : sm_ic 179 222 = some (.iload_n 1, 0, 0, 0) := rfl
theorem r_179_223 : sm_ic 179 223 = some (.ifCond .ne 7, 230, 0, 0) := rfl
theorem r_179_226 : sm_ic 179 226 = some (.iload_n 2, 0, 0, 0) := rfl
theorem r_179_227 : sm_ic 179 227 = some (.goto 4, 231, 0, 0) := rfl
theorem r_179_230 : sm_ic 179 230 = some (.iload_n 3, 0, 0, 0) := rfl
theorem r_179_231 : sm_ic 179 231 = some (.ireturn, 0, 0, 0) := rfl
theorem r_180_0 : sm_ic 180 0 = some (.iload_n 1, 0, 0, 0) := rfl
theorem r_180_1 : sm_ic 180 1 = some (.invokestatic 164, 148, 1, 883) := rfl
theorem r_180_4 : sm_ic 180 4 = some (.ifCond .eq 13, 17, 0, 0) := rfl
theorem r_180_7 : sm_ic 180 7 = some (.iload_n 2, 0, 0, 0) := rfl
theorem r_180_8 : sm_ic 180 8 = some (.i2l, 0, 0, 0) := rfl
theorem r_180_9 : sm_ic 180 9 = some (.lconst 0, 0, 0, 0) := rfl
theorem r_180_10 : sm_ic 180 10 = some (.lconst 1, 0, 0, 0) := rfl
theorem r_180_11 : sm_ic 180 11 = some (.invokestatic 79, 133, 3, 819) := rfl
theorem r_180_14 : sm_ic 180 14 = some (.ifCond .ne 5, 19, 0, 0) := rfl
theorem r_180_17 : sm_ic 180 17 = some (.iconst (-1), 0, 0, 0) := rfl
theorem r_180_18 : sm_ic 180 18 = some (.ireturn, 0, 0, 0) := rfl
theorem r_180_19 : sm_ic 180 19 = some (.iconst 0, 0, 0, 0) := rfl
theorem r_180_20 : sm_ic 180 20 = some (.istore_n 3, 0, 0, 0) := rfl
theorem r_180_21 : sm_ic 180 21 = some (.iconst 1, 0, 0, 0) := rfl
theorem r_180_22 : sm_ic 180 22 = some (.istore 4, 0, 0, 0) := rfl
theorem r_180_24 : sm_ic 180 24 = some (.iconst 0, 0, 0, 0) := rfl
theorem r_180_25 : sm_ic 180 25 = some (.istore 5, 0, 0, 0) := rfl
theorem r_180_27 : sm_ic 180 27 = some (.iload 5, 0, 0, 0) := rfl
theorem r_180_29 : sm_ic 180 29 = some (.aload_n 0, 0, 0, 0) := rfl
theorem r_180_30 : sm_ic 180 30 = some (.getfield 13, 7, 2, 745) := rfl
theorem r_180_33 : sm_ic 180 33 = some (.iconst 0, 0, 0, 0) := rfl
theorem r_180_34 : sm_ic 180 34 = some (.iaload, 0, 0, 0) := rfl
theorem r_180_35 : sm_ic 180 35 = some (.if_icmp .ge 45, 80, 0, 0) := rfl
theorem r_180_38 : sm_ic 180 38 = some (.aload_n 0, 0, 0, 0) := rfl
theorem r_180_39 : sm_ic 180 39 = some (.getfield 16, 7, 3, 746) := rfl
theorem r_180_42 : sm_ic 180 42 = some (.iload 5, 0, 0, 0) := rfl
theorem r_180_44 : sm_ic 180 44 = some (.iaload, 0, 0, 0) := rfl
theorem r_180_45 : sm_ic 180 45 = some (.iconst 1, 0, 0, 0) := rfl
theorem r_180_46 : sm_ic 180 46 = some (.if_icmp .ne 28, 74, 0, 0) := rfl
theorem r_180_49 : sm_ic 180 49 = some (.aload_n 0, 0, 0, 0) := rfl
theorem r_180_50 : sm_ic 180 50 = some (.iload_n 1, 0, 0, 0) := rfl
theorem r_180_51 : sm_ic 180 51 = some (.iload 5, 0, 0, 0) := rfl
theorem r_180_53 : sm_ic 180 53 = some (.iconst 0, 0, 0, 0) := rfl
theorem r_180_54 : sm_ic 180 54 = some (.invokevirtual 142, 150, 4, 890) := rfl
theorem r_180_57 : sm_ic 180 57 = some (.ifCond .eq 17, 74, 0, 0) := rfl
theorem r_180_60 : sm_ic 180 60 = some (.iload_n 3, 0, 0, 0) := rfl
theorem r_180_61 : sm_ic 180 61 = some (.iconst 1, 0, 0, 0) := rfl
theorem r_180_62 : sm_ic 180 62 = some (.iload 5, 0, 0, 0) := rfl
theorem r_180_64 : sm_ic 180 64 = some (.ishl, 0, 0, 0) := rfl
theorem r_180_65 : sm_ic 180 65 = some (.ior, 0, 0, 0) := rfl
theorem r_180_66 : sm_ic 180 66 = some (.istore_n 3, 0, 0, 0) := rfl
theorem r_180_67 : sm_ic 180 67 = some (.iload 4, 0, 0, 0) := rfl
theorem r_180_69 : sm_ic 180 69 = some (.bipush 10, 0, 0, 0) := rfl
theorem r_180_71 : sm_ic 180 71 = some (.imul, 0, 0, 0) := rfl
theorem r_180_72 : sm_ic 180 72 = some (.istore 4, 0, 0, 0) := rfl
theorem r_180_74 : sm_ic 180 74 = some (.iinc 5 1, 0, 0, 0) := rfl
theorem r_180_77 : sm_ic 180 77 = some (.goto (-50), 27, 0, 0) := rfl
theorem r_180_80 : sm_ic 180 80 = some (.iconst 0, 0, 0, 0) := rfl
theorem r_180_81 : sm_ic 180 81 = some (.istore 5, 0, 0, 0) := rfl
theorem r_180_83 : sm_ic 180 83 = some (.iconst 0, 0, 0, 0) := rfl
theorem r_180_84 : sm_ic 180 84 = some (.istore 6, 0, 0, 0) := rfl
theorem r_180_86 : sm_ic 180 86 = some (.iload 6, 0, 0, 0) := rfl
theorem r_180_88 : sm_ic 180 88 = some (.sipush 256, 0, 0, 0) := rfl
theorem r_180_91 : sm_ic 180 91 = some (.if_icmp .ge 129, 220, 0, 0) := rfl
theorem r_180_94 : sm_ic 180 94 = some (.iload 6, 0, 0, 0) := rfl
theorem r_180_96 : sm_ic 180 96 = some (.iload_n 3, 0, 0, 0) := rfl
theorem r_180_97 : sm_ic 180 97 = some (.iconst (-1), 0, 0, 0) := rfl
theorem r_180_98 : sm_ic 180 98 = some (.ixor, 0, 0, 0) := rfl
theorem r_180_99 : sm_ic 180 99 = some (.iand, 0, 0, 0) := rfl
theorem r_180_100 : sm_ic 180 100 = some (.ifCond .ne 114, 214, 0, 0) := rfl
theorem r_180_103 : sm_ic 180 103 = some (.iconst 1, 0, 0, 0) := rfl
theorem r_180_104 : sm_ic 180 104 = some (.istore 7, 0, 0, 0) := rfl
theorem r_180_106 : sm_ic 180 106 = some (.iconst 0, 0, 0, 0) := rfl
theorem r_180_107 : sm_ic 180 107 = some (.istore 8, 0, 0, 0) := rfl
theorem r_180_109 : sm_ic 180 109 = some (.iload 8, 0, 0, 0) := rfl
theorem r_180_111 : sm_ic 180 111 = some (.bipush 8, 0, 0, 0) := rfl
theorem r_180_113 : sm_ic 180 113 = some (.if_icmp .ge 55, 168, 0, 0) := rfl
theorem r_180_116 : sm_ic 180 116 = some (.iload 7, 0, 0, 0) := rfl
theorem r_180_118 : sm_ic 180 118 = some (.iload_n 3, 0, 0, 0) := rfl
theorem r_180_119 : sm_ic 180 119 = some (.iload 8, 0, 0, 0) := rfl
theorem r_180_121 : sm_ic 180 121 = some (.invokestatic 138, 151, 2, 894) := rfl
theorem r_180_124 : sm_ic 180 124 = some (.ifCond .ne 7, 131, 0, 0) := rfl
theorem r_180_127 : sm_ic 180 127 = some (.iconst 1, 0, 0, 0) := rfl
theorem r_180_128 : sm_ic 180 128 = some (.goto 31, 159, 0, 0) := rfl
theorem r_180_131 : sm_ic 180 131 = some (.iload 6, 0, 0, 0) := rfl
theorem r_180_133 : sm_ic 180 133 = some (.iload 8, 0, 0, 0) := rfl
theorem r_180_135 : sm_ic 180 135 = some (.invokestatic 138, 151, 2, 894) := rfl
theorem r_180_138 : sm_ic 180 138 = some (.ifCond .eq 12, 150, 0, 0) := rfl
theorem r_180_141 : sm_ic 180 141 = some (.aload_n 0, 0, 0, 0) := rfl
theorem r_180_142 : sm_ic 180 142 = some (.getfield 34, 7, 9, 752) := rfl
theorem r_180_145 : sm_ic 180 145 = some (.iconst 3, 0, 0, 0) := rfl
theorem r_180_146 : sm_ic 180 146 = some (.iaload, 0, 0, 0) := rfl
theorem r_180_147 : sm_ic 180 147 = some (.goto 12, 159, 0, 0) := rfl
theorem r_180_150 : sm_ic 180 150 = some (.bipush 10, 0, 0, 0) := rfl
theorem r_180_152 : sm_ic 180 152 = some (.aload_n 0, 0, 0, 0) := rfl
theorem r_180_153 : sm_ic 180 153 = some (.getfield 34, 7, 9, 752) := rfl
theorem r_180_156 : sm_ic 180 156 = some (.iconst 3, 0, 0, 0) := rfl
theorem r_180_157 : sm_ic 180 157 = some (.iaload, 0, 0, 0) := rfl
theorem r_180_158 : sm_ic 180 158 = some (.isub, 0, 0, 0) := rfl
theorem r_180_159 : sm_ic 180 159 = some (.imul, 0, 0, 0) := rfl
theorem r_180_160 : sm_ic 180 160 = some (.istore 7, 0, 0, 0) := rfl
theorem r_180_162 : sm_ic 180 162 = some (.iinc 8 1, 0, 0, 0) := rfl
theorem r_180_165 : sm_ic 180 165 = some (.goto (-56), 109, 0, 0) := rfl
theorem r_180_168 : sm_ic 180 168 = some (.aload_n 0, 0, 0, 0) := rfl
theorem r_180_169 : sm_ic 180 169 = some (.aload_n 0, 0, 0, 0) := rfl
theorem r_180_170 : sm_ic 180 170 = some (.iload_n 1, 0, 0, 0) := rfl
theorem r_180_171 : sm_ic 180 171 = some (.iload 6, 0, 0, 0) := rfl
theorem r_180_173 : sm_ic 180 173 = some (.invokevirtual 145, 149, 3, 886) := rfl
theorem r_180_176 : sm_ic 180 176 = some (.iconst (-1), 0, 0, 0) := rfl
theorem r_180_177 : sm_ic 180 177 = some (.invokevirtual 149, 154, 3, 905) := rfl
theorem r_180_180 : sm_ic 180 180 = some (.aload_n 0, 0, 0, 0) := rfl
theorem r_180_181 : sm_ic 180 181 = some (.getfield 34, 7, 9, 752) := rfl
theorem r_180_184 : sm_ic 180 184 = some (.iconst 0, 0, 0, 0) := rfl
theorem r_180_185 : sm_ic 180 185 = some (.iaload, 0, 0, 0) := rfl
theorem r_180_186 : sm_ic 180 186 = some (.invokestatic 152, 155, 2, 909) := rfl
theorem r_180_189 : sm_ic 180 189 = some (.istore 8, 0, 0, 0) := rfl
theorem r_180_191 : sm_ic 180 191 = some (.iload 5, 0, 0, 0) := rfl
theorem r_180_193 : sm_ic 180 193 = some (.aload_n 0, 0, 0, 0) := rfl
theorem r_180_194 : sm_ic 180 194 = some (.iload 8, 0, 0, 0) := rfl
theorem r_180_196 : sm_ic 180 196 = some (.invokestatic 158, 159, 1, 924) := rfl
theorem r_180_199 : sm_ic 180 199 = some (.invokevirtual 161, 160, 2, 927) := rfl
theorem r_180_202 : sm_ic 180 202 = some (.ifCond .eq 8, 210, 0, 0) := rfl
theorem r_180_205 : sm_ic 180 205 = some (.iload 7, 0, 0, 0) := rfl
theorem r_180_207 : sm_ic 180 207 = some (.goto 4, 211, 0, 0) := rfl
theorem r_180_210 : sm_ic 180 210 = some (.iconst 0, 0, 0, 0) := rfl
theorem r_180_211 : sm_ic 180 211 = some (.iadd, 0, 0, 0) := rfl
theorem r_180_212 : sm_ic 180 212 = some (.istore 5, 0, 0, 0) := rfl
theorem r_180_214 : sm_ic 180 214 = some (.iinc 6 1, 0, 0, 0) := rfl
theorem r_180_217 : sm_ic 180 217 = some (.goto (-131), 86, 0, 0) := rfl
theorem r_180_220 : sm_ic 180 220 = some (.iload 5, 0, 0, 0) := rfl
theorem r_180_222 : sm_ic 180 222 = some (.iload 4, 0, 0, 0) := rfl
theorem r_180_224 : sm_ic 180 224 = some (.invokestatic 182, 181, 2, 1011) := rfl
theorem r_180_227 : sm_ic 180 227 = some (.istore 6, 0, 0, 0) := rfl
theorem r_180_229 : sm_ic 180 229 = some (.iload_n 2, 0, 0, 0) := rfl
theorem r_180_230 : sm_ic 180 230 = some (.ifCond .ne 11, 241, 0, 0) := rfl
theorem r_180_233 : sm_ic 180 233 = some (.iload 5, 0, 0, 0) := rfl
theorem r_180_235 : sm_ic 180 235 = some (.iload 6, 0, 0, 0) := rfl
theorem r_180_237 : sm_ic 180 237 = some (.idiv, 0, 0, 0) := rfl
theorem r_180_238 : sm_ic 180 238 = some (.goto 8, 246, 0, 0) := rfl
theorem r_180_241 : sm_ic 180 241 = some (.iload 4, 0, 0, 0) := rfl
theorem r_180_243 : sm_ic 180 243 = some (.iload 6, 0, 0, 0) := rfl
theorem r_180_245 : sm_ic 180 245 = some (.idiv, 0, 0, 0) := rfl
theorem r_180_246 : sm_ic 180 246 = some (.ireturn, 0, 0, 0) := rfl
theorem r_181_0 : sm_ic 181 0 = some (.iload_n 0, 0, 0, 0) := rfl
theorem r_181_1 : sm_ic 181 1 = some (.istore_n 2, 0, 0, 0) := rfl
theorem r_181_2 : sm_ic 181 2 = some (.iload_n 1, 0, 0, 0) := rfl
theorem r_181_3 : sm_ic 181 3 = some (.istore_n 3, 0, 0, 0) := rfl
theorem r_181_4 : sm_ic 181 4 = some (.iload_n 3, 0, 0, 0) := rfl
theorem r_181_5 : sm_ic 181 5 = some (.ifCond .eq 16, 21, 0, 0) := rfl
theorem r_181_8 : sm_ic 181 8 = some (.iload_n 2, 0, 0, 0) := rfl
theorem r_181_9 : sm_ic 181 9 = some (.iload_n 3, 0, 0, 0) := rfl
theorem r_181_10 : sm_ic 181 10 = some (.irem, 0, 0, 0) := rfl
theorem r_181_11 : sm_ic 181 11 = some (.istore 4, 0, 0, 0) := rfl
theorem r_181_13 : sm_ic 181 13 = some (.iload_n 3, 0, 0, 0) := rfl
theorem r_181_14 : sm_ic 181 14 = some (.istore_n 2, 0, 0, 0) := rfl
theorem r_181_15 : sm_ic 181 15 = some (.iload 4, 0, 0, 0) := rfl
theorem r_181_17 : sm_ic 181 17 = some (.istore_n 3, 0, 0, 0) := rfl
theorem r_181_18 : sm_ic 181 18 = some (.goto (-14), 4, 0, 0) := rfl
theorem r_181_21 : sm_ic 181 21 = some (.iload_n 2, 0, 0, 0) := rfl
theorem r_181_22 : sm_ic 181 22 = some (.ireturn, 0, 0, 0) := rfl
theorem r_182_0 : sm_ic 182 0 = some (.iload_n 1, 0, 0, 0) := rfl
theorem r_182_1 : sm_ic 182 1 = some (.i2l, 0, 0, 0) := rfl
theorem r_182_2 : sm_ic 182 2 = some (.lconst 0, 0, 0, 0) := rfl
theorem r_182_3 : sm_ic 182 3 = some (.iconst 1, 0, 0, 0) := rfl
theorem r_182_4 : sm_ic 182 4 = some (.aload_n 0, 0, 0, 0) := rfl
theorem r_182_5 : sm_ic 182 5 = some (.getfield 13, 7, 2, 745) := rfl
theorem r_182_8 : sm_ic 182 8 = some (.iconst 0, 0, 0, 0) := rfl
theorem r_182_9 : sm_ic 182 9 = some (.iaload, 0, 0, 0) := rfl
theorem r_182_10 : sm_ic 182 10 = some (.ishl, 0, 0, 0) := rfl
theorem r_182_11 : sm_ic 182 11 = some (.iconst 1, 0, 0, 0) := rfl
theorem r_182_12 : sm_ic 182 12 = some (.isub, 0, 0, 0) := rfl
theorem r_182_13 : sm_ic 182 13 = some (.i2l, 0, 0, 0) := rfl
theorem r_182_14 : sm_ic 182 14 = some (.invokestatic 79, 133, 3, 819) := rfl
theorem r_182_17 : sm_ic 182 17 = some (.ifCond .ne 5, 22, 0, 0) := rfl
theorem r_182_20 : sm_ic 182 20 = some (.iconst (-1), 0, 0, 0) := rfl
theorem r_182_21 : sm_ic 182 21 = some (.ireturn, 0, 0, 0) := rfl
theorem r_182_22 : sm_ic 182 22 = some (.aload_n 0, 0, 0, 0) := rfl
theorem r_182_23 : sm_ic 182 23 = some (.iconst 0, 0, 0, 0) := rfl
theorem r_182_24 : sm_ic 182 24 = some (.invokevirtual 155, 153, 2, 901) := rfl
theorem r_182_27 : sm_ic 182 27 = some (.iload_n 1, 0, 0, 0) := rfl
theorem r_182_28 : sm_ic 182 28 = some (.if_icmp .ne 7, 35, 0, 0) := rfl
theorem r_182_31 : sm_ic 182 31 = some (.iconst 1, 0, 0, 0) := rfl
theorem r_182_32 : sm_ic 182 32 = some (.goto 4, 36, 0, 0) := rfl
theorem r_182_35 : sm_ic 182 35 = some (.iconst 0, 0, 0, 0) := rfl
theorem r_182_36 : sm_ic 182 36 = some (.aload_n 0, 0, 0, 0) := rfl
theorem r_182_37 : sm_ic 182 37 = some (.iconst 1, 0, 0, 0) := rfl
theorem r_182_38 : sm_ic 182 38 = some (.invokevirtual 155, 153, 2, 901) := rfl
theorem r_182_41 : sm_ic 182 41 = some (.iload_n 1, 0, 0, 0) := rfl
theorem r_182_42 : sm_ic 182 42 = some (.if_icmp .ne 7, 49, 0, 0) := rfl
theorem r_182_45 : sm_ic 182 45 = some (.iconst 2, 0, 0, 0) := rfl
theorem r_182_46 : sm_ic 182 46 = some (.goto 4, 50, 0, 0) := rfl
theorem r_182_49 : sm_ic 182 49 = some (.iconst 0, 0, 0, 0) := rfl
theorem r_182_50 : sm_ic 182 50 = some (.iadd, 0, 0, 0) := rfl
theorem r_182_51 : sm_ic 182 51 = some (.ireturn, 0, 0, 0) := rfl
theorem r_183_0 : sm_ic 183 0 = some (.iload_n 1, 0, 0, 0) := rfl
theorem r_183_1 : sm_ic 183 1 = some (.i2l, 0, 0, 0) := rfl
theorem r_183_2 : sm_ic 183 2 = some (.lconst 0, 0, 0, 0) := rfl
theorem r_183_3 : sm_ic 183 3 = some (.ldc2_w 185, 9999, 0, 1022) := rfl
theorem r_183_6 : sm_ic 183 6 = some (.invokestatic 79, 133, 3, 819) := rfl
theorem r_183_9 : sm_ic 183 9 = some (.ifCond .eq 25, 34, 0, 0) := rfl
theorem r_183_12 : sm_ic 183 12 = some (.iload_n 2, 0, 0, 0) := rfl
theorem r_183_13 : sm_ic 183 13 = some (.i2l, 0, 0, 0) := rfl
theorem r_183_14 : sm_ic 183 14 = some (.lconst 1, 0, 0, 0) := rfl
theorem r_183_15 : sm_ic 183 15 = some (.ldc2_w 187, 60, 0, 1023) := rfl
theorem r_183_18 : sm_ic 183 18 = some (.invokestatic 79, 133, 3, 819) := rfl
theorem r_183_21 : sm_ic 183 21 = some (.ifCond .eq 13, 34, 0, 0) := rfl
theorem r_183_24 : sm_ic 183 24 = some (.iload_n 3, 0, 0, 0) := rfl
theorem r_183_25 : sm_ic 183 25 = some (.i2l, 0, 0, 0) := rfl
theorem r_183_26 : sm_ic 183 26 = some (.lconst 0, 0, 0, 0) := rfl
theorem r_183_27 : sm_ic 183 27 = some (.lconst 1, 0, 0, 0) := rfl
theorem r_183_28 : sm_ic 183 28 = some (.invokestatic 79, 133, 3, 819) := rfl
theorem r_183_31 : sm_ic 183 31 = some (.ifCond .ne 5, 36, 0, 0) := rfl
theorem r_183_34 : sm_ic 183 34 = some (.iconst (-1), 0, 0, 0) := rfl
theorem r_183_35 : sm_ic 183 35 = some (.ireturn, 0, 0, 0) := rfl
theorem r_183_36 : sm_ic 183 36 = some (.aload_n 0, 0, 0, 0) := rfl
theorem r_183_37 : sm_ic 183 37 = some (.getfield 37, 7, 10, 753) := rfl
theorem r_183_40 : sm_ic 183 40 = some (.bipush 21, 0, 0, 0) := rfl
theorem r_183_42 : sm_ic 183 42 = some (.iaload, 0, 0, 0) := rfl
theorem r_183_43 : sm_ic 183 43 = some (.istore 4, 0, 0, 0) := rfl
theorem r_183_45 : sm_ic 183 45 = some (.aload_n 0, 0, 0, 0) := rfl
theorem r_183_46 : sm_ic 183 46 = some (.getfield 37, 7, 10, 753) := rfl
theorem r_183_49 : sm_ic 183 49 = some (.bipush 22, 0, 0, 0) := rfl
theorem r_183_51 : sm_ic 183 51 = some (.iaload, 0, 0, 0) := rfl
theorem r_183_52 : sm_ic 183 52 = some (.istore 5, 0, 0, 0) := rfl
theorem r_183_54 : sm_ic 183 54 = some (.iconst 0, 0, 0, 0) := rfl
theorem r_183_55 : sm_ic 183 55 = some (.istore 6, 0, 0, 0) := rfl
theorem r_183_57 : sm_ic 183 57 = some (.iconst 0, 0, 0, 0) := rfl
theorem r_183_58 : sm_ic 183 58 = some (.istore 7, 0, 0, 0) := rfl
theorem r_183_60 : sm_ic 183 60 = some (.iload 7, 0, 0, 0) := rfl
theorem r_183_62 : sm_ic 183 62 = some (.iload_n 2, 0, 0, 0) := rfl
theorem r_183_63 : sm_ic 183 63 = some (.if_icmp .ge 146, 209, 0, 0) := rfl
theorem r_183_66 : sm_ic 183 66 = some (.ldc2_w 189, 7919, 0, 1024) := rfl
theorem r_183_69 : sm_ic 183 69 = some (.iload_n 1, 0, 0, 0) := rfl
theorem r_183_70 : sm_ic 183 70 = some (.i2l, 0, 0, 0) := rfl
theorem r_183_71 : sm_ic 183 71 = some (.lmul, 0, 0, 0) := rfl
theorem r_183_72 : sm_ic 183 72 = some (.ldc2_w 191, 6151, 0, 1025) := rfl
theorem r_183_75 : sm_ic 183 75 = some (.iload 7, 0, 0, 0) := rfl
theorem r_183_77 : sm_ic 183 77 = some (.i2l, 0, 0, 0) := rfl
theorem r_183_78 : sm_ic 183 78 = some (.lmul, 0, 0, 0) := rfl
theorem r_183_79 : sm_ic 183 79 = some (.ladd, 0, 0, 0) := rfl
theorem r_183_80 : sm_ic 183 80 = some (.lconst 1, 0, 0, 0) := rfl
theorem r_183_81 : sm_ic 183 81 = some (.ladd, 0, 0, 0) := rfl
theorem r_183_82 : sm_ic 183 82 = some (.lstore 8, 0, 0, 0) := rfl
theorem r_183_84 : sm_ic 183 84 = some (.lload 8, 0, 0, 0) := rfl
theorem r_183_86 : sm_ic 183 86 = some (.lload 8, 0, 0, 0) := rfl
theorem r_183_88 : sm_ic 183 88 = some (.lmul, 0, 0, 0) := rfl
theorem r_183_89 : sm_ic 183 89 = some (.ldc2_w 193, 65521, 0, 1026) := rfl
theorem r_183_92 : sm_ic 183 92 = some (.lrem, 0, 0, 0) := rfl
theorem r_183_93 : sm_ic 183 93 = some (.l2i, 0, 0, 0) := rfl
theorem r_183_94 : sm_ic 183 94 = some (.iconst 2, 0, 0, 0) := rfl
theorem r_183_95 : sm_ic 183 95 = some (.idiv, 0, 0, 0) := rfl
theorem r_183_96 : sm_ic 183 96 = some (.istore 10, 0, 0, 0) := rfl
theorem r_183_98 : sm_ic 183 98 = some (.aload_n 0, 0, 0, 0) := rfl
theorem r_183_99 : sm_ic 183 99 = some (.getfield 37, 7, 10, 753) := rfl
theorem r_183_102 : sm_ic 183 102 = some (.bipush 21, 0, 0, 0) := rfl
theorem r_183_104 : sm_ic 183 104 = some (.iload 10, 0, 0, 0) := rfl
theorem r_183_106 : sm_ic 183 106 = some (.iconst 4, 0, 0, 0) := rfl
theorem r_183_107 : sm_ic 183 107 = some (.irem, 0, 0, 0) := rfl
theorem r_183_108 : sm_ic 183 108 = some (.ifCond .ne 7, 115, 0, 0) := rfl
theorem r_183_111 : sm_ic 183 111 = some (.iconst 1, 0, 0, 0) := rfl
theorem r_183_112 : sm_ic 183 112 = some (.goto 4, 116, 0, 0) := rfl
theorem r_183_115 : sm_ic 183 115 = some (.iconst 0, 0, 0, 0) := rfl
theorem r_183_116 : sm_ic 183 116 = some (.iastore, 0, 0, 0) := rfl
theorem r_183_117 : sm_ic 183 117 = some (.aload_n 0, 0, 0, 0) := rfl
theorem r_183_118 : sm_ic 183 118 = some (.getfield 37, 7, 10, 753) := rfl
theorem r_183_121 : sm_ic 183 121 = some (.bipush 22, 0, 0, 0) := rfl
theorem r_183_123 : sm_ic 183 123 = some (.iload 10, 0, 0, 0) := rfl
theorem r_183_125 : sm_ic 183 125 = some (.bipush 7, 0, 0, 0) := rfl
theorem r_183_127 : sm_ic 183 127 = some (.irem, 0, 0, 0) := rfl
theorem r_183_128 : sm_ic 183 128 = some (.ifCond .ne 7, 135, 0, 0) := rfl
theorem r_183_131 : sm_ic 183 131 = some (.iconst 1, 0, 0, 0) := rfl
theorem r_183_132 : sm_ic 183 132 = some (.goto 4, 136, 0, 0) := rfl
theorem r_183_135 : sm_ic 183 135 = some (.iconst 0, 0, 0, 0) := rfl
theorem r_183_136 : sm_ic 183 136 = some (.iastore, 0, 0, 0) := rfl
theorem r_183_137 : sm_ic 183 137 = some (.aload_n 0, 0, 0, 0) := rfl
theorem r_183_138 : sm_ic 183 138 = some (.iload 10, 0, 0, 0) := rfl
theorem r_183_140 : sm_ic 183 140 = some (.bipush 8, 0, 0, 0) := rfl
theorem r_183_142 : sm_ic 183 142 = some (.idiv, 0, 0, 0) := rfl
theorem r_183_143 : sm_ic 183 143 = some (.iconst 2, 0, 0, 0) := rfl
theorem r_183_144 : sm_ic 183 144 = some (.irem, 0, 0, 0) := rfl
theorem r_183_145 : sm_ic 183 145 = some (.invokevirtual 155, 153, 2, 901) := rfl
theorem r_183_148 : sm_ic 183 148 = some (.istore 11, 0, 0, 0) := rfl
theorem r_183_150 : sm_ic 183 150 = some (.iload_n 3, 0, 0, 0) := rfl
theorem r_183_151 : sm_ic 183 151 = some (.ifCond .ne 15, 166, 0, 0) := rfl
theorem r_183_154 : sm_ic 183 154 = some (.aload_n 0, 0, 0, 0) := rfl
theorem r_183_155 : sm_ic 183 155 = some (.iload 11, 0, 0, 0) := rfl
theorem r_183_157 : sm_ic 183 157 = some (.invokestatic 158, 159, 1, 924) := rfl
theorem r_183_160 : sm_ic 183 160 = some (.invokevirtual 161, 160, 2, 927) := rfl
theorem r_183_163 : sm_ic 183 163 = some (.goto 23, 186, 0, 0) := rfl
theorem r_183_166 : sm_ic 183 166 = some (.aload_n 0, 0, 0, 0) := rfl
theorem r_183_167 : sm_ic 183 167 = some (.iload 11, 0, 0, 0) := rfl
theorem r_183_169 : sm_ic 183 169 = some (.invokevirtual 170, 162, 2, 935) := rfl
theorem r_183_172 : sm_ic 183 172 = some (.aload_n 0, 0, 0, 0) := rfl
theorem r_183_173 : sm_ic 183 173 = some (.getfield 34, 7, 9, 752) := rfl
theorem r_183_176 : sm_ic 183 176 = some (.iconst 1, 0, 0, 0) := rfl
theorem r_183_177 : sm_ic 183 177 = some (.iaload, 0, 0, 0) := rfl
theorem r_183_178 : sm_ic 183 178 = some (.if_icmp .lt 7, 185, 0, 0) := rfl
theorem r_183_181 : sm_ic 183 181 = some (.iconst 1, 0, 0, 0) := rfl
theorem r_183_182 : sm_ic 183 182 = some (.goto 4, 186, 0, 0) := rfl
theorem r_183_185 : sm_ic 183 185 = some (.iconst 0, 0, 0, 0) := rfl
theorem r_183_186 : sm_ic 183 186 = some (.istore 12, 0, 0, 0) := rfl
theorem r_183_188 : sm_ic 183 188 = some (.iload 6, 0, 0, 0) := rfl
theorem r_183_190 : sm_ic 183 190 = some (.iload 12, 0, 0, 0) := rfl
theorem r_183_192 : sm_ic 183 192 = some (.ifCond .eq 7, 199, 0, 0) := rfl
theorem r_183_195 : sm_ic 183 195 = some (.iconst 1, 0, 0, 0) := rfl
theorem r_183_196 : sm_ic 183 196 = some (.goto 4, 200, 0, 0) := rfl
theorem r_183_199 : sm_ic 183 199 = some (.iconst 0, 0, 0, 0) := rfl
theorem r_183_200 : sm_ic 183 200 = some (.iadd, 0, 0, 0) := rfl
theorem r_183_201 : sm_ic 183 201 = some (.istore 6, 0, 0, 0) := rfl
theorem r_183_203 : sm_ic 183 203 = some (.iinc 7 1, 0, 0, 0) := rfl
theorem r_183_206 : sm_ic 183 206 = some (.goto (-146), 60, 0, 0) := rfl
theorem r_183_209 : sm_ic 183 209 = some (.aload_n 0, 0, 0, 0) := rfl
theorem r_183_210 : sm_ic 183 210 = some (.getfield 37, 7, 10, 753) := rfl
theorem r_183_213 : sm_ic 183 213 = some (.bipush 21, 0, 0, 0) := rfl
theorem r_183_215 : sm_ic 183 215 = some (.iload 4, 0, 0, 0) := rfl
theorem r_183_217 : sm_ic 183 217 = some (.iastore, 0, 0, 0) := rfl
theorem r_183_218 : sm_ic 183 218 = some (.aload_n 0, 0, 0, 0) := rfl
theorem r_183_219 : sm_ic 183 219 = some (.getfield 37, 7, 10, 753) := rfl
theorem r_183_222 : sm_ic 183 222 = some (.bipush 22, 0, 0, 0) := rfl
theorem r_183_224 : sm_ic 183 224 = some (.iload 5, 0, 0, 0) := rfl
theorem r_183_226 : sm_ic 183 226 = some (.iastore, 0, 0, 0) := rfl
theorem r_183_227 : sm_ic 183 227 = some (.iload 6, 0, 0, 0) := rfl
theorem r_183_229 : sm_ic 183 229 = some (.ireturn, 0, 0, 0) := rfl
theorem r_184_0 : sm_ic 184 0 = some (.aload_n 0, 0, 0, 0) := rfl
theorem r_184_1 : sm_ic 184 1 = some (.getfield 124, 7, 14, 757) := rfl
theorem r_184_4 : sm_ic 184 4 = some (.iconst 2, 0, 0, 0) := rfl
theorem r_184_5 : sm_ic 184 5 = some (.if_icmp .ne 6, 11, 0, 0) := rfl
theorem r_184_8 : sm_ic 184 8 = some (.bipush (-3), 0, 0, 0) := rfl
theorem r_184_10 : sm_ic 184 10 = some (.ireturn, 0, 0, 0) := rfl
theorem r_184_11 : sm_ic 184 11 = some (.iconst 0, 0, 0, 0) := rfl
theorem r_184_12 : sm_ic 184 12 = some (.istore_n 1, 0, 0, 0) := rfl
theorem r_184_13 : sm_ic 184 13 = some (.iload_n 1, 0, 0, 0) := rfl
theorem r_184_14 : sm_ic 184 14 = some (.bipush 24, 0, 0, 0) := rfl
theorem r_184_16 : sm_ic 184 16 = some (.if_icmp .ge 29, 45, 0, 0) := rfl
theorem r_184_19 : sm_ic 184 19 = some (.aload_n 0, 0, 0, 0) := rfl
theorem r_184_20 : sm_ic 184 20 = some (.getfield 43, 7, 13, 756) := rfl
theorem r_184_23 : sm_ic 184 23 = some (.bipush 24, 0, 0, 0) := rfl
theorem r_184_25 : sm_ic 184 25 = some (.aload_n 0, 0, 0, 0) := rfl
theorem r_184_26 : sm_ic 184 26 = some (.getfield 124, 7, 14, 757) := rfl
theorem r_184_29 : sm_ic 184 29 = some (.imul, 0, 0, 0) := rfl
theorem r_184_30 : sm_ic 184 30 = some (.iload_n 1, 0, 0, 0) := rfl
theorem r_184_31 : sm_ic 184 31 = some (.iadd, 0, 0, 0) := rfl
theorem r_184_32 : sm_ic 184 32 = some (.aload_n 0, 0, 0, 0) := rfl
theorem r_184_33 : sm_ic 184 33 = some (.getfield 37, 7, 10, 753) := rfl
theorem r_184_36 : sm_ic 184 36 = some (.iload_n 1, 0, 0, 0) := rfl
theorem r_184_37 : sm_ic 184 37 = some (.iaload, 0, 0, 0) := rfl
theorem r_184_38 : sm_ic 184 38 = some (.iastore, 0, 0, 0) := rfl
theorem r_184_39 : sm_ic 184 39 = some (.iinc 1 1, 0, 0, 0) := rfl
theorem r_184_42 : sm_ic 184 42 = some (.goto (-29), 13, 0, 0) := rfl
theorem r_184_45 : sm_ic 184 45 = some (.aload_n 0, 0, 0, 0) := rfl
theorem r_184_46 : sm_ic 184 46 = some (.dup, 0, 0, 0) := rfl
theorem r_184_47 : sm_ic 184 47 = some (.getfield 124, 7, 14, 757) := rfl
theorem r_184_50 : sm_ic 184 50 = some (.iconst 1, 0, 0, 0) := rfl
theorem r_184_51 : sm_ic 184 51 = some (.iadd, 0, 0, 0) := rfl
theorem r_184_52 : sm_ic 184 52 = some (.putfield 124, 7, 14, 757) := rfl
theorem r_184_55 : sm_ic 184 55 = some (.aload_n 0, 0, 0, 0) := rfl
theorem r_184_56 : sm_ic 184 56 = some (.getfield 124, 7, 14, 757) := rfl
theorem r_184_59 : sm_ic 184 59 = some (.ireturn, 0, 0, 0) := rfl
theorem r_185_0 : sm_ic 185 0 = some (.aload_n 0, 0, 0, 0) := rfl
theorem r_185_1 : sm_ic 185 1 = some (.getfield 124, 7, 14, 757) := rfl
theorem r_185_4 : sm_ic 185 4 = some (.ifCond .ne 6, 10, 0, 0) := rfl
theorem r_185_7 : sm_ic 185 7 = some (.bipush (-2), 0, 0, 0) := rfl
theorem r_185_9 : sm_ic 185 9 = some (.ireturn, 0, 0, 0) := rfl
theorem r_185_10 : sm_ic 185 10 = some (.aload_n 0, 0, 0, 0) := rfl
theorem r_185_11 : sm_ic 185 11 = some (.dup, 0, 0, 0) := rfl
theorem r_185_12 : sm_ic 185 12 = some (.getfield 124, 7, 14, 757) := rfl
theorem r_185_15 : sm_ic 185 15 = some (.iconst 1, 0, 0, 0) := rfl
theorem r_185_16 : sm_ic 185 16 = some (.isub, 0, 0, 0) := rfl
theorem r_185_17 : sm_ic 185 17 = some (.putfield 124, 7, 14, 757) := rfl
theorem r_185_20 : sm_ic 185 20 = some (.iconst 0, 0, 0, 0) := rfl
theorem r_185_21 : sm_ic 185 21 = some (.istore_n 1, 0, 0, 0) := rfl
theorem r_185_22 : sm_ic 185 22 = some (.iload_n 1, 0, 0, 0) := rfl
theorem r_185_23 : sm_ic 185 23 = some (.bipush 24, 0, 0, 0) := rfl
theorem r_185_25 : sm_ic 185 25 = some (.if_icmp .ge 29, 54, 0, 0) := rfl
theorem r_185_28 : sm_ic 185 28 = some (.aload_n 0, 0, 0, 0) := rfl
theorem r_185_29 : sm_ic 185 29 = some (.getfield 37, 7, 10, 753) := rfl
theorem r_185_32 : sm_ic 185 32 = some (.iload_n 1, 0, 0, 0) := rfl
theorem r_185_33 : sm_ic 185 33 = some (.aload_n 0, 0, 0, 0) := rfl
theorem r_185_34 : sm_ic 185 34 = some (.getfield 43, 7, 13, 756) := rfl
theorem r_185_37 : sm_ic 185 37 = some (.bipush 24, 0, 0, 0) := rfl
theorem r_185_39 : sm_ic 185 39 = some (.aload_n 0, 0, 0, 0) := rfl
theorem r_185_40 : sm_ic 185 40 = some (.getfield 124, 7, 14, 757) := rfl
theorem r_185_43 : sm_ic 185 43 = some (.imul, 0, 0, 0) := rfl
theorem r_185_44 : sm_ic 185 44 = some (.iload_n 1, 0, 0, 0) := rfl
theorem r_185_45 : sm_ic 185 45 = some (.iadd, 0, 0, 0) := rfl
theorem r_185_46 : sm_ic 185 46 = some (.iaload, 0, 0, 0) := rfl
theorem r_185_47 : sm_ic 185 47 = some (.iastore, 0, 0, 0) := rfl
theorem r_185_48 : sm_ic 185 48 = some (.iinc 1 1, 0, 0, 0) := rfl
theorem r_185_51 : sm_ic 185 51 = some (.goto (-29), 22, 0, 0) := rfl
theorem r_185_54 : sm_ic 185 54 = some (.aload_n 0, 0, 0, 0) := rfl
theorem r_185_55 : sm_ic 185 55 = some (.iconst 0, 0, 0, 0) := rfl
theorem r_185_56 : sm_ic 185 56 = some (.putfield 121, 7, 12, 755) := rfl
theorem r_185_59 : sm_ic 185 59 = some (.aload_n 0, 0, 0, 0) := rfl
theorem r_185_60 : sm_ic 185 60 = some (.getfield 124, 7, 14, 757) := rfl
theorem r_185_63 : sm_ic 185 63 = some (.ireturn, 0, 0, 0) := rfl
theorem r_186_0 : sm_ic 186 0 = some (.iload_n 1, 0, 0, 0) := rfl
theorem r_186_1 : sm_ic 186 1 = some (.tableswitch 139 0 11 #[63, 70, 77, 82, 90, 98, 105, 112, 119, 124, 129, 134], 0, 0, 0) := rfl
theorem r_186_64 : sm_ic 186 64 = some (.aload_n 0, 0, 0, 0) := rfl
theorem r_186_65 : sm_ic 186 65 = some (.getfield 13, 7, 2, 745) := rfl
theorem r_186_68 : sm_ic 186 68 = some (.iconst 0, 0, 0, 0) := rfl
theorem r_186_69 : sm_ic 186 69 = some (.iaload, 0, 0, 0) := rfl
theorem r_186_70 : sm_ic 186 70 = some (.ireturn, 0, 0, 0) := rfl
theorem r_186_71 : sm_ic 186 71 = some (.aload_n 0, 0, 0, 0) := rfl
theorem r_186_72 : sm_ic 186 72 = some (.getfield 28, 7, 7, 750) := rfl
theorem r_186_75 : sm_ic 186 75 = some (.iconst 0, 0, 0, 0) := rfl
theorem r_186_76 : sm_ic 186 76 = some (.iaload, 0, 0, 0) := rfl
theorem r_186_77 : sm_ic 186 77 = some (.ireturn, 0, 0, 0) := rfl
theorem r_186_78 : sm_ic 186 78 = some (.aload_n 0, 0, 0, 0) := rfl
theorem r_186_79 : sm_ic 186 79 = some (.invokevirtual 195, 187, 1, 1039) := rfl
theorem r_186_82 : sm_ic 186 82 = some (.ireturn, 0, 0, 0) := rfl
theorem r_186_83 : sm_ic 186 83 = some (.aload_n 0, 0, 0, 0) := rfl
theorem r_186_84 : sm_ic 186 84 = some (.getfield 37, 7, 10, 753) := rfl
theorem r_186_87 : sm_ic 186 87 = some (.bipush 21, 0, 0, 0) := rfl
theorem r_186_89 : sm_ic 186 89 = some (.iaload, 0, 0, 0) := rfl
theorem r_186_90 : sm_ic 186 90 = some (.ireturn, 0, 0, 0) := rfl
theorem r_186_91 : sm_ic 186 91 = some (.aload_n 0, 0, 0, 0) := rfl
theorem r_186_92 : sm_ic 186 92 = some (.getfield 37, 7, 10, 753) := rfl
theorem r_186_95 : sm_ic 186 95 = some (.bipush 22, 0, 0, 0) := rfl
theorem r_186_97 : sm_ic 186 97 = some (.iaload, 0, 0, 0) := rfl
theorem r_186_98 : sm_ic 186 98 = some (.ireturn, 0, 0, 0) := rfl
theorem r_186_99 : sm_ic 186 99 = some (.aload_n 0, 0, 0, 0) := rfl
theorem r_186_100 : sm_ic 186 100 = some (.getfield 34, 7, 9, 752) := rfl
theorem r_186_103 : sm_ic 186 103 = some (.iconst 0, 0, 0, 0) := rfl
theorem r_186_104 : sm_ic 186 104 = some (.iaload, 0, 0, 0) := rfl
theorem r_186_105 : sm_ic 186 105 = some (.ireturn, 0, 0, 0) := rfl
theorem r_186_106 : sm_ic 186 106 = some (.aload_n 0, 0, 0, 0) := rfl
theorem r_186_107 : sm_ic 186 107 = some (.getfield 34, 7, 9, 752) := rfl
theorem r_186_110 : sm_ic 186 110 = some (.iconst 1, 0, 0, 0) := rfl
theorem r_186_111 : sm_ic 186 111 = some (.iaload, 0, 0, 0) := rfl
theorem r_186_112 : sm_ic 186 112 = some (.ireturn, 0, 0, 0) := rfl
theorem r_186_113 : sm_ic 186 113 = some (.aload_n 0, 0, 0, 0) := rfl
theorem r_186_114 : sm_ic 186 114 = some (.getfield 34, 7, 9, 752) := rfl
theorem r_186_117 : sm_ic 186 117 = some (.iconst 2, 0, 0, 0) := rfl
theorem r_186_118 : sm_ic 186 118 = some (.iaload, 0, 0, 0) := rfl
theorem r_186_119 : sm_ic 186 119 = some (.ireturn, 0, 0, 0) := rfl
theorem r_186_120 : sm_ic 186 120 = some (.aload_n 0, 0, 0, 0) := rfl
theorem r_186_121 : sm_ic 186 121 = some (.getfield 127, 7, 15, 758) := rfl
theorem r_186_124 : sm_ic 186 124 = some (.ireturn, 0, 0, 0) := rfl
theorem r_186_125 : sm_ic 186 125 = some (.aload_n 0, 0, 0, 0) := rfl
theorem r_186_126 : sm_ic 186 126 = some (.getfield 121, 7, 12, 755) := rfl
theorem r_186_129 : sm_ic 186 129 = some (.ireturn, 0, 0, 0) := rfl
theorem r_186_130 : sm_ic 186 130 = some (.aload_n 0, 0, 0, 0) := rfl
theorem r_186_131 : sm_ic 186 131 = some (.getfield 124, 7, 14, 757) := rfl
theorem r_186_134 : sm_ic 186 134 = some (.ireturn, 0, 0, 0) := rfl
theorem r_186_135 : sm_ic 186 135 = some (.aload_n 0, 0, 0, 0) := rfl
theorem r_186_136 : sm_ic 186 136 = some (.getfield 83, 7, 0, 743) := rfl
theorem r_186_139 : sm_ic 186 139 = some (.ireturn, 0, 0, 0) := rfl
theorem r_186_140 : sm_ic 186 140 = some (.iconst (-1), 0, 0, 0) := rfl
theorem r_186_141 : sm_ic 186 141 = some (.ireturn, 0, 0, 0) := rfl
theorem r_187_0 : sm_ic 187 0 = some (.iconst 0, 0, 0, 0) := rfl
theorem r_187_1 : sm_ic 187 1 = some (.istore_n 1, 0, 0, 0) := rfl
theorem r_187_2 : sm_ic 187 2 = some (.iconst 0, 0, 0, 0) := rfl
theorem r_187_3 : sm_ic 187 3 = some (.istore_n 2, 0, 0, 0) := rfl
theorem r_187_4 : sm_ic 187 4 = some (.iload_n 2, 0, 0, 0) := rfl
theorem r_187_5 : sm_ic 187 5 = some (.iconst 5, 0, 0, 0) := rfl
theorem r_187_6 : sm_ic 187 6 = some (.if_icmp .ge 21, 27, 0, 0) := rfl
theorem r_187_9 : sm_ic 187 9 = some (.iload_n 1, 0, 0, 0) := rfl
theorem r_187_10 : sm_ic 187 10 = some (.aload_n 0, 0, 0, 0) := rfl
theorem r_187_11 : sm_ic 187 11 = some (.getfield 37, 7, 10, 753) := rfl
theorem r_187_14 : sm_ic 187 14 = some (.bipush 16, 0, 0, 0) := rfl
theorem r_187_16 : sm_ic 187 16 = some (.iload_n 2, 0, 0, 0) := rfl
theorem r_187_17 : sm_ic 187 17 = some (.iadd, 0, 0, 0) := rfl
theorem r_187_18 : sm_ic 187 18 = some (.iaload, 0, 0, 0) := rfl
theorem r_187_19 : sm_ic 187 19 = some (.iadd, 0, 0, 0) := rfl
theorem r_187_20 : sm_ic 187 20 = some (.istore_n 1, 0, 0, 0) := rfl
theorem r_187_21 : sm_ic 187 21 = some (.iinc 2 1, 0, 0, 0) := rfl
theorem r_187_24 : sm_ic 187 24 = some (.goto (-20), 4, 0, 0) := rfl
theorem r_187_27 : sm_ic 187 27 = some (.iload_n 1, 0, 0, 0) := rfl
theorem r_187_28 : sm_ic 187 28 = some (.ireturn, 0, 0, 0) := rfl
