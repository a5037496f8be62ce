-- what the bytes say (written by wip/whole/mknames.py)
theorem dH_init_0 : decode prog_1_method_1_code 0 = .ok (.aload_n 0, 1) := by decide +kernel
theorem dH_init_1 : decode prog_1_method_1_code 1 = .ok (.invokespecial 3, 3) := by decide +kernel
theorem dH_init_4 : decode prog_1_method_1_code 4 = .ok (.aload_n 0, 1) := by decide +kernel
theorem dH_init_5 : decode prog_1_method_1_code 5 = .ok (.bipush 20, 2) := by decide +kernel
theorem dH_init_7 : decode prog_1_method_1_code 7 = .ok (.anewarray 9, 3) := by decide +kernel
theorem dH_init_10 : decode prog_1_method_1_code 10 = .ok (.putfield 11, 3) := by decide +kernel
theorem dH_init_13 : decode prog_1_method_1_code 13 = .ok (.aload_n 0, 1) := by decide +kernel
theorem dH_init_14 : decode prog_1_method_1_code 14 = .ok (.iconst 4, 1) := by decide +kernel
theorem dH_init_15 : decode prog_1_method_1_code 15 = .ok (.anewarray 15, 3) := by decide +kernel
theorem dH_init_18 : decode prog_1_method_1_code 18 = .ok (.putfield 17, 3) := by decide +kernel
theorem dH_init_21 : decode prog_1_method_1_code 21 = .ok (.iconst 0, 1) := by decide +kernel
theorem dH_init_22 : decode prog_1_method_1_code 22 = .ok (.istore_n 1, 1) := by decide +kernel
theorem dH_init_23 : decode prog_1_method_1_code 23 = .ok (.iload_n 1, 1) := by decide +kernel
theorem dH_init_24 : decode prog_1_method_1_code 24 = .ok (.iconst 4, 1) := by decide +kernel
theorem dH_init_25 : decode prog_1_method_1_code 25 = .ok (.if_icmp .ge 22, 3) := by decide +kernel
theorem dH_init_28 : decode prog_1_method_1_code 28 = .ok (.aload_n 0, 1) := by decide +kernel
theorem dH_init_29 : decode prog_1_method_1_code 29 = .ok (.getfield 17, 3) := by decide +kernel
theorem dH_init_32 : decode prog_1_method_1_code 32 = .ok (.iload_n 1, 1) := by decide +kernel
theorem dH_init_33 : decode prog_1_method_1_code 33 = .ok (.new 15, 3) := by decide +kernel
theorem dH_init_36 : decode prog_1_method_1_code 36 = .ok (.dup, 1) := by decide +kernel
theorem dH_init_37 : decode prog_1_method_1_code 37 = .ok (.invokespecial 21, 3) := by decide +kernel
theorem dH_init_40 : decode prog_1_method_1_code 40 = .ok (.aastore, 1) := by decide +kernel
theorem dH_init_41 : decode prog_1_method_1_code 41 = .ok (.iinc 1 1, 3) := by decide +kernel
theorem dH_init_44 : decode prog_1_method_1_code 44 = .ok (.goto (-21), 3) := by decide +kernel
theorem dH_init_47 : decode prog_1_method_1_code 47 = .ok (.aload_n 0, 1) := by decide +kernel
theorem dH_init_48 : decode prog_1_method_1_code 48 = .ok (.new 22, 3) := by decide +kernel
theorem dH_init_51 : decode prog_1_method_1_code 51 = .ok (.dup, 1) := by decide +kernel
theorem dH_init_52 : decode prog_1_method_1_code 52 = .ok (.invokespecial 24, 3) := by decide +kernel
theorem dH_init_55 : decode prog_1_method_1_code 55 = .ok (.putfield 25, 3) := by decide +kernel
theorem dH_init_58 : decode prog_1_method_1_code 58 = .ok (.aload_n 0, 1) := by decide +kernel
theorem dH_init_59 : decode prog_1_method_1_code 59 = .ok (.bipush 80, 2) := by decide +kernel
theorem dH_init_61 : decode prog_1_method_1_code 61 = .ok (.newarray .int, 2) := by decide +kernel
theorem dH_init_63 : decode prog_1_method_1_code 63 = .ok (.putfield 29, 3) := by decide +kernel
theorem dH_init_66 : decode prog_1_method_1_code 66 = .ok (.aload_n 0, 1) := by decide +kernel
theorem dH_init_67 : decode prog_1_method_1_code 67 = .ok (.getfield 29, 3) := by decide +kernel
theorem dH_init_70 : decode prog_1_method_1_code 70 = .ok (.iconst (-1), 1) := by decide +kernel
theorem dH_init_71 : decode prog_1_method_1_code 71 = .ok (.invokestatic 33, 3) := by decide +kernel
theorem dH_init_74 : decode prog_1_method_1_code 74 = .ok (.aload_n 0, 1) := by decide +kernel
theorem dH_init_75 : decode prog_1_method_1_code 75 = .ok (.bipush 80, 2) := by decide +kernel
theorem dH_init_77 : decode prog_1_method_1_code 77 = .ok (.newarray .int, 2) := by decide +kernel
theorem dH_init_79 : decode prog_1_method_1_code 79 = .ok (.putfield 39, 3) := by decide +kernel
theorem dH_init_82 : decode prog_1_method_1_code 82 = .ok (.aload_n 0, 1) := by decide +kernel
theorem dH_init_83 : decode prog_1_method_1_code 83 = .ok (.bipush 16, 2) := by decide +kernel
theorem dH_init_85 : decode prog_1_method_1_code 85 = .ok (.newarray .int, 2) := by decide +kernel
theorem dH_init_87 : decode prog_1_method_1_code 87 = .ok (.putfield 42, 3) := by decide +kernel
theorem dH_init_90 : decode prog_1_method_1_code 90 = .ok (.return_, 1) := by decide +kernel
theorem dN_init_0 : decode prog_3_method_1_code 0 = .ok (.aload_n 0, 1) := by decide +kernel
theorem dN_init_1 : decode prog_3_method_1_code 1 = .ok (.invokespecial 3, 3) := by decide +kernel
theorem dN_init_4 : decode prog_3_method_1_code 4 = .ok (.aload_n 0, 1) := by decide +kernel
theorem dN_init_5 : decode prog_3_method_1_code 5 = .ok (.iconst 4, 1) := by decide +kernel
theorem dN_init_6 : decode prog_3_method_1_code 6 = .ok (.invokestatic 9, 3) := by decide +kernel
theorem dN_init_9 : decode prog_3_method_1_code 9 = .ok (.iconst 1, 1) := by decide +kernel
theorem dN_init_10 : decode prog_3_method_1_code 10 = .ok (.isub, 1) := by decide +kernel
theorem dN_init_11 : decode prog_3_method_1_code 11 = .ok (.putfield 13, 3) := by decide +kernel
theorem dN_init_14 : decode prog_3_method_1_code 14 = .ok (.return_, 1) := by decide +kernel
theorem dH_bit_0 : decode prog_1_method_48_code 0 = .ok (.iconst 1, 1) := by decide +kernel
theorem dH_bit_1 : decode prog_1_method_48_code 1 = .ok (.iload_n 0, 1) := by decide +kernel
theorem dH_bit_2 : decode prog_1_method_48_code 2 = .ok (.ishl, 1) := by decide +kernel
theorem dH_bit_3 : decode prog_1_method_48_code 3 = .ok (.ireturn, 1) := by decide +kernel
theorem dB_init_0 : decode prog_2_method_1_code 0 = .ok (.aload_n 0, 1) := by decide +kernel
theorem dB_init_1 : decode prog_2_method_1_code 1 = .ok (.invokespecial 3, 3) := by decide +kernel
theorem dB_init_4 : decode prog_2_method_1_code 4 = .ok (.aload_n 0, 1) := by decide +kernel
theorem dB_init_5 : decode prog_2_method_1_code 5 = .ok (.sipush 220, 3) := by decide +kernel
theorem dB_init_8 : decode prog_2_method_1_code 8 = .ok (.newarray .int, 2) := by decide +kernel
theorem dB_init_10 : decode prog_2_method_1_code 10 = .ok (.putfield 9, 3) := by decide +kernel
theorem dB_init_13 : decode prog_2_method_1_code 13 = .ok (.return_, 1) := by decide +kernel
theorem dH_begin_0 : decode prog_1_method_2_code 0 = .ok (.iload_n 1, 1) := by decide +kernel
theorem dH_begin_1 : decode prog_1_method_2_code 1 = .ok (.invokestatic 45, 3) := by decide +kernel
theorem dH_begin_4 : decode prog_1_method_2_code 4 = .ok (.ifCond .eq 27, 3) := by decide +kernel
theorem dH_begin_7 : decode prog_1_method_2_code 7 = .ok (.iload_n 2, 1) := by decide +kernel
theorem dH_begin_8 : decode prog_1_method_2_code 8 = .ok (.invokestatic 49, 3) := by decide +kernel
theorem dH_begin_11 : decode prog_1_method_2_code 11 = .ok (.ifCond .eq 20, 3) := by decide +kernel
theorem dH_begin_14 : decode prog_1_method_2_code 14 = .ok (.iload_n 3, 1) := by decide +kernel
theorem dH_begin_15 : decode prog_1_method_2_code 15 = .ok (.ifCond .lt 16, 3) := by decide +kernel
theorem dH_begin_18 : decode prog_1_method_2_code 18 = .ok (.iload_n 3, 1) := by decide +kernel
theorem dH_begin_19 : decode prog_1_method_2_code 19 = .ok (.iload 4, 2) := by decide +kernel
theorem dH_begin_21 : decode prog_1_method_2_code 21 = .ok (.if_icmp .ge 10, 3) := by decide +kernel
theorem dH_begin_24 : decode prog_1_method_2_code 24 = .ok (.iload 4, 2) := by decide +kernel
theorem dH_begin_26 : decode prog_1_method_2_code 26 = .ok (.ldc 52, 2) := by decide +kernel
theorem dH_begin_28 : decode prog_1_method_2_code 28 = .ok (.if_icmp .le 5, 3) := by decide +kernel
theorem dH_begin_31 : decode prog_1_method_2_code 31 = .ok (.iconst (-1), 1) := by decide +kernel
theorem dH_begin_32 : decode prog_1_method_2_code 32 = .ok (.ireturn, 1) := by decide +kernel
theorem dH_begin_33 : decode prog_1_method_2_code 33 = .ok (.aload_n 0, 1) := by decide +kernel
theorem dH_begin_34 : decode prog_1_method_2_code 34 = .ok (.getfield 53, 3) := by decide +kernel
theorem dH_begin_37 : decode prog_1_method_2_code 37 = .ok (.bipush 20, 2) := by decide +kernel
theorem dH_begin_39 : decode prog_1_method_2_code 39 = .ok (.if_icmp .lt 6, 3) := by decide +kernel
theorem dH_begin_42 : decode prog_1_method_2_code 42 = .ok (.bipush (-6), 2) := by decide +kernel
theorem dH_begin_44 : decode prog_1_method_2_code 44 = .ok (.ireturn, 1) := by decide +kernel
theorem dH_begin_45 : decode prog_1_method_2_code 45 = .ok (.aload_n 0, 1) := by decide +kernel
theorem dH_begin_46 : decode prog_1_method_2_code 46 = .ok (.getfield 53, 3) := by decide +kernel
theorem dH_begin_49 : decode prog_1_method_2_code 49 = .ok (.istore 5, 2) := by decide +kernel
theorem dH_begin_51 : decode prog_1_method_2_code 51 = .ok (.aload_n 0, 1) := by decide +kernel
theorem dH_begin_52 : decode prog_1_method_2_code 52 = .ok (.getfield 11, 3) := by decide +kernel
theorem dH_begin_55 : decode prog_1_method_2_code 55 = .ok (.iload 5, 2) := by decide +kernel
theorem dH_begin_57 : decode prog_1_method_2_code 57 = .ok (.new 9, 3) := by decide +kernel
theorem dH_begin_60 : decode prog_1_method_2_code 60 = .ok (.dup, 1) := by decide +kernel
theorem dH_begin_61 : decode prog_1_method_2_code 61 = .ok (.iload 5, 2) := by decide +kernel
theorem dH_begin_63 : decode prog_1_method_2_code 63 = .ok (.iload_n 1, 1) := by decide +kernel
theorem dH_begin_64 : decode prog_1_method_2_code 64 = .ok (.iload_n 2, 1) := by decide +kernel
theorem dH_begin_65 : decode prog_1_method_2_code 65 = .ok (.iload_n 3, 1) := by decide +kernel
theorem dH_begin_66 : decode prog_1_method_2_code 66 = .ok (.iload 4, 2) := by decide +kernel
theorem dH_begin_68 : decode prog_1_method_2_code 68 = .ok (.invokespecial 57, 3) := by decide +kernel
theorem dH_begin_71 : decode prog_1_method_2_code 71 = .ok (.aastore, 1) := by decide +kernel
theorem dH_begin_72 : decode prog_1_method_2_code 72 = .ok (.aload_n 0, 1) := by decide +kernel
theorem dH_begin_73 : decode prog_1_method_2_code 73 = .ok (.dup, 1) := by decide +kernel
theorem dH_begin_74 : decode prog_1_method_2_code 74 = .ok (.getfield 53, 3) := by decide +kernel
theorem dH_begin_77 : decode prog_1_method_2_code 77 = .ok (.iconst 1, 1) := by decide +kernel
theorem dH_begin_78 : decode prog_1_method_2_code 78 = .ok (.iadd, 1) := by decide +kernel
theorem dH_begin_79 : decode prog_1_method_2_code 79 = .ok (.putfield 53, 3) := by decide +kernel
theorem dH_begin_82 : decode prog_1_method_2_code 82 = .ok (.iload 5, 2) := by decide +kernel
theorem dH_begin_84 : decode prog_1_method_2_code 84 = .ok (.ireturn, 1) := by decide +kernel
theorem dH_isNode_0 : decode prog_1_method_44_code 0 = .ok (.iload_n 0, 1) := by decide +kernel
theorem dH_isNode_1 : decode prog_1_method_44_code 1 = .ok (.ifCond .lt 12, 3) := by decide +kernel
theorem dH_isNode_4 : decode prog_1_method_44_code 4 = .ok (.iload_n 0, 1) := by decide +kernel
theorem dH_isNode_5 : decode prog_1_method_44_code 5 = .ok (.iconst 4, 1) := by decide +kernel
theorem dH_isNode_6 : decode prog_1_method_44_code 6 = .ok (.if_icmp .ge 7, 3) := by decide +kernel
theorem dH_isNode_9 : decode prog_1_method_44_code 9 = .ok (.iconst 1, 1) := by decide +kernel
theorem dH_isNode_10 : decode prog_1_method_44_code 10 = .ok (.goto 4, 3) := by decide +kernel
theorem dH_isNode_13 : decode prog_1_method_44_code 13 = .ok (.iconst 0, 1) := by decide +kernel
theorem dH_isNode_14 : decode prog_1_method_44_code 14 = .ok (.ireturn, 1) := by decide +kernel
theorem dH_isNotary_0 : decode prog_1_method_45_code 0 = .ok (.iload_n 0, 1) := by decide +kernel
theorem dH_isNotary_1 : decode prog_1_method_45_code 1 = .ok (.iconst 4, 1) := by decide +kernel
theorem dH_isNotary_2 : decode prog_1_method_45_code 2 = .ok (.if_icmp .eq 8, 3) := by decide +kernel
theorem dH_isNotary_5 : decode prog_1_method_45_code 5 = .ok (.iload_n 0, 1) := by decide +kernel
theorem dH_isNotary_6 : decode prog_1_method_45_code 6 = .ok (.iconst 5, 1) := by decide +kernel
theorem dH_isNotary_7 : decode prog_1_method_45_code 7 = .ok (.if_icmp .ne 7, 3) := by decide +kernel
theorem dH_isNotary_10 : decode prog_1_method_45_code 10 = .ok (.iconst 1, 1) := by decide +kernel
theorem dH_isNotary_11 : decode prog_1_method_45_code 11 = .ok (.goto 4, 3) := by decide +kernel
theorem dH_isNotary_14 : decode prog_1_method_45_code 14 = .ok (.iconst 0, 1) := by decide +kernel
theorem dH_isNotary_15 : decode prog_1_method_45_code 15 = .ok (.ireturn, 1) := by decide +kernel
theorem dT_init_0 : decode prog_6_method_1_code 0 = .ok (.aload_n 0, 1) := by decide +kernel
theorem dT_init_1 : decode prog_6_method_1_code 1 = .ok (.invokespecial 3, 3) := by decide +kernel
theorem dT_init_4 : decode prog_6_method_1_code 4 = .ok (.aload_n 0, 1) := by decide +kernel
theorem dT_init_5 : decode prog_6_method_1_code 5 = .ok (.iload_n 1, 1) := by decide +kernel
theorem dT_init_6 : decode prog_6_method_1_code 6 = .ok (.putfield 9, 3) := by decide +kernel
theorem dT_init_9 : decode prog_6_method_1_code 9 = .ok (.aload_n 0, 1) := by decide +kernel
theorem dT_init_10 : decode prog_6_method_1_code 10 = .ok (.iload_n 2, 1) := by decide +kernel
theorem dT_init_11 : decode prog_6_method_1_code 11 = .ok (.putfield 15, 3) := by decide +kernel
theorem dT_init_14 : decode prog_6_method_1_code 14 = .ok (.aload_n 0, 1) := by decide +kernel
theorem dT_init_15 : decode prog_6_method_1_code 15 = .ok (.iload_n 3, 1) := by decide +kernel
theorem dT_init_16 : decode prog_6_method_1_code 16 = .ok (.putfield 18, 3) := by decide +kernel
theorem dT_init_19 : decode prog_6_method_1_code 19 = .ok (.aload_n 0, 1) := by decide +kernel
theorem dT_init_20 : decode prog_6_method_1_code 20 = .ok (.iload 4, 2) := by decide +kernel
theorem dT_init_22 : decode prog_6_method_1_code 22 = .ok (.putfield 21, 3) := by decide +kernel
theorem dT_init_25 : decode prog_6_method_1_code 25 = .ok (.aload_n 0, 1) := by decide +kernel
theorem dT_init_26 : decode prog_6_method_1_code 26 = .ok (.iload 5, 2) := by decide +kernel
theorem dT_init_28 : decode prog_6_method_1_code 28 = .ok (.putfield 24, 3) := by decide +kernel
theorem dT_init_31 : decode prog_6_method_1_code 31 = .ok (.aload_n 0, 1) := by decide +kernel
theorem dT_init_32 : decode prog_6_method_1_code 32 = .ok (.new 27, 3) := by decide +kernel
theorem dT_init_35 : decode prog_6_method_1_code 35 = .ok (.dup, 1) := by decide +kernel
theorem dT_init_36 : decode prog_6_method_1_code 36 = .ok (.invokespecial 29, 3) := by decide +kernel
theorem dT_init_39 : decode prog_6_method_1_code 39 = .ok (.putfield 30, 3) := by decide +kernel
theorem dT_init_42 : decode prog_6_method_1_code 42 = .ok (.aload_n 0, 1) := by decide +kernel
theorem dT_init_43 : decode prog_6_method_1_code 43 = .ok (.new 27, 3) := by decide +kernel
theorem dT_init_46 : decode prog_6_method_1_code 46 = .ok (.dup, 1) := by decide +kernel
theorem dT_init_47 : decode prog_6_method_1_code 47 = .ok (.invokespecial 29, 3) := by decide +kernel
theorem dT_init_50 : decode prog_6_method_1_code 50 = .ok (.putfield 34, 3) := by decide +kernel
theorem dT_init_53 : decode prog_6_method_1_code 53 = .ok (.aload_n 0, 1) := by decide +kernel
theorem dT_init_54 : decode prog_6_method_1_code 54 = .ok (.iconst 0, 1) := by decide +kernel
theorem dT_init_55 : decode prog_6_method_1_code 55 = .ok (.putfield 37, 3) := by decide +kernel
theorem dT_init_58 : decode prog_6_method_1_code 58 = .ok (.aload_n 0, 1) := by decide +kernel
theorem dT_init_59 : decode prog_6_method_1_code 59 = .ok (.iconst 0, 1) := by decide +kernel
theorem dT_init_60 : decode prog_6_method_1_code 60 = .ok (.putfield 40, 3) := by decide +kernel
theorem dT_init_63 : decode prog_6_method_1_code 63 = .ok (.return_, 1) := by decide +kernel
theorem dL_init_0 : decode prog_5_method_1_code 0 = .ok (.aload_n 0, 1) := by decide +kernel
theorem dL_init_1 : decode prog_5_method_1_code 1 = .ok (.invokespecial 3, 3) := by decide +kernel
theorem dL_init_4 : decode prog_5_method_1_code 4 = .ok (.aload_n 0, 1) := by decide +kernel
theorem dL_init_5 : decode prog_5_method_1_code 5 = .ok (.iconst 4, 1) := by decide +kernel
theorem dL_init_6 : decode prog_5_method_1_code 6 = .ok (.anewarray 9, 3) := by decide +kernel
theorem dL_init_9 : decode prog_5_method_1_code 9 = .ok (.putfield 11, 3) := by decide +kernel
theorem dL_init_12 : decode prog_5_method_1_code 12 = .ok (.return_, 1) := by decide +kernel
theorem dH_consume_0 : decode prog_1_method_3_code 0 = .ok (.aload_n 0, 1) := by decide +kernel
theorem dH_consume_1 : decode prog_1_method_3_code 1 = .ok (.iload_n 1, 1) := by decide +kernel
theorem dH_consume_2 : decode prog_1_method_3_code 2 = .ok (.invokevirtual 60, 3) := by decide +kernel
theorem dH_consume_5 : decode prog_1_method_3_code 5 = .ok (.astore 4, 2) := by decide +kernel
theorem dH_consume_7 : decode prog_1_method_3_code 7 = .ok (.aload_n 0, 1) := by decide +kernel
theorem dH_consume_8 : decode prog_1_method_3_code 8 = .ok (.iload_n 2, 1) := by decide +kernel
theorem dH_consume_9 : decode prog_1_method_3_code 9 = .ok (.invokevirtual 60, 3) := by decide +kernel
theorem dH_consume_12 : decode prog_1_method_3_code 12 = .ok (.astore 5, 2) := by decide +kernel
theorem dH_consume_14 : decode prog_1_method_3_code 14 = .ok (.aload_n 0, 1) := by decide +kernel
theorem dH_consume_15 : decode prog_1_method_3_code 15 = .ok (.iload_n 2, 1) := by decide +kernel
theorem dH_consume_16 : decode prog_1_method_3_code 16 = .ok (.iload_n 3, 1) := by decide +kernel
theorem dH_consume_17 : decode prog_1_method_3_code 17 = .ok (.invokevirtual 64, 3) := by decide +kernel
theorem dH_consume_20 : decode prog_1_method_3_code 20 = .ok (.astore 6, 2) := by decide +kernel
theorem dH_consume_22 : decode prog_1_method_3_code 22 = .ok (.aload 4, 2) := by decide +kernel
theorem dH_consume_24 : decode prog_1_method_3_code 24 = .ok (.ifnull 13, 3) := by decide +kernel
theorem dH_consume_27 : decode prog_1_method_3_code 27 = .ok (.aload 5, 2) := by decide +kernel
theorem dH_consume_29 : decode prog_1_method_3_code 29 = .ok (.ifnull 8, 3) := by decide +kernel
theorem dH_consume_32 : decode prog_1_method_3_code 32 = .ok (.aload 6, 2) := by decide +kernel
theorem dH_consume_34 : decode prog_1_method_3_code 34 = .ok (.ifnonnull 5, 3) := by decide +kernel
theorem dH_consume_37 : decode prog_1_method_3_code 37 = .ok (.iconst (-1), 1) := by decide +kernel
theorem dH_consume_38 : decode prog_1_method_3_code 38 = .ok (.ireturn, 1) := by decide +kernel
theorem dH_consume_39 : decode prog_1_method_3_code 39 = .ok (.aload 4, 2) := by decide +kernel
theorem dH_consume_41 : decode prog_1_method_3_code 41 = .ok (.getfield 68, 3) := by decide +kernel
theorem dH_consume_44 : decode prog_1_method_3_code 44 = .ok (.ifCond .eq 6, 3) := by decide +kernel
theorem dH_consume_47 : decode prog_1_method_3_code 47 = .ok (.bipush (-2), 2) := by decide +kernel
theorem dH_consume_49 : decode prog_1_method_3_code 49 = .ok (.ireturn, 1) := by decide +kernel
theorem dH_consume_50 : decode prog_1_method_3_code 50 = .ok (.aload_n 0, 1) := by decide +kernel
theorem dH_consume_51 : decode prog_1_method_3_code 51 = .ok (.getfield 17, 3) := by decide +kernel
theorem dH_consume_54 : decode prog_1_method_3_code 54 = .ok (.aload 4, 2) := by decide +kernel
theorem dH_consume_56 : decode prog_1_method_3_code 56 = .ok (.getfield 71, 3) := by decide +kernel
theorem dH_consume_59 : decode prog_1_method_3_code 59 = .ok (.aaload, 1) := by decide +kernel
theorem dH_consume_60 : decode prog_1_method_3_code 60 = .ok (.getfield 74, 3) := by decide +kernel
theorem dH_consume_63 : decode prog_1_method_3_code 63 = .ok (.iload_n 2, 1) := by decide +kernel
theorem dH_consume_64 : decode prog_1_method_3_code 64 = .ok (.invokestatic 77, 3) := by decide +kernel
theorem dH_consume_67 : decode prog_1_method_3_code 67 = .ok (.ifCond .ne 6, 3) := by decide +kernel
theorem dH_consume_70 : decode prog_1_method_3_code 70 = .ok (.bipush (-3), 2) := by decide +kernel
theorem dH_consume_72 : decode prog_1_method_3_code 72 = .ok (.ireturn, 1) := by decide +kernel
theorem dH_consume_73 : decode prog_1_method_3_code 73 = .ok (.aload 5, 2) := by decide +kernel
theorem dH_consume_75 : decode prog_1_method_3_code 75 = .ok (.getfield 81, 3) := by decide +kernel
theorem dH_consume_78 : decode prog_1_method_3_code 78 = .ok (.aload 4, 2) := by decide +kernel
theorem dH_consume_80 : decode prog_1_method_3_code 80 = .ok (.getfield 81, 3) := by decide +kernel
theorem dH_consume_83 : decode prog_1_method_3_code 83 = .ok (.if_icmp .eq 6, 3) := by decide +kernel
theorem dH_consume_86 : decode prog_1_method_3_code 86 = .ok (.bipush (-4), 2) := by decide +kernel
theorem dH_consume_88 : decode prog_1_method_3_code 88 = .ok (.ireturn, 1) := by decide +kernel
theorem dH_consume_89 : decode prog_1_method_3_code 89 = .ok (.aload 4, 2) := by decide +kernel
theorem dH_consume_91 : decode prog_1_method_3_code 91 = .ok (.getfield 84, 3) := by decide +kernel
theorem dH_consume_94 : decode prog_1_method_3_code 94 = .ok (.aload 6, 2) := by decide +kernel
theorem dH_consume_96 : decode prog_1_method_3_code 96 = .ok (.getfield 88, 3) := by decide +kernel
theorem dH_consume_99 : decode prog_1_method_3_code 99 = .ok (.invokevirtual 93, 3) := by decide +kernel
theorem dH_consume_102 : decode prog_1_method_3_code 102 = .ok (.ifCond .eq 6, 3) := by decide +kernel
theorem dH_consume_105 : decode prog_1_method_3_code 105 = .ok (.bipush (-5), 2) := by decide +kernel
theorem dH_consume_107 : decode prog_1_method_3_code 107 = .ok (.ireturn, 1) := by decide +kernel
theorem dH_consume_108 : decode prog_1_method_3_code 108 = .ok (.aload 4, 2) := by decide +kernel
theorem dH_consume_110 : decode prog_1_method_3_code 110 = .ok (.getfield 84, 3) := by decide +kernel
theorem dH_consume_113 : decode prog_1_method_3_code 113 = .ok (.iconst 1, 1) := by decide +kernel
theorem dH_consume_114 : decode prog_1_method_3_code 114 = .ok (.invokevirtual 98, 3) := by decide +kernel
theorem dH_consume_117 : decode prog_1_method_3_code 117 = .ok (.ifCond .ne 6, 3) := by decide +kernel
theorem dH_consume_120 : decode prog_1_method_3_code 120 = .ok (.bipush (-6), 2) := by decide +kernel
theorem dH_consume_122 : decode prog_1_method_3_code 122 = .ok (.ireturn, 1) := by decide +kernel
theorem dH_consume_123 : decode prog_1_method_3_code 123 = .ok (.aload 4, 2) := by decide +kernel
theorem dH_consume_125 : decode prog_1_method_3_code 125 = .ok (.aload 6, 2) := by decide +kernel
theorem dH_consume_127 : decode prog_1_method_3_code 127 = .ok (.aload 5, 2) := by decide +kernel
theorem dH_consume_129 : decode prog_1_method_3_code 129 = .ok (.invokevirtual 101, 3) := by decide +kernel
theorem dH_consume_132 : decode prog_1_method_3_code 132 = .ok (.ireturn, 1) := by decide +kernel
theorem dH_find_0 : decode prog_1_method_40_code 0 = .ok (.iload_n 1, 1) := by decide +kernel
theorem dH_find_1 : decode prog_1_method_40_code 1 = .ok (.ifCond .lt 20, 3) := by decide +kernel
theorem dH_find_4 : decode prog_1_method_40_code 4 = .ok (.iload_n 1, 1) := by decide +kernel
theorem dH_find_5 : decode prog_1_method_40_code 5 = .ok (.aload_n 0, 1) := by decide +kernel
theorem dH_find_6 : decode prog_1_method_40_code 6 = .ok (.getfield 53, 3) := by decide +kernel
theorem dH_find_9 : decode prog_1_method_40_code 9 = .ok (.if_icmp .ge 12, 3) := by decide +kernel
theorem dH_find_12 : decode prog_1_method_40_code 12 = .ok (.aload_n 0, 1) := by decide +kernel
theorem dH_find_13 : decode prog_1_method_40_code 13 = .ok (.getfield 11, 3) := by decide +kernel
theorem dH_find_16 : decode prog_1_method_40_code 16 = .ok (.iload_n 1, 1) := by decide +kernel
theorem dH_find_17 : decode prog_1_method_40_code 17 = .ok (.aaload, 1) := by decide +kernel
theorem dH_find_18 : decode prog_1_method_40_code 18 = .ok (.goto 4, 3) := by decide +kernel
theorem dH_find_21 : decode prog_1_method_40_code 21 = .ok (.aconst_null, 1) := by decide +kernel
theorem dH_find_22 : decode prog_1_method_40_code 22 = .ok (.areturn, 1) := by decide +kernel
theorem dH_findState_0 : decode prog_1_method_41_code 0 = .ok (.aload_n 0, 1) := by decide +kernel
theorem dH_findState_1 : decode prog_1_method_41_code 1 = .ok (.iload_n 1, 1) := by decide +kernel
theorem dH_findState_2 : decode prog_1_method_41_code 2 = .ok (.invokevirtual 60, 3) := by decide +kernel
theorem dH_findState_5 : decode prog_1_method_41_code 5 = .ok (.astore_n 3, 1) := by decide +kernel
theorem dH_findState_6 : decode prog_1_method_41_code 6 = .ok (.aload_n 3, 1) := by decide +kernel
theorem dH_findState_7 : decode prog_1_method_41_code 7 = .ok (.ifnull 18, 3) := by decide +kernel
theorem dH_findState_10 : decode prog_1_method_41_code 10 = .ok (.iload_n 2, 1) := by decide +kernel
theorem dH_findState_11 : decode prog_1_method_41_code 11 = .ok (.ifCond .lt 14, 3) := by decide +kernel
theorem dH_findState_14 : decode prog_1_method_41_code 14 = .ok (.iload_n 2, 1) := by decide +kernel
theorem dH_findState_15 : decode prog_1_method_41_code 15 = .ok (.aload_n 3, 1) := by decide +kernel
theorem dH_findState_16 : decode prog_1_method_41_code 16 = .ok (.getfield 112, 3) := by decide +kernel
theorem dH_findState_19 : decode prog_1_method_41_code 19 = .ok (.getfield 299, 3) := by decide +kernel
theorem dH_findState_22 : decode prog_1_method_41_code 22 = .ok (.if_icmp .lt 5, 3) := by decide +kernel
theorem dH_findState_25 : decode prog_1_method_41_code 25 = .ok (.aconst_null, 1) := by decide +kernel
theorem dH_findState_26 : decode prog_1_method_41_code 26 = .ok (.areturn, 1) := by decide +kernel
theorem dH_findState_27 : decode prog_1_method_41_code 27 = .ok (.aload_n 3, 1) := by decide +kernel
theorem dH_findState_28 : decode prog_1_method_41_code 28 = .ok (.getfield 112, 3) := by decide +kernel
theorem dH_findState_31 : decode prog_1_method_41_code 31 = .ok (.getfield 300, 3) := by decide +kernel
theorem dH_findState_34 : decode prog_1_method_41_code 34 = .ok (.iload_n 2, 1) := by decide +kernel
theorem dH_findState_35 : decode prog_1_method_41_code 35 = .ok (.aaload, 1) := by decide +kernel
theorem dH_findState_36 : decode prog_1_method_41_code 36 = .ok (.areturn, 1) := by decide +kernel
theorem dH_has_0 : decode prog_1_method_49_code 0 = .ok (.iload_n 0, 1) := by decide +kernel
theorem dH_has_1 : decode prog_1_method_49_code 1 = .ok (.iload_n 1, 1) := by decide +kernel
theorem dH_has_2 : decode prog_1_method_49_code 2 = .ok (.invokestatic 186, 3) := by decide +kernel
theorem dH_has_5 : decode prog_1_method_49_code 5 = .ok (.iand, 1) := by decide +kernel
theorem dH_has_6 : decode prog_1_method_49_code 6 = .ok (.ifCond .eq 7, 3) := by decide +kernel
theorem dH_has_9 : decode prog_1_method_49_code 9 = .ok (.iconst 1, 1) := by decide +kernel
theorem dH_has_10 : decode prog_1_method_49_code 10 = .ok (.goto 4, 3) := by decide +kernel
theorem dH_has_13 : decode prog_1_method_49_code 13 = .ok (.iconst 0, 1) := by decide +kernel
theorem dH_has_14 : decode prog_1_method_49_code 14 = .ok (.ireturn, 1) := by decide +kernel
theorem dL_holds_0 : decode prog_5_method_4_code 0 = .ok (.iconst 0, 1) := by decide +kernel
theorem dL_holds_1 : decode prog_5_method_4_code 1 = .ok (.istore_n 2, 1) := by decide +kernel
theorem dL_holds_2 : decode prog_5_method_4_code 2 = .ok (.iload_n 2, 1) := by decide +kernel
theorem dL_holds_3 : decode prog_5_method_4_code 3 = .ok (.aload_n 0, 1) := by decide +kernel
theorem dL_holds_4 : decode prog_5_method_4_code 4 = .ok (.getfield 17, 3) := by decide +kernel
theorem dL_holds_7 : decode prog_5_method_4_code 7 = .ok (.if_icmp .ge 24, 3) := by decide +kernel
theorem dL_holds_10 : decode prog_5_method_4_code 10 = .ok (.aload_n 0, 1) := by decide +kernel
theorem dL_holds_11 : decode prog_5_method_4_code 11 = .ok (.getfield 11, 3) := by decide +kernel
theorem dL_holds_14 : decode prog_5_method_4_code 14 = .ok (.iload_n 2, 1) := by decide +kernel
theorem dL_holds_15 : decode prog_5_method_4_code 15 = .ok (.aaload, 1) := by decide +kernel
theorem dL_holds_16 : decode prog_5_method_4_code 16 = .ok (.getfield 21, 3) := by decide +kernel
theorem dL_holds_19 : decode prog_5_method_4_code 19 = .ok (.iload_n 1, 1) := by decide +kernel
theorem dL_holds_20 : decode prog_5_method_4_code 20 = .ok (.if_icmp .ne 5, 3) := by decide +kernel
theorem dL_holds_23 : decode prog_5_method_4_code 23 = .ok (.iconst 1, 1) := by decide +kernel
theorem dL_holds_24 : decode prog_5_method_4_code 24 = .ok (.ireturn, 1) := by decide +kernel
theorem dL_holds_25 : decode prog_5_method_4_code 25 = .ok (.iinc 2 1, 3) := by decide +kernel
theorem dL_holds_28 : decode prog_5_method_4_code 28 = .ok (.goto (-26), 3) := by decide +kernel
theorem dL_holds_31 : decode prog_5_method_4_code 31 = .ok (.iconst 0, 1) := by decide +kernel
theorem dL_holds_32 : decode prog_5_method_4_code 32 = .ok (.ireturn, 1) := by decide +kernel
theorem dL_hasRoomFor_0 : decode prog_5_method_2_code 0 = .ok (.iload_n 1, 1) := by decide +kernel
theorem dL_hasRoomFor_1 : decode prog_5_method_2_code 1 = .ok (.iconst 4, 1) := by decide +kernel
theorem dL_hasRoomFor_2 : decode prog_5_method_2_code 2 = .ok (.aload_n 0, 1) := by decide +kernel
theorem dL_hasRoomFor_3 : decode prog_5_method_2_code 3 = .ok (.getfield 17, 3) := by decide +kernel
theorem dL_hasRoomFor_6 : decode prog_5_method_2_code 6 = .ok (.isub, 1) := by decide +kernel
theorem dL_hasRoomFor_7 : decode prog_5_method_2_code 7 = .ok (.if_icmp .gt 7, 3) := by decide +kernel
theorem dL_hasRoomFor_10 : decode prog_5_method_2_code 10 = .ok (.iconst 1, 1) := by decide +kernel
theorem dL_hasRoomFor_11 : decode prog_5_method_2_code 11 = .ok (.goto 4, 3) := by decide +kernel
theorem dL_hasRoomFor_14 : decode prog_5_method_2_code 14 = .ok (.iconst 0, 1) := by decide +kernel
theorem dL_hasRoomFor_15 : decode prog_5_method_2_code 15 = .ok (.ireturn, 1) := by decide +kernel
theorem dT_addInput_0 : decode prog_6_method_2_code 0 = .ok (.aload_n 0, 1) := by decide +kernel
theorem dT_addInput_1 : decode prog_6_method_2_code 1 = .ok (.dup, 1) := by decide +kernel
theorem dT_addInput_2 : decode prog_6_method_2_code 2 = .ok (.getfield 43, 3) := by decide +kernel
theorem dT_addInput_5 : decode prog_6_method_2_code 5 = .ok (.aload_n 2, 1) := by decide +kernel
theorem dT_addInput_6 : decode prog_6_method_2_code 6 = .ok (.getfield 9, 3) := by decide +kernel
theorem dT_addInput_9 : decode prog_6_method_2_code 9 = .ok (.invokestatic 46, 3) := by decide +kernel
theorem dT_addInput_12 : decode prog_6_method_2_code 12 = .ok (.aload_n 2, 1) := by decide +kernel
theorem dT_addInput_13 : decode prog_6_method_2_code 13 = .ok (.getfield 43, 3) := by decide +kernel
theorem dT_addInput_16 : decode prog_6_method_2_code 16 = .ok (.ior, 1) := by decide +kernel
theorem dT_addInput_17 : decode prog_6_method_2_code 17 = .ok (.ior, 1) := by decide +kernel
theorem dT_addInput_18 : decode prog_6_method_2_code 18 = .ok (.putfield 43, 3) := by decide +kernel
theorem dT_addInput_21 : decode prog_6_method_2_code 21 = .ok (.aload_n 0, 1) := by decide +kernel
theorem dT_addInput_22 : decode prog_6_method_2_code 22 = .ok (.getfield 30, 3) := by decide +kernel
theorem dT_addInput_25 : decode prog_6_method_2_code 25 = .ok (.aload_n 1, 1) := by decide +kernel
theorem dT_addInput_26 : decode prog_6_method_2_code 26 = .ok (.invokevirtual 50, 3) := by decide +kernel
theorem dT_addInput_29 : decode prog_6_method_2_code 29 = .ok (.ireturn, 1) := by decide +kernel
theorem dL_add_0 : decode prog_5_method_3_code 0 = .ok (.aload_n 0, 1) := by decide +kernel
theorem dL_add_1 : decode prog_5_method_3_code 1 = .ok (.getfield 17, 3) := by decide +kernel
theorem dL_add_4 : decode prog_5_method_3_code 4 = .ok (.iconst 4, 1) := by decide +kernel
theorem dL_add_5 : decode prog_5_method_3_code 5 = .ok (.if_icmp .lt 6, 3) := by decide +kernel
theorem dL_add_8 : decode prog_5_method_3_code 8 = .ok (.bipush (-6), 2) := by decide +kernel
theorem dL_add_10 : decode prog_5_method_3_code 10 = .ok (.ireturn, 1) := by decide +kernel
theorem dL_add_11 : decode prog_5_method_3_code 11 = .ok (.aload_n 0, 1) := by decide +kernel
theorem dL_add_12 : decode prog_5_method_3_code 12 = .ok (.getfield 11, 3) := by decide +kernel
theorem dL_add_15 : decode prog_5_method_3_code 15 = .ok (.aload_n 0, 1) := by decide +kernel
theorem dL_add_16 : decode prog_5_method_3_code 16 = .ok (.getfield 17, 3) := by decide +kernel
theorem dL_add_19 : decode prog_5_method_3_code 19 = .ok (.aload_n 1, 1) := by decide +kernel
theorem dL_add_20 : decode prog_5_method_3_code 20 = .ok (.aastore, 1) := by decide +kernel
theorem dL_add_21 : decode prog_5_method_3_code 21 = .ok (.aload_n 0, 1) := by decide +kernel
theorem dL_add_22 : decode prog_5_method_3_code 22 = .ok (.dup, 1) := by decide +kernel
theorem dL_add_23 : decode prog_5_method_3_code 23 = .ok (.getfield 17, 3) := by decide +kernel
theorem dL_add_26 : decode prog_5_method_3_code 26 = .ok (.iconst 1, 1) := by decide +kernel
theorem dL_add_27 : decode prog_5_method_3_code 27 = .ok (.iadd, 1) := by decide +kernel
theorem dL_add_28 : decode prog_5_method_3_code 28 = .ok (.putfield 17, 3) := by decide +kernel
theorem dL_add_31 : decode prog_5_method_3_code 31 = .ok (.aload_n 0, 1) := by decide +kernel
theorem dL_add_32 : decode prog_5_method_3_code 32 = .ok (.getfield 17, 3) := by decide +kernel
theorem dL_add_35 : decode prog_5_method_3_code 35 = .ok (.iconst 1, 1) := by decide +kernel
theorem dL_add_36 : decode prog_5_method_3_code 36 = .ok (.isub, 1) := by decide +kernel
theorem dL_add_37 : decode prog_5_method_3_code 37 = .ok (.ireturn, 1) := by decide +kernel
theorem dH_produce_0 : decode prog_1_method_4_code 0 = .ok (.aload_n 0, 1) := by decide +kernel
theorem dH_produce_1 : decode prog_1_method_4_code 1 = .ok (.iload_n 1, 1) := by decide +kernel
theorem dH_produce_2 : decode prog_1_method_4_code 2 = .ok (.invokevirtual 60, 3) := by decide +kernel
theorem dH_produce_5 : decode prog_1_method_4_code 5 = .ok (.astore 6, 2) := by decide +kernel
theorem dH_produce_7 : decode prog_1_method_4_code 7 = .ok (.aload 6, 2) := by decide +kernel
theorem dH_produce_9 : decode prog_1_method_4_code 9 = .ok (.ifnull 21, 3) := by decide +kernel
theorem dH_produce_12 : decode prog_1_method_4_code 12 = .ok (.iload_n 2, 1) := by decide +kernel
theorem dH_produce_13 : decode prog_1_method_4_code 13 = .ok (.iload_n 3, 1) := by decide +kernel
theorem dH_produce_14 : decode prog_1_method_4_code 14 = .ok (.iload 4, 2) := by decide +kernel
theorem dH_produce_16 : decode prog_1_method_4_code 16 = .ok (.invokestatic 105, 3) := by decide +kernel
theorem dH_produce_19 : decode prog_1_method_4_code 19 = .ok (.ifCond .eq 11, 3) := by decide +kernel
theorem dH_produce_22 : decode prog_1_method_4_code 22 = .ok (.iload 5, 2) := by decide +kernel
theorem dH_produce_24 : decode prog_1_method_4_code 24 = .ok (.invokestatic 109, 3) := by decide +kernel
theorem dH_produce_27 : decode prog_1_method_4_code 27 = .ok (.ifCond .ne 5, 3) := by decide +kernel
theorem dH_produce_30 : decode prog_1_method_4_code 30 = .ok (.iconst (-1), 1) := by decide +kernel
theorem dH_produce_31 : decode prog_1_method_4_code 31 = .ok (.ireturn, 1) := by decide +kernel
theorem dH_produce_32 : decode prog_1_method_4_code 32 = .ok (.aload 6, 2) := by decide +kernel
theorem dH_produce_34 : decode prog_1_method_4_code 34 = .ok (.getfield 68, 3) := by decide +kernel
theorem dH_produce_37 : decode prog_1_method_4_code 37 = .ok (.ifCond .eq 6, 3) := by decide +kernel
theorem dH_produce_40 : decode prog_1_method_4_code 40 = .ok (.bipush (-2), 2) := by decide +kernel
theorem dH_produce_42 : decode prog_1_method_4_code 42 = .ok (.ireturn, 1) := by decide +kernel
theorem dH_produce_43 : decode prog_1_method_4_code 43 = .ok (.aload 6, 2) := by decide +kernel
theorem dH_produce_45 : decode prog_1_method_4_code 45 = .ok (.getfield 112, 3) := by decide +kernel
theorem dH_produce_48 : decode prog_1_method_4_code 48 = .ok (.iconst 1, 1) := by decide +kernel
theorem dH_produce_49 : decode prog_1_method_4_code 49 = .ok (.invokevirtual 98, 3) := by decide +kernel
theorem dH_produce_52 : decode prog_1_method_4_code 52 = .ok (.ifCond .ne 6, 3) := by decide +kernel
theorem dH_produce_55 : decode prog_1_method_4_code 55 = .ok (.bipush (-6), 2) := by decide +kernel
theorem dH_produce_57 : decode prog_1_method_4_code 57 = .ok (.ireturn, 1) := by decide +kernel
theorem dH_produce_58 : decode prog_1_method_4_code 58 = .ok (.aload 6, 2) := by decide +kernel
theorem dH_produce_60 : decode prog_1_method_4_code 60 = .ok (.iload_n 2, 1) := by decide +kernel
theorem dH_produce_61 : decode prog_1_method_4_code 61 = .ok (.iload_n 3, 1) := by decide +kernel
theorem dH_produce_62 : decode prog_1_method_4_code 62 = .ok (.iload 4, 2) := by decide +kernel
theorem dH_produce_64 : decode prog_1_method_4_code 64 = .ok (.iload 5, 2) := by decide +kernel
theorem dH_produce_66 : decode prog_1_method_4_code 66 = .ok (.invokevirtual 115, 3) := by decide +kernel
theorem dH_produce_69 : decode prog_1_method_4_code 69 = .ok (.ireturn, 1) := by decide +kernel
theorem dH_isContent_0 : decode prog_1_method_47_code 0 = .ok (.iload_n 0, 1) := by decide +kernel
theorem dH_isContent_1 : decode prog_1_method_47_code 1 = .ok (.tableswitch 86 0 2 #[27, 47, 72], 27) := by decide +kernel
theorem dH_isContent_28 : decode prog_1_method_47_code 28 = .ok (.iload_n 1, 1) := by decide +kernel
theorem dH_isContent_29 : decode prog_1_method_47_code 29 = .ok (.invokestatic 45, 3) := by decide +kernel
theorem dH_isContent_32 : decode prog_1_method_47_code 32 = .ok (.ifCond .eq 14, 3) := by decide +kernel
theorem dH_isContent_35 : decode prog_1_method_47_code 35 = .ok (.iload_n 2, 1) := by decide +kernel
theorem dH_isContent_36 : decode prog_1_method_47_code 36 = .ok (.invokestatic 45, 3) := by decide +kernel
theorem dH_isContent_39 : decode prog_1_method_47_code 39 = .ok (.ifCond .eq 7, 3) := by decide +kernel
theorem dH_isContent_42 : decode prog_1_method_47_code 42 = .ok (.iconst 1, 1) := by decide +kernel
theorem dH_isContent_43 : decode prog_1_method_47_code 43 = .ok (.goto 4, 3) := by decide +kernel
theorem dH_isContent_46 : decode prog_1_method_47_code 46 = .ok (.iconst 0, 1) := by decide +kernel
theorem dH_isContent_47 : decode prog_1_method_47_code 47 = .ok (.ireturn, 1) := by decide +kernel
theorem dH_isContent_48 : decode prog_1_method_47_code 48 = .ok (.iload_n 1, 1) := by decide +kernel
theorem dH_isContent_49 : decode prog_1_method_47_code 49 = .ok (.invokestatic 45, 3) := by decide +kernel
theorem dH_isContent_52 : decode prog_1_method_47_code 52 = .ok (.ifCond .eq 19, 3) := by decide +kernel
theorem dH_isContent_55 : decode prog_1_method_47_code 55 = .ok (.iload_n 2, 1) := by decide +kernel
theorem dH_isContent_56 : decode prog_1_method_47_code 56 = .ok (.invokestatic 45, 3) := by decide +kernel
theorem dH_isContent_59 : decode prog_1_method_47_code 59 = .ok (.ifCond .eq 12, 3) := by decide +kernel
theorem dH_isContent_62 : decode prog_1_method_47_code 62 = .ok (.iload_n 1, 1) := by decide +kernel
theorem dH_isContent_63 : decode prog_1_method_47_code 63 = .ok (.iload_n 2, 1) := by decide +kernel
theorem dH_isContent_64 : decode prog_1_method_47_code 64 = .ok (.if_icmp .eq 7, 3) := by decide +kernel
theorem dH_isContent_67 : decode prog_1_method_47_code 67 = .ok (.iconst 1, 1) := by decide +kernel
theorem dH_isContent_68 : decode prog_1_method_47_code 68 = .ok (.goto 4, 3) := by decide +kernel
theorem dH_isContent_71 : decode prog_1_method_47_code 71 = .ok (.iconst 0, 1) := by decide +kernel
theorem dH_isContent_72 : decode prog_1_method_47_code 72 = .ok (.ireturn, 1) := by decide +kernel
theorem dH_isContent_73 : decode prog_1_method_47_code 73 = .ok (.iload_n 1, 1) := by decide +kernel
theorem dH_isContent_74 : decode prog_1_method_47_code 74 = .ok (.ifCond .ne 11, 3) := by decide +kernel
theorem dH_isContent_77 : decode prog_1_method_47_code 77 = .ok (.iload_n 2, 1) := by decide +kernel
theorem dH_isContent_78 : decode prog_1_method_47_code 78 = .ok (.ifCond .ne 7, 3) := by decide +kernel
theorem dH_isContent_81 : decode prog_1_method_47_code 81 = .ok (.iconst 1, 1) := by decide +kernel
theorem dH_isContent_82 : decode prog_1_method_47_code 82 = .ok (.goto 4, 3) := by decide +kernel
theorem dH_isContent_85 : decode prog_1_method_47_code 85 = .ok (.iconst 0, 1) := by decide +kernel
theorem dH_isContent_86 : decode prog_1_method_47_code 86 = .ok (.ireturn, 1) := by decide +kernel
theorem dH_isContent_87 : decode prog_1_method_47_code 87 = .ok (.iconst 0, 1) := by decide +kernel
theorem dH_isContent_88 : decode prog_1_method_47_code 88 = .ok (.ireturn, 1) := by decide +kernel
theorem dH_isAmount_0 : decode prog_1_method_46_code 0 = .ok (.iload_n 0, 1) := by decide +kernel
theorem dH_isAmount_1 : decode prog_1_method_46_code 1 = .ok (.iconst 1, 1) := by decide +kernel
theorem dH_isAmount_2 : decode prog_1_method_46_code 2 = .ok (.if_icmp .lt 14, 3) := by decide +kernel
theorem dH_isAmount_5 : decode prog_1_method_46_code 5 = .ok (.iload_n 0, 1) := by decide +kernel
theorem dH_isAmount_6 : decode prog_1_method_46_code 6 = .ok (.sipush 1000, 3) := by decide +kernel
theorem dH_isAmount_9 : decode prog_1_method_46_code 9 = .ok (.if_icmp .gt 7, 3) := by decide +kernel
theorem dH_isAmount_12 : decode prog_1_method_46_code 12 = .ok (.iconst 1, 1) := by decide +kernel
theorem dH_isAmount_13 : decode prog_1_method_46_code 13 = .ok (.goto 4, 3) := by decide +kernel
theorem dH_isAmount_16 : decode prog_1_method_46_code 16 = .ok (.iconst 0, 1) := by decide +kernel
theorem dH_isAmount_17 : decode prog_1_method_46_code 17 = .ok (.ireturn, 1) := by decide +kernel
theorem dT_addOutput_0 : decode prog_6_method_3_code 0 = .ok (.aload_n 0, 1) := by decide +kernel
theorem dT_addOutput_1 : decode prog_6_method_3_code 1 = .ok (.getfield 34, 3) := by decide +kernel
theorem dT_addOutput_4 : decode prog_6_method_3_code 4 = .ok (.new 54, 3) := by decide +kernel
theorem dT_addOutput_7 : decode prog_6_method_3_code 7 = .ok (.dup, 1) := by decide +kernel
theorem dT_addOutput_8 : decode prog_6_method_3_code 8 = .ok (.aload_n 0, 1) := by decide +kernel
theorem dT_addOutput_9 : decode prog_6_method_3_code 9 = .ok (.getfield 9, 3) := by decide +kernel
theorem dT_addOutput_12 : decode prog_6_method_3_code 12 = .ok (.iconst 4, 1) := by decide +kernel
theorem dT_addOutput_13 : decode prog_6_method_3_code 13 = .ok (.imul, 1) := by decide +kernel
theorem dT_addOutput_14 : decode prog_6_method_3_code 14 = .ok (.aload_n 0, 1) := by decide +kernel
theorem dT_addOutput_15 : decode prog_6_method_3_code 15 = .ok (.getfield 34, 3) := by decide +kernel
theorem dT_addOutput_18 : decode prog_6_method_3_code 18 = .ok (.getfield 56, 3) := by decide +kernel
theorem dT_addOutput_21 : decode prog_6_method_3_code 21 = .ok (.iadd, 1) := by decide +kernel
theorem dT_addOutput_22 : decode prog_6_method_3_code 22 = .ok (.iload_n 1, 1) := by decide +kernel
theorem dT_addOutput_23 : decode prog_6_method_3_code 23 = .ok (.iload_n 2, 1) := by decide +kernel
theorem dT_addOutput_24 : decode prog_6_method_3_code 24 = .ok (.iload_n 3, 1) := by decide +kernel
theorem dT_addOutput_25 : decode prog_6_method_3_code 25 = .ok (.iload 4, 2) := by decide +kernel
theorem dT_addOutput_27 : decode prog_6_method_3_code 27 = .ok (.invokespecial 59, 3) := by decide +kernel
theorem dT_addOutput_30 : decode prog_6_method_3_code 30 = .ok (.invokevirtual 50, 3) := by decide +kernel
theorem dT_addOutput_33 : decode prog_6_method_3_code 33 = .ok (.ireturn, 1) := by decide +kernel
theorem dS_init_0 : decode prog_4_method_1_code 0 = .ok (.aload_n 0, 1) := by decide +kernel
theorem dS_init_1 : decode prog_4_method_1_code 1 = .ok (.invokespecial 3, 3) := by decide +kernel
theorem dS_init_4 : decode prog_4_method_1_code 4 = .ok (.aload_n 0, 1) := by decide +kernel
theorem dS_init_5 : decode prog_4_method_1_code 5 = .ok (.iload_n 1, 1) := by decide +kernel
theorem dS_init_6 : decode prog_4_method_1_code 6 = .ok (.putfield 9, 3) := by decide +kernel
theorem dS_init_9 : decode prog_4_method_1_code 9 = .ok (.aload_n 0, 1) := by decide +kernel
theorem dS_init_10 : decode prog_4_method_1_code 10 = .ok (.iload_n 2, 1) := by decide +kernel
theorem dS_init_11 : decode prog_4_method_1_code 11 = .ok (.putfield 15, 3) := by decide +kernel
theorem dS_init_14 : decode prog_4_method_1_code 14 = .ok (.aload_n 0, 1) := by decide +kernel
theorem dS_init_15 : decode prog_4_method_1_code 15 = .ok (.iload_n 3, 1) := by decide +kernel
theorem dS_init_16 : decode prog_4_method_1_code 16 = .ok (.putfield 18, 3) := by decide +kernel
theorem dS_init_19 : decode prog_4_method_1_code 19 = .ok (.aload_n 0, 1) := by decide +kernel
theorem dS_init_20 : decode prog_4_method_1_code 20 = .ok (.iload 4, 2) := by decide +kernel
theorem dS_init_22 : decode prog_4_method_1_code 22 = .ok (.putfield 21, 3) := by decide +kernel
theorem dS_init_25 : decode prog_4_method_1_code 25 = .ok (.aload_n 0, 1) := by decide +kernel
theorem dS_init_26 : decode prog_4_method_1_code 26 = .ok (.iload 5, 2) := by decide +kernel
theorem dS_init_28 : decode prog_4_method_1_code 28 = .ok (.putfield 24, 3) := by decide +kernel
theorem dS_init_31 : decode prog_4_method_1_code 31 = .ok (.aload_n 0, 1) := by decide +kernel
theorem dS_init_32 : decode prog_4_method_1_code 32 = .ok (.iconst (-1), 1) := by decide +kernel
theorem dS_init_33 : decode prog_4_method_1_code 33 = .ok (.putfield 27, 3) := by decide +kernel
theorem dS_init_36 : decode prog_4_method_1_code 36 = .ok (.return_, 1) := by decide +kernel
theorem dH_bind_0 : decode prog_1_method_5_code 0 = .ok (.aload_n 0, 1) := by decide +kernel
theorem dH_bind_1 : decode prog_1_method_5_code 1 = .ok (.iload_n 1, 1) := by decide +kernel
theorem dH_bind_2 : decode prog_1_method_5_code 2 = .ok (.invokevirtual 60, 3) := by decide +kernel
theorem dH_bind_5 : decode prog_1_method_5_code 5 = .ok (.astore 4, 2) := by decide +kernel
theorem dH_bind_7 : decode prog_1_method_5_code 7 = .ok (.aload_n 0, 1) := by decide +kernel
theorem dH_bind_8 : decode prog_1_method_5_code 8 = .ok (.iload_n 1, 1) := by decide +kernel
theorem dH_bind_9 : decode prog_1_method_5_code 9 = .ok (.iload_n 2, 1) := by decide +kernel
theorem dH_bind_10 : decode prog_1_method_5_code 10 = .ok (.invokevirtual 64, 3) := by decide +kernel
theorem dH_bind_13 : decode prog_1_method_5_code 13 = .ok (.astore 5, 2) := by decide +kernel
theorem dH_bind_15 : decode prog_1_method_5_code 15 = .ok (.aload 4, 2) := by decide +kernel
theorem dH_bind_17 : decode prog_1_method_5_code 17 = .ok (.ifnull 27, 3) := by decide +kernel
theorem dH_bind_20 : decode prog_1_method_5_code 20 = .ok (.aload 5, 2) := by decide +kernel
theorem dH_bind_22 : decode prog_1_method_5_code 22 = .ok (.ifnull 22, 3) := by decide +kernel
theorem dH_bind_25 : decode prog_1_method_5_code 25 = .ok (.iload_n 3, 1) := by decide +kernel
theorem dH_bind_26 : decode prog_1_method_5_code 26 = .ok (.iload_n 2, 1) := by decide +kernel
theorem dH_bind_27 : decode prog_1_method_5_code 27 = .ok (.if_icmp .eq 17, 3) := by decide +kernel
theorem dH_bind_30 : decode prog_1_method_5_code 30 = .ok (.iload_n 3, 1) := by decide +kernel
theorem dH_bind_31 : decode prog_1_method_5_code 31 = .ok (.iconst (-1), 1) := by decide +kernel
theorem dH_bind_32 : decode prog_1_method_5_code 32 = .ok (.if_icmp .eq 14, 3) := by decide +kernel
theorem dH_bind_35 : decode prog_1_method_5_code 35 = .ok (.aload_n 0, 1) := by decide +kernel
theorem dH_bind_36 : decode prog_1_method_5_code 36 = .ok (.iload_n 1, 1) := by decide +kernel
theorem dH_bind_37 : decode prog_1_method_5_code 37 = .ok (.iload_n 3, 1) := by decide +kernel
theorem dH_bind_38 : decode prog_1_method_5_code 38 = .ok (.invokevirtual 64, 3) := by decide +kernel
theorem dH_bind_41 : decode prog_1_method_5_code 41 = .ok (.ifnonnull 5, 3) := by decide +kernel
theorem dH_bind_44 : decode prog_1_method_5_code 44 = .ok (.iconst (-1), 1) := by decide +kernel
theorem dH_bind_45 : decode prog_1_method_5_code 45 = .ok (.ireturn, 1) := by decide +kernel
theorem dH_bind_46 : decode prog_1_method_5_code 46 = .ok (.aload 4, 2) := by decide +kernel
theorem dH_bind_48 : decode prog_1_method_5_code 48 = .ok (.getfield 68, 3) := by decide +kernel
theorem dH_bind_51 : decode prog_1_method_5_code 51 = .ok (.ifCond .eq 6, 3) := by decide +kernel
theorem dH_bind_54 : decode prog_1_method_5_code 54 = .ok (.bipush (-2), 2) := by decide +kernel
theorem dH_bind_56 : decode prog_1_method_5_code 56 = .ok (.ireturn, 1) := by decide +kernel
theorem dH_bind_57 : decode prog_1_method_5_code 57 = .ok (.aload 5, 2) := by decide +kernel
theorem dH_bind_59 : decode prog_1_method_5_code 59 = .ok (.iload_n 3, 1) := by decide +kernel
theorem dH_bind_60 : decode prog_1_method_5_code 60 = .ok (.putfield 119, 3) := by decide +kernel
theorem dH_bind_63 : decode prog_1_method_5_code 63 = .ok (.iconst 0, 1) := by decide +kernel
theorem dH_bind_64 : decode prog_1_method_5_code 64 = .ok (.ireturn, 1) := by decide +kernel
theorem dH_pay_0 : decode prog_1_method_6_code 0 = .ok (.aload_n 0, 1) := by decide +kernel
theorem dH_pay_1 : decode prog_1_method_6_code 1 = .ok (.iload_n 1, 1) := by decide +kernel
theorem dH_pay_2 : decode prog_1_method_6_code 2 = .ok (.invokevirtual 60, 3) := by decide +kernel
theorem dH_pay_5 : decode prog_1_method_6_code 5 = .ok (.astore 5, 2) := by decide +kernel
theorem dH_pay_7 : decode prog_1_method_6_code 7 = .ok (.aload 5, 2) := by decide +kernel
theorem dH_pay_9 : decode prog_1_method_6_code 9 = .ok (.ifnull 25, 3) := by decide +kernel
theorem dH_pay_12 : decode prog_1_method_6_code 12 = .ok (.iload_n 2, 1) := by decide +kernel
theorem dH_pay_13 : decode prog_1_method_6_code 13 = .ok (.invokestatic 45, 3) := by decide +kernel
theorem dH_pay_16 : decode prog_1_method_6_code 16 = .ok (.ifCond .eq 18, 3) := by decide +kernel
theorem dH_pay_19 : decode prog_1_method_6_code 19 = .ok (.iload_n 3, 1) := by decide +kernel
theorem dH_pay_20 : decode prog_1_method_6_code 20 = .ok (.invokestatic 45, 3) := by decide +kernel
theorem dH_pay_23 : decode prog_1_method_6_code 23 = .ok (.ifCond .eq 11, 3) := by decide +kernel
theorem dH_pay_26 : decode prog_1_method_6_code 26 = .ok (.iload 4, 2) := by decide +kernel
theorem dH_pay_28 : decode prog_1_method_6_code 28 = .ok (.invokestatic 109, 3) := by decide +kernel
theorem dH_pay_31 : decode prog_1_method_6_code 31 = .ok (.ifCond .ne 5, 3) := by decide +kernel
theorem dH_pay_34 : decode prog_1_method_6_code 34 = .ok (.iconst (-1), 1) := by decide +kernel
theorem dH_pay_35 : decode prog_1_method_6_code 35 = .ok (.ireturn, 1) := by decide +kernel
theorem dH_pay_36 : decode prog_1_method_6_code 36 = .ok (.aload 5, 2) := by decide +kernel
theorem dH_pay_38 : decode prog_1_method_6_code 38 = .ok (.getfield 68, 3) := by decide +kernel
theorem dH_pay_41 : decode prog_1_method_6_code 41 = .ok (.ifCond .eq 6, 3) := by decide +kernel
theorem dH_pay_44 : decode prog_1_method_6_code 44 = .ok (.bipush (-2), 2) := by decide +kernel
theorem dH_pay_46 : decode prog_1_method_6_code 46 = .ok (.ireturn, 1) := by decide +kernel
theorem dH_pay_47 : decode prog_1_method_6_code 47 = .ok (.iconst 0, 1) := by decide +kernel
theorem dH_pay_48 : decode prog_1_method_6_code 48 = .ok (.istore 6, 2) := by decide +kernel
theorem dH_pay_50 : decode prog_1_method_6_code 50 = .ok (.iconst 0, 1) := by decide +kernel
theorem dH_pay_51 : decode prog_1_method_6_code 51 = .ok (.istore 7, 2) := by decide +kernel
theorem dH_pay_53 : decode prog_1_method_6_code 53 = .ok (.iconst 0, 1) := by decide +kernel
theorem dH_pay_54 : decode prog_1_method_6_code 54 = .ok (.istore 8, 2) := by decide +kernel
theorem dH_pay_56 : decode prog_1_method_6_code 56 = .ok (.iload 8, 2) := by decide +kernel
theorem dH_pay_58 : decode prog_1_method_6_code 58 = .ok (.aload_n 0, 1) := by decide +kernel
theorem dH_pay_59 : decode prog_1_method_6_code 59 = .ok (.invokevirtual 122, 3) := by decide +kernel
theorem dH_pay_62 : decode prog_1_method_6_code 62 = .ok (.if_icmp .ge 63, 3) := by decide +kernel
theorem dH_pay_65 : decode prog_1_method_6_code 65 = .ok (.iload 7, 2) := by decide +kernel
theorem dH_pay_67 : decode prog_1_method_6_code 67 = .ok (.iload 4, 2) := by decide +kernel
theorem dH_pay_69 : decode prog_1_method_6_code 69 = .ok (.if_icmp .ge 56, 3) := by decide +kernel
theorem dH_pay_72 : decode prog_1_method_6_code 72 = .ok (.aload_n 0, 1) := by decide +kernel
theorem dH_pay_73 : decode prog_1_method_6_code 73 = .ok (.iload 8, 2) := by decide +kernel
theorem dH_pay_75 : decode prog_1_method_6_code 75 = .ok (.invokevirtual 126, 3) := by decide +kernel
theorem dH_pay_78 : decode prog_1_method_6_code 78 = .ok (.astore 9, 2) := by decide +kernel
theorem dH_pay_80 : decode prog_1_method_6_code 80 = .ok (.aload 9, 2) := by decide +kernel
theorem dH_pay_82 : decode prog_1_method_6_code 82 = .ok (.ifnull 37, 3) := by decide +kernel
theorem dH_pay_85 : decode prog_1_method_6_code 85 = .ok (.aload_n 0, 1) := by decide +kernel
theorem dH_pay_86 : decode prog_1_method_6_code 86 = .ok (.aload 9, 2) := by decide +kernel
theorem dH_pay_88 : decode prog_1_method_6_code 88 = .ok (.iload_n 2, 1) := by decide +kernel
theorem dH_pay_89 : decode prog_1_method_6_code 89 = .ok (.aload 5, 2) := by decide +kernel
theorem dH_pay_91 : decode prog_1_method_6_code 91 = .ok (.invokevirtual 130, 3) := by decide +kernel
theorem dH_pay_94 : decode prog_1_method_6_code 94 = .ok (.ifCond .eq 25, 3) := by decide +kernel
theorem dH_pay_97 : decode prog_1_method_6_code 97 = .ok (.aload_n 0, 1) := by decide +kernel
theorem dH_pay_98 : decode prog_1_method_6_code 98 = .ok (.getfield 39, 3) := by decide +kernel
theorem dH_pay_101 : decode prog_1_method_6_code 101 = .ok (.iload 6, 2) := by decide +kernel
theorem dH_pay_103 : decode prog_1_method_6_code 103 = .ok (.iload 8, 2) := by decide +kernel
theorem dH_pay_105 : decode prog_1_method_6_code 105 = .ok (.iastore, 1) := by decide +kernel
theorem dH_pay_106 : decode prog_1_method_6_code 106 = .ok (.iinc 6 1, 3) := by decide +kernel
theorem dH_pay_109 : decode prog_1_method_6_code 109 = .ok (.iload 7, 2) := by decide +kernel
theorem dH_pay_111 : decode prog_1_method_6_code 111 = .ok (.aload 9, 2) := by decide +kernel
theorem dH_pay_113 : decode prog_1_method_6_code 113 = .ok (.getfield 134, 3) := by decide +kernel
theorem dH_pay_116 : decode prog_1_method_6_code 116 = .ok (.iadd, 1) := by decide +kernel
theorem dH_pay_117 : decode prog_1_method_6_code 117 = .ok (.istore 7, 2) := by decide +kernel
theorem dH_pay_119 : decode prog_1_method_6_code 119 = .ok (.iinc 8 1, 3) := by decide +kernel
theorem dH_pay_122 : decode prog_1_method_6_code 122 = .ok (.goto (-66), 3) := by decide +kernel
theorem dH_pay_125 : decode prog_1_method_6_code 125 = .ok (.iload 7, 2) := by decide +kernel
theorem dH_pay_127 : decode prog_1_method_6_code 127 = .ok (.iload 4, 2) := by decide +kernel
theorem dH_pay_129 : decode prog_1_method_6_code 129 = .ok (.if_icmp .ge 6, 3) := by decide +kernel
theorem dH_pay_132 : decode prog_1_method_6_code 132 = .ok (.bipush (-7), 2) := by decide +kernel
theorem dH_pay_134 : decode prog_1_method_6_code 134 = .ok (.ireturn, 1) := by decide +kernel
theorem dH_pay_135 : decode prog_1_method_6_code 135 = .ok (.aload 5, 2) := by decide +kernel
theorem dH_pay_137 : decode prog_1_method_6_code 137 = .ok (.getfield 84, 3) := by decide +kernel
theorem dH_pay_140 : decode prog_1_method_6_code 140 = .ok (.iload 6, 2) := by decide +kernel
theorem dH_pay_142 : decode prog_1_method_6_code 142 = .ok (.invokevirtual 98, 3) := by decide +kernel
theorem dH_pay_145 : decode prog_1_method_6_code 145 = .ok (.ifCond .eq 26, 3) := by decide +kernel
theorem dH_pay_148 : decode prog_1_method_6_code 148 = .ok (.aload 5, 2) := by decide +kernel
theorem dH_pay_150 : decode prog_1_method_6_code 150 = .ok (.getfield 112, 3) := by decide +kernel
theorem dH_pay_153 : decode prog_1_method_6_code 153 = .ok (.iload 7, 2) := by decide +kernel
theorem dH_pay_155 : decode prog_1_method_6_code 155 = .ok (.iload 4, 2) := by decide +kernel
theorem dH_pay_157 : decode prog_1_method_6_code 157 = .ok (.if_icmp .le 7, 3) := by decide +kernel
theorem dH_pay_160 : decode prog_1_method_6_code 160 = .ok (.iconst 2, 1) := by decide +kernel
theorem dH_pay_161 : decode prog_1_method_6_code 161 = .ok (.goto 4, 3) := by decide +kernel
theorem dH_pay_164 : decode prog_1_method_6_code 164 = .ok (.iconst 1, 1) := by decide +kernel
theorem dH_pay_165 : decode prog_1_method_6_code 165 = .ok (.invokevirtual 98, 3) := by decide +kernel
theorem dH_pay_168 : decode prog_1_method_6_code 168 = .ok (.ifCond .ne 6, 3) := by decide +kernel
theorem dH_pay_171 : decode prog_1_method_6_code 171 = .ok (.bipush (-6), 2) := by decide +kernel
theorem dH_pay_173 : decode prog_1_method_6_code 173 = .ok (.ireturn, 1) := by decide +kernel
theorem dH_pay_174 : decode prog_1_method_6_code 174 = .ok (.aload_n 0, 1) := by decide +kernel
theorem dH_pay_175 : decode prog_1_method_6_code 175 = .ok (.aload 5, 2) := by decide +kernel
theorem dH_pay_177 : decode prog_1_method_6_code 177 = .ok (.iload 6, 2) := by decide +kernel
theorem dH_pay_179 : decode prog_1_method_6_code 179 = .ok (.invokevirtual 137, 3) := by decide +kernel
theorem dH_pay_182 : decode prog_1_method_6_code 182 = .ok (.aload 5, 2) := by decide +kernel
theorem dH_pay_184 : decode prog_1_method_6_code 184 = .ok (.iconst 0, 1) := by decide +kernel
theorem dH_pay_185 : decode prog_1_method_6_code 185 = .ok (.iload_n 2, 1) := by decide +kernel
theorem dH_pay_186 : decode prog_1_method_6_code 186 = .ok (.iload_n 3, 1) := by decide +kernel
theorem dH_pay_187 : decode prog_1_method_6_code 187 = .ok (.iload 4, 2) := by decide +kernel
theorem dH_pay_189 : decode prog_1_method_6_code 189 = .ok (.invokevirtual 115, 3) := by decide +kernel
theorem dH_pay_192 : decode prog_1_method_6_code 192 = .ok (.pop, 1) := by decide +kernel
theorem dH_pay_193 : decode prog_1_method_6_code 193 = .ok (.iload 7, 2) := by decide +kernel
theorem dH_pay_195 : decode prog_1_method_6_code 195 = .ok (.iload 4, 2) := by decide +kernel
theorem dH_pay_197 : decode prog_1_method_6_code 197 = .ok (.if_icmp .le 21, 3) := by decide +kernel
theorem dH_pay_200 : decode prog_1_method_6_code 200 = .ok (.aload 5, 2) := by decide +kernel
theorem dH_pay_202 : decode prog_1_method_6_code 202 = .ok (.iconst 0, 1) := by decide +kernel
theorem dH_pay_203 : decode prog_1_method_6_code 203 = .ok (.iload_n 2, 1) := by decide +kernel
theorem dH_pay_204 : decode prog_1_method_6_code 204 = .ok (.aload 5, 2) := by decide +kernel
theorem dH_pay_206 : decode prog_1_method_6_code 206 = .ok (.getfield 71, 3) := by decide +kernel
theorem dH_pay_209 : decode prog_1_method_6_code 209 = .ok (.iload 7, 2) := by decide +kernel
theorem dH_pay_211 : decode prog_1_method_6_code 211 = .ok (.iload 4, 2) := by decide +kernel
theorem dH_pay_213 : decode prog_1_method_6_code 213 = .ok (.isub, 1) := by decide +kernel
theorem dH_pay_214 : decode prog_1_method_6_code 214 = .ok (.invokevirtual 115, 3) := by decide +kernel
theorem dH_pay_217 : decode prog_1_method_6_code 217 = .ok (.pop, 1) := by decide +kernel
theorem dH_pay_218 : decode prog_1_method_6_code 218 = .ok (.iload 6, 2) := by decide +kernel
theorem dH_pay_220 : decode prog_1_method_6_code 220 = .ok (.ireturn, 1) := by decide +kernel
theorem dH_stateNumbersEnd_0 : decode prog_1_method_43_code 0 = .ok (.aload_n 0, 1) := by decide +kernel
theorem dH_stateNumbersEnd_1 : decode prog_1_method_43_code 1 = .ok (.getfield 53, 3) := by decide +kernel
theorem dH_stateNumbersEnd_4 : decode prog_1_method_43_code 4 = .ok (.iconst 4, 1) := by decide +kernel
theorem dH_stateNumbersEnd_5 : decode prog_1_method_43_code 5 = .ok (.imul, 1) := by decide +kernel
theorem dH_stateNumbersEnd_6 : decode prog_1_method_43_code 6 = .ok (.ireturn, 1) := by decide +kernel
theorem dH_stateNumbered_0 : decode prog_1_method_42_code 0 = .ok (.aload_n 0, 1) := by decide +kernel
theorem dH_stateNumbered_1 : decode prog_1_method_42_code 1 = .ok (.iload_n 1, 1) := by decide +kernel
theorem dH_stateNumbered_2 : decode prog_1_method_42_code 2 = .ok (.iconst 4, 1) := by decide +kernel
theorem dH_stateNumbered_3 : decode prog_1_method_42_code 3 = .ok (.idiv, 1) := by decide +kernel
theorem dH_stateNumbered_4 : decode prog_1_method_42_code 4 = .ok (.iload_n 1, 1) := by decide +kernel
theorem dH_stateNumbered_5 : decode prog_1_method_42_code 5 = .ok (.iconst 4, 1) := by decide +kernel
theorem dH_stateNumbered_6 : decode prog_1_method_42_code 6 = .ok (.irem, 1) := by decide +kernel
theorem dH_stateNumbered_7 : decode prog_1_method_42_code 7 = .ok (.invokevirtual 64, 3) := by decide +kernel
theorem dH_stateNumbered_10 : decode prog_1_method_42_code 10 = .ok (.areturn, 1) := by decide +kernel
theorem dH_isCoin_0 : decode prog_1_method_38_code 0 = .ok (.aload_n 1, 1) := by decide +kernel
theorem dH_isCoin_1 : decode prog_1_method_38_code 1 = .ok (.iload_n 2, 1) := by decide +kernel
theorem dH_isCoin_2 : decode prog_1_method_38_code 2 = .ok (.invokevirtual 206, 3) := by decide +kernel
theorem dH_isCoin_5 : decode prog_1_method_38_code 5 = .ok (.ifCond .eq 57, 3) := by decide +kernel
theorem dH_isCoin_8 : decode prog_1_method_38_code 8 = .ok (.aload_n 1, 1) := by decide +kernel
theorem dH_isCoin_9 : decode prog_1_method_38_code 9 = .ok (.invokevirtual 323, 3) := by decide +kernel
theorem dH_isCoin_12 : decode prog_1_method_38_code 12 = .ok (.ifCond .ne 50, 3) := by decide +kernel
theorem dH_isCoin_15 : decode prog_1_method_38_code 15 = .ok (.aload_n 0, 1) := by decide +kernel
theorem dH_isCoin_16 : decode prog_1_method_38_code 16 = .ok (.getfield 11, 3) := by decide +kernel
theorem dH_isCoin_19 : decode prog_1_method_38_code 19 = .ok (.aload_n 1, 1) := by decide +kernel
theorem dH_isCoin_20 : decode prog_1_method_38_code 20 = .ok (.invokevirtual 311, 3) := by decide +kernel
theorem dH_isCoin_23 : decode prog_1_method_38_code 23 = .ok (.aaload, 1) := by decide +kernel
theorem dH_isCoin_24 : decode prog_1_method_38_code 24 = .ok (.getfield 81, 3) := by decide +kernel
theorem dH_isCoin_27 : decode prog_1_method_38_code 27 = .ok (.aload_n 3, 1) := by decide +kernel
theorem dH_isCoin_28 : decode prog_1_method_38_code 28 = .ok (.getfield 81, 3) := by decide +kernel
theorem dH_isCoin_31 : decode prog_1_method_38_code 31 = .ok (.if_icmp .ne 31, 3) := by decide +kernel
theorem dH_isCoin_34 : decode prog_1_method_38_code 34 = .ok (.aload_n 0, 1) := by decide +kernel
theorem dH_isCoin_35 : decode prog_1_method_38_code 35 = .ok (.aload_n 1, 1) := by decide +kernel
theorem dH_isCoin_36 : decode prog_1_method_38_code 36 = .ok (.aload_n 3, 1) := by decide +kernel
theorem dH_isCoin_37 : decode prog_1_method_38_code 37 = .ok (.getfield 71, 3) := by decide +kernel
theorem dH_isCoin_40 : decode prog_1_method_38_code 40 = .ok (.invokevirtual 202, 3) := by decide +kernel
theorem dH_isCoin_43 : decode prog_1_method_38_code 43 = .ok (.ifCond .eq 19, 3) := by decide +kernel
theorem dH_isCoin_46 : decode prog_1_method_38_code 46 = .ok (.aload_n 0, 1) := by decide +kernel
theorem dH_isCoin_47 : decode prog_1_method_38_code 47 = .ok (.aload_n 1, 1) := by decide +kernel
theorem dH_isCoin_48 : decode prog_1_method_38_code 48 = .ok (.aload_n 3, 1) := by decide +kernel
theorem dH_isCoin_49 : decode prog_1_method_38_code 49 = .ok (.getfield 71, 3) := by decide +kernel
theorem dH_isCoin_52 : decode prog_1_method_38_code 52 = .ok (.invokevirtual 326, 3) := by decide +kernel
theorem dH_isCoin_55 : decode prog_1_method_38_code 55 = .ok (.ifCond .ne 7, 3) := by decide +kernel
theorem dH_isCoin_58 : decode prog_1_method_38_code 58 = .ok (.iconst 1, 1) := by decide +kernel
theorem dH_isCoin_59 : decode prog_1_method_38_code 59 = .ok (.goto 4, 3) := by decide +kernel
theorem dH_isCoin_62 : decode prog_1_method_38_code 62 = .ok (.iconst 0, 1) := by decide +kernel
theorem dH_isCoin_63 : decode prog_1_method_38_code 63 = .ok (.ireturn, 1) := by decide +kernel
theorem dS_isCashIssuedBy_0 : decode prog_4_method_5_code 0 = .ok (.aload_n 0, 1) := by decide +kernel
theorem dS_isCashIssuedBy_1 : decode prog_4_method_5_code 1 = .ok (.getfield 15, 3) := by decide +kernel
theorem dS_isCashIssuedBy_4 : decode prog_4_method_5_code 4 = .ok (.ifCond .ne 15, 3) := by decide +kernel
theorem dS_isCashIssuedBy_7 : decode prog_4_method_5_code 7 = .ok (.aload_n 0, 1) := by decide +kernel
theorem dS_isCashIssuedBy_8 : decode prog_4_method_5_code 8 = .ok (.getfield 18, 3) := by decide +kernel
theorem dS_isCashIssuedBy_11 : decode prog_4_method_5_code 11 = .ok (.iload_n 1, 1) := by decide +kernel
theorem dS_isCashIssuedBy_12 : decode prog_4_method_5_code 12 = .ok (.if_icmp .ne 7, 3) := by decide +kernel
theorem dS_isCashIssuedBy_15 : decode prog_4_method_5_code 15 = .ok (.iconst 1, 1) := by decide +kernel
theorem dS_isCashIssuedBy_16 : decode prog_4_method_5_code 16 = .ok (.goto 4, 3) := by decide +kernel
theorem dS_isCashIssuedBy_19 : decode prog_4_method_5_code 19 = .ok (.iconst 0, 1) := by decide +kernel
theorem dS_isCashIssuedBy_20 : decode prog_4_method_5_code 20 = .ok (.ireturn, 1) := by decide +kernel
theorem dS_isBound_0 : decode prog_4_method_3_code 0 = .ok (.aload_n 0, 1) := by decide +kernel
theorem dS_isBound_1 : decode prog_4_method_3_code 1 = .ok (.getfield 27, 3) := by decide +kernel
theorem dS_isBound_4 : decode prog_4_method_3_code 4 = .ok (.iconst (-1), 1) := by decide +kernel
theorem dS_isBound_5 : decode prog_4_method_3_code 5 = .ok (.if_icmp .eq 7, 3) := by decide +kernel
theorem dS_isBound_8 : decode prog_4_method_3_code 8 = .ok (.iconst 1, 1) := by decide +kernel
theorem dS_isBound_9 : decode prog_4_method_3_code 9 = .ok (.goto 4, 3) := by decide +kernel
theorem dS_isBound_12 : decode prog_4_method_3_code 12 = .ok (.iconst 0, 1) := by decide +kernel
theorem dS_isBound_13 : decode prog_4_method_3_code 13 = .ok (.ireturn, 1) := by decide +kernel
theorem dS_source_0 : decode prog_4_method_2_code 0 = .ok (.aload_n 0, 1) := by decide +kernel
theorem dS_source_1 : decode prog_4_method_2_code 1 = .ok (.getfield 9, 3) := by decide +kernel
theorem dS_source_4 : decode prog_4_method_2_code 4 = .ok (.iconst 4, 1) := by decide +kernel
theorem dS_source_5 : decode prog_4_method_2_code 5 = .ok (.idiv, 1) := by decide +kernel
theorem dS_source_6 : decode prog_4_method_2_code 6 = .ok (.ireturn, 1) := by decide +kernel
theorem dH_isInVault_0 : decode prog_1_method_35_code 0 = .ok (.aload_n 0, 1) := by decide +kernel
theorem dH_isInVault_1 : decode prog_1_method_35_code 1 = .ok (.getfield 17, 3) := by decide +kernel
theorem dH_isInVault_4 : decode prog_1_method_35_code 4 = .ok (.iload_n 2, 1) := by decide +kernel
theorem dH_isInVault_5 : decode prog_1_method_35_code 5 = .ok (.aaload, 1) := by decide +kernel
theorem dH_isInVault_6 : decode prog_1_method_35_code 6 = .ok (.getfield 199, 3) := by decide +kernel
theorem dH_isInVault_9 : decode prog_1_method_35_code 9 = .ok (.aload_n 1, 1) := by decide +kernel
theorem dH_isInVault_10 : decode prog_1_method_35_code 10 = .ok (.invokevirtual 311, 3) := by decide +kernel
theorem dH_isInVault_13 : decode prog_1_method_35_code 13 = .ok (.invokestatic 77, 3) := by decide +kernel
theorem dH_isInVault_16 : decode prog_1_method_35_code 16 = .ok (.ifCond .eq 24, 3) := by decide +kernel
theorem dH_isInVault_19 : decode prog_1_method_35_code 19 = .ok (.aload_n 1, 1) := by decide +kernel
theorem dH_isInVault_20 : decode prog_1_method_35_code 20 = .ok (.iload_n 2, 1) := by decide +kernel
theorem dH_isInVault_21 : decode prog_1_method_35_code 21 = .ok (.invokevirtual 314, 3) := by decide +kernel
theorem dH_isInVault_24 : decode prog_1_method_35_code 24 = .ok (.ifCond .eq 16, 3) := by decide +kernel
theorem dH_isInVault_27 : decode prog_1_method_35_code 27 = .ok (.aload_n 0, 1) := by decide +kernel
theorem dH_isInVault_28 : decode prog_1_method_35_code 28 = .ok (.aload_n 1, 1) := by decide +kernel
theorem dH_isInVault_29 : decode prog_1_method_35_code 29 = .ok (.iload_n 2, 1) := by decide +kernel
theorem dH_isInVault_30 : decode prog_1_method_35_code 30 = .ok (.invokevirtual 317, 3) := by decide +kernel
theorem dH_isInVault_33 : decode prog_1_method_35_code 33 = .ok (.ifCond .ne 7, 3) := by decide +kernel
theorem dH_isInVault_36 : decode prog_1_method_35_code 36 = .ok (.iconst 1, 1) := by decide +kernel
theorem dH_isInVault_37 : decode prog_1_method_35_code 37 = .ok (.goto 4, 3) := by decide +kernel
theorem dH_isInVault_40 : decode prog_1_method_35_code 40 = .ok (.iconst 0, 1) := by decide +kernel
theorem dH_isInVault_41 : decode prog_1_method_35_code 41 = .ok (.ireturn, 1) := by decide +kernel
theorem dS_concerns_0 : decode prog_4_method_8_code 0 = .ok (.aload_n 0, 1) := by decide +kernel
theorem dS_concerns_1 : decode prog_4_method_8_code 1 = .ok (.iload_n 1, 1) := by decide +kernel
theorem dS_concerns_2 : decode prog_4_method_8_code 2 = .ok (.invokevirtual 34, 3) := by decide +kernel
theorem dS_concerns_5 : decode prog_4_method_8_code 5 = .ok (.ifCond .ne 27, 3) := by decide +kernel
theorem dS_concerns_8 : decode prog_4_method_8_code 8 = .ok (.aload_n 0, 1) := by decide +kernel
theorem dS_concerns_9 : decode prog_4_method_8_code 9 = .ok (.getfield 15, 3) := by decide +kernel
theorem dS_concerns_12 : decode prog_4_method_8_code 12 = .ok (.iconst 1, 1) := by decide +kernel
theorem dS_concerns_13 : decode prog_4_method_8_code 13 = .ok (.if_icmp .ne 23, 3) := by decide +kernel
theorem dS_concerns_16 : decode prog_4_method_8_code 16 = .ok (.aload_n 0, 1) := by decide +kernel
theorem dS_concerns_17 : decode prog_4_method_8_code 17 = .ok (.getfield 18, 3) := by decide +kernel
theorem dS_concerns_20 : decode prog_4_method_8_code 20 = .ok (.iload_n 1, 1) := by decide +kernel
theorem dS_concerns_21 : decode prog_4_method_8_code 21 = .ok (.if_icmp .eq 11, 3) := by decide +kernel
theorem dS_concerns_24 : decode prog_4_method_8_code 24 = .ok (.aload_n 0, 1) := by decide +kernel
theorem dS_concerns_25 : decode prog_4_method_8_code 25 = .ok (.getfield 21, 3) := by decide +kernel
theorem dS_concerns_28 : decode prog_4_method_8_code 28 = .ok (.iload_n 1, 1) := by decide +kernel
theorem dS_concerns_29 : decode prog_4_method_8_code 29 = .ok (.if_icmp .ne 7, 3) := by decide +kernel
theorem dS_concerns_32 : decode prog_4_method_8_code 32 = .ok (.iconst 1, 1) := by decide +kernel
theorem dS_concerns_33 : decode prog_4_method_8_code 33 = .ok (.goto 4, 3) := by decide +kernel
theorem dS_concerns_36 : decode prog_4_method_8_code 36 = .ok (.iconst 0, 1) := by decide +kernel
theorem dS_concerns_37 : decode prog_4_method_8_code 37 = .ok (.ireturn, 1) := by decide +kernel
theorem dS_isCashOwnedBy_0 : decode prog_4_method_6_code 0 = .ok (.aload_n 0, 1) := by decide +kernel
theorem dS_isCashOwnedBy_1 : decode prog_4_method_6_code 1 = .ok (.getfield 15, 3) := by decide +kernel
theorem dS_isCashOwnedBy_4 : decode prog_4_method_6_code 4 = .ok (.ifCond .ne 15, 3) := by decide +kernel
theorem dS_isCashOwnedBy_7 : decode prog_4_method_6_code 7 = .ok (.aload_n 0, 1) := by decide +kernel
theorem dS_isCashOwnedBy_8 : decode prog_4_method_6_code 8 = .ok (.getfield 21, 3) := by decide +kernel
theorem dS_isCashOwnedBy_11 : decode prog_4_method_6_code 11 = .ok (.iload_n 1, 1) := by decide +kernel
theorem dS_isCashOwnedBy_12 : decode prog_4_method_6_code 12 = .ok (.if_icmp .ne 7, 3) := by decide +kernel
theorem dS_isCashOwnedBy_15 : decode prog_4_method_6_code 15 = .ok (.iconst 1, 1) := by decide +kernel
theorem dS_isCashOwnedBy_16 : decode prog_4_method_6_code 16 = .ok (.goto 4, 3) := by decide +kernel
theorem dS_isCashOwnedBy_19 : decode prog_4_method_6_code 19 = .ok (.iconst 0, 1) := by decide +kernel
theorem dS_isCashOwnedBy_20 : decode prog_4_method_6_code 20 = .ok (.ireturn, 1) := by decide +kernel
theorem dH_isKnownInput_0 : decode prog_1_method_36_code 0 = .ok (.iconst 0, 1) := by decide +kernel
theorem dH_isKnownInput_1 : decode prog_1_method_36_code 1 = .ok (.istore_n 3, 1) := by decide +kernel
theorem dH_isKnownInput_2 : decode prog_1_method_36_code 2 = .ok (.iload_n 3, 1) := by decide +kernel
theorem dH_isKnownInput_3 : decode prog_1_method_36_code 3 = .ok (.aload_n 0, 1) := by decide +kernel
theorem dH_isKnownInput_4 : decode prog_1_method_36_code 4 = .ok (.getfield 53, 3) := by decide +kernel
theorem dH_isKnownInput_7 : decode prog_1_method_36_code 7 = .ok (.if_icmp .ge 46, 3) := by decide +kernel
theorem dH_isKnownInput_10 : decode prog_1_method_36_code 10 = .ok (.aload_n 0, 1) := by decide +kernel
theorem dH_isKnownInput_11 : decode prog_1_method_36_code 11 = .ok (.getfield 17, 3) := by decide +kernel
theorem dH_isKnownInput_14 : decode prog_1_method_36_code 14 = .ok (.iload_n 2, 1) := by decide +kernel
theorem dH_isKnownInput_15 : decode prog_1_method_36_code 15 = .ok (.aaload, 1) := by decide +kernel
theorem dH_isKnownInput_16 : decode prog_1_method_36_code 16 = .ok (.getfield 74, 3) := by decide +kernel
theorem dH_isKnownInput_19 : decode prog_1_method_36_code 19 = .ok (.iload_n 3, 1) := by decide +kernel
theorem dH_isKnownInput_20 : decode prog_1_method_36_code 20 = .ok (.invokestatic 77, 3) := by decide +kernel
theorem dH_isKnownInput_23 : decode prog_1_method_36_code 23 = .ok (.ifCond .eq 24, 3) := by decide +kernel
theorem dH_isKnownInput_26 : decode prog_1_method_36_code 26 = .ok (.aload_n 0, 1) := by decide +kernel
theorem dH_isKnownInput_27 : decode prog_1_method_36_code 27 = .ok (.getfield 11, 3) := by decide +kernel
theorem dH_isKnownInput_30 : decode prog_1_method_36_code 30 = .ok (.iload_n 3, 1) := by decide +kernel
theorem dH_isKnownInput_31 : decode prog_1_method_36_code 31 = .ok (.aaload, 1) := by decide +kernel
theorem dH_isKnownInput_32 : decode prog_1_method_36_code 32 = .ok (.getfield 84, 3) := by decide +kernel
theorem dH_isKnownInput_35 : decode prog_1_method_36_code 35 = .ok (.aload_n 1, 1) := by decide +kernel
theorem dH_isKnownInput_36 : decode prog_1_method_36_code 36 = .ok (.getfield 88, 3) := by decide +kernel
theorem dH_isKnownInput_39 : decode prog_1_method_36_code 39 = .ok (.invokevirtual 93, 3) := by decide +kernel
theorem dH_isKnownInput_42 : decode prog_1_method_36_code 42 = .ok (.ifCond .eq 5, 3) := by decide +kernel
theorem dH_isKnownInput_45 : decode prog_1_method_36_code 45 = .ok (.iconst 1, 1) := by decide +kernel
theorem dH_isKnownInput_46 : decode prog_1_method_36_code 46 = .ok (.ireturn, 1) := by decide +kernel
theorem dH_isKnownInput_47 : decode prog_1_method_36_code 47 = .ok (.iinc 3 1, 3) := by decide +kernel
theorem dH_isKnownInput_50 : decode prog_1_method_36_code 50 = .ok (.goto (-48), 3) := by decide +kernel
theorem dH_isKnownInput_53 : decode prog_1_method_36_code 53 = .ok (.iconst 0, 1) := by decide +kernel
theorem dH_isKnownInput_54 : decode prog_1_method_36_code 54 = .ok (.ireturn, 1) := by decide +kernel
theorem dH_isHeld_0 : decode prog_1_method_37_code 0 = .ok (.iconst 0, 1) := by decide +kernel
theorem dH_isHeld_1 : decode prog_1_method_37_code 1 = .ok (.istore_n 3, 1) := by decide +kernel
theorem dH_isHeld_2 : decode prog_1_method_37_code 2 = .ok (.iload_n 3, 1) := by decide +kernel
theorem dH_isHeld_3 : decode prog_1_method_37_code 3 = .ok (.aload_n 0, 1) := by decide +kernel
theorem dH_isHeld_4 : decode prog_1_method_37_code 4 = .ok (.getfield 53, 3) := by decide +kernel
theorem dH_isHeld_7 : decode prog_1_method_37_code 7 = .ok (.if_icmp .ge 51, 3) := by decide +kernel
theorem dH_isHeld_10 : decode prog_1_method_37_code 10 = .ok (.aload_n 0, 1) := by decide +kernel
theorem dH_isHeld_11 : decode prog_1_method_37_code 11 = .ok (.getfield 11, 3) := by decide +kernel
theorem dH_isHeld_14 : decode prog_1_method_37_code 14 = .ok (.iload_n 3, 1) := by decide +kernel
theorem dH_isHeld_15 : decode prog_1_method_37_code 15 = .ok (.aaload, 1) := by decide +kernel
theorem dH_isHeld_16 : decode prog_1_method_37_code 16 = .ok (.astore 4, 2) := by decide +kernel
theorem dH_isHeld_18 : decode prog_1_method_37_code 18 = .ok (.aload 4, 2) := by decide +kernel
theorem dH_isHeld_20 : decode prog_1_method_37_code 20 = .ok (.getfield 71, 3) := by decide +kernel
theorem dH_isHeld_23 : decode prog_1_method_37_code 23 = .ok (.iload_n 2, 1) := by decide +kernel
theorem dH_isHeld_24 : decode prog_1_method_37_code 24 = .ok (.if_icmp .ne 28, 3) := by decide +kernel
theorem dH_isHeld_27 : decode prog_1_method_37_code 27 = .ok (.aload 4, 2) := by decide +kernel
theorem dH_isHeld_29 : decode prog_1_method_37_code 29 = .ok (.invokevirtual 320, 3) := by decide +kernel
theorem dH_isHeld_32 : decode prog_1_method_37_code 32 = .ok (.ifCond .eq 20, 3) := by decide +kernel
theorem dH_isHeld_35 : decode prog_1_method_37_code 35 = .ok (.aload 4, 2) := by decide +kernel
theorem dH_isHeld_37 : decode prog_1_method_37_code 37 = .ok (.getfield 84, 3) := by decide +kernel
theorem dH_isHeld_40 : decode prog_1_method_37_code 40 = .ok (.aload_n 1, 1) := by decide +kernel
theorem dH_isHeld_41 : decode prog_1_method_37_code 41 = .ok (.getfield 88, 3) := by decide +kernel
theorem dH_isHeld_44 : decode prog_1_method_37_code 44 = .ok (.invokevirtual 93, 3) := by decide +kernel
theorem dH_isHeld_47 : decode prog_1_method_37_code 47 = .ok (.ifCond .eq 5, 3) := by decide +kernel
theorem dH_isHeld_50 : decode prog_1_method_37_code 50 = .ok (.iconst 1, 1) := by decide +kernel
theorem dH_isHeld_51 : decode prog_1_method_37_code 51 = .ok (.ireturn, 1) := by decide +kernel
theorem dH_isHeld_52 : decode prog_1_method_37_code 52 = .ok (.iinc 3 1, 3) := by decide +kernel
theorem dH_isHeld_55 : decode prog_1_method_37_code 55 = .ok (.goto (-53), 3) := by decide +kernel
theorem dH_isHeld_58 : decode prog_1_method_37_code 58 = .ok (.iconst 0, 1) := by decide +kernel
theorem dH_isHeld_59 : decode prog_1_method_37_code 59 = .ok (.ireturn, 1) := by decide +kernel
theorem dT_isOpen_0 : decode prog_6_method_5_code 0 = .ok (.aload_n 0, 1) := by decide +kernel
theorem dT_isOpen_1 : decode prog_6_method_5_code 1 = .ok (.getfield 37, 3) := by decide +kernel
theorem dT_isOpen_4 : decode prog_6_method_5_code 4 = .ok (.ifCond .eq 19, 3) := by decide +kernel
theorem dT_isOpen_7 : decode prog_6_method_5_code 7 = .ok (.aload_n 0, 1) := by decide +kernel
theorem dT_isOpen_8 : decode prog_6_method_5_code 8 = .ok (.getfield 37, 3) := by decide +kernel
theorem dT_isOpen_11 : decode prog_6_method_5_code 11 = .ok (.iconst 1, 1) := by decide +kernel
theorem dT_isOpen_12 : decode prog_6_method_5_code 12 = .ok (.if_icmp .eq 11, 3) := by decide +kernel
theorem dT_isOpen_15 : decode prog_6_method_5_code 15 = .ok (.aload_n 0, 1) := by decide +kernel
theorem dT_isOpen_16 : decode prog_6_method_5_code 16 = .ok (.getfield 37, 3) := by decide +kernel
theorem dT_isOpen_19 : decode prog_6_method_5_code 19 = .ok (.iconst 2, 1) := by decide +kernel
theorem dT_isOpen_20 : decode prog_6_method_5_code 20 = .ok (.if_icmp .ne 7, 3) := by decide +kernel
theorem dT_isOpen_23 : decode prog_6_method_5_code 23 = .ok (.iconst 1, 1) := by decide +kernel
theorem dT_isOpen_24 : decode prog_6_method_5_code 24 = .ok (.goto 4, 3) := by decide +kernel
theorem dT_isOpen_27 : decode prog_6_method_5_code 27 = .ok (.iconst 0, 1) := by decide +kernel
theorem dT_isOpen_28 : decode prog_6_method_5_code 28 = .ok (.ireturn, 1) := by decide +kernel
theorem dH_takeCoins_0 : decode prog_1_method_39_code 0 = .ok (.iconst 0, 1) := by decide +kernel
theorem dH_takeCoins_1 : decode prog_1_method_39_code 1 = .ok (.istore_n 3, 1) := by decide +kernel
theorem dH_takeCoins_2 : decode prog_1_method_39_code 2 = .ok (.iload_n 3, 1) := by decide +kernel
theorem dH_takeCoins_3 : decode prog_1_method_39_code 3 = .ok (.iload_n 2, 1) := by decide +kernel
theorem dH_takeCoins_4 : decode prog_1_method_39_code 4 = .ok (.if_icmp .ge 43, 3) := by decide +kernel
theorem dH_takeCoins_7 : decode prog_1_method_39_code 7 = .ok (.aload_n 0, 1) := by decide +kernel
theorem dH_takeCoins_8 : decode prog_1_method_39_code 8 = .ok (.aload_n 0, 1) := by decide +kernel
theorem dH_takeCoins_9 : decode prog_1_method_39_code 9 = .ok (.getfield 39, 3) := by decide +kernel
theorem dH_takeCoins_12 : decode prog_1_method_39_code 12 = .ok (.iload_n 3, 1) := by decide +kernel
theorem dH_takeCoins_13 : decode prog_1_method_39_code 13 = .ok (.iaload, 1) := by decide +kernel
theorem dH_takeCoins_14 : decode prog_1_method_39_code 14 = .ok (.invokevirtual 126, 3) := by decide +kernel
theorem dH_takeCoins_17 : decode prog_1_method_39_code 17 = .ok (.astore 4, 2) := by decide +kernel
theorem dH_takeCoins_19 : decode prog_1_method_39_code 19 = .ok (.aload 4, 2) := by decide +kernel
theorem dH_takeCoins_21 : decode prog_1_method_39_code 21 = .ok (.ifnull 20, 3) := by decide +kernel
theorem dH_takeCoins_24 : decode prog_1_method_39_code 24 = .ok (.aload_n 1, 1) := by decide +kernel
theorem dH_takeCoins_25 : decode prog_1_method_39_code 25 = .ok (.aload 4, 2) := by decide +kernel
theorem dH_takeCoins_27 : decode prog_1_method_39_code 27 = .ok (.aload_n 0, 1) := by decide +kernel
theorem dH_takeCoins_28 : decode prog_1_method_39_code 28 = .ok (.getfield 11, 3) := by decide +kernel
theorem dH_takeCoins_31 : decode prog_1_method_39_code 31 = .ok (.aload 4, 2) := by decide +kernel
theorem dH_takeCoins_33 : decode prog_1_method_39_code 33 = .ok (.invokevirtual 311, 3) := by decide +kernel
theorem dH_takeCoins_36 : decode prog_1_method_39_code 36 = .ok (.aaload, 1) := by decide +kernel
theorem dH_takeCoins_37 : decode prog_1_method_39_code 37 = .ok (.invokevirtual 101, 3) := by decide +kernel
theorem dH_takeCoins_40 : decode prog_1_method_39_code 40 = .ok (.pop, 1) := by decide +kernel
theorem dH_takeCoins_41 : decode prog_1_method_39_code 41 = .ok (.iinc 3 1, 3) := by decide +kernel
theorem dH_takeCoins_44 : decode prog_1_method_39_code 44 = .ok (.goto (-42), 3) := by decide +kernel
theorem dH_takeCoins_47 : decode prog_1_method_39_code 47 = .ok (.return_, 1) := by decide +kernel
theorem dH_drop_0 : decode prog_1_method_7_code 0 = .ok (.aload_n 0, 1) := by decide +kernel
theorem dH_drop_1 : decode prog_1_method_7_code 1 = .ok (.iload_n 1, 1) := by decide +kernel
theorem dH_drop_2 : decode prog_1_method_7_code 2 = .ok (.invokevirtual 60, 3) := by decide +kernel
theorem dH_drop_5 : decode prog_1_method_7_code 5 = .ok (.astore_n 2, 1) := by decide +kernel
theorem dH_drop_6 : decode prog_1_method_7_code 6 = .ok (.aload_n 2, 1) := by decide +kernel
theorem dH_drop_7 : decode prog_1_method_7_code 7 = .ok (.ifnull 10, 3) := by decide +kernel
theorem dH_drop_10 : decode prog_1_method_7_code 10 = .ok (.aload_n 2, 1) := by decide +kernel
theorem dH_drop_11 : decode prog_1_method_7_code 11 = .ok (.getfield 68, 3) := by decide +kernel
theorem dH_drop_14 : decode prog_1_method_7_code 14 = .ok (.ifCond .eq 5, 3) := by decide +kernel
theorem dH_drop_17 : decode prog_1_method_7_code 17 = .ok (.iconst 0, 1) := by decide +kernel
theorem dH_drop_18 : decode prog_1_method_7_code 18 = .ok (.ireturn, 1) := by decide +kernel
theorem dH_drop_19 : decode prog_1_method_7_code 19 = .ok (.aload_n 2, 1) := by decide +kernel
theorem dH_drop_20 : decode prog_1_method_7_code 20 = .ok (.bipush 9, 2) := by decide +kernel
theorem dH_drop_22 : decode prog_1_method_7_code 22 = .ok (.putfield 68, 3) := by decide +kernel
theorem dH_drop_25 : decode prog_1_method_7_code 25 = .ok (.iconst 1, 1) := by decide +kernel
theorem dH_drop_26 : decode prog_1_method_7_code 26 = .ok (.ireturn, 1) := by decide +kernel
theorem dH_propose_0 : decode prog_1_method_8_code 0 = .ok (.aload_n 0, 1) := by decide +kernel
theorem dH_propose_1 : decode prog_1_method_8_code 1 = .ok (.iload_n 1, 1) := by decide +kernel
theorem dH_propose_2 : decode prog_1_method_8_code 2 = .ok (.invokevirtual 60, 3) := by decide +kernel
theorem dH_propose_5 : decode prog_1_method_8_code 5 = .ok (.astore_n 3, 1) := by decide +kernel
theorem dH_propose_6 : decode prog_1_method_8_code 6 = .ok (.aload_n 3, 1) := by decide +kernel
theorem dH_propose_7 : decode prog_1_method_8_code 7 = .ok (.ifnonnull 5, 3) := by decide +kernel
theorem dH_propose_10 : decode prog_1_method_8_code 10 = .ok (.iconst (-1), 1) := by decide +kernel
theorem dH_propose_11 : decode prog_1_method_8_code 11 = .ok (.ireturn, 1) := by decide +kernel
theorem dH_propose_12 : decode prog_1_method_8_code 12 = .ok (.aload_n 3, 1) := by decide +kernel
theorem dH_propose_13 : decode prog_1_method_8_code 13 = .ok (.getfield 68, 3) := by decide +kernel
theorem dH_propose_16 : decode prog_1_method_8_code 16 = .ok (.ifCond .eq 6, 3) := by decide +kernel
theorem dH_propose_19 : decode prog_1_method_8_code 19 = .ok (.bipush (-2), 2) := by decide +kernel
theorem dH_propose_21 : decode prog_1_method_8_code 21 = .ok (.ireturn, 1) := by decide +kernel
theorem dH_propose_22 : decode prog_1_method_8_code 22 = .ok (.iload_n 2, 1) := by decide +kernel
theorem dH_propose_23 : decode prog_1_method_8_code 23 = .ok (.ifCond .ne 13, 3) := by decide +kernel
theorem dH_propose_26 : decode prog_1_method_8_code 26 = .ok (.aload_n 3, 1) := by decide +kernel
theorem dH_propose_27 : decode prog_1_method_8_code 27 = .ok (.invokevirtual 141, 3) := by decide +kernel
theorem dH_propose_30 : decode prog_1_method_8_code 30 = .ok (.ifCond .ne 6, 3) := by decide +kernel
theorem dH_propose_33 : decode prog_1_method_8_code 33 = .ok (.bipush (-8), 2) := by decide +kernel
theorem dH_propose_35 : decode prog_1_method_8_code 35 = .ok (.ireturn, 1) := by decide +kernel
theorem dH_propose_36 : decode prog_1_method_8_code 36 = .ok (.aload_n 3, 1) := by decide +kernel
theorem dH_propose_37 : decode prog_1_method_8_code 37 = .ok (.iload_n 2, 1) := by decide +kernel
theorem dH_propose_38 : decode prog_1_method_8_code 38 = .ok (.invokevirtual 145, 3) := by decide +kernel
theorem dH_propose_41 : decode prog_1_method_8_code 41 = .ok (.iload_n 2, 1) := by decide +kernel
theorem dH_propose_42 : decode prog_1_method_8_code 42 = .ok (.ifCond .ne 10, 3) := by decide +kernel
theorem dH_propose_45 : decode prog_1_method_8_code 45 = .ok (.aload_n 3, 1) := by decide +kernel
theorem dH_propose_46 : decode prog_1_method_8_code 46 = .ok (.invokevirtual 149, 3) := by decide +kernel
theorem dH_propose_49 : decode prog_1_method_8_code 49 = .ok (.ifCond .eq 14, 3) := by decide +kernel
theorem dH_propose_52 : decode prog_1_method_8_code 52 = .ok (.aload_n 3, 1) := by decide +kernel
theorem dH_propose_53 : decode prog_1_method_8_code 53 = .ok (.iconst 2, 1) := by decide +kernel
theorem dH_propose_54 : decode prog_1_method_8_code 54 = .ok (.putfield 68, 3) := by decide +kernel
theorem dH_propose_57 : decode prog_1_method_8_code 57 = .ok (.aload_n 0, 1) := by decide +kernel
theorem dH_propose_58 : decode prog_1_method_8_code 58 = .ok (.aload_n 3, 1) := by decide +kernel
theorem dH_propose_59 : decode prog_1_method_8_code 59 = .ok (.invokevirtual 152, 3) := by decide +kernel
theorem dH_propose_62 : decode prog_1_method_8_code 62 = .ok (.ireturn, 1) := by decide +kernel
theorem dH_propose_63 : decode prog_1_method_8_code 63 = .ok (.aload_n 3, 1) := by decide +kernel
theorem dH_propose_64 : decode prog_1_method_8_code 64 = .ok (.iconst 1, 1) := by decide +kernel
theorem dH_propose_65 : decode prog_1_method_8_code 65 = .ok (.putfield 68, 3) := by decide +kernel
theorem dH_propose_68 : decode prog_1_method_8_code 68 = .ok (.aload_n 0, 1) := by decide +kernel
theorem dH_propose_69 : decode prog_1_method_8_code 69 = .ok (.iconst 0, 1) := by decide +kernel
theorem dH_propose_70 : decode prog_1_method_8_code 70 = .ok (.aload_n 3, 1) := by decide +kernel
theorem dH_propose_71 : decode prog_1_method_8_code 71 = .ok (.aload_n 3, 1) := by decide +kernel
theorem dH_propose_72 : decode prog_1_method_8_code 72 = .ok (.getfield 156, 3) := by decide +kernel
theorem dH_propose_75 : decode prog_1_method_8_code 75 = .ok (.invokevirtual 159, 3) := by decide +kernel
theorem dH_propose_78 : decode prog_1_method_8_code 78 = .ok (.ireturn, 1) := by decide +kernel
theorem dT_isValid_0 : decode prog_6_method_8_code 0 = .ok (.aload_n 0, 1) := by decide +kernel
theorem dT_isValid_1 : decode prog_6_method_8_code 1 = .ok (.getfield 30, 3) := by decide +kernel
theorem dT_isValid_4 : decode prog_6_method_8_code 4 = .ok (.getfield 56, 3) := by decide +kernel
theorem dT_isValid_7 : decode prog_6_method_8_code 7 = .ok (.ifCond .ne 15, 3) := by decide +kernel
theorem dT_isValid_10 : decode prog_6_method_8_code 10 = .ok (.aload_n 0, 1) := by decide +kernel
theorem dT_isValid_11 : decode prog_6_method_8_code 11 = .ok (.getfield 34, 3) := by decide +kernel
theorem dT_isValid_14 : decode prog_6_method_8_code 14 = .ok (.getfield 56, 3) := by decide +kernel
theorem dT_isValid_17 : decode prog_6_method_8_code 17 = .ok (.ifCond .ne 5, 3) := by decide +kernel
theorem dT_isValid_20 : decode prog_6_method_8_code 20 = .ok (.iconst 0, 1) := by decide +kernel
theorem dT_isValid_21 : decode prog_6_method_8_code 21 = .ok (.ireturn, 1) := by decide +kernel
theorem dT_isValid_22 : decode prog_6_method_8_code 22 = .ok (.iconst 0, 1) := by decide +kernel
theorem dT_isValid_23 : decode prog_6_method_8_code 23 = .ok (.istore_n 1, 1) := by decide +kernel
theorem dT_isValid_24 : decode prog_6_method_8_code 24 = .ok (.iload_n 1, 1) := by decide +kernel
theorem dT_isValid_25 : decode prog_6_method_8_code 25 = .ok (.aload_n 0, 1) := by decide +kernel
theorem dT_isValid_26 : decode prog_6_method_8_code 26 = .ok (.getfield 30, 3) := by decide +kernel
theorem dT_isValid_29 : decode prog_6_method_8_code 29 = .ok (.getfield 56, 3) := by decide +kernel
theorem dT_isValid_32 : decode prog_6_method_8_code 32 = .ok (.if_icmp .ge 27, 3) := by decide +kernel
theorem dT_isValid_35 : decode prog_6_method_8_code 35 = .ok (.aload_n 0, 1) := by decide +kernel
theorem dT_isValid_36 : decode prog_6_method_8_code 36 = .ok (.aload_n 0, 1) := by decide +kernel
theorem dT_isValid_37 : decode prog_6_method_8_code 37 = .ok (.getfield 30, 3) := by decide +kernel
theorem dT_isValid_40 : decode prog_6_method_8_code 40 = .ok (.getfield 93, 3) := by decide +kernel
theorem dT_isValid_43 : decode prog_6_method_8_code 43 = .ok (.iload_n 1, 1) := by decide +kernel
theorem dT_isValid_44 : decode prog_6_method_8_code 44 = .ok (.aaload, 1) := by decide +kernel
theorem dT_isValid_45 : decode prog_6_method_8_code 45 = .ok (.invokevirtual 97, 3) := by decide +kernel
theorem dT_isValid_48 : decode prog_6_method_8_code 48 = .ok (.ifCond .ne 5, 3) := by decide +kernel
theorem dT_isValid_51 : decode prog_6_method_8_code 51 = .ok (.iconst 0, 1) := by decide +kernel
theorem dT_isValid_52 : decode prog_6_method_8_code 52 = .ok (.ireturn, 1) := by decide +kernel
theorem dT_isValid_53 : decode prog_6_method_8_code 53 = .ok (.iinc 1 1, 3) := by decide +kernel
theorem dT_isValid_56 : decode prog_6_method_8_code 56 = .ok (.goto (-32), 3) := by decide +kernel
theorem dT_isValid_59 : decode prog_6_method_8_code 59 = .ok (.iconst 1, 1) := by decide +kernel
theorem dT_isValid_60 : decode prog_6_method_8_code 60 = .ok (.ireturn, 1) := by decide +kernel
theorem dT_allowsInput_0 : decode prog_6_method_9_code 0 = .ok (.aload_n 1, 1) := by decide +kernel
theorem dT_allowsInput_1 : decode prog_6_method_9_code 1 = .ok (.invokevirtual 101, 3) := by decide +kernel
theorem dT_allowsInput_4 : decode prog_6_method_9_code 4 = .ok (.ifCond .eq 19, 3) := by decide +kernel
theorem dT_allowsInput_7 : decode prog_6_method_9_code 7 = .ok (.aload_n 0, 1) := by decide +kernel
theorem dT_allowsInput_8 : decode prog_6_method_9_code 8 = .ok (.getfield 30, 3) := by decide +kernel
theorem dT_allowsInput_11 : decode prog_6_method_9_code 11 = .ok (.aload_n 1, 1) := by decide +kernel
theorem dT_allowsInput_12 : decode prog_6_method_9_code 12 = .ok (.invokevirtual 104, 3) := by decide +kernel
theorem dT_allowsInput_15 : decode prog_6_method_9_code 15 = .ok (.invokevirtual 107, 3) := by decide +kernel
theorem dT_allowsInput_18 : decode prog_6_method_9_code 18 = .ok (.ifCond .ne 5, 3) := by decide +kernel
theorem dT_allowsInput_21 : decode prog_6_method_9_code 21 = .ok (.iconst 0, 1) := by decide +kernel
theorem dT_allowsInput_22 : decode prog_6_method_9_code 22 = .ok (.ireturn, 1) := by decide +kernel
theorem dT_allowsInput_23 : decode prog_6_method_9_code 23 = .ok (.aload_n 1, 1) := by decide +kernel
theorem dT_allowsInput_24 : decode prog_6_method_9_code 24 = .ok (.getfield 111, 3) := by decide +kernel
theorem dT_allowsInput_27 : decode prog_6_method_9_code 27 = .ok (.iconst 2, 1) := by decide +kernel
theorem dT_allowsInput_28 : decode prog_6_method_9_code 28 = .ok (.if_icmp .ne 14, 3) := by decide +kernel
theorem dT_allowsInput_31 : decode prog_6_method_9_code 31 = .ok (.aload_n 1, 1) := by decide +kernel
theorem dT_allowsInput_32 : decode prog_6_method_9_code 32 = .ok (.getfield 114, 3) := by decide +kernel
theorem dT_allowsInput_35 : decode prog_6_method_9_code 35 = .ok (.aload_n 0, 1) := by decide +kernel
theorem dT_allowsInput_36 : decode prog_6_method_9_code 36 = .ok (.getfield 21, 3) := by decide +kernel
theorem dT_allowsInput_39 : decode prog_6_method_9_code 39 = .ok (.if_icmp .gt 7, 3) := by decide +kernel
theorem dT_allowsInput_42 : decode prog_6_method_9_code 42 = .ok (.iconst 1, 1) := by decide +kernel
theorem dT_allowsInput_43 : decode prog_6_method_9_code 43 = .ok (.goto 4, 3) := by decide +kernel
theorem dT_allowsInput_46 : decode prog_6_method_9_code 46 = .ok (.iconst 0, 1) := by decide +kernel
theorem dT_allowsInput_47 : decode prog_6_method_9_code 47 = .ok (.ireturn, 1) := by decide +kernel
theorem dS_boundNumber_0 : decode prog_4_method_4_code 0 = .ok (.aload_n 0, 1) := by decide +kernel
theorem dS_boundNumber_1 : decode prog_4_method_4_code 1 = .ok (.invokevirtual 30, 3) := by decide +kernel
theorem dS_boundNumber_4 : decode prog_4_method_4_code 4 = .ok (.iconst 4, 1) := by decide +kernel
theorem dS_boundNumber_5 : decode prog_4_method_4_code 5 = .ok (.imul, 1) := by decide +kernel
theorem dS_boundNumber_6 : decode prog_4_method_4_code 6 = .ok (.aload_n 0, 1) := by decide +kernel
theorem dS_boundNumber_7 : decode prog_4_method_4_code 7 = .ok (.getfield 27, 3) := by decide +kernel
theorem dS_boundNumber_10 : decode prog_4_method_4_code 10 = .ok (.iadd, 1) := by decide +kernel
theorem dS_boundNumber_11 : decode prog_4_method_4_code 11 = .ok (.ireturn, 1) := by decide +kernel
theorem dT_seal_0 : decode prog_6_method_6_code 0 = .ok (.aload_n 0, 1) := by decide +kernel
theorem dT_seal_1 : decode prog_6_method_6_code 1 = .ok (.aload_n 0, 1) := by decide +kernel
theorem dT_seal_2 : decode prog_6_method_6_code 2 = .ok (.getfield 15, 3) := by decide +kernel
theorem dT_seal_5 : decode prog_6_method_6_code 5 = .ok (.invokestatic 46, 3) := by decide +kernel
theorem dT_seal_8 : decode prog_6_method_6_code 8 = .ok (.putfield 72, 3) := by decide +kernel
theorem dT_seal_11 : decode prog_6_method_6_code 11 = .ok (.aload_n 0, 1) := by decide +kernel
theorem dT_seal_12 : decode prog_6_method_6_code 12 = .ok (.aload_n 0, 1) := by decide +kernel
theorem dT_seal_13 : decode prog_6_method_6_code 13 = .ok (.invokevirtual 75, 3) := by decide +kernel
theorem dT_seal_16 : decode prog_6_method_6_code 16 = .ok (.putfield 79, 3) := by decide +kernel
theorem dT_seal_19 : decode prog_6_method_6_code 19 = .ok (.aload_n 0, 1) := by decide +kernel
theorem dT_seal_20 : decode prog_6_method_6_code 20 = .ok (.aload_n 0, 1) := by decide +kernel
theorem dT_seal_21 : decode prog_6_method_6_code 21 = .ok (.invokevirtual 82, 3) := by decide +kernel
theorem dT_seal_24 : decode prog_6_method_6_code 24 = .ok (.ifCond .eq 18, 3) := by decide +kernel
theorem dT_seal_27 : decode prog_6_method_6_code 27 = .ok (.iload_n 1, 1) := by decide +kernel
theorem dT_seal_28 : decode prog_6_method_6_code 28 = .ok (.ifCond .eq 10, 3) := by decide +kernel
theorem dT_seal_31 : decode prog_6_method_6_code 31 = .ok (.aload_n 0, 1) := by decide +kernel
theorem dT_seal_32 : decode prog_6_method_6_code 32 = .ok (.invokevirtual 86, 3) := by decide +kernel
theorem dT_seal_35 : decode prog_6_method_6_code 35 = .ok (.ifCond .eq 7, 3) := by decide +kernel
theorem dT_seal_38 : decode prog_6_method_6_code 38 = .ok (.iconst 1, 1) := by decide +kernel
theorem dT_seal_39 : decode prog_6_method_6_code 39 = .ok (.goto 4, 3) := by decide +kernel
theorem dT_seal_42 : decode prog_6_method_6_code 42 = .ok (.iconst 0, 1) := by decide +kernel
theorem dT_seal_43 : decode prog_6_method_6_code 43 = .ok (.putfield 89, 3) := by decide +kernel
theorem dT_seal_46 : decode prog_6_method_6_code 46 = .ok (.return_, 1) := by decide +kernel
theorem dT_needs_0 : decode prog_6_method_10_code 0 = .ok (.aload_n 0, 1) := by decide +kernel
theorem dT_needs_1 : decode prog_6_method_10_code 1 = .ok (.getfield 15, 3) := by decide +kernel
theorem dT_needs_4 : decode prog_6_method_10_code 4 = .ok (.invokestatic 46, 3) := by decide +kernel
theorem dT_needs_7 : decode prog_6_method_10_code 7 = .ok (.istore_n 1, 1) := by decide +kernel
theorem dT_needs_8 : decode prog_6_method_10_code 8 = .ok (.iconst 0, 1) := by decide +kernel
theorem dT_needs_9 : decode prog_6_method_10_code 9 = .ok (.istore_n 2, 1) := by decide +kernel
theorem dT_needs_10 : decode prog_6_method_10_code 10 = .ok (.iload_n 2, 1) := by decide +kernel
theorem dT_needs_11 : decode prog_6_method_10_code 11 = .ok (.iconst 4, 1) := by decide +kernel
theorem dT_needs_12 : decode prog_6_method_10_code 12 = .ok (.if_icmp .ge 24, 3) := by decide +kernel
theorem dT_needs_15 : decode prog_6_method_10_code 15 = .ok (.aload_n 0, 1) := by decide +kernel
theorem dT_needs_16 : decode prog_6_method_10_code 16 = .ok (.iload_n 2, 1) := by decide +kernel
theorem dT_needs_17 : decode prog_6_method_10_code 17 = .ok (.invokevirtual 117, 3) := by decide +kernel
theorem dT_needs_20 : decode prog_6_method_10_code 20 = .ok (.ifCond .eq 10, 3) := by decide +kernel
theorem dT_needs_23 : decode prog_6_method_10_code 23 = .ok (.iload_n 1, 1) := by decide +kernel
theorem dT_needs_24 : decode prog_6_method_10_code 24 = .ok (.iload_n 2, 1) := by decide +kernel
theorem dT_needs_25 : decode prog_6_method_10_code 25 = .ok (.invokestatic 46, 3) := by decide +kernel
theorem dT_needs_28 : decode prog_6_method_10_code 28 = .ok (.ior, 1) := by decide +kernel
theorem dT_needs_29 : decode prog_6_method_10_code 29 = .ok (.istore_n 1, 1) := by decide +kernel
theorem dT_needs_30 : decode prog_6_method_10_code 30 = .ok (.iinc 2 1, 3) := by decide +kernel
theorem dT_needs_33 : decode prog_6_method_10_code 33 = .ok (.goto (-23), 3) := by decide +kernel
theorem dT_needs_36 : decode prog_6_method_10_code 36 = .ok (.iload_n 1, 1) := by decide +kernel
theorem dT_needs_37 : decode prog_6_method_10_code 37 = .ok (.ireturn, 1) := by decide +kernel
theorem dT_mustSign_0 : decode prog_6_method_11_code 0 = .ok (.aload_n 0, 1) := by decide +kernel
theorem dT_mustSign_1 : decode prog_6_method_11_code 1 = .ok (.getfield 30, 3) := by decide +kernel
theorem dT_mustSign_4 : decode prog_6_method_11_code 4 = .ok (.iload_n 1, 1) := by decide +kernel
theorem dT_mustSign_5 : decode prog_6_method_11_code 5 = .ok (.invokevirtual 120, 3) := by decide +kernel
theorem dT_mustSign_8 : decode prog_6_method_11_code 8 = .ok (.ifCond .ne 38, 3) := by decide +kernel
theorem dT_mustSign_11 : decode prog_6_method_11_code 11 = .ok (.aload_n 0, 1) := by decide +kernel
theorem dT_mustSign_12 : decode prog_6_method_11_code 12 = .ok (.getfield 30, 3) := by decide +kernel
theorem dT_mustSign_15 : decode prog_6_method_11_code 15 = .ok (.iload_n 1, 1) := by decide +kernel
theorem dT_mustSign_16 : decode prog_6_method_11_code 16 = .ok (.invokevirtual 123, 3) := by decide +kernel
theorem dT_mustSign_19 : decode prog_6_method_11_code 19 = .ok (.aload_n 0, 1) := by decide +kernel
theorem dT_mustSign_20 : decode prog_6_method_11_code 20 = .ok (.getfield 34, 3) := by decide +kernel
theorem dT_mustSign_23 : decode prog_6_method_11_code 23 = .ok (.iload_n 1, 1) := by decide +kernel
theorem dT_mustSign_24 : decode prog_6_method_11_code 24 = .ok (.invokevirtual 123, 3) := by decide +kernel
theorem dT_mustSign_27 : decode prog_6_method_11_code 27 = .ok (.if_icmp .ne 19, 3) := by decide +kernel
theorem dT_mustSign_30 : decode prog_6_method_11_code 30 = .ok (.aload_n 0, 1) := by decide +kernel
theorem dT_mustSign_31 : decode prog_6_method_11_code 31 = .ok (.iload_n 1, 1) := by decide +kernel
theorem dT_mustSign_32 : decode prog_6_method_11_code 32 = .ok (.invokevirtual 126, 3) := by decide +kernel
theorem dT_mustSign_35 : decode prog_6_method_11_code 35 = .ok (.ifCond .ne 11, 3) := by decide +kernel
theorem dT_mustSign_38 : decode prog_6_method_11_code 38 = .ok (.aload_n 0, 1) := by decide +kernel
theorem dT_mustSign_39 : decode prog_6_method_11_code 39 = .ok (.iload_n 1, 1) := by decide +kernel
theorem dT_mustSign_40 : decode prog_6_method_11_code 40 = .ok (.invokevirtual 129, 3) := by decide +kernel
theorem dT_mustSign_43 : decode prog_6_method_11_code 43 = .ok (.ifCond .eq 7, 3) := by decide +kernel
theorem dT_mustSign_46 : decode prog_6_method_11_code 46 = .ok (.iconst 1, 1) := by decide +kernel
theorem dT_mustSign_47 : decode prog_6_method_11_code 47 = .ok (.goto 4, 3) := by decide +kernel
theorem dT_mustSign_50 : decode prog_6_method_11_code 50 = .ok (.iconst 0, 1) := by decide +kernel
theorem dT_mustSign_51 : decode prog_6_method_11_code 51 = .ok (.ireturn, 1) := by decide +kernel
theorem dL_holdsCashOwnedBy_0 : decode prog_5_method_5_code 0 = .ok (.iconst 0, 1) := by decide +kernel
theorem dL_holdsCashOwnedBy_1 : decode prog_5_method_5_code 1 = .ok (.istore_n 2, 1) := by decide +kernel
theorem dL_holdsCashOwnedBy_2 : decode prog_5_method_5_code 2 = .ok (.iload_n 2, 1) := by decide +kernel
theorem dL_holdsCashOwnedBy_3 : decode prog_5_method_5_code 3 = .ok (.aload_n 0, 1) := by decide +kernel
theorem dL_holdsCashOwnedBy_4 : decode prog_5_method_5_code 4 = .ok (.getfield 17, 3) := by decide +kernel
theorem dL_holdsCashOwnedBy_7 : decode prog_5_method_5_code 7 = .ok (.if_icmp .ge 24, 3) := by decide +kernel
theorem dL_holdsCashOwnedBy_10 : decode prog_5_method_5_code 10 = .ok (.aload_n 0, 1) := by decide +kernel
theorem dL_holdsCashOwnedBy_11 : decode prog_5_method_5_code 11 = .ok (.getfield 11, 3) := by decide +kernel
theorem dL_holdsCashOwnedBy_14 : decode prog_5_method_5_code 14 = .ok (.iload_n 2, 1) := by decide +kernel
theorem dL_holdsCashOwnedBy_15 : decode prog_5_method_5_code 15 = .ok (.aaload, 1) := by decide +kernel
theorem dL_holdsCashOwnedBy_16 : decode prog_5_method_5_code 16 = .ok (.iload_n 1, 1) := by decide +kernel
theorem dL_holdsCashOwnedBy_17 : decode prog_5_method_5_code 17 = .ok (.invokevirtual 24, 3) := by decide +kernel
theorem dL_holdsCashOwnedBy_20 : decode prog_5_method_5_code 20 = .ok (.ifCond .eq 5, 3) := by decide +kernel
theorem dL_holdsCashOwnedBy_23 : decode prog_5_method_5_code 23 = .ok (.iconst 1, 1) := by decide +kernel
theorem dL_holdsCashOwnedBy_24 : decode prog_5_method_5_code 24 = .ok (.ireturn, 1) := by decide +kernel
theorem dL_holdsCashOwnedBy_25 : decode prog_5_method_5_code 25 = .ok (.iinc 2 1, 3) := by decide +kernel
theorem dL_holdsCashOwnedBy_28 : decode prog_5_method_5_code 28 = .ok (.goto (-26), 3) := by decide +kernel
theorem dL_holdsCashOwnedBy_31 : decode prog_5_method_5_code 31 = .ok (.iconst 0, 1) := by decide +kernel
theorem dL_holdsCashOwnedBy_32 : decode prog_5_method_5_code 32 = .ok (.ireturn, 1) := by decide +kernel
theorem dL_cashIssuedBy_0 : decode prog_5_method_6_code 0 = .ok (.iconst 0, 1) := by decide +kernel
theorem dL_cashIssuedBy_1 : decode prog_5_method_6_code 1 = .ok (.istore_n 2, 1) := by decide +kernel
theorem dL_cashIssuedBy_2 : decode prog_5_method_6_code 2 = .ok (.iconst 0, 1) := by decide +kernel
theorem dL_cashIssuedBy_3 : decode prog_5_method_6_code 3 = .ok (.istore_n 3, 1) := by decide +kernel
theorem dL_cashIssuedBy_4 : decode prog_5_method_6_code 4 = .ok (.iload_n 3, 1) := by decide +kernel
theorem dL_cashIssuedBy_5 : decode prog_5_method_6_code 5 = .ok (.aload_n 0, 1) := by decide +kernel
theorem dL_cashIssuedBy_6 : decode prog_5_method_6_code 6 = .ok (.getfield 17, 3) := by decide +kernel
theorem dL_cashIssuedBy_9 : decode prog_5_method_6_code 9 = .ok (.if_icmp .ge 34, 3) := by decide +kernel
theorem dL_cashIssuedBy_12 : decode prog_5_method_6_code 12 = .ok (.aload_n 0, 1) := by decide +kernel
theorem dL_cashIssuedBy_13 : decode prog_5_method_6_code 13 = .ok (.getfield 11, 3) := by decide +kernel
theorem dL_cashIssuedBy_16 : decode prog_5_method_6_code 16 = .ok (.iload_n 3, 1) := by decide +kernel
theorem dL_cashIssuedBy_17 : decode prog_5_method_6_code 17 = .ok (.aaload, 1) := by decide +kernel
theorem dL_cashIssuedBy_18 : decode prog_5_method_6_code 18 = .ok (.iload_n 1, 1) := by decide +kernel
theorem dL_cashIssuedBy_19 : decode prog_5_method_6_code 19 = .ok (.invokevirtual 28, 3) := by decide +kernel
theorem dL_cashIssuedBy_22 : decode prog_5_method_6_code 22 = .ok (.ifCond .eq 15, 3) := by decide +kernel
theorem dL_cashIssuedBy_25 : decode prog_5_method_6_code 25 = .ok (.iload_n 2, 1) := by decide +kernel
theorem dL_cashIssuedBy_26 : decode prog_5_method_6_code 26 = .ok (.aload_n 0, 1) := by decide +kernel
theorem dL_cashIssuedBy_27 : decode prog_5_method_6_code 27 = .ok (.getfield 11, 3) := by decide +kernel
theorem dL_cashIssuedBy_30 : decode prog_5_method_6_code 30 = .ok (.iload_n 3, 1) := by decide +kernel
theorem dL_cashIssuedBy_31 : decode prog_5_method_6_code 31 = .ok (.aaload, 1) := by decide +kernel
theorem dL_cashIssuedBy_32 : decode prog_5_method_6_code 32 = .ok (.getfield 31, 3) := by decide +kernel
theorem dL_cashIssuedBy_35 : decode prog_5_method_6_code 35 = .ok (.iadd, 1) := by decide +kernel
theorem dL_cashIssuedBy_36 : decode prog_5_method_6_code 36 = .ok (.istore_n 2, 1) := by decide +kernel
theorem dL_cashIssuedBy_37 : decode prog_5_method_6_code 37 = .ok (.iinc 3 1, 3) := by decide +kernel
theorem dL_cashIssuedBy_40 : decode prog_5_method_6_code 40 = .ok (.goto (-36), 3) := by decide +kernel
theorem dL_cashIssuedBy_43 : decode prog_5_method_6_code 43 = .ok (.iload_n 2, 1) := by decide +kernel
theorem dL_cashIssuedBy_44 : decode prog_5_method_6_code 44 = .ok (.ireturn, 1) := by decide +kernel
theorem dT_owesMore_0 : decode prog_6_method_12_code 0 = .ok (.iconst 0, 1) := by decide +kernel
theorem dT_owesMore_1 : decode prog_6_method_12_code 1 = .ok (.istore_n 2, 1) := by decide +kernel
theorem dT_owesMore_2 : decode prog_6_method_12_code 2 = .ok (.iload_n 2, 1) := by decide +kernel
theorem dT_owesMore_3 : decode prog_6_method_12_code 3 = .ok (.iconst 4, 1) := by decide +kernel
theorem dT_owesMore_4 : decode prog_6_method_12_code 4 = .ok (.if_icmp .ge 32, 3) := by decide +kernel
theorem dT_owesMore_7 : decode prog_6_method_12_code 7 = .ok (.aload_n 0, 1) := by decide +kernel
theorem dT_owesMore_8 : decode prog_6_method_12_code 8 = .ok (.getfield 34, 3) := by decide +kernel
theorem dT_owesMore_11 : decode prog_6_method_12_code 11 = .ok (.iload_n 1, 1) := by decide +kernel
theorem dT_owesMore_12 : decode prog_6_method_12_code 12 = .ok (.iload_n 2, 1) := by decide +kernel
theorem dT_owesMore_13 : decode prog_6_method_12_code 13 = .ok (.invokevirtual 132, 3) := by decide +kernel
theorem dT_owesMore_16 : decode prog_6_method_12_code 16 = .ok (.aload_n 0, 1) := by decide +kernel
theorem dT_owesMore_17 : decode prog_6_method_12_code 17 = .ok (.getfield 30, 3) := by decide +kernel
theorem dT_owesMore_20 : decode prog_6_method_12_code 20 = .ok (.iload_n 1, 1) := by decide +kernel
theorem dT_owesMore_21 : decode prog_6_method_12_code 21 = .ok (.iload_n 2, 1) := by decide +kernel
theorem dT_owesMore_22 : decode prog_6_method_12_code 22 = .ok (.invokevirtual 132, 3) := by decide +kernel
theorem dT_owesMore_25 : decode prog_6_method_12_code 25 = .ok (.if_icmp .le 5, 3) := by decide +kernel
theorem dT_owesMore_28 : decode prog_6_method_12_code 28 = .ok (.iconst 1, 1) := by decide +kernel
theorem dT_owesMore_29 : decode prog_6_method_12_code 29 = .ok (.ireturn, 1) := by decide +kernel
theorem dT_owesMore_30 : decode prog_6_method_12_code 30 = .ok (.iinc 2 1, 3) := by decide +kernel
theorem dT_owesMore_33 : decode prog_6_method_12_code 33 = .ok (.goto (-31), 3) := by decide +kernel
theorem dT_owesMore_36 : decode prog_6_method_12_code 36 = .ok (.iconst 0, 1) := by decide +kernel
theorem dT_owesMore_37 : decode prog_6_method_12_code 37 = .ok (.ireturn, 1) := by decide +kernel
theorem dL_debtOf_0 : decode prog_5_method_8_code 0 = .ok (.iconst 0, 1) := by decide +kernel
theorem dL_debtOf_1 : decode prog_5_method_8_code 1 = .ok (.istore_n 3, 1) := by decide +kernel
theorem dL_debtOf_2 : decode prog_5_method_8_code 2 = .ok (.iconst 0, 1) := by decide +kernel
theorem dL_debtOf_3 : decode prog_5_method_8_code 3 = .ok (.istore 4, 2) := by decide +kernel
theorem dL_debtOf_5 : decode prog_5_method_8_code 5 = .ok (.iload 4, 2) := by decide +kernel
theorem dL_debtOf_7 : decode prog_5_method_8_code 7 = .ok (.aload_n 0, 1) := by decide +kernel
theorem dL_debtOf_8 : decode prog_5_method_8_code 8 = .ok (.getfield 17, 3) := by decide +kernel
theorem dL_debtOf_11 : decode prog_5_method_8_code 11 = .ok (.if_icmp .ge 37, 3) := by decide +kernel
theorem dL_debtOf_14 : decode prog_5_method_8_code 14 = .ok (.aload_n 0, 1) := by decide +kernel
theorem dL_debtOf_15 : decode prog_5_method_8_code 15 = .ok (.getfield 11, 3) := by decide +kernel
theorem dL_debtOf_18 : decode prog_5_method_8_code 18 = .ok (.iload 4, 2) := by decide +kernel
theorem dL_debtOf_20 : decode prog_5_method_8_code 20 = .ok (.aaload, 1) := by decide +kernel
theorem dL_debtOf_21 : decode prog_5_method_8_code 21 = .ok (.iload_n 1, 1) := by decide +kernel
theorem dL_debtOf_22 : decode prog_5_method_8_code 22 = .ok (.iload_n 2, 1) := by decide +kernel
theorem dL_debtOf_23 : decode prog_5_method_8_code 23 = .ok (.invokevirtual 34, 3) := by decide +kernel
theorem dL_debtOf_26 : decode prog_5_method_8_code 26 = .ok (.ifCond .eq 16, 3) := by decide +kernel
theorem dL_debtOf_29 : decode prog_5_method_8_code 29 = .ok (.iload_n 3, 1) := by decide +kernel
theorem dL_debtOf_30 : decode prog_5_method_8_code 30 = .ok (.aload_n 0, 1) := by decide +kernel
theorem dL_debtOf_31 : decode prog_5_method_8_code 31 = .ok (.getfield 11, 3) := by decide +kernel
theorem dL_debtOf_34 : decode prog_5_method_8_code 34 = .ok (.iload 4, 2) := by decide +kernel
theorem dL_debtOf_36 : decode prog_5_method_8_code 36 = .ok (.aaload, 1) := by decide +kernel
theorem dL_debtOf_37 : decode prog_5_method_8_code 37 = .ok (.getfield 31, 3) := by decide +kernel
theorem dL_debtOf_40 : decode prog_5_method_8_code 40 = .ok (.iadd, 1) := by decide +kernel
theorem dL_debtOf_41 : decode prog_5_method_8_code 41 = .ok (.istore_n 3, 1) := by decide +kernel
theorem dL_debtOf_42 : decode prog_5_method_8_code 42 = .ok (.iinc 4 1, 3) := by decide +kernel
theorem dL_debtOf_45 : decode prog_5_method_8_code 45 = .ok (.goto (-40), 3) := by decide +kernel
theorem dL_debtOf_48 : decode prog_5_method_8_code 48 = .ok (.iload_n 3, 1) := by decide +kernel
theorem dL_debtOf_49 : decode prog_5_method_8_code 49 = .ok (.ireturn, 1) := by decide +kernel
theorem dS_isDebtOf_0 : decode prog_4_method_7_code 0 = .ok (.aload_n 0, 1) := by decide +kernel
theorem dS_isDebtOf_1 : decode prog_4_method_7_code 1 = .ok (.getfield 15, 3) := by decide +kernel
theorem dS_isDebtOf_4 : decode prog_4_method_7_code 4 = .ok (.iconst 1, 1) := by decide +kernel
theorem dS_isDebtOf_5 : decode prog_4_method_7_code 5 = .ok (.if_icmp .ne 23, 3) := by decide +kernel
theorem dS_isDebtOf_8 : decode prog_4_method_7_code 8 = .ok (.aload_n 0, 1) := by decide +kernel
theorem dS_isDebtOf_9 : decode prog_4_method_7_code 9 = .ok (.getfield 18, 3) := by decide +kernel
theorem dS_isDebtOf_12 : decode prog_4_method_7_code 12 = .ok (.iload_n 1, 1) := by decide +kernel
theorem dS_isDebtOf_13 : decode prog_4_method_7_code 13 = .ok (.if_icmp .ne 15, 3) := by decide +kernel
theorem dS_isDebtOf_16 : decode prog_4_method_7_code 16 = .ok (.aload_n 0, 1) := by decide +kernel
theorem dS_isDebtOf_17 : decode prog_4_method_7_code 17 = .ok (.getfield 21, 3) := by decide +kernel
theorem dS_isDebtOf_20 : decode prog_4_method_7_code 20 = .ok (.iload_n 2, 1) := by decide +kernel
theorem dS_isDebtOf_21 : decode prog_4_method_7_code 21 = .ok (.if_icmp .ne 7, 3) := by decide +kernel
theorem dS_isDebtOf_24 : decode prog_4_method_7_code 24 = .ok (.iconst 1, 1) := by decide +kernel
theorem dS_isDebtOf_25 : decode prog_4_method_7_code 25 = .ok (.goto 4, 3) := by decide +kernel
theorem dS_isDebtOf_28 : decode prog_4_method_7_code 28 = .ok (.iconst 0, 1) := by decide +kernel
theorem dS_isDebtOf_29 : decode prog_4_method_7_code 29 = .ok (.ireturn, 1) := by decide +kernel
theorem dT_isLetDown_0 : decode prog_6_method_13_code 0 = .ok (.iconst 0, 1) := by decide +kernel
theorem dT_isLetDown_1 : decode prog_6_method_13_code 1 = .ok (.istore_n 2, 1) := by decide +kernel
theorem dT_isLetDown_2 : decode prog_6_method_13_code 2 = .ok (.iconst 0, 1) := by decide +kernel
theorem dT_isLetDown_3 : decode prog_6_method_13_code 3 = .ok (.istore_n 3, 1) := by decide +kernel
theorem dT_isLetDown_4 : decode prog_6_method_13_code 4 = .ok (.iload_n 3, 1) := by decide +kernel
theorem dT_isLetDown_5 : decode prog_6_method_13_code 5 = .ok (.iconst 4, 1) := by decide +kernel
theorem dT_isLetDown_6 : decode prog_6_method_13_code 6 = .ok (.if_icmp .ge 39, 3) := by decide +kernel
theorem dT_isLetDown_9 : decode prog_6_method_13_code 9 = .ok (.aload_n 0, 1) := by decide +kernel
theorem dT_isLetDown_10 : decode prog_6_method_13_code 10 = .ok (.getfield 30, 3) := by decide +kernel
theorem dT_isLetDown_13 : decode prog_6_method_13_code 13 = .ok (.iload_n 3, 1) := by decide +kernel
theorem dT_isLetDown_14 : decode prog_6_method_13_code 14 = .ok (.iload_n 1, 1) := by decide +kernel
theorem dT_isLetDown_15 : decode prog_6_method_13_code 15 = .ok (.invokevirtual 132, 3) := by decide +kernel
theorem dT_isLetDown_18 : decode prog_6_method_13_code 18 = .ok (.aload_n 0, 1) := by decide +kernel
theorem dT_isLetDown_19 : decode prog_6_method_13_code 19 = .ok (.getfield 34, 3) := by decide +kernel
theorem dT_isLetDown_22 : decode prog_6_method_13_code 22 = .ok (.iload_n 3, 1) := by decide +kernel
theorem dT_isLetDown_23 : decode prog_6_method_13_code 23 = .ok (.iload_n 1, 1) := by decide +kernel
theorem dT_isLetDown_24 : decode prog_6_method_13_code 24 = .ok (.invokevirtual 132, 3) := by decide +kernel
theorem dT_isLetDown_27 : decode prog_6_method_13_code 27 = .ok (.isub, 1) := by decide +kernel
theorem dT_isLetDown_28 : decode prog_6_method_13_code 28 = .ok (.istore 4, 2) := by decide +kernel
theorem dT_isLetDown_30 : decode prog_6_method_13_code 30 = .ok (.iload_n 2, 1) := by decide +kernel
theorem dT_isLetDown_31 : decode prog_6_method_13_code 31 = .ok (.iload 4, 2) := by decide +kernel
theorem dT_isLetDown_33 : decode prog_6_method_13_code 33 = .ok (.iconst 0, 1) := by decide +kernel
theorem dT_isLetDown_34 : decode prog_6_method_13_code 34 = .ok (.invokestatic 136, 3) := by decide +kernel
theorem dT_isLetDown_37 : decode prog_6_method_13_code 37 = .ok (.iadd, 1) := by decide +kernel
theorem dT_isLetDown_38 : decode prog_6_method_13_code 38 = .ok (.istore_n 2, 1) := by decide +kernel
theorem dT_isLetDown_39 : decode prog_6_method_13_code 39 = .ok (.iinc 3 1, 3) := by decide +kernel
theorem dT_isLetDown_42 : decode prog_6_method_13_code 42 = .ok (.goto (-38), 3) := by decide +kernel
theorem dT_isLetDown_45 : decode prog_6_method_13_code 45 = .ok (.iload_n 2, 1) := by decide +kernel
theorem dT_isLetDown_46 : decode prog_6_method_13_code 46 = .ok (.ifCond .le 28, 3) := by decide +kernel
theorem dT_isLetDown_49 : decode prog_6_method_13_code 49 = .ok (.iload_n 2, 1) := by decide +kernel
theorem dT_isLetDown_50 : decode prog_6_method_13_code 50 = .ok (.aload_n 0, 1) := by decide +kernel
theorem dT_isLetDown_51 : decode prog_6_method_13_code 51 = .ok (.getfield 34, 3) := by decide +kernel
theorem dT_isLetDown_54 : decode prog_6_method_13_code 54 = .ok (.iload_n 1, 1) := by decide +kernel
theorem dT_isLetDown_55 : decode prog_6_method_13_code 55 = .ok (.invokevirtual 141, 3) := by decide +kernel
theorem dT_isLetDown_58 : decode prog_6_method_13_code 58 = .ok (.aload_n 0, 1) := by decide +kernel
theorem dT_isLetDown_59 : decode prog_6_method_13_code 59 = .ok (.getfield 30, 3) := by decide +kernel
theorem dT_isLetDown_62 : decode prog_6_method_13_code 62 = .ok (.iload_n 1, 1) := by decide +kernel
theorem dT_isLetDown_63 : decode prog_6_method_13_code 63 = .ok (.invokevirtual 141, 3) := by decide +kernel
theorem dT_isLetDown_66 : decode prog_6_method_13_code 66 = .ok (.isub, 1) := by decide +kernel
theorem dT_isLetDown_67 : decode prog_6_method_13_code 67 = .ok (.if_icmp .le 7, 3) := by decide +kernel
theorem dT_isLetDown_70 : decode prog_6_method_13_code 70 = .ok (.iconst 1, 1) := by decide +kernel
theorem dT_isLetDown_71 : decode prog_6_method_13_code 71 = .ok (.goto 4, 3) := by decide +kernel
theorem dT_isLetDown_74 : decode prog_6_method_13_code 74 = .ok (.iconst 0, 1) := by decide +kernel
theorem dT_isLetDown_75 : decode prog_6_method_13_code 75 = .ok (.ireturn, 1) := by decide +kernel
theorem dL_cashOwnedBy_0 : decode prog_5_method_7_code 0 = .ok (.iconst 0, 1) := by decide +kernel
theorem dL_cashOwnedBy_1 : decode prog_5_method_7_code 1 = .ok (.istore_n 2, 1) := by decide +kernel
theorem dL_cashOwnedBy_2 : decode prog_5_method_7_code 2 = .ok (.iconst 0, 1) := by decide +kernel
theorem dL_cashOwnedBy_3 : decode prog_5_method_7_code 3 = .ok (.istore_n 3, 1) := by decide +kernel
theorem dL_cashOwnedBy_4 : decode prog_5_method_7_code 4 = .ok (.iload_n 3, 1) := by decide +kernel
theorem dL_cashOwnedBy_5 : decode prog_5_method_7_code 5 = .ok (.aload_n 0, 1) := by decide +kernel
theorem dL_cashOwnedBy_6 : decode prog_5_method_7_code 6 = .ok (.getfield 17, 3) := by decide +kernel
theorem dL_cashOwnedBy_9 : decode prog_5_method_7_code 9 = .ok (.if_icmp .ge 34, 3) := by decide +kernel
theorem dL_cashOwnedBy_12 : decode prog_5_method_7_code 12 = .ok (.aload_n 0, 1) := by decide +kernel
theorem dL_cashOwnedBy_13 : decode prog_5_method_7_code 13 = .ok (.getfield 11, 3) := by decide +kernel
theorem dL_cashOwnedBy_16 : decode prog_5_method_7_code 16 = .ok (.iload_n 3, 1) := by decide +kernel
theorem dL_cashOwnedBy_17 : decode prog_5_method_7_code 17 = .ok (.aaload, 1) := by decide +kernel
theorem dL_cashOwnedBy_18 : decode prog_5_method_7_code 18 = .ok (.iload_n 1, 1) := by decide +kernel
theorem dL_cashOwnedBy_19 : decode prog_5_method_7_code 19 = .ok (.invokevirtual 24, 3) := by decide +kernel
theorem dL_cashOwnedBy_22 : decode prog_5_method_7_code 22 = .ok (.ifCond .eq 15, 3) := by decide +kernel
theorem dL_cashOwnedBy_25 : decode prog_5_method_7_code 25 = .ok (.iload_n 2, 1) := by decide +kernel
theorem dL_cashOwnedBy_26 : decode prog_5_method_7_code 26 = .ok (.aload_n 0, 1) := by decide +kernel
theorem dL_cashOwnedBy_27 : decode prog_5_method_7_code 27 = .ok (.getfield 11, 3) := by decide +kernel
theorem dL_cashOwnedBy_30 : decode prog_5_method_7_code 30 = .ok (.iload_n 3, 1) := by decide +kernel
theorem dL_cashOwnedBy_31 : decode prog_5_method_7_code 31 = .ok (.aaload, 1) := by decide +kernel
theorem dL_cashOwnedBy_32 : decode prog_5_method_7_code 32 = .ok (.getfield 31, 3) := by decide +kernel
theorem dL_cashOwnedBy_35 : decode prog_5_method_7_code 35 = .ok (.iadd, 1) := by decide +kernel
theorem dL_cashOwnedBy_36 : decode prog_5_method_7_code 36 = .ok (.istore_n 2, 1) := by decide +kernel
theorem dL_cashOwnedBy_37 : decode prog_5_method_7_code 37 = .ok (.iinc 3 1, 3) := by decide +kernel
theorem dL_cashOwnedBy_40 : decode prog_5_method_7_code 40 = .ok (.goto (-36), 3) := by decide +kernel
theorem dL_cashOwnedBy_43 : decode prog_5_method_7_code 43 = .ok (.iload_n 2, 1) := by decide +kernel
theorem dL_cashOwnedBy_44 : decode prog_5_method_7_code 44 = .ok (.ireturn, 1) := by decide +kernel
theorem dT_needsNobodyElse_0 : decode prog_6_method_7_code 0 = .ok (.aload_n 0, 1) := by decide +kernel
theorem dT_needsNobodyElse_1 : decode prog_6_method_7_code 1 = .ok (.getfield 79, 3) := by decide +kernel
theorem dT_needsNobodyElse_4 : decode prog_6_method_7_code 4 = .ok (.aload_n 0, 1) := by decide +kernel
theorem dT_needsNobodyElse_5 : decode prog_6_method_7_code 5 = .ok (.getfield 15, 3) := by decide +kernel
theorem dT_needsNobodyElse_8 : decode prog_6_method_7_code 8 = .ok (.invokestatic 46, 3) := by decide +kernel
theorem dT_needsNobodyElse_11 : decode prog_6_method_7_code 11 = .ok (.if_icmp .ne 7, 3) := by decide +kernel
theorem dT_needsNobodyElse_14 : decode prog_6_method_7_code 14 = .ok (.iconst 1, 1) := by decide +kernel
theorem dT_needsNobodyElse_15 : decode prog_6_method_7_code 15 = .ok (.goto 4, 3) := by decide +kernel
theorem dT_needsNobodyElse_18 : decode prog_6_method_7_code 18 = .ok (.iconst 0, 1) := by decide +kernel
theorem dT_needsNobodyElse_19 : decode prog_6_method_7_code 19 = .ok (.ireturn, 1) := by decide +kernel
theorem dH_sendNotarise_0 : decode prog_1_method_33_code 0 = .ok (.aload_n 0, 1) := by decide +kernel
theorem dH_sendNotarise_1 : decode prog_1_method_33_code 1 = .ok (.iconst 2, 1) := by decide +kernel
theorem dH_sendNotarise_2 : decode prog_1_method_33_code 2 = .ok (.aload_n 1, 1) := by decide +kernel
theorem dH_sendNotarise_3 : decode prog_1_method_33_code 3 = .ok (.aload_n 1, 1) := by decide +kernel
theorem dH_sendNotarise_4 : decode prog_1_method_33_code 4 = .ok (.getfield 71, 3) := by decide +kernel
theorem dH_sendNotarise_7 : decode prog_1_method_33_code 7 = .ok (.aload_n 1, 1) := by decide +kernel
theorem dH_sendNotarise_8 : decode prog_1_method_33_code 8 = .ok (.getfield 81, 3) := by decide +kernel
theorem dH_sendNotarise_11 : decode prog_1_method_33_code 11 = .ok (.iconst 0, 1) := by decide +kernel
theorem dH_sendNotarise_12 : decode prog_1_method_33_code 12 = .ok (.invokevirtual 264, 3) := by decide +kernel
theorem dH_sendNotarise_15 : decode prog_1_method_33_code 15 = .ok (.ireturn, 1) := by decide +kernel
theorem dH_send_0 : decode prog_1_method_32_code 0 = .ok (.aload_n 0, 1) := by decide +kernel
theorem dH_send_1 : decode prog_1_method_32_code 1 = .ok (.getfield 25, 3) := by decide +kernel
theorem dH_send_4 : decode prog_1_method_32_code 4 = .ok (.iload_n 1, 1) := by decide +kernel
theorem dH_send_5 : decode prog_1_method_32_code 5 = .ok (.iload_n 3, 1) := by decide +kernel
theorem dH_send_6 : decode prog_1_method_32_code 6 = .ok (.iload 4, 2) := by decide +kernel
theorem dH_send_8 : decode prog_1_method_32_code 8 = .ok (.aload_n 2, 1) := by decide +kernel
theorem dH_send_9 : decode prog_1_method_32_code 9 = .ok (.getfield 281, 3) := by decide +kernel
theorem dH_send_12 : decode prog_1_method_32_code 12 = .ok (.iload 5, 2) := by decide +kernel
theorem dH_send_14 : decode prog_1_method_32_code 14 = .ok (.invokestatic 304, 3) := by decide +kernel
theorem dH_send_17 : decode prog_1_method_32_code 17 = .ok (.invokevirtual 308, 3) := by decide +kernel
theorem dH_send_20 : decode prog_1_method_32_code 20 = .ok (.ifCond .eq 7, 3) := by decide +kernel
theorem dH_send_23 : decode prog_1_method_32_code 23 = .ok (.iconst 1, 1) := by decide +kernel
theorem dH_send_24 : decode prog_1_method_32_code 24 = .ok (.goto 4, 3) := by decide +kernel
theorem dH_send_27 : decode prog_1_method_32_code 27 = .ok (.iconst 0, 1) := by decide +kernel
theorem dH_send_28 : decode prog_1_method_32_code 28 = .ok (.ireturn, 1) := by decide +kernel
theorem dB_code_0 : decode prog_2_method_2_code 0 = .ok (.iload_n 0, 1) := by decide +kernel
theorem dB_code_1 : decode prog_2_method_2_code 1 = .ok (.bipush 8, 2) := by decide +kernel
theorem dB_code_3 : decode prog_2_method_2_code 3 = .ok (.iload_n 1, 1) := by decide +kernel
theorem dB_code_4 : decode prog_2_method_2_code 4 = .ok (.imul, 1) := by decide +kernel
theorem dB_code_5 : decode prog_2_method_2_code 5 = .ok (.iadd, 1) := by decide +kernel
theorem dB_code_6 : decode prog_2_method_2_code 6 = .ok (.bipush 64, 2) := by decide +kernel
theorem dB_code_8 : decode prog_2_method_2_code 8 = .ok (.iload_n 2, 1) := by decide +kernel
theorem dB_code_9 : decode prog_2_method_2_code 9 = .ok (.imul, 1) := by decide +kernel
theorem dB_code_10 : decode prog_2_method_2_code 10 = .ok (.iadd, 1) := by decide +kernel
theorem dB_code_11 : decode prog_2_method_2_code 11 = .ok (.sipush 512, 3) := by decide +kernel
theorem dB_code_14 : decode prog_2_method_2_code 14 = .ok (.iload_n 3, 1) := by decide +kernel
theorem dB_code_15 : decode prog_2_method_2_code 15 = .ok (.imul, 1) := by decide +kernel
theorem dB_code_16 : decode prog_2_method_2_code 16 = .ok (.iadd, 1) := by decide +kernel
theorem dB_code_17 : decode prog_2_method_2_code 17 = .ok (.sipush 16384, 3) := by decide +kernel
theorem dB_code_20 : decode prog_2_method_2_code 20 = .ok (.iload 4, 2) := by decide +kernel
theorem dB_code_22 : decode prog_2_method_2_code 22 = .ok (.imul, 1) := by decide +kernel
theorem dB_code_23 : decode prog_2_method_2_code 23 = .ok (.iadd, 1) := by decide +kernel
theorem dB_code_24 : decode prog_2_method_2_code 24 = .ok (.ireturn, 1) := by decide +kernel
theorem dB_post_0 : decode prog_2_method_9_code 0 = .ok (.aload_n 0, 1) := by decide +kernel
theorem dB_post_1 : decode prog_2_method_9_code 1 = .ok (.getfield 15, 3) := by decide +kernel
theorem dB_post_4 : decode prog_2_method_9_code 4 = .ok (.sipush 220, 3) := by decide +kernel
theorem dB_post_7 : decode prog_2_method_9_code 7 = .ok (.if_icmp .ge 11, 3) := by decide +kernel
theorem dB_post_10 : decode prog_2_method_9_code 10 = .ok (.aload_n 0, 1) := by decide +kernel
theorem dB_post_11 : decode prog_2_method_9_code 11 = .ok (.iload_n 1, 1) := by decide +kernel
theorem dB_post_12 : decode prog_2_method_9_code 12 = .ok (.invokevirtual 19, 3) := by decide +kernel
theorem dB_post_15 : decode prog_2_method_9_code 15 = .ok (.ifCond .eq 5, 3) := by decide +kernel
theorem dB_post_18 : decode prog_2_method_9_code 18 = .ok (.iconst 0, 1) := by decide +kernel
theorem dB_post_19 : decode prog_2_method_9_code 19 = .ok (.ireturn, 1) := by decide +kernel
theorem dB_post_20 : decode prog_2_method_9_code 20 = .ok (.aload_n 0, 1) := by decide +kernel
theorem dB_post_21 : decode prog_2_method_9_code 21 = .ok (.getfield 9, 3) := by decide +kernel
theorem dB_post_24 : decode prog_2_method_9_code 24 = .ok (.aload_n 0, 1) := by decide +kernel
theorem dB_post_25 : decode prog_2_method_9_code 25 = .ok (.getfield 15, 3) := by decide +kernel
theorem dB_post_28 : decode prog_2_method_9_code 28 = .ok (.iload_n 1, 1) := by decide +kernel
theorem dB_post_29 : decode prog_2_method_9_code 29 = .ok (.iastore, 1) := by decide +kernel
theorem dB_post_30 : decode prog_2_method_9_code 30 = .ok (.aload_n 0, 1) := by decide +kernel
theorem dB_post_31 : decode prog_2_method_9_code 31 = .ok (.dup, 1) := by decide +kernel
theorem dB_post_32 : decode prog_2_method_9_code 32 = .ok (.getfield 15, 3) := by decide +kernel
theorem dB_post_35 : decode prog_2_method_9_code 35 = .ok (.iconst 1, 1) := by decide +kernel
theorem dB_post_36 : decode prog_2_method_9_code 36 = .ok (.iadd, 1) := by decide +kernel
theorem dB_post_37 : decode prog_2_method_9_code 37 = .ok (.putfield 15, 3) := by decide +kernel
theorem dB_post_40 : decode prog_2_method_9_code 40 = .ok (.iconst 1, 1) := by decide +kernel
theorem dB_post_41 : decode prog_2_method_9_code 41 = .ok (.ireturn, 1) := by decide +kernel
theorem dB_isWaiting_0 : decode prog_2_method_10_code 0 = .ok (.iconst 0, 1) := by decide +kernel
theorem dB_isWaiting_1 : decode prog_2_method_10_code 1 = .ok (.istore_n 2, 1) := by decide +kernel
theorem dB_isWaiting_2 : decode prog_2_method_10_code 2 = .ok (.iload_n 2, 1) := by decide +kernel
theorem dB_isWaiting_3 : decode prog_2_method_10_code 3 = .ok (.aload_n 0, 1) := by decide +kernel
theorem dB_isWaiting_4 : decode prog_2_method_10_code 4 = .ok (.getfield 15, 3) := by decide +kernel
theorem dB_isWaiting_7 : decode prog_2_method_10_code 7 = .ok (.if_icmp .ge 21, 3) := by decide +kernel
theorem dB_isWaiting_10 : decode prog_2_method_10_code 10 = .ok (.aload_n 0, 1) := by decide +kernel
theorem dB_isWaiting_11 : decode prog_2_method_10_code 11 = .ok (.getfield 9, 3) := by decide +kernel
theorem dB_isWaiting_14 : decode prog_2_method_10_code 14 = .ok (.iload_n 2, 1) := by decide +kernel
theorem dB_isWaiting_15 : decode prog_2_method_10_code 15 = .ok (.iaload, 1) := by decide +kernel
theorem dB_isWaiting_16 : decode prog_2_method_10_code 16 = .ok (.iload_n 1, 1) := by decide +kernel
theorem dB_isWaiting_17 : decode prog_2_method_10_code 17 = .ok (.if_icmp .ne 5, 3) := by decide +kernel
theorem dB_isWaiting_20 : decode prog_2_method_10_code 20 = .ok (.iconst 1, 1) := by decide +kernel
theorem dB_isWaiting_21 : decode prog_2_method_10_code 21 = .ok (.ireturn, 1) := by decide +kernel
theorem dB_isWaiting_22 : decode prog_2_method_10_code 22 = .ok (.iinc 2 1, 3) := by decide +kernel
theorem dB_isWaiting_25 : decode prog_2_method_10_code 25 = .ok (.goto (-23), 3) := by decide +kernel
theorem dB_isWaiting_28 : decode prog_2_method_10_code 28 = .ok (.iconst 0, 1) := by decide +kernel
theorem dB_isWaiting_29 : decode prog_2_method_10_code 29 = .ok (.ireturn, 1) := by decide +kernel
theorem dH_sendToOthers_0 : decode prog_1_method_34_code 0 = .ok (.iconst 0, 1) := by decide +kernel
theorem dH_sendToOthers_1 : decode prog_1_method_34_code 1 = .ok (.istore 4, 2) := by decide +kernel
theorem dH_sendToOthers_3 : decode prog_1_method_34_code 3 = .ok (.iconst 0, 1) := by decide +kernel
theorem dH_sendToOthers_4 : decode prog_1_method_34_code 4 = .ok (.istore 5, 2) := by decide +kernel
theorem dH_sendToOthers_6 : decode prog_1_method_34_code 6 = .ok (.iload 5, 2) := by decide +kernel
theorem dH_sendToOthers_8 : decode prog_1_method_34_code 8 = .ok (.iconst 4, 1) := by decide +kernel
theorem dH_sendToOthers_9 : decode prog_1_method_34_code 9 = .ok (.if_icmp .ge 45, 3) := by decide +kernel
theorem dH_sendToOthers_12 : decode prog_1_method_34_code 12 = .ok (.iload_n 3, 1) := by decide +kernel
theorem dH_sendToOthers_13 : decode prog_1_method_34_code 13 = .ok (.iload 5, 2) := by decide +kernel
theorem dH_sendToOthers_15 : decode prog_1_method_34_code 15 = .ok (.invokestatic 77, 3) := by decide +kernel
theorem dH_sendToOthers_18 : decode prog_1_method_34_code 18 = .ok (.ifCond .eq 30, 3) := by decide +kernel
theorem dH_sendToOthers_21 : decode prog_1_method_34_code 21 = .ok (.iload 5, 2) := by decide +kernel
theorem dH_sendToOthers_23 : decode prog_1_method_34_code 23 = .ok (.aload_n 2, 1) := by decide +kernel
theorem dH_sendToOthers_24 : decode prog_1_method_34_code 24 = .ok (.getfield 71, 3) := by decide +kernel
theorem dH_sendToOthers_27 : decode prog_1_method_34_code 27 = .ok (.if_icmp .eq 21, 3) := by decide +kernel
theorem dH_sendToOthers_30 : decode prog_1_method_34_code 30 = .ok (.iload 4, 2) := by decide +kernel
theorem dH_sendToOthers_32 : decode prog_1_method_34_code 32 = .ok (.aload_n 0, 1) := by decide +kernel
theorem dH_sendToOthers_33 : decode prog_1_method_34_code 33 = .ok (.iload_n 1, 1) := by decide +kernel
theorem dH_sendToOthers_34 : decode prog_1_method_34_code 34 = .ok (.aload_n 2, 1) := by decide +kernel
theorem dH_sendToOthers_35 : decode prog_1_method_34_code 35 = .ok (.aload_n 2, 1) := by decide +kernel
theorem dH_sendToOthers_36 : decode prog_1_method_34_code 36 = .ok (.getfield 71, 3) := by decide +kernel
theorem dH_sendToOthers_39 : decode prog_1_method_34_code 39 = .ok (.iload 5, 2) := by decide +kernel
theorem dH_sendToOthers_41 : decode prog_1_method_34_code 41 = .ok (.iconst 0, 1) := by decide +kernel
theorem dH_sendToOthers_42 : decode prog_1_method_34_code 42 = .ok (.invokevirtual 264, 3) := by decide +kernel
theorem dH_sendToOthers_45 : decode prog_1_method_34_code 45 = .ok (.iadd, 1) := by decide +kernel
theorem dH_sendToOthers_46 : decode prog_1_method_34_code 46 = .ok (.istore 4, 2) := by decide +kernel
theorem dH_sendToOthers_48 : decode prog_1_method_34_code 48 = .ok (.iinc 5 1, 3) := by decide +kernel
theorem dH_sendToOthers_51 : decode prog_1_method_34_code 51 = .ok (.goto (-45), 3) := by decide +kernel
theorem dH_sendToOthers_54 : decode prog_1_method_34_code 54 = .ok (.iload 4, 2) := by decide +kernel
theorem dH_sendToOthers_56 : decode prog_1_method_34_code 56 = .ok (.ireturn, 1) := by decide +kernel
theorem dH_deliver_0 : decode prog_1_method_9_code 0 = .ok (.aload_n 0, 1) := by decide +kernel
theorem dH_deliver_1 : decode prog_1_method_9_code 1 = .ok (.getfield 25, 3) := by decide +kernel
theorem dH_deliver_4 : decode prog_1_method_9_code 4 = .ok (.iload_n 1, 1) := by decide +kernel
theorem dH_deliver_5 : decode prog_1_method_9_code 5 = .ok (.invokevirtual 163, 3) := by decide +kernel
theorem dH_deliver_8 : decode prog_1_method_9_code 8 = .ok (.ifCond .ne 5, 3) := by decide +kernel
theorem dH_deliver_11 : decode prog_1_method_9_code 11 = .ok (.iconst (-1), 1) := by decide +kernel
theorem dH_deliver_12 : decode prog_1_method_9_code 12 = .ok (.ireturn, 1) := by decide +kernel
theorem dH_deliver_13 : decode prog_1_method_9_code 13 = .ok (.aload_n 0, 1) := by decide +kernel
theorem dH_deliver_14 : decode prog_1_method_9_code 14 = .ok (.aload_n 0, 1) := by decide +kernel
theorem dH_deliver_15 : decode prog_1_method_9_code 15 = .ok (.getfield 25, 3) := by decide +kernel
theorem dH_deliver_18 : decode prog_1_method_9_code 18 = .ok (.getfield 166, 3) := by decide +kernel
theorem dH_deliver_21 : decode prog_1_method_9_code 21 = .ok (.iload_n 1, 1) := by decide +kernel
theorem dH_deliver_22 : decode prog_1_method_9_code 22 = .ok (.iaload, 1) := by decide +kernel
theorem dH_deliver_23 : decode prog_1_method_9_code 23 = .ok (.iload_n 2, 1) := by decide +kernel
theorem dH_deliver_24 : decode prog_1_method_9_code 24 = .ok (.invokevirtual 169, 3) := by decide +kernel
theorem dH_deliver_27 : decode prog_1_method_9_code 27 = .ok (.istore_n 3, 1) := by decide +kernel
theorem dH_deliver_28 : decode prog_1_method_9_code 28 = .ok (.iload_n 2, 1) := by decide +kernel
theorem dH_deliver_29 : decode prog_1_method_9_code 29 = .ok (.ifCond .ne 15, 3) := by decide +kernel
theorem dH_deliver_32 : decode prog_1_method_9_code 32 = .ok (.iload_n 3, 1) := by decide +kernel
theorem dH_deliver_33 : decode prog_1_method_9_code 33 = .ok (.ifCond .eq 11, 3) := by decide +kernel
theorem dH_deliver_36 : decode prog_1_method_9_code 36 = .ok (.aload_n 0, 1) := by decide +kernel
theorem dH_deliver_37 : decode prog_1_method_9_code 37 = .ok (.getfield 25, 3) := by decide +kernel
theorem dH_deliver_40 : decode prog_1_method_9_code 40 = .ok (.iload_n 1, 1) := by decide +kernel
theorem dH_deliver_41 : decode prog_1_method_9_code 41 = .ok (.invokevirtual 173, 3) := by decide +kernel
theorem dH_deliver_44 : decode prog_1_method_9_code 44 = .ok (.iload_n 3, 1) := by decide +kernel
theorem dH_deliver_45 : decode prog_1_method_9_code 45 = .ok (.ireturn, 1) := by decide +kernel
theorem dB_holdsPlace_0 : decode prog_2_method_8_code 0 = .ok (.iload_n 1, 1) := by decide +kernel
theorem dB_holdsPlace_1 : decode prog_2_method_8_code 1 = .ok (.ifCond .lt 15, 3) := by decide +kernel
theorem dB_holdsPlace_4 : decode prog_2_method_8_code 4 = .ok (.iload_n 1, 1) := by decide +kernel
theorem dB_holdsPlace_5 : decode prog_2_method_8_code 5 = .ok (.aload_n 0, 1) := by decide +kernel
theorem dB_holdsPlace_6 : decode prog_2_method_8_code 6 = .ok (.getfield 15, 3) := by decide +kernel
theorem dB_holdsPlace_9 : decode prog_2_method_8_code 9 = .ok (.if_icmp .ge 7, 3) := by decide +kernel
theorem dB_holdsPlace_12 : decode prog_2_method_8_code 12 = .ok (.iconst 1, 1) := by decide +kernel
theorem dB_holdsPlace_13 : decode prog_2_method_8_code 13 = .ok (.goto 4, 3) := by decide +kernel
theorem dB_holdsPlace_16 : decode prog_2_method_8_code 16 = .ok (.iconst 0, 1) := by decide +kernel
theorem dB_holdsPlace_17 : decode prog_2_method_8_code 17 = .ok (.ireturn, 1) := by decide +kernel
theorem dH_receive_0 : decode prog_1_method_22_code 0 = .ok (.aload_n 0, 1) := by decide +kernel
theorem dH_receive_1 : decode prog_1_method_22_code 1 = .ok (.iload_n 1, 1) := by decide +kernel
theorem dH_receive_2 : decode prog_1_method_22_code 2 = .ok (.invokestatic 219, 3) := by decide +kernel
theorem dH_receive_5 : decode prog_1_method_22_code 5 = .ok (.invokevirtual 60, 3) := by decide +kernel
theorem dH_receive_8 : decode prog_1_method_22_code 8 = .ok (.astore_n 3, 1) := by decide +kernel
theorem dH_receive_9 : decode prog_1_method_22_code 9 = .ok (.iload_n 1, 1) := by decide +kernel
theorem dH_receive_10 : decode prog_1_method_22_code 10 = .ok (.invokestatic 222, 3) := by decide +kernel
theorem dH_receive_13 : decode prog_1_method_22_code 13 = .ok (.istore 4, 2) := by decide +kernel
theorem dH_receive_15 : decode prog_1_method_22_code 15 = .ok (.iload_n 1, 1) := by decide +kernel
theorem dH_receive_16 : decode prog_1_method_22_code 16 = .ok (.invokestatic 225, 3) := by decide +kernel
theorem dH_receive_19 : decode prog_1_method_22_code 19 = .ok (.istore 5, 2) := by decide +kernel
theorem dH_receive_21 : decode prog_1_method_22_code 21 = .ok (.aload_n 3, 1) := by decide +kernel
theorem dH_receive_22 : decode prog_1_method_22_code 22 = .ok (.ifnonnull 5, 3) := by decide +kernel
theorem dH_receive_25 : decode prog_1_method_22_code 25 = .ok (.iconst (-1), 1) := by decide +kernel
theorem dH_receive_26 : decode prog_1_method_22_code 26 = .ok (.ireturn, 1) := by decide +kernel
theorem dH_receive_27 : decode prog_1_method_22_code 27 = .ok (.iload_n 1, 1) := by decide +kernel
theorem dH_receive_28 : decode prog_1_method_22_code 28 = .ok (.invokestatic 228, 3) := by decide +kernel
theorem dH_receive_31 : decode prog_1_method_22_code 31 = .ok (.tableswitch 66 0 3 #[29, 38, 51, 57], 29) := by decide +kernel
theorem dH_receive_60 : decode prog_1_method_22_code 60 = .ok (.aload_n 0, 1) := by decide +kernel
theorem dH_receive_61 : decode prog_1_method_22_code 61 = .ok (.aload_n 3, 1) := by decide +kernel
theorem dH_receive_62 : decode prog_1_method_22_code 62 = .ok (.iload 4, 2) := by decide +kernel
theorem dH_receive_64 : decode prog_1_method_22_code 64 = .ok (.iload_n 2, 1) := by decide +kernel
theorem dH_receive_65 : decode prog_1_method_22_code 65 = .ok (.invokevirtual 231, 3) := by decide +kernel
theorem dH_receive_68 : decode prog_1_method_22_code 68 = .ok (.ireturn, 1) := by decide +kernel
theorem dH_receive_69 : decode prog_1_method_22_code 69 = .ok (.aload_n 0, 1) := by decide +kernel
theorem dH_receive_70 : decode prog_1_method_22_code 70 = .ok (.aload_n 3, 1) := by decide +kernel
theorem dH_receive_71 : decode prog_1_method_22_code 71 = .ok (.iload_n 1, 1) := by decide +kernel
theorem dH_receive_72 : decode prog_1_method_22_code 72 = .ok (.invokestatic 235, 3) := by decide +kernel
theorem dH_receive_75 : decode prog_1_method_22_code 75 = .ok (.iload 5, 2) := by decide +kernel
theorem dH_receive_77 : decode prog_1_method_22_code 77 = .ok (.iload_n 2, 1) := by decide +kernel
theorem dH_receive_78 : decode prog_1_method_22_code 78 = .ok (.invokevirtual 238, 3) := by decide +kernel
theorem dH_receive_81 : decode prog_1_method_22_code 81 = .ok (.ireturn, 1) := by decide +kernel
theorem dH_receive_82 : decode prog_1_method_22_code 82 = .ok (.aload_n 0, 1) := by decide +kernel
theorem dH_receive_83 : decode prog_1_method_22_code 83 = .ok (.aload_n 3, 1) := by decide +kernel
theorem dH_receive_84 : decode prog_1_method_22_code 84 = .ok (.invokevirtual 242, 3) := by decide +kernel
theorem dH_receive_87 : decode prog_1_method_22_code 87 = .ok (.ireturn, 1) := by decide +kernel
theorem dH_receive_88 : decode prog_1_method_22_code 88 = .ok (.aload_n 0, 1) := by decide +kernel
theorem dH_receive_89 : decode prog_1_method_22_code 89 = .ok (.aload_n 3, 1) := by decide +kernel
theorem dH_receive_90 : decode prog_1_method_22_code 90 = .ok (.iload 5, 2) := by decide +kernel
theorem dH_receive_92 : decode prog_1_method_22_code 92 = .ok (.iload_n 2, 1) := by decide +kernel
theorem dH_receive_93 : decode prog_1_method_22_code 93 = .ok (.invokevirtual 245, 3) := by decide +kernel
theorem dH_receive_96 : decode prog_1_method_22_code 96 = .ok (.ireturn, 1) := by decide +kernel
theorem dH_receive_97 : decode prog_1_method_22_code 97 = .ok (.aload_n 0, 1) := by decide +kernel
theorem dH_receive_98 : decode prog_1_method_22_code 98 = .ok (.aload_n 3, 1) := by decide +kernel
theorem dH_receive_99 : decode prog_1_method_22_code 99 = .ok (.iload 4, 2) := by decide +kernel
theorem dH_receive_101 : decode prog_1_method_22_code 101 = .ok (.iload_n 2, 1) := by decide +kernel
theorem dH_receive_102 : decode prog_1_method_22_code 102 = .ok (.invokevirtual 248, 3) := by decide +kernel
theorem dH_receive_105 : decode prog_1_method_22_code 105 = .ok (.ireturn, 1) := by decide +kernel
theorem dB_transactionOf_0 : decode prog_2_method_6_code 0 = .ok (.iload_n 0, 1) := by decide +kernel
theorem dB_transactionOf_1 : decode prog_2_method_6_code 1 = .ok (.bipush 9, 2) := by decide +kernel
theorem dB_transactionOf_3 : decode prog_2_method_6_code 3 = .ok (.ishr, 1) := by decide +kernel
theorem dB_transactionOf_4 : decode prog_2_method_6_code 4 = .ok (.bipush 31, 2) := by decide +kernel
theorem dB_transactionOf_6 : decode prog_2_method_6_code 6 = .ok (.iand, 1) := by decide +kernel
theorem dB_transactionOf_7 : decode prog_2_method_6_code 7 = .ok (.ireturn, 1) := by decide +kernel
theorem dB_receiverOf_0 : decode prog_2_method_5_code 0 = .ok (.iload_n 0, 1) := by decide +kernel
theorem dB_receiverOf_1 : decode prog_2_method_5_code 1 = .ok (.bipush 6, 2) := by decide +kernel
theorem dB_receiverOf_3 : decode prog_2_method_5_code 3 = .ok (.ishr, 1) := by decide +kernel
theorem dB_receiverOf_4 : decode prog_2_method_5_code 4 = .ok (.bipush 7, 2) := by decide +kernel
theorem dB_receiverOf_6 : decode prog_2_method_5_code 6 = .ok (.iand, 1) := by decide +kernel
theorem dB_receiverOf_7 : decode prog_2_method_5_code 7 = .ok (.ireturn, 1) := by decide +kernel
theorem dB_contentOf_0 : decode prog_2_method_7_code 0 = .ok (.iload_n 0, 1) := by decide +kernel
theorem dB_contentOf_1 : decode prog_2_method_7_code 1 = .ok (.bipush 14, 2) := by decide +kernel
theorem dB_contentOf_3 : decode prog_2_method_7_code 3 = .ok (.ishr, 1) := by decide +kernel
theorem dB_contentOf_4 : decode prog_2_method_7_code 4 = .ok (.ireturn, 1) := by decide +kernel
theorem dB_kindOf_0 : decode prog_2_method_3_code 0 = .ok (.iload_n 0, 1) := by decide +kernel
theorem dB_kindOf_1 : decode prog_2_method_3_code 1 = .ok (.bipush 7, 2) := by decide +kernel
theorem dB_kindOf_3 : decode prog_2_method_3_code 3 = .ok (.iand, 1) := by decide +kernel
theorem dB_kindOf_4 : decode prog_2_method_3_code 4 = .ok (.ireturn, 1) := by decide +kernel
theorem dH_receiveAsk_0 : decode prog_1_method_23_code 0 = .ok (.iload_n 2, 1) := by decide +kernel
theorem dH_receiveAsk_1 : decode prog_1_method_23_code 1 = .ok (.invokestatic 45, 3) := by decide +kernel
theorem dH_receiveAsk_4 : decode prog_1_method_23_code 4 = .ok (.ifCond .ne 5, 3) := by decide +kernel
theorem dH_receiveAsk_7 : decode prog_1_method_23_code 7 = .ok (.iconst (-1), 1) := by decide +kernel
theorem dH_receiveAsk_8 : decode prog_1_method_23_code 8 = .ok (.ireturn, 1) := by decide +kernel
theorem dH_receiveAsk_9 : decode prog_1_method_23_code 9 = .ok (.aload_n 0, 1) := by decide +kernel
theorem dH_receiveAsk_10 : decode prog_1_method_23_code 10 = .ok (.getfield 17, 3) := by decide +kernel
theorem dH_receiveAsk_13 : decode prog_1_method_23_code 13 = .ok (.iload_n 2, 1) := by decide +kernel
theorem dH_receiveAsk_14 : decode prog_1_method_23_code 14 = .ok (.aaload, 1) := by decide +kernel
theorem dH_receiveAsk_15 : decode prog_1_method_23_code 15 = .ok (.astore 4, 2) := by decide +kernel
theorem dH_receiveAsk_17 : decode prog_1_method_23_code 17 = .ok (.aload_n 1, 1) := by decide +kernel
theorem dH_receiveAsk_18 : decode prog_1_method_23_code 18 = .ok (.iload_n 2, 1) := by decide +kernel
theorem dH_receiveAsk_19 : decode prog_1_method_23_code 19 = .ok (.aload 4, 2) := by decide +kernel
theorem dH_receiveAsk_21 : decode prog_1_method_23_code 21 = .ok (.getfield 183, 3) := by decide +kernel
theorem dH_receiveAsk_24 : decode prog_1_method_23_code 24 = .ok (.aload_n 1, 1) := by decide +kernel
theorem dH_receiveAsk_25 : decode prog_1_method_23_code 25 = .ok (.getfield 71, 3) := by decide +kernel
theorem dH_receiveAsk_28 : decode prog_1_method_23_code 28 = .ok (.invokestatic 77, 3) := by decide +kernel
theorem dH_receiveAsk_31 : decode prog_1_method_23_code 31 = .ok (.invokevirtual 251, 3) := by decide +kernel
theorem dH_receiveAsk_34 : decode prog_1_method_23_code 34 = .ok (.aload_n 1, 1) := by decide +kernel
theorem dH_receiveAsk_35 : decode prog_1_method_23_code 35 = .ok (.getfield 255, 3) := by decide +kernel
theorem dH_receiveAsk_38 : decode prog_1_method_23_code 38 = .ok (.iload_n 2, 1) := by decide +kernel
theorem dH_receiveAsk_39 : decode prog_1_method_23_code 39 = .ok (.invokestatic 77, 3) := by decide +kernel
theorem dH_receiveAsk_42 : decode prog_1_method_23_code 42 = .ok (.istore 5, 2) := by decide +kernel
theorem dH_receiveAsk_44 : decode prog_1_method_23_code 44 = .ok (.iload 5, 2) := by decide +kernel
theorem dH_receiveAsk_46 : decode prog_1_method_23_code 46 = .ok (.ifCond .eq 16, 3) := by decide +kernel
theorem dH_receiveAsk_49 : decode prog_1_method_23_code 49 = .ok (.iload_n 3, 1) := by decide +kernel
theorem dH_receiveAsk_50 : decode prog_1_method_23_code 50 = .ok (.ifCond .ne 12, 3) := by decide +kernel
theorem dH_receiveAsk_53 : decode prog_1_method_23_code 53 = .ok (.aload 4, 2) := by decide +kernel
theorem dH_receiveAsk_55 : decode prog_1_method_23_code 55 = .ok (.aload_n 1, 1) := by decide +kernel
theorem dH_receiveAsk_56 : decode prog_1_method_23_code 56 = .ok (.getfield 258, 3) := by decide +kernel
theorem dH_receiveAsk_59 : decode prog_1_method_23_code 59 = .ok (.invokevirtual 261, 3) := by decide +kernel
theorem dH_receiveAsk_62 : decode prog_1_method_23_code 62 = .ok (.aload_n 0, 1) := by decide +kernel
theorem dH_receiveAsk_63 : decode prog_1_method_23_code 63 = .ok (.iconst 1, 1) := by decide +kernel
theorem dH_receiveAsk_64 : decode prog_1_method_23_code 64 = .ok (.aload_n 1, 1) := by decide +kernel
theorem dH_receiveAsk_65 : decode prog_1_method_23_code 65 = .ok (.iload_n 2, 1) := by decide +kernel
theorem dH_receiveAsk_66 : decode prog_1_method_23_code 66 = .ok (.aload_n 1, 1) := by decide +kernel
theorem dH_receiveAsk_67 : decode prog_1_method_23_code 67 = .ok (.getfield 71, 3) := by decide +kernel
theorem dH_receiveAsk_70 : decode prog_1_method_23_code 70 = .ok (.iload 5, 2) := by decide +kernel
theorem dH_receiveAsk_72 : decode prog_1_method_23_code 72 = .ok (.ifCond .eq 7, 3) := by decide +kernel
theorem dH_receiveAsk_75 : decode prog_1_method_23_code 75 = .ok (.iconst 1, 1) := by decide +kernel
theorem dH_receiveAsk_76 : decode prog_1_method_23_code 76 = .ok (.goto 4, 3) := by decide +kernel
theorem dH_receiveAsk_79 : decode prog_1_method_23_code 79 = .ok (.iconst 0, 1) := by decide +kernel
theorem dH_receiveAsk_80 : decode prog_1_method_23_code 80 = .ok (.invokevirtual 264, 3) := by decide +kernel
theorem dH_receiveAsk_83 : decode prog_1_method_23_code 83 = .ok (.pop, 1) := by decide +kernel
theorem dH_receiveAsk_84 : decode prog_1_method_23_code 84 = .ok (.iconst 2, 1) := by decide +kernel
theorem dH_receiveAsk_85 : decode prog_1_method_23_code 85 = .ok (.ireturn, 1) := by decide +kernel
theorem dT_decide_0 : decode prog_6_method_4_code 0 = .ok (.aload_n 0, 1) := by decide +kernel
theorem dT_decide_1 : decode prog_6_method_4_code 1 = .ok (.getfield 62, 3) := by decide +kernel
theorem dT_decide_4 : decode prog_6_method_4_code 4 = .ok (.iload_n 1, 1) := by decide +kernel
theorem dT_decide_5 : decode prog_6_method_4_code 5 = .ok (.invokestatic 65, 3) := by decide +kernel
theorem dT_decide_8 : decode prog_6_method_4_code 8 = .ok (.ifCond .eq 4, 3) := by decide +kernel
theorem dT_decide_11 : decode prog_6_method_4_code 11 = .ok (.return_, 1) := by decide +kernel
theorem dT_decide_12 : decode prog_6_method_4_code 12 = .ok (.aload_n 0, 1) := by decide +kernel
theorem dT_decide_13 : decode prog_6_method_4_code 13 = .ok (.dup, 1) := by decide +kernel
theorem dT_decide_14 : decode prog_6_method_4_code 14 = .ok (.getfield 62, 3) := by decide +kernel
theorem dT_decide_17 : decode prog_6_method_4_code 17 = .ok (.iload_n 1, 1) := by decide +kernel
theorem dT_decide_18 : decode prog_6_method_4_code 18 = .ok (.invokestatic 46, 3) := by decide +kernel
theorem dT_decide_21 : decode prog_6_method_4_code 21 = .ok (.ior, 1) := by decide +kernel
theorem dT_decide_22 : decode prog_6_method_4_code 22 = .ok (.putfield 62, 3) := by decide +kernel
theorem dT_decide_25 : decode prog_6_method_4_code 25 = .ok (.iload_n 2, 1) := by decide +kernel
theorem dT_decide_26 : decode prog_6_method_4_code 26 = .ok (.ifCond .eq 16, 3) := by decide +kernel
theorem dT_decide_29 : decode prog_6_method_4_code 29 = .ok (.aload_n 0, 1) := by decide +kernel
theorem dT_decide_30 : decode prog_6_method_4_code 30 = .ok (.dup, 1) := by decide +kernel
theorem dT_decide_31 : decode prog_6_method_4_code 31 = .ok (.getfield 69, 3) := by decide +kernel
theorem dT_decide_34 : decode prog_6_method_4_code 34 = .ok (.iload_n 1, 1) := by decide +kernel
theorem dT_decide_35 : decode prog_6_method_4_code 35 = .ok (.invokestatic 46, 3) := by decide +kernel
theorem dT_decide_38 : decode prog_6_method_4_code 38 = .ok (.ior, 1) := by decide +kernel
theorem dT_decide_39 : decode prog_6_method_4_code 39 = .ok (.putfield 69, 3) := by decide +kernel
theorem dT_decide_42 : decode prog_6_method_4_code 42 = .ok (.return_, 1) := by decide +kernel
theorem dN_fetch_0 : decode prog_3_method_2_code 0 = .ok (.aload_n 0, 1) := by decide +kernel
theorem dN_fetch_1 : decode prog_3_method_2_code 1 = .ok (.dup, 1) := by decide +kernel
theorem dN_fetch_2 : decode prog_3_method_2_code 2 = .ok (.getfield 19, 3) := by decide +kernel
theorem dN_fetch_5 : decode prog_3_method_2_code 5 = .ok (.iload_n 1, 1) := by decide +kernel
theorem dN_fetch_6 : decode prog_3_method_2_code 6 = .ok (.aload_n 0, 1) := by decide +kernel
theorem dN_fetch_7 : decode prog_3_method_2_code 7 = .ok (.getfield 22, 3) := by decide +kernel
theorem dN_fetch_10 : decode prog_3_method_2_code 10 = .ok (.iconst (-1), 1) := by decide +kernel
theorem dN_fetch_11 : decode prog_3_method_2_code 11 = .ok (.ixor, 1) := by decide +kernel
theorem dN_fetch_12 : decode prog_3_method_2_code 12 = .ok (.iand, 1) := by decide +kernel
theorem dN_fetch_13 : decode prog_3_method_2_code 13 = .ok (.invokestatic 25, 3) := by decide +kernel
theorem dN_fetch_16 : decode prog_3_method_2_code 16 = .ok (.iadd, 1) := by decide +kernel
theorem dN_fetch_17 : decode prog_3_method_2_code 17 = .ok (.putfield 19, 3) := by decide +kernel
theorem dN_fetch_20 : decode prog_3_method_2_code 20 = .ok (.aload_n 0, 1) := by decide +kernel
theorem dN_fetch_21 : decode prog_3_method_2_code 21 = .ok (.dup, 1) := by decide +kernel
theorem dN_fetch_22 : decode prog_3_method_2_code 22 = .ok (.getfield 22, 3) := by decide +kernel
theorem dN_fetch_25 : decode prog_3_method_2_code 25 = .ok (.iload_n 1, 1) := by decide +kernel
theorem dN_fetch_26 : decode prog_3_method_2_code 26 = .ok (.ior, 1) := by decide +kernel
theorem dN_fetch_27 : decode prog_3_method_2_code 27 = .ok (.putfield 22, 3) := by decide +kernel
theorem dN_fetch_30 : decode prog_3_method_2_code 30 = .ok (.return_, 1) := by decide +kernel
theorem dB_senderOf_0 : decode prog_2_method_4_code 0 = .ok (.iload_n 0, 1) := by decide +kernel
theorem dB_senderOf_1 : decode prog_2_method_4_code 1 = .ok (.iconst 3, 1) := by decide +kernel
theorem dB_senderOf_2 : decode prog_2_method_4_code 2 = .ok (.ishr, 1) := by decide +kernel
theorem dB_senderOf_3 : decode prog_2_method_4_code 3 = .ok (.bipush 7, 2) := by decide +kernel
theorem dB_senderOf_5 : decode prog_2_method_4_code 5 = .ok (.iand, 1) := by decide +kernel
theorem dB_senderOf_6 : decode prog_2_method_4_code 6 = .ok (.ireturn, 1) := by decide +kernel
theorem dH_receiveReply_0 : decode prog_1_method_24_code 0 = .ok (.aload_n 1, 1) := by decide +kernel
theorem dH_receiveReply_1 : decode prog_1_method_24_code 1 = .ok (.getfield 68, 3) := by decide +kernel
theorem dH_receiveReply_4 : decode prog_1_method_24_code 4 = .ok (.iconst 1, 1) := by decide +kernel
theorem dH_receiveReply_5 : decode prog_1_method_24_code 5 = .ok (.if_icmp .ne 14, 3) := by decide +kernel
theorem dH_receiveReply_8 : decode prog_1_method_24_code 8 = .ok (.aload_n 1, 1) := by decide +kernel
theorem dH_receiveReply_9 : decode prog_1_method_24_code 9 = .ok (.getfield 193, 3) := by decide +kernel
theorem dH_receiveReply_12 : decode prog_1_method_24_code 12 = .ok (.iload_n 2, 1) := by decide +kernel
theorem dH_receiveReply_13 : decode prog_1_method_24_code 13 = .ok (.invokestatic 77, 3) := by decide +kernel
theorem dH_receiveReply_16 : decode prog_1_method_24_code 16 = .ok (.ifCond .eq 5, 3) := by decide +kernel
theorem dH_receiveReply_19 : decode prog_1_method_24_code 19 = .ok (.iconst 1, 1) := by decide +kernel
theorem dH_receiveReply_20 : decode prog_1_method_24_code 20 = .ok (.ireturn, 1) := by decide +kernel
theorem dH_receiveReply_21 : decode prog_1_method_24_code 21 = .ok (.iload_n 3, 1) := by decide +kernel
theorem dH_receiveReply_22 : decode prog_1_method_24_code 22 = .ok (.ifCond .ne 15, 3) := by decide +kernel
theorem dH_receiveReply_25 : decode prog_1_method_24_code 25 = .ok (.iload 4, 2) := by decide +kernel
theorem dH_receiveReply_27 : decode prog_1_method_24_code 27 = .ok (.ifCond .ne 8, 3) := by decide +kernel
theorem dH_receiveReply_30 : decode prog_1_method_24_code 30 = .ok (.aload_n 1, 1) := by decide +kernel
theorem dH_receiveReply_31 : decode prog_1_method_24_code 31 = .ok (.iconst 4, 1) := by decide +kernel
theorem dH_receiveReply_32 : decode prog_1_method_24_code 32 = .ok (.putfield 68, 3) := by decide +kernel
theorem dH_receiveReply_35 : decode prog_1_method_24_code 35 = .ok (.iconst 2, 1) := by decide +kernel
theorem dH_receiveReply_36 : decode prog_1_method_24_code 36 = .ok (.ireturn, 1) := by decide +kernel
theorem dH_receiveReply_37 : decode prog_1_method_24_code 37 = .ok (.aload_n 1, 1) := by decide +kernel
theorem dH_receiveReply_38 : decode prog_1_method_24_code 38 = .ok (.getfield 193, 3) := by decide +kernel
theorem dH_receiveReply_41 : decode prog_1_method_24_code 41 = .ok (.iload_n 2, 1) := by decide +kernel
theorem dH_receiveReply_42 : decode prog_1_method_24_code 42 = .ok (.invokestatic 186, 3) := by decide +kernel
theorem dH_receiveReply_45 : decode prog_1_method_24_code 45 = .ok (.ior, 1) := by decide +kernel
theorem dH_receiveReply_46 : decode prog_1_method_24_code 46 = .ok (.istore 5, 2) := by decide +kernel
theorem dH_receiveReply_48 : decode prog_1_method_24_code 48 = .ok (.aload_n 1, 1) := by decide +kernel
theorem dH_receiveReply_49 : decode prog_1_method_24_code 49 = .ok (.getfield 156, 3) := by decide +kernel
theorem dH_receiveReply_52 : decode prog_1_method_24_code 52 = .ok (.iload 5, 2) := by decide +kernel
theorem dH_receiveReply_54 : decode prog_1_method_24_code 54 = .ok (.iconst (-1), 1) := by decide +kernel
theorem dH_receiveReply_55 : decode prog_1_method_24_code 55 = .ok (.ixor, 1) := by decide +kernel
theorem dH_receiveReply_56 : decode prog_1_method_24_code 56 = .ok (.iand, 1) := by decide +kernel
theorem dH_receiveReply_57 : decode prog_1_method_24_code 57 = .ok (.ifCond .ne 7, 3) := by decide +kernel
theorem dH_receiveReply_60 : decode prog_1_method_24_code 60 = .ok (.iconst 1, 1) := by decide +kernel
theorem dH_receiveReply_61 : decode prog_1_method_24_code 61 = .ok (.goto 4, 3) := by decide +kernel
theorem dH_receiveReply_64 : decode prog_1_method_24_code 64 = .ok (.iconst 0, 1) := by decide +kernel
theorem dH_receiveReply_65 : decode prog_1_method_24_code 65 = .ok (.istore 6, 2) := by decide +kernel
theorem dH_receiveReply_67 : decode prog_1_method_24_code 67 = .ok (.iload 6, 2) := by decide +kernel
theorem dH_receiveReply_69 : decode prog_1_method_24_code 69 = .ok (.ifCond .eq 9, 3) := by decide +kernel
theorem dH_receiveReply_72 : decode prog_1_method_24_code 72 = .ok (.aload_n 0, 1) := by decide +kernel
theorem dH_receiveReply_73 : decode prog_1_method_24_code 73 = .ok (.aload_n 1, 1) := by decide +kernel
theorem dH_receiveReply_74 : decode prog_1_method_24_code 74 = .ok (.invokevirtual 152, 3) := by decide +kernel
theorem dH_receiveReply_77 : decode prog_1_method_24_code 77 = .ok (.pop, 1) := by decide +kernel
theorem dH_receiveReply_78 : decode prog_1_method_24_code 78 = .ok (.iload 4, 2) := by decide +kernel
theorem dH_receiveReply_80 : decode prog_1_method_24_code 80 = .ok (.ifCond .ne 23, 3) := by decide +kernel
theorem dH_receiveReply_83 : decode prog_1_method_24_code 83 = .ok (.aload_n 1, 1) := by decide +kernel
theorem dH_receiveReply_84 : decode prog_1_method_24_code 84 = .ok (.iload 5, 2) := by decide +kernel
theorem dH_receiveReply_86 : decode prog_1_method_24_code 86 = .ok (.putfield 193, 3) := by decide +kernel
theorem dH_receiveReply_89 : decode prog_1_method_24_code 89 = .ok (.aload_n 1, 1) := by decide +kernel
theorem dH_receiveReply_90 : decode prog_1_method_24_code 90 = .ok (.iload 6, 2) := by decide +kernel
theorem dH_receiveReply_92 : decode prog_1_method_24_code 92 = .ok (.ifCond .eq 7, 3) := by decide +kernel
theorem dH_receiveReply_95 : decode prog_1_method_24_code 95 = .ok (.iconst 2, 1) := by decide +kernel
theorem dH_receiveReply_96 : decode prog_1_method_24_code 96 = .ok (.goto 4, 3) := by decide +kernel
theorem dH_receiveReply_99 : decode prog_1_method_24_code 99 = .ok (.iconst 1, 1) := by decide +kernel
theorem dH_receiveReply_100 : decode prog_1_method_24_code 100 = .ok (.putfield 68, 3) := by decide +kernel
theorem dH_receiveReply_103 : decode prog_1_method_24_code 103 = .ok (.iconst 2, 1) := by decide +kernel
theorem dH_receiveReply_104 : decode prog_1_method_24_code 104 = .ok (.ireturn, 1) := by decide +kernel
theorem dH_receiveNotarise_0 : decode prog_1_method_25_code 0 = .ok (.aload_n 1, 1) := by decide +kernel
theorem dH_receiveNotarise_1 : decode prog_1_method_25_code 1 = .ok (.getfield 196, 3) := by decide +kernel
theorem dH_receiveNotarise_4 : decode prog_1_method_25_code 4 = .ok (.ifCond .ne 25, 3) := by decide +kernel
theorem dH_receiveNotarise_7 : decode prog_1_method_25_code 7 = .ok (.aload_n 1, 1) := by decide +kernel
theorem dH_receiveNotarise_8 : decode prog_1_method_25_code 8 = .ok (.aload_n 0, 1) := by decide +kernel
theorem dH_receiveNotarise_9 : decode prog_1_method_25_code 9 = .ok (.aload_n 1, 1) := by decide +kernel
theorem dH_receiveNotarise_10 : decode prog_1_method_25_code 10 = .ok (.invokevirtual 268, 3) := by decide +kernel
theorem dH_receiveNotarise_13 : decode prog_1_method_25_code 13 = .ok (.putfield 196, 3) := by decide +kernel
theorem dH_receiveNotarise_16 : decode prog_1_method_25_code 16 = .ok (.aload_n 1, 1) := by decide +kernel
theorem dH_receiveNotarise_17 : decode prog_1_method_25_code 17 = .ok (.getfield 196, 3) := by decide +kernel
theorem dH_receiveNotarise_20 : decode prog_1_method_25_code 20 = .ok (.iconst 1, 1) := by decide +kernel
theorem dH_receiveNotarise_21 : decode prog_1_method_25_code 21 = .ok (.if_icmp .ne 8, 3) := by decide +kernel
theorem dH_receiveNotarise_24 : decode prog_1_method_25_code 24 = .ok (.aload_n 0, 1) := by decide +kernel
theorem dH_receiveNotarise_25 : decode prog_1_method_25_code 25 = .ok (.aload_n 1, 1) := by decide +kernel
theorem dH_receiveNotarise_26 : decode prog_1_method_25_code 26 = .ok (.invokevirtual 271, 3) := by decide +kernel
theorem dH_receiveNotarise_29 : decode prog_1_method_25_code 29 = .ok (.aload_n 0, 1) := by decide +kernel
theorem dH_receiveNotarise_30 : decode prog_1_method_25_code 30 = .ok (.iconst 3, 1) := by decide +kernel
theorem dH_receiveNotarise_31 : decode prog_1_method_25_code 31 = .ok (.aload_n 1, 1) := by decide +kernel
theorem dH_receiveNotarise_32 : decode prog_1_method_25_code 32 = .ok (.aload_n 1, 1) := by decide +kernel
theorem dH_receiveNotarise_33 : decode prog_1_method_25_code 33 = .ok (.getfield 81, 3) := by decide +kernel
theorem dH_receiveNotarise_36 : decode prog_1_method_25_code 36 = .ok (.aload_n 1, 1) := by decide +kernel
theorem dH_receiveNotarise_37 : decode prog_1_method_25_code 37 = .ok (.getfield 71, 3) := by decide +kernel
theorem dH_receiveNotarise_40 : decode prog_1_method_25_code 40 = .ok (.aload_n 1, 1) := by decide +kernel
theorem dH_receiveNotarise_41 : decode prog_1_method_25_code 41 = .ok (.getfield 196, 3) := by decide +kernel
theorem dH_receiveNotarise_44 : decode prog_1_method_25_code 44 = .ok (.invokevirtual 264, 3) := by decide +kernel
theorem dH_receiveNotarise_47 : decode prog_1_method_25_code 47 = .ok (.pop, 1) := by decide +kernel
theorem dH_receiveNotarise_48 : decode prog_1_method_25_code 48 = .ok (.iconst 2, 1) := by decide +kernel
theorem dH_receiveNotarise_49 : decode prog_1_method_25_code 49 = .ok (.ireturn, 1) := by decide +kernel
theorem dH_judge_0 : decode prog_1_method_28_code 0 = .ok (.aload_n 0, 1) := by decide +kernel
theorem dH_judge_1 : decode prog_1_method_28_code 1 = .ok (.getfield 180, 3) := by decide +kernel
theorem dH_judge_4 : decode prog_1_method_28_code 4 = .ok (.aload_n 1, 1) := by decide +kernel
theorem dH_judge_5 : decode prog_1_method_28_code 5 = .ok (.getfield 289, 3) := by decide +kernel
theorem dH_judge_8 : decode prog_1_method_28_code 8 = .ok (.if_icmp .lt 14, 3) := by decide +kernel
theorem dH_judge_11 : decode prog_1_method_28_code 11 = .ok (.aload_n 0, 1) := by decide +kernel
theorem dH_judge_12 : decode prog_1_method_28_code 12 = .ok (.getfield 180, 3) := by decide +kernel
theorem dH_judge_15 : decode prog_1_method_28_code 15 = .ok (.aload_n 1, 1) := by decide +kernel
theorem dH_judge_16 : decode prog_1_method_28_code 16 = .ok (.getfield 292, 3) := by decide +kernel
theorem dH_judge_19 : decode prog_1_method_28_code 19 = .ok (.if_icmp .lt 5, 3) := by decide +kernel
theorem dH_judge_22 : decode prog_1_method_28_code 22 = .ok (.iconst 2, 1) := by decide +kernel
theorem dH_judge_23 : decode prog_1_method_28_code 23 = .ok (.ireturn, 1) := by decide +kernel
theorem dH_judge_24 : decode prog_1_method_28_code 24 = .ok (.aload_n 1, 1) := by decide +kernel
theorem dH_judge_25 : decode prog_1_method_28_code 25 = .ok (.getfield 81, 3) := by decide +kernel
theorem dH_judge_28 : decode prog_1_method_28_code 28 = .ok (.iconst 4, 1) := by decide +kernel
theorem dH_judge_29 : decode prog_1_method_28_code 29 = .ok (.if_icmp .ne 12, 3) := by decide +kernel
theorem dH_judge_32 : decode prog_1_method_28_code 32 = .ok (.aload_n 1, 1) := by decide +kernel
theorem dH_judge_33 : decode prog_1_method_28_code 33 = .ok (.getfield 282, 3) := by decide +kernel
theorem dH_judge_36 : decode prog_1_method_28_code 36 = .ok (.ifCond .ne 5, 3) := by decide +kernel
theorem dH_judge_39 : decode prog_1_method_28_code 39 = .ok (.iconst 3, 1) := by decide +kernel
theorem dH_judge_40 : decode prog_1_method_28_code 40 = .ok (.ireturn, 1) := by decide +kernel
theorem dH_judge_41 : decode prog_1_method_28_code 41 = .ok (.aload_n 0, 1) := by decide +kernel
theorem dH_judge_42 : decode prog_1_method_28_code 42 = .ok (.aload_n 1, 1) := by decide +kernel
theorem dH_judge_43 : decode prog_1_method_28_code 43 = .ok (.invokevirtual 295, 3) := by decide +kernel
theorem dH_judge_46 : decode prog_1_method_28_code 46 = .ok (.ifCond .eq 7, 3) := by decide +kernel
theorem dH_judge_49 : decode prog_1_method_28_code 49 = .ok (.iconst 4, 1) := by decide +kernel
theorem dH_judge_50 : decode prog_1_method_28_code 50 = .ok (.goto 4, 3) := by decide +kernel
theorem dH_judge_53 : decode prog_1_method_28_code 53 = .ok (.iconst 1, 1) := by decide +kernel
theorem dH_judge_54 : decode prog_1_method_28_code 54 = .ok (.ireturn, 1) := by decide +kernel
theorem dH_isAnyInputUsedUp_0 : decode prog_1_method_29_code 0 = .ok (.aload_n 1, 1) := by decide +kernel
theorem dH_isAnyInputUsedUp_1 : decode prog_1_method_29_code 1 = .ok (.getfield 84, 3) := by decide +kernel
theorem dH_isAnyInputUsedUp_4 : decode prog_1_method_29_code 4 = .ok (.astore_n 2, 1) := by decide +kernel
theorem dH_isAnyInputUsedUp_5 : decode prog_1_method_29_code 5 = .ok (.iconst 0, 1) := by decide +kernel
theorem dH_isAnyInputUsedUp_6 : decode prog_1_method_29_code 6 = .ok (.istore_n 3, 1) := by decide +kernel
theorem dH_isAnyInputUsedUp_7 : decode prog_1_method_29_code 7 = .ok (.iload_n 3, 1) := by decide +kernel
theorem dH_isAnyInputUsedUp_8 : decode prog_1_method_29_code 8 = .ok (.aload_n 2, 1) := by decide +kernel
theorem dH_isAnyInputUsedUp_9 : decode prog_1_method_29_code 9 = .ok (.getfield 299, 3) := by decide +kernel
theorem dH_isAnyInputUsedUp_12 : decode prog_1_method_29_code 12 = .ok (.if_icmp .ge 29, 3) := by decide +kernel
theorem dH_isAnyInputUsedUp_15 : decode prog_1_method_29_code 15 = .ok (.aload_n 0, 1) := by decide +kernel
theorem dH_isAnyInputUsedUp_16 : decode prog_1_method_29_code 16 = .ok (.getfield 29, 3) := by decide +kernel
theorem dH_isAnyInputUsedUp_19 : decode prog_1_method_29_code 19 = .ok (.aload_n 2, 1) := by decide +kernel
theorem dH_isAnyInputUsedUp_20 : decode prog_1_method_29_code 20 = .ok (.getfield 300, 3) := by decide +kernel
theorem dH_isAnyInputUsedUp_23 : decode prog_1_method_29_code 23 = .ok (.iload_n 3, 1) := by decide +kernel
theorem dH_isAnyInputUsedUp_24 : decode prog_1_method_29_code 24 = .ok (.aaload, 1) := by decide +kernel
theorem dH_isAnyInputUsedUp_25 : decode prog_1_method_29_code 25 = .ok (.getfield 88, 3) := by decide +kernel
theorem dH_isAnyInputUsedUp_28 : decode prog_1_method_29_code 28 = .ok (.iaload, 1) := by decide +kernel
theorem dH_isAnyInputUsedUp_29 : decode prog_1_method_29_code 29 = .ok (.iconst (-1), 1) := by decide +kernel
theorem dH_isAnyInputUsedUp_30 : decode prog_1_method_29_code 30 = .ok (.if_icmp .eq 5, 3) := by decide +kernel
theorem dH_isAnyInputUsedUp_33 : decode prog_1_method_29_code 33 = .ok (.iconst 1, 1) := by decide +kernel
theorem dH_isAnyInputUsedUp_34 : decode prog_1_method_29_code 34 = .ok (.ireturn, 1) := by decide +kernel
theorem dH_isAnyInputUsedUp_35 : decode prog_1_method_29_code 35 = .ok (.iinc 3 1, 3) := by decide +kernel
theorem dH_isAnyInputUsedUp_38 : decode prog_1_method_29_code 38 = .ok (.goto (-31), 3) := by decide +kernel
theorem dH_isAnyInputUsedUp_41 : decode prog_1_method_29_code 41 = .ok (.iconst 0, 1) := by decide +kernel
theorem dH_isAnyInputUsedUp_42 : decode prog_1_method_29_code 42 = .ok (.ireturn, 1) := by decide +kernel
theorem dH_useUpInputs_0 : decode prog_1_method_30_code 0 = .ok (.aload_n 1, 1) := by decide +kernel
theorem dH_useUpInputs_1 : decode prog_1_method_30_code 1 = .ok (.getfield 84, 3) := by decide +kernel
theorem dH_useUpInputs_4 : decode prog_1_method_30_code 4 = .ok (.astore_n 2, 1) := by decide +kernel
theorem dH_useUpInputs_5 : decode prog_1_method_30_code 5 = .ok (.iconst 0, 1) := by decide +kernel
theorem dH_useUpInputs_6 : decode prog_1_method_30_code 6 = .ok (.istore_n 3, 1) := by decide +kernel
theorem dH_useUpInputs_7 : decode prog_1_method_30_code 7 = .ok (.iload_n 3, 1) := by decide +kernel
theorem dH_useUpInputs_8 : decode prog_1_method_30_code 8 = .ok (.aload_n 2, 1) := by decide +kernel
theorem dH_useUpInputs_9 : decode prog_1_method_30_code 9 = .ok (.getfield 299, 3) := by decide +kernel
theorem dH_useUpInputs_12 : decode prog_1_method_30_code 12 = .ok (.if_icmp .ge 27, 3) := by decide +kernel
theorem dH_useUpInputs_15 : decode prog_1_method_30_code 15 = .ok (.aload_n 0, 1) := by decide +kernel
theorem dH_useUpInputs_16 : decode prog_1_method_30_code 16 = .ok (.getfield 29, 3) := by decide +kernel
theorem dH_useUpInputs_19 : decode prog_1_method_30_code 19 = .ok (.aload_n 2, 1) := by decide +kernel
theorem dH_useUpInputs_20 : decode prog_1_method_30_code 20 = .ok (.getfield 300, 3) := by decide +kernel
theorem dH_useUpInputs_23 : decode prog_1_method_30_code 23 = .ok (.iload_n 3, 1) := by decide +kernel
theorem dH_useUpInputs_24 : decode prog_1_method_30_code 24 = .ok (.aaload, 1) := by decide +kernel
theorem dH_useUpInputs_25 : decode prog_1_method_30_code 25 = .ok (.getfield 88, 3) := by decide +kernel
theorem dH_useUpInputs_28 : decode prog_1_method_30_code 28 = .ok (.aload_n 1, 1) := by decide +kernel
theorem dH_useUpInputs_29 : decode prog_1_method_30_code 29 = .ok (.getfield 281, 3) := by decide +kernel
theorem dH_useUpInputs_32 : decode prog_1_method_30_code 32 = .ok (.iastore, 1) := by decide +kernel
theorem dH_useUpInputs_33 : decode prog_1_method_30_code 33 = .ok (.iinc 3 1, 3) := by decide +kernel
theorem dH_useUpInputs_36 : decode prog_1_method_30_code 36 = .ok (.goto (-29), 3) := by decide +kernel
theorem dH_useUpInputs_39 : decode prog_1_method_30_code 39 = .ok (.return_, 1) := by decide +kernel
theorem dH_receiveVerdict_0 : decode prog_1_method_26_code 0 = .ok (.aload_n 1, 1) := by decide +kernel
theorem dH_receiveVerdict_1 : decode prog_1_method_26_code 1 = .ok (.getfield 68, 3) := by decide +kernel
theorem dH_receiveVerdict_4 : decode prog_1_method_26_code 4 = .ok (.iconst 1, 1) := by decide +kernel
theorem dH_receiveVerdict_5 : decode prog_1_method_26_code 5 = .ok (.if_icmp .ne 5, 3) := by decide +kernel
theorem dH_receiveVerdict_8 : decode prog_1_method_26_code 8 = .ok (.iconst 0, 1) := by decide +kernel
theorem dH_receiveVerdict_9 : decode prog_1_method_26_code 9 = .ok (.ireturn, 1) := by decide +kernel
theorem dH_receiveVerdict_10 : decode prog_1_method_26_code 10 = .ok (.aload_n 1, 1) := by decide +kernel
theorem dH_receiveVerdict_11 : decode prog_1_method_26_code 11 = .ok (.getfield 68, 3) := by decide +kernel
theorem dH_receiveVerdict_14 : decode prog_1_method_26_code 14 = .ok (.iconst 2, 1) := by decide +kernel
theorem dH_receiveVerdict_15 : decode prog_1_method_26_code 15 = .ok (.if_icmp .eq 5, 3) := by decide +kernel
theorem dH_receiveVerdict_18 : decode prog_1_method_26_code 18 = .ok (.iconst 1, 1) := by decide +kernel
theorem dH_receiveVerdict_19 : decode prog_1_method_26_code 19 = .ok (.ireturn, 1) := by decide +kernel
theorem dH_receiveVerdict_20 : decode prog_1_method_26_code 20 = .ok (.iload_n 2, 1) := by decide +kernel
theorem dH_receiveVerdict_21 : decode prog_1_method_26_code 21 = .ok (.iconst 1, 1) := by decide +kernel
theorem dH_receiveVerdict_22 : decode prog_1_method_26_code 22 = .ok (.if_icmp .ne 19, 3) := by decide +kernel
theorem dH_receiveVerdict_25 : decode prog_1_method_26_code 25 = .ok (.aload_n 0, 1) := by decide +kernel
theorem dH_receiveVerdict_26 : decode prog_1_method_26_code 26 = .ok (.iconst 4, 1) := by decide +kernel
theorem dH_receiveVerdict_27 : decode prog_1_method_26_code 27 = .ok (.aload_n 1, 1) := by decide +kernel
theorem dH_receiveVerdict_28 : decode prog_1_method_26_code 28 = .ok (.aload_n 1, 1) := by decide +kernel
theorem dH_receiveVerdict_29 : decode prog_1_method_26_code 29 = .ok (.getfield 156, 3) := by decide +kernel
theorem dH_receiveVerdict_32 : decode prog_1_method_26_code 32 = .ok (.aload_n 1, 1) := by decide +kernel
theorem dH_receiveVerdict_33 : decode prog_1_method_26_code 33 = .ok (.invokevirtual 275, 3) := by decide +kernel
theorem dH_receiveVerdict_36 : decode prog_1_method_26_code 36 = .ok (.ior, 1) := by decide +kernel
theorem dH_receiveVerdict_37 : decode prog_1_method_26_code 37 = .ok (.invokevirtual 159, 3) := by decide +kernel
theorem dH_receiveVerdict_40 : decode prog_1_method_26_code 40 = .ok (.pop, 1) := by decide +kernel
theorem dH_receiveVerdict_41 : decode prog_1_method_26_code 41 = .ok (.iload_n 3, 1) := by decide +kernel
theorem dH_receiveVerdict_42 : decode prog_1_method_26_code 42 = .ok (.ifCond .ne 9, 3) := by decide +kernel
theorem dH_receiveVerdict_45 : decode prog_1_method_26_code 45 = .ok (.aload_n 0, 1) := by decide +kernel
theorem dH_receiveVerdict_46 : decode prog_1_method_26_code 46 = .ok (.aload_n 1, 1) := by decide +kernel
theorem dH_receiveVerdict_47 : decode prog_1_method_26_code 47 = .ok (.iload_n 2, 1) := by decide +kernel
theorem dH_receiveVerdict_48 : decode prog_1_method_26_code 48 = .ok (.invokevirtual 278, 3) := by decide +kernel
theorem dH_receiveVerdict_51 : decode prog_1_method_26_code 51 = .ok (.iconst 2, 1) := by decide +kernel
theorem dH_receiveVerdict_52 : decode prog_1_method_26_code 52 = .ok (.ireturn, 1) := by decide +kernel
theorem dT_concerned_0 : decode prog_6_method_14_code 0 = .ok (.iconst 0, 1) := by decide +kernel
theorem dT_concerned_1 : decode prog_6_method_14_code 1 = .ok (.istore_n 1, 1) := by decide +kernel
theorem dT_concerned_2 : decode prog_6_method_14_code 2 = .ok (.iconst 0, 1) := by decide +kernel
theorem dT_concerned_3 : decode prog_6_method_14_code 3 = .ok (.istore_n 2, 1) := by decide +kernel
theorem dT_concerned_4 : decode prog_6_method_14_code 4 = .ok (.iload_n 2, 1) := by decide +kernel
theorem dT_concerned_5 : decode prog_6_method_14_code 5 = .ok (.iconst 4, 1) := by decide +kernel
theorem dT_concerned_6 : decode prog_6_method_14_code 6 = .ok (.if_icmp .ge 51, 3) := by decide +kernel
theorem dT_concerned_9 : decode prog_6_method_14_code 9 = .ok (.iconst 0, 1) := by decide +kernel
theorem dT_concerned_10 : decode prog_6_method_14_code 10 = .ok (.istore_n 3, 1) := by decide +kernel
theorem dT_concerned_11 : decode prog_6_method_14_code 11 = .ok (.iload_n 3, 1) := by decide +kernel
theorem dT_concerned_12 : decode prog_6_method_14_code 12 = .ok (.aload_n 0, 1) := by decide +kernel
theorem dT_concerned_13 : decode prog_6_method_14_code 13 = .ok (.getfield 34, 3) := by decide +kernel
theorem dT_concerned_16 : decode prog_6_method_14_code 16 = .ok (.getfield 56, 3) := by decide +kernel
theorem dT_concerned_19 : decode prog_6_method_14_code 19 = .ok (.if_icmp .ge 32, 3) := by decide +kernel
theorem dT_concerned_22 : decode prog_6_method_14_code 22 = .ok (.aload_n 0, 1) := by decide +kernel
theorem dT_concerned_23 : decode prog_6_method_14_code 23 = .ok (.getfield 34, 3) := by decide +kernel
theorem dT_concerned_26 : decode prog_6_method_14_code 26 = .ok (.getfield 93, 3) := by decide +kernel
theorem dT_concerned_29 : decode prog_6_method_14_code 29 = .ok (.iload_n 3, 1) := by decide +kernel
theorem dT_concerned_30 : decode prog_6_method_14_code 30 = .ok (.aaload, 1) := by decide +kernel
theorem dT_concerned_31 : decode prog_6_method_14_code 31 = .ok (.iload_n 2, 1) := by decide +kernel
theorem dT_concerned_32 : decode prog_6_method_14_code 32 = .ok (.invokevirtual 144, 3) := by decide +kernel
theorem dT_concerned_35 : decode prog_6_method_14_code 35 = .ok (.ifCond .eq 10, 3) := by decide +kernel
theorem dT_concerned_38 : decode prog_6_method_14_code 38 = .ok (.iload_n 1, 1) := by decide +kernel
theorem dT_concerned_39 : decode prog_6_method_14_code 39 = .ok (.iload_n 2, 1) := by decide +kernel
theorem dT_concerned_40 : decode prog_6_method_14_code 40 = .ok (.invokestatic 46, 3) := by decide +kernel
theorem dT_concerned_43 : decode prog_6_method_14_code 43 = .ok (.ior, 1) := by decide +kernel
theorem dT_concerned_44 : decode prog_6_method_14_code 44 = .ok (.istore_n 1, 1) := by decide +kernel
theorem dT_concerned_45 : decode prog_6_method_14_code 45 = .ok (.iinc 3 1, 3) := by decide +kernel
theorem dT_concerned_48 : decode prog_6_method_14_code 48 = .ok (.goto (-37), 3) := by decide +kernel
theorem dT_concerned_51 : decode prog_6_method_14_code 51 = .ok (.iinc 2 1, 3) := by decide +kernel
theorem dT_concerned_54 : decode prog_6_method_14_code 54 = .ok (.goto (-50), 3) := by decide +kernel
theorem dT_concerned_57 : decode prog_6_method_14_code 57 = .ok (.iload_n 1, 1) := by decide +kernel
theorem dT_concerned_58 : decode prog_6_method_14_code 58 = .ok (.ireturn, 1) := by decide +kernel
theorem dH_settle_0 : decode prog_1_method_31_code 0 = .ok (.iload_n 2, 1) := by decide +kernel
theorem dH_settle_1 : decode prog_1_method_31_code 1 = .ok (.tableswitch 84 1 3 #[27, 67, 75], 27) := by decide +kernel
theorem dH_settle_28 : decode prog_1_method_31_code 28 = .ok (.aload_n 1, 1) := by decide +kernel
theorem dH_settle_29 : decode prog_1_method_31_code 29 = .ok (.getfield 282, 3) := by decide +kernel
theorem dH_settle_32 : decode prog_1_method_31_code 32 = .ok (.ifCond .eq 27, 3) := by decide +kernel
theorem dH_settle_35 : decode prog_1_method_31_code 35 = .ok (.aload_n 1, 1) := by decide +kernel
theorem dH_settle_36 : decode prog_1_method_31_code 36 = .ok (.iconst 3, 1) := by decide +kernel
theorem dH_settle_37 : decode prog_1_method_31_code 37 = .ok (.putfield 68, 3) := by decide +kernel
theorem dH_settle_40 : decode prog_1_method_31_code 40 = .ok (.aload_n 0, 1) := by decide +kernel
theorem dH_settle_41 : decode prog_1_method_31_code 41 = .ok (.getfield 17, 3) := by decide +kernel
theorem dH_settle_44 : decode prog_1_method_31_code 44 = .ok (.aload_n 1, 1) := by decide +kernel
theorem dH_settle_45 : decode prog_1_method_31_code 45 = .ok (.getfield 71, 3) := by decide +kernel
theorem dH_settle_48 : decode prog_1_method_31_code 48 = .ok (.aaload, 1) := by decide +kernel
theorem dH_settle_49 : decode prog_1_method_31_code 49 = .ok (.aload_n 1, 1) := by decide +kernel
theorem dH_settle_50 : decode prog_1_method_31_code 50 = .ok (.getfield 281, 3) := by decide +kernel
theorem dH_settle_53 : decode prog_1_method_31_code 53 = .ok (.invokevirtual 286, 3) := by decide +kernel
theorem dH_settle_56 : decode prog_1_method_31_code 56 = .ok (.goto 35, 3) := by decide +kernel
theorem dH_settle_59 : decode prog_1_method_31_code 59 = .ok (.aload_n 1, 1) := by decide +kernel
theorem dH_settle_60 : decode prog_1_method_31_code 60 = .ok (.bipush 8, 2) := by decide +kernel
theorem dH_settle_62 : decode prog_1_method_31_code 62 = .ok (.putfield 68, 3) := by decide +kernel
theorem dH_settle_65 : decode prog_1_method_31_code 65 = .ok (.goto 26, 3) := by decide +kernel
theorem dH_settle_68 : decode prog_1_method_31_code 68 = .ok (.aload_n 1, 1) := by decide +kernel
theorem dH_settle_69 : decode prog_1_method_31_code 69 = .ok (.iconst 5, 1) := by decide +kernel
theorem dH_settle_70 : decode prog_1_method_31_code 70 = .ok (.putfield 68, 3) := by decide +kernel
theorem dH_settle_73 : decode prog_1_method_31_code 73 = .ok (.goto 18, 3) := by decide +kernel
theorem dH_settle_76 : decode prog_1_method_31_code 76 = .ok (.aload_n 1, 1) := by decide +kernel
theorem dH_settle_77 : decode prog_1_method_31_code 77 = .ok (.bipush 6, 2) := by decide +kernel
theorem dH_settle_79 : decode prog_1_method_31_code 79 = .ok (.putfield 68, 3) := by decide +kernel
theorem dH_settle_82 : decode prog_1_method_31_code 82 = .ok (.goto 9, 3) := by decide +kernel
theorem dH_settle_85 : decode prog_1_method_31_code 85 = .ok (.aload_n 1, 1) := by decide +kernel
theorem dH_settle_86 : decode prog_1_method_31_code 86 = .ok (.bipush 7, 2) := by decide +kernel
theorem dH_settle_88 : decode prog_1_method_31_code 88 = .ok (.putfield 68, 3) := by decide +kernel
theorem dH_settle_91 : decode prog_1_method_31_code 91 = .ok (.return_, 1) := by decide +kernel
theorem dN_enter_0 : decode prog_3_method_3_code 0 = .ok (.aload_n 0, 1) := by decide +kernel
theorem dN_enter_1 : decode prog_3_method_3_code 1 = .ok (.dup, 1) := by decide +kernel
theorem dN_enter_2 : decode prog_3_method_3_code 2 = .ok (.getfield 22, 3) := by decide +kernel
theorem dN_enter_5 : decode prog_3_method_3_code 5 = .ok (.iload_n 1, 1) := by decide +kernel
theorem dN_enter_6 : decode prog_3_method_3_code 6 = .ok (.invokestatic 9, 3) := by decide +kernel
theorem dN_enter_9 : decode prog_3_method_3_code 9 = .ok (.ior, 1) := by decide +kernel
theorem dN_enter_10 : decode prog_3_method_3_code 10 = .ok (.putfield 22, 3) := by decide +kernel
theorem dN_enter_13 : decode prog_3_method_3_code 13 = .ok (.aload_n 0, 1) := by decide +kernel
theorem dN_enter_14 : decode prog_3_method_3_code 14 = .ok (.dup, 1) := by decide +kernel
theorem dN_enter_15 : decode prog_3_method_3_code 15 = .ok (.getfield 30, 3) := by decide +kernel
theorem dN_enter_18 : decode prog_3_method_3_code 18 = .ok (.iload_n 1, 1) := by decide +kernel
theorem dN_enter_19 : decode prog_3_method_3_code 19 = .ok (.invokestatic 9, 3) := by decide +kernel
theorem dN_enter_22 : decode prog_3_method_3_code 22 = .ok (.ior, 1) := by decide +kernel
theorem dN_enter_23 : decode prog_3_method_3_code 23 = .ok (.putfield 30, 3) := by decide +kernel
theorem dN_enter_26 : decode prog_3_method_3_code 26 = .ok (.return_, 1) := by decide +kernel
theorem dH_receiveFinality_0 : decode prog_1_method_27_code 0 = .ok (.iload_n 2, 1) := by decide +kernel
theorem dH_receiveFinality_1 : decode prog_1_method_27_code 1 = .ok (.invokestatic 45, 3) := by decide +kernel
theorem dH_receiveFinality_4 : decode prog_1_method_27_code 4 = .ok (.ifCond .ne 5, 3) := by decide +kernel
theorem dH_receiveFinality_7 : decode prog_1_method_27_code 7 = .ok (.iconst (-1), 1) := by decide +kernel
theorem dH_receiveFinality_8 : decode prog_1_method_27_code 8 = .ok (.ireturn, 1) := by decide +kernel
theorem dH_receiveFinality_9 : decode prog_1_method_27_code 9 = .ok (.aload_n 0, 1) := by decide +kernel
theorem dH_receiveFinality_10 : decode prog_1_method_27_code 10 = .ok (.getfield 17, 3) := by decide +kernel
theorem dH_receiveFinality_13 : decode prog_1_method_27_code 13 = .ok (.iload_n 2, 1) := by decide +kernel
theorem dH_receiveFinality_14 : decode prog_1_method_27_code 14 = .ok (.aaload, 1) := by decide +kernel
theorem dH_receiveFinality_15 : decode prog_1_method_27_code 15 = .ok (.astore 4, 2) := by decide +kernel
theorem dH_receiveFinality_17 : decode prog_1_method_27_code 17 = .ok (.aload 4, 2) := by decide +kernel
theorem dH_receiveFinality_19 : decode prog_1_method_27_code 19 = .ok (.getfield 199, 3) := by decide +kernel
theorem dH_receiveFinality_22 : decode prog_1_method_27_code 22 = .ok (.aload_n 1, 1) := by decide +kernel
theorem dH_receiveFinality_23 : decode prog_1_method_27_code 23 = .ok (.getfield 281, 3) := by decide +kernel
theorem dH_receiveFinality_26 : decode prog_1_method_27_code 26 = .ok (.invokestatic 77, 3) := by decide +kernel
theorem dH_receiveFinality_29 : decode prog_1_method_27_code 29 = .ok (.ifCond .eq 5, 3) := by decide +kernel
theorem dH_receiveFinality_32 : decode prog_1_method_27_code 32 = .ok (.iconst 1, 1) := by decide +kernel
theorem dH_receiveFinality_33 : decode prog_1_method_27_code 33 = .ok (.ireturn, 1) := by decide +kernel
theorem dH_receiveFinality_34 : decode prog_1_method_27_code 34 = .ok (.aload_n 1, 1) := by decide +kernel
theorem dH_receiveFinality_35 : decode prog_1_method_27_code 35 = .ok (.getfield 282, 3) := by decide +kernel
theorem dH_receiveFinality_38 : decode prog_1_method_27_code 38 = .ok (.ifCond .ne 5, 3) := by decide +kernel
theorem dH_receiveFinality_41 : decode prog_1_method_27_code 41 = .ok (.iconst 3, 1) := by decide +kernel
theorem dH_receiveFinality_42 : decode prog_1_method_27_code 42 = .ok (.ireturn, 1) := by decide +kernel
theorem dH_receiveFinality_43 : decode prog_1_method_27_code 43 = .ok (.iload_n 3, 1) := by decide +kernel
theorem dH_receiveFinality_44 : decode prog_1_method_27_code 44 = .ok (.ifCond .ne 21, 3) := by decide +kernel
theorem dH_receiveFinality_47 : decode prog_1_method_27_code 47 = .ok (.aload 4, 2) := by decide +kernel
theorem dH_receiveFinality_49 : decode prog_1_method_27_code 49 = .ok (.aload_n 1, 1) := by decide +kernel
theorem dH_receiveFinality_50 : decode prog_1_method_27_code 50 = .ok (.getfield 258, 3) := by decide +kernel
theorem dH_receiveFinality_53 : decode prog_1_method_27_code 53 = .ok (.invokevirtual 261, 3) := by decide +kernel
theorem dH_receiveFinality_56 : decode prog_1_method_27_code 56 = .ok (.aload 4, 2) := by decide +kernel
theorem dH_receiveFinality_58 : decode prog_1_method_27_code 58 = .ok (.aload_n 1, 1) := by decide +kernel
theorem dH_receiveFinality_59 : decode prog_1_method_27_code 59 = .ok (.getfield 281, 3) := by decide +kernel
theorem dH_receiveFinality_62 : decode prog_1_method_27_code 62 = .ok (.invokevirtual 286, 3) := by decide +kernel
theorem dH_receiveFinality_65 : decode prog_1_method_27_code 65 = .ok (.iconst 2, 1) := by decide +kernel
theorem dH_receiveFinality_66 : decode prog_1_method_27_code 66 = .ok (.ireturn, 1) := by decide +kernel
theorem dB_removeAt_0 : decode prog_2_method_11_code 0 = .ok (.aload_n 0, 1) := by decide +kernel
theorem dB_removeAt_1 : decode prog_2_method_11_code 1 = .ok (.iload_n 1, 1) := by decide +kernel
theorem dB_removeAt_2 : decode prog_2_method_11_code 2 = .ok (.invokevirtual 23, 3) := by decide +kernel
theorem dB_removeAt_5 : decode prog_2_method_11_code 5 = .ok (.ifCond .ne 4, 3) := by decide +kernel
theorem dB_removeAt_8 : decode prog_2_method_11_code 8 = .ok (.return_, 1) := by decide +kernel
theorem dB_removeAt_9 : decode prog_2_method_11_code 9 = .ok (.iload_n 1, 1) := by decide +kernel
theorem dB_removeAt_10 : decode prog_2_method_11_code 10 = .ok (.iconst 1, 1) := by decide +kernel
theorem dB_removeAt_11 : decode prog_2_method_11_code 11 = .ok (.iadd, 1) := by decide +kernel
theorem dB_removeAt_12 : decode prog_2_method_11_code 12 = .ok (.istore_n 2, 1) := by decide +kernel
theorem dB_removeAt_13 : decode prog_2_method_11_code 13 = .ok (.iload_n 2, 1) := by decide +kernel
theorem dB_removeAt_14 : decode prog_2_method_11_code 14 = .ok (.aload_n 0, 1) := by decide +kernel
theorem dB_removeAt_15 : decode prog_2_method_11_code 15 = .ok (.getfield 15, 3) := by decide +kernel
theorem dB_removeAt_18 : decode prog_2_method_11_code 18 = .ok (.if_icmp .ge 23, 3) := by decide +kernel
theorem dB_removeAt_21 : decode prog_2_method_11_code 21 = .ok (.aload_n 0, 1) := by decide +kernel
theorem dB_removeAt_22 : decode prog_2_method_11_code 22 = .ok (.getfield 9, 3) := by decide +kernel
theorem dB_removeAt_25 : decode prog_2_method_11_code 25 = .ok (.iload_n 2, 1) := by decide +kernel
theorem dB_removeAt_26 : decode prog_2_method_11_code 26 = .ok (.iconst 1, 1) := by decide +kernel
theorem dB_removeAt_27 : decode prog_2_method_11_code 27 = .ok (.isub, 1) := by decide +kernel
theorem dB_removeAt_28 : decode prog_2_method_11_code 28 = .ok (.aload_n 0, 1) := by decide +kernel
theorem dB_removeAt_29 : decode prog_2_method_11_code 29 = .ok (.getfield 9, 3) := by decide +kernel
theorem dB_removeAt_32 : decode prog_2_method_11_code 32 = .ok (.iload_n 2, 1) := by decide +kernel
theorem dB_removeAt_33 : decode prog_2_method_11_code 33 = .ok (.iaload, 1) := by decide +kernel
theorem dB_removeAt_34 : decode prog_2_method_11_code 34 = .ok (.iastore, 1) := by decide +kernel
theorem dB_removeAt_35 : decode prog_2_method_11_code 35 = .ok (.iinc 2 1, 3) := by decide +kernel
theorem dB_removeAt_38 : decode prog_2_method_11_code 38 = .ok (.goto (-25), 3) := by decide +kernel
theorem dB_removeAt_41 : decode prog_2_method_11_code 41 = .ok (.aload_n 0, 1) := by decide +kernel
theorem dB_removeAt_42 : decode prog_2_method_11_code 42 = .ok (.dup, 1) := by decide +kernel
theorem dB_removeAt_43 : decode prog_2_method_11_code 43 = .ok (.getfield 15, 3) := by decide +kernel
theorem dB_removeAt_46 : decode prog_2_method_11_code 46 = .ok (.iconst 1, 1) := by decide +kernel
theorem dB_removeAt_47 : decode prog_2_method_11_code 47 = .ok (.isub, 1) := by decide +kernel
theorem dB_removeAt_48 : decode prog_2_method_11_code 48 = .ok (.putfield 15, 3) := by decide +kernel
theorem dB_removeAt_51 : decode prog_2_method_11_code 51 = .ok (.return_, 1) := by decide +kernel
theorem dH_message_0 : decode prog_1_method_10_code 0 = .ok (.iload_n 1, 1) := by decide +kernel
theorem dH_message_1 : decode prog_1_method_10_code 1 = .ok (.iconst (-1), 1) := by decide +kernel
theorem dH_message_2 : decode prog_1_method_10_code 2 = .ok (.if_icmp .ne 11, 3) := by decide +kernel
theorem dH_message_5 : decode prog_1_method_10_code 5 = .ok (.aload_n 0, 1) := by decide +kernel
theorem dH_message_6 : decode prog_1_method_10_code 6 = .ok (.getfield 25, 3) := by decide +kernel
theorem dH_message_9 : decode prog_1_method_10_code 9 = .ok (.getfield 177, 3) := by decide +kernel
theorem dH_message_12 : decode prog_1_method_10_code 12 = .ok (.ireturn, 1) := by decide +kernel
theorem dH_message_13 : decode prog_1_method_10_code 13 = .ok (.aload_n 0, 1) := by decide +kernel
theorem dH_message_14 : decode prog_1_method_10_code 14 = .ok (.getfield 25, 3) := by decide +kernel
theorem dH_message_17 : decode prog_1_method_10_code 17 = .ok (.iload_n 1, 1) := by decide +kernel
theorem dH_message_18 : decode prog_1_method_10_code 18 = .ok (.invokevirtual 163, 3) := by decide +kernel
theorem dH_message_21 : decode prog_1_method_10_code 21 = .ok (.ifCond .eq 15, 3) := by decide +kernel
theorem dH_message_24 : decode prog_1_method_10_code 24 = .ok (.aload_n 0, 1) := by decide +kernel
theorem dH_message_25 : decode prog_1_method_10_code 25 = .ok (.getfield 25, 3) := by decide +kernel
theorem dH_message_28 : decode prog_1_method_10_code 28 = .ok (.getfield 166, 3) := by decide +kernel
theorem dH_message_31 : decode prog_1_method_10_code 31 = .ok (.iload_n 1, 1) := by decide +kernel
theorem dH_message_32 : decode prog_1_method_10_code 32 = .ok (.iaload, 1) := by decide +kernel
theorem dH_message_33 : decode prog_1_method_10_code 33 = .ok (.goto 4, 3) := by decide +kernel
theorem dH_message_36 : decode prog_1_method_10_code 36 = .ok (.iconst (-1), 1) := by decide +kernel
theorem dH_message_37 : decode prog_1_method_10_code 37 = .ok (.ireturn, 1) := by decide +kernel
theorem dH_tick_0 : decode prog_1_method_11_code 0 = .ok (.iload_n 1, 1) := by decide +kernel
theorem dH_tick_1 : decode prog_1_method_11_code 1 = .ok (.ifCond .lt 20, 3) := by decide +kernel
theorem dH_tick_4 : decode prog_1_method_11_code 4 = .ok (.iload_n 1, 1) := by decide +kernel
theorem dH_tick_5 : decode prog_1_method_11_code 5 = .ok (.sipush 1000, 3) := by decide +kernel
theorem dH_tick_8 : decode prog_1_method_11_code 8 = .ok (.if_icmp .gt 13, 3) := by decide +kernel
theorem dH_tick_11 : decode prog_1_method_11_code 11 = .ok (.aload_n 0, 1) := by decide +kernel
theorem dH_tick_12 : decode prog_1_method_11_code 12 = .ok (.dup, 1) := by decide +kernel
theorem dH_tick_13 : decode prog_1_method_11_code 13 = .ok (.getfield 180, 3) := by decide +kernel
theorem dH_tick_16 : decode prog_1_method_11_code 16 = .ok (.iload_n 1, 1) := by decide +kernel
theorem dH_tick_17 : decode prog_1_method_11_code 17 = .ok (.iadd, 1) := by decide +kernel
theorem dH_tick_18 : decode prog_1_method_11_code 18 = .ok (.putfield 180, 3) := by decide +kernel
theorem dH_tick_21 : decode prog_1_method_11_code 21 = .ok (.aload_n 0, 1) := by decide +kernel
theorem dH_tick_22 : decode prog_1_method_11_code 22 = .ok (.getfield 180, 3) := by decide +kernel
theorem dH_tick_25 : decode prog_1_method_11_code 25 = .ok (.ireturn, 1) := by decide +kernel
theorem dH_consent_0 : decode prog_1_method_12_code 0 = .ok (.iload_n 1, 1) := by decide +kernel
theorem dH_consent_1 : decode prog_1_method_12_code 1 = .ok (.invokestatic 45, 3) := by decide +kernel
theorem dH_consent_4 : decode prog_1_method_12_code 4 = .ok (.ifCond .eq 15, 3) := by decide +kernel
theorem dH_consent_7 : decode prog_1_method_12_code 7 = .ok (.iload_n 2, 1) := by decide +kernel
theorem dH_consent_8 : decode prog_1_method_12_code 8 = .ok (.invokestatic 45, 3) := by decide +kernel
theorem dH_consent_11 : decode prog_1_method_12_code 11 = .ok (.ifCond .eq 8, 3) := by decide +kernel
theorem dH_consent_14 : decode prog_1_method_12_code 14 = .ok (.iload_n 1, 1) := by decide +kernel
theorem dH_consent_15 : decode prog_1_method_12_code 15 = .ok (.iload_n 2, 1) := by decide +kernel
theorem dH_consent_16 : decode prog_1_method_12_code 16 = .ok (.if_icmp .ne 5, 3) := by decide +kernel
theorem dH_consent_19 : decode prog_1_method_12_code 19 = .ok (.iconst 0, 1) := by decide +kernel
theorem dH_consent_20 : decode prog_1_method_12_code 20 = .ok (.ireturn, 1) := by decide +kernel
theorem dH_consent_21 : decode prog_1_method_12_code 21 = .ok (.iload_n 3, 1) := by decide +kernel
theorem dH_consent_22 : decode prog_1_method_12_code 22 = .ok (.ifCond .eq 24, 3) := by decide +kernel
theorem dH_consent_25 : decode prog_1_method_12_code 25 = .ok (.aload_n 0, 1) := by decide +kernel
theorem dH_consent_26 : decode prog_1_method_12_code 26 = .ok (.getfield 17, 3) := by decide +kernel
theorem dH_consent_29 : decode prog_1_method_12_code 29 = .ok (.iload_n 1, 1) := by decide +kernel
theorem dH_consent_30 : decode prog_1_method_12_code 30 = .ok (.aaload, 1) := by decide +kernel
theorem dH_consent_31 : decode prog_1_method_12_code 31 = .ok (.dup, 1) := by decide +kernel
theorem dH_consent_32 : decode prog_1_method_12_code 32 = .ok (.getfield 183, 3) := by decide +kernel
theorem dH_consent_35 : decode prog_1_method_12_code 35 = .ok (.iload_n 2, 1) := by decide +kernel
theorem dH_consent_36 : decode prog_1_method_12_code 36 = .ok (.invokestatic 186, 3) := by decide +kernel
theorem dH_consent_39 : decode prog_1_method_12_code 39 = .ok (.ior, 1) := by decide +kernel
theorem dH_consent_40 : decode prog_1_method_12_code 40 = .ok (.putfield 183, 3) := by decide +kernel
theorem dH_consent_43 : decode prog_1_method_12_code 43 = .ok (.goto 23, 3) := by decide +kernel
theorem dH_consent_46 : decode prog_1_method_12_code 46 = .ok (.aload_n 0, 1) := by decide +kernel
theorem dH_consent_47 : decode prog_1_method_12_code 47 = .ok (.getfield 17, 3) := by decide +kernel
theorem dH_consent_50 : decode prog_1_method_12_code 50 = .ok (.iload_n 1, 1) := by decide +kernel
theorem dH_consent_51 : decode prog_1_method_12_code 51 = .ok (.aaload, 1) := by decide +kernel
theorem dH_consent_52 : decode prog_1_method_12_code 52 = .ok (.dup, 1) := by decide +kernel
theorem dH_consent_53 : decode prog_1_method_12_code 53 = .ok (.getfield 183, 3) := by decide +kernel
theorem dH_consent_56 : decode prog_1_method_12_code 56 = .ok (.iload_n 2, 1) := by decide +kernel
theorem dH_consent_57 : decode prog_1_method_12_code 57 = .ok (.invokestatic 186, 3) := by decide +kernel
theorem dH_consent_60 : decode prog_1_method_12_code 60 = .ok (.iconst (-1), 1) := by decide +kernel
theorem dH_consent_61 : decode prog_1_method_12_code 61 = .ok (.ixor, 1) := by decide +kernel
theorem dH_consent_62 : decode prog_1_method_12_code 62 = .ok (.iand, 1) := by decide +kernel
theorem dH_consent_63 : decode prog_1_method_12_code 63 = .ok (.putfield 183, 3) := by decide +kernel
theorem dH_consent_66 : decode prog_1_method_12_code 66 = .ok (.iconst 1, 1) := by decide +kernel
theorem dH_consent_67 : decode prog_1_method_12_code 67 = .ok (.ireturn, 1) := by decide +kernel
theorem dH_stage_0 : decode prog_1_method_13_code 0 = .ok (.aload_n 0, 1) := by decide +kernel
theorem dH_stage_1 : decode prog_1_method_13_code 1 = .ok (.iload_n 1, 1) := by decide +kernel
theorem dH_stage_2 : decode prog_1_method_13_code 2 = .ok (.invokevirtual 60, 3) := by decide +kernel
theorem dH_stage_5 : decode prog_1_method_13_code 5 = .ok (.astore_n 2, 1) := by decide +kernel
theorem dH_stage_6 : decode prog_1_method_13_code 6 = .ok (.aload_n 2, 1) := by decide +kernel
theorem dH_stage_7 : decode prog_1_method_13_code 7 = .ok (.ifnonnull 7, 3) := by decide +kernel
theorem dH_stage_10 : decode prog_1_method_13_code 10 = .ok (.iconst (-1), 1) := by decide +kernel
theorem dH_stage_11 : decode prog_1_method_13_code 11 = .ok (.goto 7, 3) := by decide +kernel
theorem dH_stage_14 : decode prog_1_method_13_code 14 = .ok (.aload_n 2, 1) := by decide +kernel
theorem dH_stage_15 : decode prog_1_method_13_code 15 = .ok (.getfield 68, 3) := by decide +kernel
theorem dH_stage_18 : decode prog_1_method_13_code 18 = .ok (.ireturn, 1) := by decide +kernel
theorem dH_signatures_0 : decode prog_1_method_14_code 0 = .ok (.aload_n 0, 1) := by decide +kernel
theorem dH_signatures_1 : decode prog_1_method_14_code 1 = .ok (.iload_n 1, 1) := by decide +kernel
theorem dH_signatures_2 : decode prog_1_method_14_code 2 = .ok (.invokevirtual 60, 3) := by decide +kernel
theorem dH_signatures_5 : decode prog_1_method_14_code 5 = .ok (.astore_n 3, 1) := by decide +kernel
theorem dH_signatures_6 : decode prog_1_method_14_code 6 = .ok (.aload_n 3, 1) := by decide +kernel
theorem dH_signatures_7 : decode prog_1_method_14_code 7 = .ok (.ifnonnull 5, 3) := by decide +kernel
theorem dH_signatures_10 : decode prog_1_method_14_code 10 = .ok (.iconst (-1), 1) := by decide +kernel
theorem dH_signatures_11 : decode prog_1_method_14_code 11 = .ok (.ireturn, 1) := by decide +kernel
theorem dH_signatures_12 : decode prog_1_method_14_code 12 = .ok (.iload_n 2, 1) := by decide +kernel
theorem dH_signatures_13 : decode prog_1_method_14_code 13 = .ok (.ifCond .eq 10, 3) := by decide +kernel
theorem dH_signatures_16 : decode prog_1_method_14_code 16 = .ok (.aload_n 3, 1) := by decide +kernel
theorem dH_signatures_17 : decode prog_1_method_14_code 17 = .ok (.invokevirtual 190, 3) := by decide +kernel
theorem dH_signatures_20 : decode prog_1_method_14_code 20 = .ok (.goto 7, 3) := by decide +kernel
theorem dH_signatures_23 : decode prog_1_method_14_code 23 = .ok (.aload_n 3, 1) := by decide +kernel
theorem dH_signatures_24 : decode prog_1_method_14_code 24 = .ok (.getfield 193, 3) := by decide +kernel
theorem dH_signatures_27 : decode prog_1_method_14_code 27 = .ok (.ireturn, 1) := by decide +kernel
theorem dH_verdict_0 : decode prog_1_method_15_code 0 = .ok (.aload_n 0, 1) := by decide +kernel
theorem dH_verdict_1 : decode prog_1_method_15_code 1 = .ok (.iload_n 1, 1) := by decide +kernel
theorem dH_verdict_2 : decode prog_1_method_15_code 2 = .ok (.invokevirtual 60, 3) := by decide +kernel
theorem dH_verdict_5 : decode prog_1_method_15_code 5 = .ok (.astore_n 2, 1) := by decide +kernel
theorem dH_verdict_6 : decode prog_1_method_15_code 6 = .ok (.aload_n 2, 1) := by decide +kernel
theorem dH_verdict_7 : decode prog_1_method_15_code 7 = .ok (.ifnonnull 7, 3) := by decide +kernel
theorem dH_verdict_10 : decode prog_1_method_15_code 10 = .ok (.iconst (-1), 1) := by decide +kernel
theorem dH_verdict_11 : decode prog_1_method_15_code 11 = .ok (.goto 7, 3) := by decide +kernel
theorem dH_verdict_14 : decode prog_1_method_15_code 14 = .ok (.aload_n 2, 1) := by decide +kernel
theorem dH_verdict_15 : decode prog_1_method_15_code 15 = .ok (.getfield 196, 3) := by decide +kernel
theorem dH_verdict_18 : decode prog_1_method_15_code 18 = .ok (.ireturn, 1) := by decide +kernel
theorem dH_spender_0 : decode prog_1_method_16_code 0 = .ok (.aload_n 0, 1) := by decide +kernel
theorem dH_spender_1 : decode prog_1_method_16_code 1 = .ok (.iload_n 1, 1) := by decide +kernel
theorem dH_spender_2 : decode prog_1_method_16_code 2 = .ok (.iload_n 2, 1) := by decide +kernel
theorem dH_spender_3 : decode prog_1_method_16_code 3 = .ok (.invokevirtual 64, 3) := by decide +kernel
theorem dH_spender_6 : decode prog_1_method_16_code 6 = .ok (.astore_n 3, 1) := by decide +kernel
theorem dH_spender_7 : decode prog_1_method_16_code 7 = .ok (.aload_n 3, 1) := by decide +kernel
theorem dH_spender_8 : decode prog_1_method_16_code 8 = .ok (.ifnonnull 7, 3) := by decide +kernel
theorem dH_spender_11 : decode prog_1_method_16_code 11 = .ok (.iconst (-1), 1) := by decide +kernel
theorem dH_spender_12 : decode prog_1_method_16_code 12 = .ok (.goto 12, 3) := by decide +kernel
theorem dH_spender_15 : decode prog_1_method_16_code 15 = .ok (.aload_n 0, 1) := by decide +kernel
theorem dH_spender_16 : decode prog_1_method_16_code 16 = .ok (.getfield 29, 3) := by decide +kernel
theorem dH_spender_19 : decode prog_1_method_16_code 19 = .ok (.aload_n 3, 1) := by decide +kernel
theorem dH_spender_20 : decode prog_1_method_16_code 20 = .ok (.getfield 88, 3) := by decide +kernel
theorem dH_spender_23 : decode prog_1_method_16_code 23 = .ok (.iaload, 1) := by decide +kernel
theorem dH_spender_24 : decode prog_1_method_16_code 24 = .ok (.ireturn, 1) := by decide +kernel
theorem dH_standing_0 : decode prog_1_method_17_code 0 = .ok (.iload_n 1, 1) := by decide +kernel
theorem dH_standing_1 : decode prog_1_method_17_code 1 = .ok (.invokestatic 45, 3) := by decide +kernel
theorem dH_standing_4 : decode prog_1_method_17_code 4 = .ok (.ifCond .eq 11, 3) := by decide +kernel
theorem dH_standing_7 : decode prog_1_method_17_code 7 = .ok (.aload_n 0, 1) := by decide +kernel
theorem dH_standing_8 : decode prog_1_method_17_code 8 = .ok (.iload_n 2, 1) := by decide +kernel
theorem dH_standing_9 : decode prog_1_method_17_code 9 = .ok (.invokevirtual 60, 3) := by decide +kernel
theorem dH_standing_12 : decode prog_1_method_17_code 12 = .ok (.ifnonnull 5, 3) := by decide +kernel
theorem dH_standing_15 : decode prog_1_method_17_code 15 = .ok (.iconst (-1), 1) := by decide +kernel
theorem dH_standing_16 : decode prog_1_method_17_code 16 = .ok (.ireturn, 1) := by decide +kernel
theorem dH_standing_17 : decode prog_1_method_17_code 17 = .ok (.aload_n 0, 1) := by decide +kernel
theorem dH_standing_18 : decode prog_1_method_17_code 18 = .ok (.getfield 17, 3) := by decide +kernel
theorem dH_standing_21 : decode prog_1_method_17_code 21 = .ok (.iload_n 1, 1) := by decide +kernel
theorem dH_standing_22 : decode prog_1_method_17_code 22 = .ok (.aaload, 1) := by decide +kernel
theorem dH_standing_23 : decode prog_1_method_17_code 23 = .ok (.getfield 199, 3) := by decide +kernel
theorem dH_standing_26 : decode prog_1_method_17_code 26 = .ok (.iload_n 2, 1) := by decide +kernel
theorem dH_standing_27 : decode prog_1_method_17_code 27 = .ok (.invokestatic 77, 3) := by decide +kernel
theorem dH_standing_30 : decode prog_1_method_17_code 30 = .ok (.ifCond .eq 5, 3) := by decide +kernel
theorem dH_standing_33 : decode prog_1_method_17_code 33 = .ok (.iconst 2, 1) := by decide +kernel
theorem dH_standing_34 : decode prog_1_method_17_code 34 = .ok (.ireturn, 1) := by decide +kernel
theorem dH_standing_35 : decode prog_1_method_17_code 35 = .ok (.aload_n 0, 1) := by decide +kernel
theorem dH_standing_36 : decode prog_1_method_17_code 36 = .ok (.getfield 17, 3) := by decide +kernel
theorem dH_standing_39 : decode prog_1_method_17_code 39 = .ok (.iload_n 1, 1) := by decide +kernel
theorem dH_standing_40 : decode prog_1_method_17_code 40 = .ok (.aaload, 1) := by decide +kernel
theorem dH_standing_41 : decode prog_1_method_17_code 41 = .ok (.getfield 74, 3) := by decide +kernel
theorem dH_standing_44 : decode prog_1_method_17_code 44 = .ok (.iload_n 2, 1) := by decide +kernel
theorem dH_standing_45 : decode prog_1_method_17_code 45 = .ok (.invokestatic 77, 3) := by decide +kernel
theorem dH_standing_48 : decode prog_1_method_17_code 48 = .ok (.ifCond .eq 7, 3) := by decide +kernel
theorem dH_standing_51 : decode prog_1_method_17_code 51 = .ok (.iconst 1, 1) := by decide +kernel
theorem dH_standing_52 : decode prog_1_method_17_code 52 = .ok (.goto 4, 3) := by decide +kernel
theorem dH_standing_55 : decode prog_1_method_17_code 55 = .ok (.iconst 0, 1) := by decide +kernel
theorem dH_standing_56 : decode prog_1_method_17_code 56 = .ok (.ireturn, 1) := by decide +kernel
theorem dH_vault_0 : decode prog_1_method_18_code 0 = .ok (.iload_n 1, 1) := by decide +kernel
theorem dH_vault_1 : decode prog_1_method_18_code 1 = .ok (.invokestatic 45, 3) := by decide +kernel
theorem dH_vault_4 : decode prog_1_method_18_code 4 = .ok (.ifCond .eq 8, 3) := by decide +kernel
theorem dH_vault_7 : decode prog_1_method_18_code 7 = .ok (.iload_n 2, 1) := by decide +kernel
theorem dH_vault_8 : decode prog_1_method_18_code 8 = .ok (.iconst (-1), 1) := by decide +kernel
theorem dH_vault_9 : decode prog_1_method_18_code 9 = .ok (.if_icmp .ge 5, 3) := by decide +kernel
theorem dH_vault_12 : decode prog_1_method_18_code 12 = .ok (.iconst (-1), 1) := by decide +kernel
theorem dH_vault_13 : decode prog_1_method_18_code 13 = .ok (.ireturn, 1) := by decide +kernel
theorem dH_vault_14 : decode prog_1_method_18_code 14 = .ok (.iconst 0, 1) := by decide +kernel
theorem dH_vault_15 : decode prog_1_method_18_code 15 = .ok (.istore_n 3, 1) := by decide +kernel
theorem dH_vault_16 : decode prog_1_method_18_code 16 = .ok (.iconst 0, 1) := by decide +kernel
theorem dH_vault_17 : decode prog_1_method_18_code 17 = .ok (.istore 4, 2) := by decide +kernel
theorem dH_vault_19 : decode prog_1_method_18_code 19 = .ok (.iload 4, 2) := by decide +kernel
theorem dH_vault_21 : decode prog_1_method_18_code 21 = .ok (.aload_n 0, 1) := by decide +kernel
theorem dH_vault_22 : decode prog_1_method_18_code 22 = .ok (.invokevirtual 122, 3) := by decide +kernel
theorem dH_vault_25 : decode prog_1_method_18_code 25 = .ok (.if_icmp .ge 43, 3) := by decide +kernel
theorem dH_vault_28 : decode prog_1_method_18_code 28 = .ok (.aload_n 0, 1) := by decide +kernel
theorem dH_vault_29 : decode prog_1_method_18_code 29 = .ok (.iload 4, 2) := by decide +kernel
theorem dH_vault_31 : decode prog_1_method_18_code 31 = .ok (.invokevirtual 126, 3) := by decide +kernel
theorem dH_vault_34 : decode prog_1_method_18_code 34 = .ok (.astore 5, 2) := by decide +kernel
theorem dH_vault_36 : decode prog_1_method_18_code 36 = .ok (.aload 5, 2) := by decide +kernel
theorem dH_vault_38 : decode prog_1_method_18_code 38 = .ok (.ifnull 24, 3) := by decide +kernel
theorem dH_vault_41 : decode prog_1_method_18_code 41 = .ok (.aload_n 0, 1) := by decide +kernel
theorem dH_vault_42 : decode prog_1_method_18_code 42 = .ok (.aload 5, 2) := by decide +kernel
theorem dH_vault_44 : decode prog_1_method_18_code 44 = .ok (.iload_n 1, 1) := by decide +kernel
theorem dH_vault_45 : decode prog_1_method_18_code 45 = .ok (.invokevirtual 202, 3) := by decide +kernel
theorem dH_vault_48 : decode prog_1_method_18_code 48 = .ok (.ifCond .eq 14, 3) := by decide +kernel
theorem dH_vault_51 : decode prog_1_method_18_code 51 = .ok (.iload_n 3, 1) := by decide +kernel
theorem dH_vault_52 : decode prog_1_method_18_code 52 = .ok (.iload_n 2, 1) := by decide +kernel
theorem dH_vault_53 : decode prog_1_method_18_code 53 = .ok (.if_icmp .ne 6, 3) := by decide +kernel
theorem dH_vault_56 : decode prog_1_method_18_code 56 = .ok (.iload 4, 2) := by decide +kernel
theorem dH_vault_58 : decode prog_1_method_18_code 58 = .ok (.ireturn, 1) := by decide +kernel
theorem dH_vault_59 : decode prog_1_method_18_code 59 = .ok (.iinc 3 1, 3) := by decide +kernel
theorem dH_vault_62 : decode prog_1_method_18_code 62 = .ok (.iinc 4 1, 3) := by decide +kernel
theorem dH_vault_65 : decode prog_1_method_18_code 65 = .ok (.goto (-46), 3) := by decide +kernel
theorem dH_vault_68 : decode prog_1_method_18_code 68 = .ok (.iload_n 2, 1) := by decide +kernel
theorem dH_vault_69 : decode prog_1_method_18_code 69 = .ok (.iconst (-1), 1) := by decide +kernel
theorem dH_vault_70 : decode prog_1_method_18_code 70 = .ok (.if_icmp .ne 7, 3) := by decide +kernel
theorem dH_vault_73 : decode prog_1_method_18_code 73 = .ok (.iload_n 3, 1) := by decide +kernel
theorem dH_vault_74 : decode prog_1_method_18_code 74 = .ok (.goto 4, 3) := by decide +kernel
theorem dH_vault_77 : decode prog_1_method_18_code 77 = .ok (.iconst (-1), 1) := by decide +kernel
theorem dH_vault_78 : decode prog_1_method_18_code 78 = .ok (.ireturn, 1) := by decide +kernel
theorem dH_balance_0 : decode prog_1_method_19_code 0 = .ok (.iload_n 1, 1) := by decide +kernel
theorem dH_balance_1 : decode prog_1_method_19_code 1 = .ok (.invokestatic 45, 3) := by decide +kernel
theorem dH_balance_4 : decode prog_1_method_19_code 4 = .ok (.ifCond .eq 10, 3) := by decide +kernel
theorem dH_balance_7 : decode prog_1_method_19_code 7 = .ok (.iload_n 2, 1) := by decide +kernel
theorem dH_balance_8 : decode prog_1_method_19_code 8 = .ok (.invokestatic 45, 3) := by decide +kernel
theorem dH_balance_11 : decode prog_1_method_19_code 11 = .ok (.ifCond .ne 5, 3) := by decide +kernel
theorem dH_balance_14 : decode prog_1_method_19_code 14 = .ok (.iconst (-1), 1) := by decide +kernel
theorem dH_balance_15 : decode prog_1_method_19_code 15 = .ok (.ireturn, 1) := by decide +kernel
theorem dH_balance_16 : decode prog_1_method_19_code 16 = .ok (.iconst 0, 1) := by decide +kernel
theorem dH_balance_17 : decode prog_1_method_19_code 17 = .ok (.istore_n 3, 1) := by decide +kernel
theorem dH_balance_18 : decode prog_1_method_19_code 18 = .ok (.iconst 0, 1) := by decide +kernel
theorem dH_balance_19 : decode prog_1_method_19_code 19 = .ok (.istore 4, 2) := by decide +kernel
theorem dH_balance_21 : decode prog_1_method_19_code 21 = .ok (.iload 4, 2) := by decide +kernel
theorem dH_balance_23 : decode prog_1_method_19_code 23 = .ok (.aload_n 0, 1) := by decide +kernel
theorem dH_balance_24 : decode prog_1_method_19_code 24 = .ok (.invokevirtual 122, 3) := by decide +kernel
theorem dH_balance_27 : decode prog_1_method_19_code 27 = .ok (.if_icmp .ge 49, 3) := by decide +kernel
theorem dH_balance_30 : decode prog_1_method_19_code 30 = .ok (.aload_n 0, 1) := by decide +kernel
theorem dH_balance_31 : decode prog_1_method_19_code 31 = .ok (.iload 4, 2) := by decide +kernel
theorem dH_balance_33 : decode prog_1_method_19_code 33 = .ok (.invokevirtual 126, 3) := by decide +kernel
theorem dH_balance_36 : decode prog_1_method_19_code 36 = .ok (.astore 5, 2) := by decide +kernel
theorem dH_balance_38 : decode prog_1_method_19_code 38 = .ok (.aload 5, 2) := by decide +kernel
theorem dH_balance_40 : decode prog_1_method_19_code 40 = .ok (.ifnull 30, 3) := by decide +kernel
theorem dH_balance_43 : decode prog_1_method_19_code 43 = .ok (.aload 5, 2) := by decide +kernel
theorem dH_balance_45 : decode prog_1_method_19_code 45 = .ok (.iload_n 2, 1) := by decide +kernel
theorem dH_balance_46 : decode prog_1_method_19_code 46 = .ok (.invokevirtual 206, 3) := by decide +kernel
theorem dH_balance_49 : decode prog_1_method_19_code 49 = .ok (.ifCond .eq 21, 3) := by decide +kernel
theorem dH_balance_52 : decode prog_1_method_19_code 52 = .ok (.aload_n 0, 1) := by decide +kernel
theorem dH_balance_53 : decode prog_1_method_19_code 53 = .ok (.aload 5, 2) := by decide +kernel
theorem dH_balance_55 : decode prog_1_method_19_code 55 = .ok (.iload_n 1, 1) := by decide +kernel
theorem dH_balance_56 : decode prog_1_method_19_code 56 = .ok (.invokevirtual 202, 3) := by decide +kernel
theorem dH_balance_59 : decode prog_1_method_19_code 59 = .ok (.ifCond .eq 11, 3) := by decide +kernel
theorem dH_balance_62 : decode prog_1_method_19_code 62 = .ok (.iload_n 3, 1) := by decide +kernel
theorem dH_balance_63 : decode prog_1_method_19_code 63 = .ok (.aload 5, 2) := by decide +kernel
theorem dH_balance_65 : decode prog_1_method_19_code 65 = .ok (.getfield 134, 3) := by decide +kernel
theorem dH_balance_68 : decode prog_1_method_19_code 68 = .ok (.iadd, 1) := by decide +kernel
theorem dH_balance_69 : decode prog_1_method_19_code 69 = .ok (.istore_n 3, 1) := by decide +kernel
theorem dH_balance_70 : decode prog_1_method_19_code 70 = .ok (.iinc 4 1, 3) := by decide +kernel
theorem dH_balance_73 : decode prog_1_method_19_code 73 = .ok (.goto (-52), 3) := by decide +kernel
theorem dH_balance_76 : decode prog_1_method_19_code 76 = .ok (.iload_n 3, 1) := by decide +kernel
theorem dH_balance_77 : decode prog_1_method_19_code 77 = .ok (.ireturn, 1) := by decide +kernel
theorem dH_fetched_0 : decode prog_1_method_20_code 0 = .ok (.iload_n 1, 1) := by decide +kernel
theorem dH_fetched_1 : decode prog_1_method_20_code 1 = .ok (.invokestatic 45, 3) := by decide +kernel
theorem dH_fetched_4 : decode prog_1_method_20_code 4 = .ok (.ifCond .eq 15, 3) := by decide +kernel
theorem dH_fetched_7 : decode prog_1_method_20_code 7 = .ok (.aload_n 0, 1) := by decide +kernel
theorem dH_fetched_8 : decode prog_1_method_20_code 8 = .ok (.getfield 17, 3) := by decide +kernel
theorem dH_fetched_11 : decode prog_1_method_20_code 11 = .ok (.iload_n 1, 1) := by decide +kernel
theorem dH_fetched_12 : decode prog_1_method_20_code 12 = .ok (.aaload, 1) := by decide +kernel
theorem dH_fetched_13 : decode prog_1_method_20_code 13 = .ok (.getfield 209, 3) := by decide +kernel
theorem dH_fetched_16 : decode prog_1_method_20_code 16 = .ok (.goto 4, 3) := by decide +kernel
theorem dH_fetched_19 : decode prog_1_method_20_code 19 = .ok (.iconst (-1), 1) := by decide +kernel
theorem dH_fetched_20 : decode prog_1_method_20_code 20 = .ok (.ireturn, 1) := by decide +kernel
theorem dH_tree_0 : decode prog_1_method_21_code 0 = .ok (.aload_n 0, 1) := by decide +kernel
theorem dH_tree_1 : decode prog_1_method_21_code 1 = .ok (.iload_n 1, 1) := by decide +kernel
theorem dH_tree_2 : decode prog_1_method_21_code 2 = .ok (.invokevirtual 60, 3) := by decide +kernel
theorem dH_tree_5 : decode prog_1_method_21_code 5 = .ok (.astore 4, 2) := by decide +kernel
theorem dH_tree_7 : decode prog_1_method_21_code 7 = .ok (.aload 4, 2) := by decide +kernel
theorem dH_tree_9 : decode prog_1_method_21_code 9 = .ok (.ifnull 24, 3) := by decide +kernel
theorem dH_tree_12 : decode prog_1_method_21_code 12 = .ok (.iload_n 2, 1) := by decide +kernel
theorem dH_tree_13 : decode prog_1_method_21_code 13 = .ok (.ifCond .lt 20, 3) := by decide +kernel
theorem dH_tree_16 : decode prog_1_method_21_code 16 = .ok (.iload_n 2, 1) := by decide +kernel
theorem dH_tree_17 : decode prog_1_method_21_code 17 = .ok (.iconst 4, 1) := by decide +kernel
theorem dH_tree_18 : decode prog_1_method_21_code 18 = .ok (.if_icmp .gt 15, 3) := by decide +kernel
theorem dH_tree_21 : decode prog_1_method_21_code 21 = .ok (.iload_n 3, 1) := by decide +kernel
theorem dH_tree_22 : decode prog_1_method_21_code 22 = .ok (.ifCond .lt 11, 3) := by decide +kernel
theorem dH_tree_25 : decode prog_1_method_21_code 25 = .ok (.iload_n 3, 1) := by decide +kernel
theorem dH_tree_26 : decode prog_1_method_21_code 26 = .ok (.bipush 16, 2) := by decide +kernel
theorem dH_tree_28 : decode prog_1_method_21_code 28 = .ok (.iload_n 2, 1) := by decide +kernel
theorem dH_tree_29 : decode prog_1_method_21_code 29 = .ok (.ishr, 1) := by decide +kernel
theorem dH_tree_30 : decode prog_1_method_21_code 30 = .ok (.if_icmp .lt 5, 3) := by decide +kernel
theorem dH_tree_33 : decode prog_1_method_21_code 33 = .ok (.iconst 0, 1) := by decide +kernel
theorem dH_tree_34 : decode prog_1_method_21_code 34 = .ok (.ireturn, 1) := by decide +kernel
theorem dH_tree_35 : decode prog_1_method_21_code 35 = .ok (.iconst 0, 1) := by decide +kernel
theorem dH_tree_36 : decode prog_1_method_21_code 36 = .ok (.istore 5, 2) := by decide +kernel
theorem dH_tree_38 : decode prog_1_method_21_code 38 = .ok (.iload 5, 2) := by decide +kernel
theorem dH_tree_40 : decode prog_1_method_21_code 40 = .ok (.bipush 16, 2) := by decide +kernel
theorem dH_tree_42 : decode prog_1_method_21_code 42 = .ok (.if_icmp .ge 23, 3) := by decide +kernel
theorem dH_tree_45 : decode prog_1_method_21_code 45 = .ok (.aload_n 0, 1) := by decide +kernel
theorem dH_tree_46 : decode prog_1_method_21_code 46 = .ok (.getfield 42, 3) := by decide +kernel
theorem dH_tree_49 : decode prog_1_method_21_code 49 = .ok (.iload 5, 2) := by decide +kernel
theorem dH_tree_51 : decode prog_1_method_21_code 51 = .ok (.aload 4, 2) := by decide +kernel
theorem dH_tree_53 : decode prog_1_method_21_code 53 = .ok (.iload 5, 2) := by decide +kernel
theorem dH_tree_55 : decode prog_1_method_21_code 55 = .ok (.invokevirtual 212, 3) := by decide +kernel
theorem dH_tree_58 : decode prog_1_method_21_code 58 = .ok (.iastore, 1) := by decide +kernel
theorem dH_tree_59 : decode prog_1_method_21_code 59 = .ok (.iinc 5 1, 3) := by decide +kernel
theorem dH_tree_62 : decode prog_1_method_21_code 62 = .ok (.goto (-24), 3) := by decide +kernel
theorem dH_tree_65 : decode prog_1_method_21_code 65 = .ok (.iconst 1, 1) := by decide +kernel
theorem dH_tree_66 : decode prog_1_method_21_code 66 = .ok (.istore 5, 2) := by decide +kernel
theorem dH_tree_68 : decode prog_1_method_21_code 68 = .ok (.iload 5, 2) := by decide +kernel
theorem dH_tree_70 : decode prog_1_method_21_code 70 = .ok (.iload_n 2, 1) := by decide +kernel
theorem dH_tree_71 : decode prog_1_method_21_code 71 = .ok (.if_icmp .gt 58, 3) := by decide +kernel
theorem dH_tree_74 : decode prog_1_method_21_code 74 = .ok (.iconst 0, 1) := by decide +kernel
theorem dH_tree_75 : decode prog_1_method_21_code 75 = .ok (.istore 6, 2) := by decide +kernel
theorem dH_tree_77 : decode prog_1_method_21_code 77 = .ok (.iload 6, 2) := by decide +kernel
theorem dH_tree_79 : decode prog_1_method_21_code 79 = .ok (.bipush 16, 2) := by decide +kernel
theorem dH_tree_81 : decode prog_1_method_21_code 81 = .ok (.iload 5, 2) := by decide +kernel
theorem dH_tree_83 : decode prog_1_method_21_code 83 = .ok (.ishr, 1) := by decide +kernel
theorem dH_tree_84 : decode prog_1_method_21_code 84 = .ok (.if_icmp .ge 39, 3) := by decide +kernel
theorem dH_tree_87 : decode prog_1_method_21_code 87 = .ok (.aload_n 0, 1) := by decide +kernel
theorem dH_tree_88 : decode prog_1_method_21_code 88 = .ok (.getfield 42, 3) := by decide +kernel
theorem dH_tree_91 : decode prog_1_method_21_code 91 = .ok (.iload 6, 2) := by decide +kernel
theorem dH_tree_93 : decode prog_1_method_21_code 93 = .ok (.aload_n 0, 1) := by decide +kernel
theorem dH_tree_94 : decode prog_1_method_21_code 94 = .ok (.getfield 42, 3) := by decide +kernel
theorem dH_tree_97 : decode prog_1_method_21_code 97 = .ok (.iconst 2, 1) := by decide +kernel
theorem dH_tree_98 : decode prog_1_method_21_code 98 = .ok (.iload 6, 2) := by decide +kernel
theorem dH_tree_100 : decode prog_1_method_21_code 100 = .ok (.imul, 1) := by decide +kernel
theorem dH_tree_101 : decode prog_1_method_21_code 101 = .ok (.iaload, 1) := by decide +kernel
theorem dH_tree_102 : decode prog_1_method_21_code 102 = .ok (.aload_n 0, 1) := by decide +kernel
theorem dH_tree_103 : decode prog_1_method_21_code 103 = .ok (.getfield 42, 3) := by decide +kernel
theorem dH_tree_106 : decode prog_1_method_21_code 106 = .ok (.iconst 2, 1) := by decide +kernel
theorem dH_tree_107 : decode prog_1_method_21_code 107 = .ok (.iload 6, 2) := by decide +kernel
theorem dH_tree_109 : decode prog_1_method_21_code 109 = .ok (.imul, 1) := by decide +kernel
theorem dH_tree_110 : decode prog_1_method_21_code 110 = .ok (.iconst 1, 1) := by decide +kernel
theorem dH_tree_111 : decode prog_1_method_21_code 111 = .ok (.iadd, 1) := by decide +kernel
theorem dH_tree_112 : decode prog_1_method_21_code 112 = .ok (.iaload, 1) := by decide +kernel
theorem dH_tree_113 : decode prog_1_method_21_code 113 = .ok (.invokestatic 215, 3) := by decide +kernel
theorem dH_tree_116 : decode prog_1_method_21_code 116 = .ok (.iastore, 1) := by decide +kernel
theorem dH_tree_117 : decode prog_1_method_21_code 117 = .ok (.iinc 6 1, 3) := by decide +kernel
theorem dH_tree_120 : decode prog_1_method_21_code 120 = .ok (.goto (-43), 3) := by decide +kernel
theorem dH_tree_123 : decode prog_1_method_21_code 123 = .ok (.iinc 5 1, 3) := by decide +kernel
theorem dH_tree_126 : decode prog_1_method_21_code 126 = .ok (.goto (-58), 3) := by decide +kernel
theorem dH_tree_129 : decode prog_1_method_21_code 129 = .ok (.aload_n 0, 1) := by decide +kernel
theorem dH_tree_130 : decode prog_1_method_21_code 130 = .ok (.getfield 42, 3) := by decide +kernel
theorem dH_tree_133 : decode prog_1_method_21_code 133 = .ok (.iload_n 3, 1) := by decide +kernel
theorem dH_tree_134 : decode prog_1_method_21_code 134 = .ok (.iaload, 1) := by decide +kernel
theorem dH_tree_135 : decode prog_1_method_21_code 135 = .ok (.ireturn, 1) := by decide +kernel
theorem dT_leaf_0 : decode prog_6_method_15_code 0 = .ok (.iload_n 1, 1) := by decide +kernel
theorem dT_leaf_1 : decode prog_6_method_15_code 1 = .ok (.tableswitch 126 0 15 #[79, 84, 89, 94, 94, 94, 94, 102, 107, 107, 107, 107, 116, 126, 126, 121], 79) := by decide +kernel
theorem dT_leaf_80 : decode prog_6_method_15_code 80 = .ok (.aload_n 0, 1) := by decide +kernel
theorem dT_leaf_81 : decode prog_6_method_15_code 81 = .ok (.getfield 18, 3) := by decide +kernel
theorem dT_leaf_84 : decode prog_6_method_15_code 84 = .ok (.ireturn, 1) := by decide +kernel
theorem dT_leaf_85 : decode prog_6_method_15_code 85 = .ok (.aload_n 0, 1) := by decide +kernel
theorem dT_leaf_86 : decode prog_6_method_15_code 86 = .ok (.getfield 21, 3) := by decide +kernel
theorem dT_leaf_89 : decode prog_6_method_15_code 89 = .ok (.ireturn, 1) := by decide +kernel
theorem dT_leaf_90 : decode prog_6_method_15_code 90 = .ok (.aload_n 0, 1) := by decide +kernel
theorem dT_leaf_91 : decode prog_6_method_15_code 91 = .ok (.getfield 24, 3) := by decide +kernel
theorem dT_leaf_94 : decode prog_6_method_15_code 94 = .ok (.ireturn, 1) := by decide +kernel
theorem dT_leaf_95 : decode prog_6_method_15_code 95 = .ok (.aload_n 0, 1) := by decide +kernel
theorem dT_leaf_96 : decode prog_6_method_15_code 96 = .ok (.iload_n 1, 1) := by decide +kernel
theorem dT_leaf_97 : decode prog_6_method_15_code 97 = .ok (.iconst 3, 1) := by decide +kernel
theorem dT_leaf_98 : decode prog_6_method_15_code 98 = .ok (.isub, 1) := by decide +kernel
theorem dT_leaf_99 : decode prog_6_method_15_code 99 = .ok (.invokevirtual 147, 3) := by decide +kernel
theorem dT_leaf_102 : decode prog_6_method_15_code 102 = .ok (.ireturn, 1) := by decide +kernel
theorem dT_leaf_103 : decode prog_6_method_15_code 103 = .ok (.aload_n 0, 1) := by decide +kernel
theorem dT_leaf_104 : decode prog_6_method_15_code 104 = .ok (.getfield 15, 3) := by decide +kernel
theorem dT_leaf_107 : decode prog_6_method_15_code 107 = .ok (.ireturn, 1) := by decide +kernel
theorem dT_leaf_108 : decode prog_6_method_15_code 108 = .ok (.aload_n 0, 1) := by decide +kernel
theorem dT_leaf_109 : decode prog_6_method_15_code 109 = .ok (.iload_n 1, 1) := by decide +kernel
theorem dT_leaf_110 : decode prog_6_method_15_code 110 = .ok (.bipush 8, 2) := by decide +kernel
theorem dT_leaf_112 : decode prog_6_method_15_code 112 = .ok (.isub, 1) := by decide +kernel
theorem dT_leaf_113 : decode prog_6_method_15_code 113 = .ok (.invokevirtual 150, 3) := by decide +kernel
theorem dT_leaf_116 : decode prog_6_method_15_code 116 = .ok (.ireturn, 1) := by decide +kernel
theorem dT_leaf_117 : decode prog_6_method_15_code 117 = .ok (.aload_n 0, 1) := by decide +kernel
theorem dT_leaf_118 : decode prog_6_method_15_code 118 = .ok (.invokevirtual 75, 3) := by decide +kernel
theorem dT_leaf_121 : decode prog_6_method_15_code 121 = .ok (.ireturn, 1) := by decide +kernel
theorem dT_leaf_122 : decode prog_6_method_15_code 122 = .ok (.aload_n 0, 1) := by decide +kernel
theorem dT_leaf_123 : decode prog_6_method_15_code 123 = .ok (.getfield 9, 3) := by decide +kernel
theorem dT_leaf_126 : decode prog_6_method_15_code 126 = .ok (.ireturn, 1) := by decide +kernel
theorem dT_leaf_127 : decode prog_6_method_15_code 127 = .ok (.iconst 0, 1) := by decide +kernel
theorem dT_leaf_128 : decode prog_6_method_15_code 128 = .ok (.ireturn, 1) := by decide +kernel
theorem dT_inputLeaf_0 : decode prog_6_method_16_code 0 = .ok (.iload_n 1, 1) := by decide +kernel
theorem dT_inputLeaf_1 : decode prog_6_method_16_code 1 = .ok (.ifCond .lt 31, 3) := by decide +kernel
theorem dT_inputLeaf_4 : decode prog_6_method_16_code 4 = .ok (.iload_n 1, 1) := by decide +kernel
theorem dT_inputLeaf_5 : decode prog_6_method_16_code 5 = .ok (.aload_n 0, 1) := by decide +kernel
theorem dT_inputLeaf_6 : decode prog_6_method_16_code 6 = .ok (.getfield 30, 3) := by decide +kernel
theorem dT_inputLeaf_9 : decode prog_6_method_16_code 9 = .ok (.getfield 56, 3) := by decide +kernel
theorem dT_inputLeaf_12 : decode prog_6_method_16_code 12 = .ok (.if_icmp .ge 20, 3) := by decide +kernel
theorem dT_inputLeaf_15 : decode prog_6_method_16_code 15 = .ok (.iconst 1, 1) := by decide +kernel
theorem dT_inputLeaf_16 : decode prog_6_method_16_code 16 = .ok (.aload_n 0, 1) := by decide +kernel
theorem dT_inputLeaf_17 : decode prog_6_method_16_code 17 = .ok (.getfield 30, 3) := by decide +kernel
theorem dT_inputLeaf_20 : decode prog_6_method_16_code 20 = .ok (.getfield 93, 3) := by decide +kernel
theorem dT_inputLeaf_23 : decode prog_6_method_16_code 23 = .ok (.iload_n 1, 1) := by decide +kernel
theorem dT_inputLeaf_24 : decode prog_6_method_16_code 24 = .ok (.aaload, 1) := by decide +kernel
theorem dT_inputLeaf_25 : decode prog_6_method_16_code 25 = .ok (.getfield 153, 3) := by decide +kernel
theorem dT_inputLeaf_28 : decode prog_6_method_16_code 28 = .ok (.iadd, 1) := by decide +kernel
theorem dT_inputLeaf_29 : decode prog_6_method_16_code 29 = .ok (.goto 4, 3) := by decide +kernel
theorem dT_inputLeaf_32 : decode prog_6_method_16_code 32 = .ok (.iconst 0, 1) := by decide +kernel
theorem dT_inputLeaf_33 : decode prog_6_method_16_code 33 = .ok (.ireturn, 1) := by decide +kernel
theorem dT_outputLeaf_0 : decode prog_6_method_17_code 0 = .ok (.iload_n 1, 1) := by decide +kernel
theorem dT_outputLeaf_1 : decode prog_6_method_17_code 1 = .ok (.ifCond .lt 29, 3) := by decide +kernel
theorem dT_outputLeaf_4 : decode prog_6_method_17_code 4 = .ok (.iload_n 1, 1) := by decide +kernel
theorem dT_outputLeaf_5 : decode prog_6_method_17_code 5 = .ok (.aload_n 0, 1) := by decide +kernel
theorem dT_outputLeaf_6 : decode prog_6_method_17_code 6 = .ok (.getfield 34, 3) := by decide +kernel
theorem dT_outputLeaf_9 : decode prog_6_method_17_code 9 = .ok (.getfield 56, 3) := by decide +kernel
theorem dT_outputLeaf_12 : decode prog_6_method_17_code 12 = .ok (.if_icmp .ge 18, 3) := by decide +kernel
theorem dT_outputLeaf_15 : decode prog_6_method_17_code 15 = .ok (.aload_n 0, 1) := by decide +kernel
theorem dT_outputLeaf_16 : decode prog_6_method_17_code 16 = .ok (.getfield 34, 3) := by decide +kernel
theorem dT_outputLeaf_19 : decode prog_6_method_17_code 19 = .ok (.getfield 93, 3) := by decide +kernel
theorem dT_outputLeaf_22 : decode prog_6_method_17_code 22 = .ok (.iload_n 1, 1) := by decide +kernel
theorem dT_outputLeaf_23 : decode prog_6_method_17_code 23 = .ok (.aaload, 1) := by decide +kernel
theorem dT_outputLeaf_24 : decode prog_6_method_17_code 24 = .ok (.invokevirtual 154, 3) := by decide +kernel
theorem dT_outputLeaf_27 : decode prog_6_method_17_code 27 = .ok (.goto 4, 3) := by decide +kernel
theorem dT_outputLeaf_30 : decode prog_6_method_17_code 30 = .ok (.iconst 0, 1) := by decide +kernel
theorem dT_outputLeaf_31 : decode prog_6_method_17_code 31 = .ok (.ireturn, 1) := by decide +kernel
theorem dS_leafValue_0 : decode prog_4_method_9_code 0 = .ok (.iconst 1, 1) := by decide +kernel
theorem dS_leafValue_1 : decode prog_4_method_9_code 1 = .ok (.aload_n 0, 1) := by decide +kernel
theorem dS_leafValue_2 : decode prog_4_method_9_code 2 = .ok (.getfield 15, 3) := by decide +kernel
theorem dS_leafValue_5 : decode prog_4_method_9_code 5 = .ok (.iadd, 1) := by decide +kernel
theorem dS_leafValue_6 : decode prog_4_method_9_code 6 = .ok (.iconst 3, 1) := by decide +kernel
theorem dS_leafValue_7 : decode prog_4_method_9_code 7 = .ok (.aload_n 0, 1) := by decide +kernel
theorem dS_leafValue_8 : decode prog_4_method_9_code 8 = .ok (.getfield 18, 3) := by decide +kernel
theorem dS_leafValue_11 : decode prog_4_method_9_code 11 = .ok (.iconst 4, 1) := by decide +kernel
theorem dS_leafValue_12 : decode prog_4_method_9_code 12 = .ok (.aload_n 0, 1) := by decide +kernel
theorem dS_leafValue_13 : decode prog_4_method_9_code 13 = .ok (.getfield 21, 3) := by decide +kernel
theorem dS_leafValue_16 : decode prog_4_method_9_code 16 = .ok (.iconst 4, 1) := by decide +kernel
theorem dS_leafValue_17 : decode prog_4_method_9_code 17 = .ok (.aload_n 0, 1) := by decide +kernel
theorem dS_leafValue_18 : decode prog_4_method_9_code 18 = .ok (.getfield 24, 3) := by decide +kernel
theorem dS_leafValue_21 : decode prog_4_method_9_code 21 = .ok (.sipush 1024, 3) := by decide +kernel
theorem dS_leafValue_24 : decode prog_4_method_9_code 24 = .ok (.aload_n 0, 1) := by decide +kernel
theorem dS_leafValue_25 : decode prog_4_method_9_code 25 = .ok (.getfield 27, 3) := by decide +kernel
theorem dS_leafValue_28 : decode prog_4_method_9_code 28 = .ok (.iconst 1, 1) := by decide +kernel
theorem dS_leafValue_29 : decode prog_4_method_9_code 29 = .ok (.iadd, 1) := by decide +kernel
theorem dS_leafValue_30 : decode prog_4_method_9_code 30 = .ok (.imul, 1) := by decide +kernel
theorem dS_leafValue_31 : decode prog_4_method_9_code 31 = .ok (.iadd, 1) := by decide +kernel
theorem dS_leafValue_32 : decode prog_4_method_9_code 32 = .ok (.imul, 1) := by decide +kernel
theorem dS_leafValue_33 : decode prog_4_method_9_code 33 = .ok (.iadd, 1) := by decide +kernel
theorem dS_leafValue_34 : decode prog_4_method_9_code 34 = .ok (.imul, 1) := by decide +kernel
theorem dS_leafValue_35 : decode prog_4_method_9_code 35 = .ok (.iadd, 1) := by decide +kernel
theorem dS_leafValue_36 : decode prog_4_method_9_code 36 = .ok (.imul, 1) := by decide +kernel
theorem dS_leafValue_37 : decode prog_4_method_9_code 37 = .ok (.iadd, 1) := by decide +kernel
theorem dS_leafValue_38 : decode prog_4_method_9_code 38 = .ok (.ireturn, 1) := by decide +kernel
theorem dH_mix_0 : decode prog_1_method_50_code 0 = .ok (.bipush 31, 2) := by decide +kernel
theorem dH_mix_2 : decode prog_1_method_50_code 2 = .ok (.iload_n 0, 1) := by decide +kernel
theorem dH_mix_3 : decode prog_1_method_50_code 3 = .ok (.imul, 1) := by decide +kernel
theorem dH_mix_4 : decode prog_1_method_50_code 4 = .ok (.bipush 17, 2) := by decide +kernel
theorem dH_mix_6 : decode prog_1_method_50_code 6 = .ok (.iload_n 1, 1) := by decide +kernel
theorem dH_mix_7 : decode prog_1_method_50_code 7 = .ok (.imul, 1) := by decide +kernel
theorem dH_mix_8 : decode prog_1_method_50_code 8 = .ok (.iadd, 1) := by decide +kernel
theorem dH_mix_9 : decode prog_1_method_50_code 9 = .ok (.bipush 7, 2) := by decide +kernel
theorem dH_mix_11 : decode prog_1_method_50_code 11 = .ok (.iadd, 1) := by decide +kernel
theorem dH_mix_12 : decode prog_1_method_50_code 12 = .ok (.istore_n 2, 1) := by decide +kernel
theorem dH_mix_13 : decode prog_1_method_50_code 13 = .ok (.iload_n 2, 1) := by decide +kernel
theorem dH_mix_14 : decode prog_1_method_50_code 14 = .ok (.iload_n 2, 1) := by decide +kernel
theorem dH_mix_15 : decode prog_1_method_50_code 15 = .ok (.bipush 13, 2) := by decide +kernel
theorem dH_mix_17 : decode prog_1_method_50_code 17 = .ok (.iushr, 1) := by decide +kernel
theorem dH_mix_18 : decode prog_1_method_50_code 18 = .ok (.ixor, 1) := by decide +kernel
theorem dH_mix_19 : decode prog_1_method_50_code 19 = .ok (.ireturn, 1) := by decide +kernel
