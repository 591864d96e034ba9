theorem dX0_init_0 : decode cX0_init 0 = .ok (.aload_n 0, 1) := by decide +kernel
theorem dX0_init_1 : decode cX0_init 1 = .ok (.invokespecial 3, 3) := by decide +kernel
theorem dX0_init_4 : decode cX0_init 4 = .ok (.aload_n 0, 1) := by decide +kernel
theorem dX0_init_5 : decode cX0_init 5 = .ok (.iconst 0, 1) := by decide +kernel
theorem dX0_init_6 : decode cX0_init 6 = .ok (.putfield 9, 3) := by decide +kernel
theorem dX0_init_9 : decode cX0_init 9 = .ok (.aload_n 0, 1) := by decide +kernel
theorem dX0_init_10 : decode cX0_init 10 = .ok (.bipush 60, 2) := by decide +kernel
theorem dX0_init_12 : decode cX0_init 12 = .ok (.newarray .int, 2) := by decide +kernel
theorem dX0_init_14 : decode cX0_init 14 = .ok (.putfield 15, 3) := by decide +kernel
theorem dX0_init_17 : decode cX0_init 17 = .ok (.aload_n 0, 1) := by decide +kernel
theorem dX0_init_18 : decode cX0_init 18 = .ok (.bipush 60, 2) := by decide +kernel
theorem dX0_init_20 : decode cX0_init 20 = .ok (.newarray .int, 2) := by decide +kernel
theorem dX0_init_22 : decode cX0_init 22 = .ok (.putfield 19, 3) := by decide +kernel
theorem dX0_init_25 : decode cX0_init 25 = .ok (.aload_n 0, 1) := by decide +kernel
theorem dX0_init_26 : decode cX0_init 26 = .ok (.bipush 60, 2) := by decide +kernel
theorem dX0_init_28 : decode cX0_init 28 = .ok (.newarray .boolean, 2) := by decide +kernel
theorem dX0_init_30 : decode cX0_init 30 = .ok (.putfield 22, 3) := by decide +kernel
theorem dX0_init_33 : decode cX0_init 33 = .ok (.aload_n 0, 1) := by decide +kernel
theorem dX0_init_34 : decode cX0_init 34 = .ok (.bipush 60, 2) := by decide +kernel
theorem dX0_init_36 : decode cX0_init 36 = .ok (.newarray .int, 2) := by decide +kernel
theorem dX0_init_38 : decode cX0_init 38 = .ok (.putfield 26, 3) := by decide +kernel
theorem dX0_init_41 : decode cX0_init 41 = .ok (.return_, 1) := by decide +kernel
theorem dX0_append_0 : decode cX0_append 0 = .ok (.aload_n 0, 1) := by decide +kernel
theorem dX0_append_1 : decode cX0_append 1 = .ok (.getfield 15, 3) := by decide +kernel
theorem dX0_append_4 : decode cX0_append 4 = .ok (.aload_n 0, 1) := by decide +kernel
theorem dX0_append_5 : decode cX0_append 5 = .ok (.getfield 9, 3) := by decide +kernel
theorem dX0_append_8 : decode cX0_append 8 = .ok (.iload_n 1, 1) := by decide +kernel
theorem dX0_append_9 : decode cX0_append 9 = .ok (.iastore, 1) := by decide +kernel
theorem dX0_append_10 : decode cX0_append 10 = .ok (.aload_n 0, 1) := by decide +kernel
theorem dX0_append_11 : decode cX0_append 11 = .ok (.getfield 19, 3) := by decide +kernel
theorem dX0_append_14 : decode cX0_append 14 = .ok (.aload_n 0, 1) := by decide +kernel
theorem dX0_append_15 : decode cX0_append 15 = .ok (.getfield 9, 3) := by decide +kernel
theorem dX0_append_18 : decode cX0_append 18 = .ok (.iload_n 2, 1) := by decide +kernel
theorem dX0_append_19 : decode cX0_append 19 = .ok (.iastore, 1) := by decide +kernel
theorem dX0_append_20 : decode cX0_append 20 = .ok (.aload_n 0, 1) := by decide +kernel
theorem dX0_append_21 : decode cX0_append 21 = .ok (.getfield 22, 3) := by decide +kernel
theorem dX0_append_24 : decode cX0_append 24 = .ok (.aload_n 0, 1) := by decide +kernel
theorem dX0_append_25 : decode cX0_append 25 = .ok (.getfield 9, 3) := by decide +kernel
theorem dX0_append_28 : decode cX0_append 28 = .ok (.iload_n 3, 1) := by decide +kernel
theorem dX0_append_29 : decode cX0_append 29 = .ok (.bastore, 1) := by decide +kernel
theorem dX0_append_30 : decode cX0_append 30 = .ok (.aload_n 0, 1) := by decide +kernel
theorem dX0_append_31 : decode cX0_append 31 = .ok (.getfield 26, 3) := by decide +kernel
theorem dX0_append_34 : decode cX0_append 34 = .ok (.aload_n 0, 1) := by decide +kernel
theorem dX0_append_35 : decode cX0_append 35 = .ok (.getfield 9, 3) := by decide +kernel
theorem dX0_append_38 : decode cX0_append 38 = .ok (.iload 4, 2) := by decide +kernel
theorem dX0_append_40 : decode cX0_append 40 = .ok (.iastore, 1) := by decide +kernel
theorem dX0_append_41 : decode cX0_append 41 = .ok (.aload_n 0, 1) := by decide +kernel
theorem dX0_append_42 : decode cX0_append 42 = .ok (.aload_n 0, 1) := by decide +kernel
theorem dX0_append_43 : decode cX0_append 43 = .ok (.getfield 9, 3) := by decide +kernel
theorem dX0_append_46 : decode cX0_append 46 = .ok (.iconst 1, 1) := by decide +kernel
theorem dX0_append_47 : decode cX0_append 47 = .ok (.iadd, 1) := by decide +kernel
theorem dX0_append_48 : decode cX0_append 48 = .ok (.putfield 9, 3) := by decide +kernel
theorem dX0_append_51 : decode cX0_append 51 = .ok (.return_, 1) := by decide +kernel
theorem dX0_giversTo_0 : decode cX0_giversTo 0 = .ok (.iconst 0, 1) := by decide +kernel
theorem dX0_giversTo_1 : decode cX0_giversTo 1 = .ok (.istore 4, 2) := by decide +kernel
theorem dX0_giversTo_3 : decode cX0_giversTo 3 = .ok (.iconst 0, 1) := by decide +kernel
theorem dX0_giversTo_4 : decode cX0_giversTo 4 = .ok (.istore 5, 2) := by decide +kernel
theorem dX0_giversTo_6 : decode cX0_giversTo 6 = .ok (.iload 5, 2) := by decide +kernel
theorem dX0_giversTo_8 : decode cX0_giversTo 8 = .ok (.aload_n 0, 1) := by decide +kernel
theorem dX0_giversTo_9 : decode cX0_giversTo 9 = .ok (.getfield 9, 3) := by decide +kernel
theorem dX0_giversTo_12 : decode cX0_giversTo 12 = .ok (.if_icmp .ge 57, 3) := by decide +kernel
theorem dX0_giversTo_15 : decode cX0_giversTo 15 = .ok (.aload_n 0, 1) := by decide +kernel
theorem dX0_giversTo_16 : decode cX0_giversTo 16 = .ok (.getfield 19, 3) := by decide +kernel
theorem dX0_giversTo_19 : decode cX0_giversTo 19 = .ok (.iload 5, 2) := by decide +kernel
theorem dX0_giversTo_21 : decode cX0_giversTo 21 = .ok (.iaload, 1) := by decide +kernel
theorem dX0_giversTo_22 : decode cX0_giversTo 22 = .ok (.iload_n 1, 1) := by decide +kernel
theorem dX0_giversTo_23 : decode cX0_giversTo 23 = .ok (.if_icmp .ne 40, 3) := by decide +kernel
theorem dX0_giversTo_26 : decode cX0_giversTo 26 = .ok (.aload_n 0, 1) := by decide +kernel
theorem dX0_giversTo_27 : decode cX0_giversTo 27 = .ok (.getfield 22, 3) := by decide +kernel
theorem dX0_giversTo_30 : decode cX0_giversTo 30 = .ok (.iload 5, 2) := by decide +kernel
theorem dX0_giversTo_32 : decode cX0_giversTo 32 = .ok (.baload, 1) := by decide +kernel
theorem dX0_giversTo_33 : decode cX0_giversTo 33 = .ok (.iload_n 2, 1) := by decide +kernel
theorem dX0_giversTo_34 : decode cX0_giversTo 34 = .ok (.if_icmp .ne 29, 3) := by decide +kernel
theorem dX0_giversTo_37 : decode cX0_giversTo 37 = .ok (.iload_n 3, 1) := by decide +kernel
theorem dX0_giversTo_38 : decode cX0_giversTo 38 = .ok (.aload_n 0, 1) := by decide +kernel
theorem dX0_giversTo_39 : decode cX0_giversTo 39 = .ok (.getfield 26, 3) := by decide +kernel
theorem dX0_giversTo_42 : decode cX0_giversTo 42 = .ok (.iload 5, 2) := by decide +kernel
theorem dX0_giversTo_44 : decode cX0_giversTo 44 = .ok (.iaload, 1) := by decide +kernel
theorem dX0_giversTo_45 : decode cX0_giversTo 45 = .ok (.if_icmp .gt 18, 3) := by decide +kernel
theorem dX0_giversTo_48 : decode cX0_giversTo 48 = .ok (.iload 4, 2) := by decide +kernel
theorem dX0_giversTo_50 : decode cX0_giversTo 50 = .ok (.aload_n 0, 1) := by decide +kernel
theorem dX0_giversTo_51 : decode cX0_giversTo 51 = .ok (.getfield 15, 3) := by decide +kernel
theorem dX0_giversTo_54 : decode cX0_giversTo 54 = .ok (.iload 5, 2) := by decide +kernel
theorem dX0_giversTo_56 : decode cX0_giversTo 56 = .ok (.iaload, 1) := by decide +kernel
theorem dX0_giversTo_57 : decode cX0_giversTo 57 = .ok (.invokestatic 29, 3) := by decide +kernel
theorem dX0_giversTo_60 : decode cX0_giversTo 60 = .ok (.ior, 1) := by decide +kernel
theorem dX0_giversTo_61 : decode cX0_giversTo 61 = .ok (.istore 4, 2) := by decide +kernel
theorem dX0_giversTo_63 : decode cX0_giversTo 63 = .ok (.iinc 5 1, 3) := by decide +kernel
theorem dX0_giversTo_66 : decode cX0_giversTo 66 = .ok (.goto (-60), 3) := by decide +kernel
theorem dX0_giversTo_69 : decode cX0_giversTo 69 = .ok (.iload 4, 2) := by decide +kernel
theorem dX0_giversTo_71 : decode cX0_giversTo 71 = .ok (.ireturn, 1) := by decide +kernel
theorem dX0_sizeOf_0 : decode cX0_sizeOf 0 = .ok (.iconst 0, 1) := by decide +kernel
theorem dX0_sizeOf_1 : decode cX0_sizeOf 1 = .ok (.istore_n 3, 1) := by decide +kernel
theorem dX0_sizeOf_2 : decode cX0_sizeOf 2 = .ok (.iconst 0, 1) := by decide +kernel
theorem dX0_sizeOf_3 : decode cX0_sizeOf 3 = .ok (.istore 4, 2) := by decide +kernel
theorem dX0_sizeOf_5 : decode cX0_sizeOf 5 = .ok (.iload 4, 2) := by decide +kernel
theorem dX0_sizeOf_7 : decode cX0_sizeOf 7 = .ok (.aload_n 0, 1) := by decide +kernel
theorem dX0_sizeOf_8 : decode cX0_sizeOf 8 = .ok (.getfield 9, 3) := by decide +kernel
theorem dX0_sizeOf_11 : decode cX0_sizeOf 11 = .ok (.if_icmp .ge 35, 3) := by decide +kernel
theorem dX0_sizeOf_14 : decode cX0_sizeOf 14 = .ok (.aload_n 0, 1) := by decide +kernel
theorem dX0_sizeOf_15 : decode cX0_sizeOf 15 = .ok (.getfield 19, 3) := by decide +kernel
theorem dX0_sizeOf_18 : decode cX0_sizeOf 18 = .ok (.iload 4, 2) := by decide +kernel
theorem dX0_sizeOf_20 : decode cX0_sizeOf 20 = .ok (.iaload, 1) := by decide +kernel
theorem dX0_sizeOf_21 : decode cX0_sizeOf 21 = .ok (.iload_n 1, 1) := by decide +kernel
theorem dX0_sizeOf_22 : decode cX0_sizeOf 22 = .ok (.if_icmp .ne 18, 3) := by decide +kernel
theorem dX0_sizeOf_25 : decode cX0_sizeOf 25 = .ok (.iload_n 2, 1) := by decide +kernel
theorem dX0_sizeOf_26 : decode cX0_sizeOf 26 = .ok (.aload_n 0, 1) := by decide +kernel
theorem dX0_sizeOf_27 : decode cX0_sizeOf 27 = .ok (.getfield 26, 3) := by decide +kernel
theorem dX0_sizeOf_30 : decode cX0_sizeOf 30 = .ok (.iload 4, 2) := by decide +kernel
theorem dX0_sizeOf_32 : decode cX0_sizeOf 32 = .ok (.iaload, 1) := by decide +kernel
theorem dX0_sizeOf_33 : decode cX0_sizeOf 33 = .ok (.if_icmp .gt 7, 3) := by decide +kernel
theorem dX0_sizeOf_36 : decode cX0_sizeOf 36 = .ok (.iload_n 3, 1) := by decide +kernel
theorem dX0_sizeOf_37 : decode cX0_sizeOf 37 = .ok (.iconst 1, 1) := by decide +kernel
theorem dX0_sizeOf_38 : decode cX0_sizeOf 38 = .ok (.iadd, 1) := by decide +kernel
theorem dX0_sizeOf_39 : decode cX0_sizeOf 39 = .ok (.istore_n 3, 1) := by decide +kernel
theorem dX0_sizeOf_40 : decode cX0_sizeOf 40 = .ok (.iinc 4 1, 3) := by decide +kernel
theorem dX0_sizeOf_43 : decode cX0_sizeOf 43 = .ok (.goto (-38), 3) := by decide +kernel
theorem dX0_sizeOf_46 : decode cX0_sizeOf 46 = .ok (.iload_n 3, 1) := by decide +kernel
theorem dX0_sizeOf_47 : decode cX0_sizeOf 47 = .ok (.ireturn, 1) := by decide +kernel
theorem dX1_init_0 : decode cX1_init 0 = .ok (.aload_n 0, 1) := by decide +kernel
theorem dX1_init_1 : decode cX1_init 1 = .ok (.invokespecial 3, 3) := by decide +kernel
theorem dX1_init_4 : decode cX1_init 4 = .ok (.aload_n 0, 1) := by decide +kernel
theorem dX1_init_5 : decode cX1_init 5 = .ok (.iconst (-1), 1) := by decide +kernel
theorem dX1_init_6 : decode cX1_init 6 = .ok (.putfield 9, 3) := by decide +kernel
theorem dX1_init_9 : decode cX1_init 9 = .ok (.aload_n 0, 1) := by decide +kernel
theorem dX1_init_10 : decode cX1_init 10 = .ok (.iconst 0, 1) := by decide +kernel
theorem dX1_init_11 : decode cX1_init 11 = .ok (.putfield 15, 3) := by decide +kernel
theorem dX1_init_14 : decode cX1_init 14 = .ok (.aload_n 0, 1) := by decide +kernel
theorem dX1_init_15 : decode cX1_init 15 = .ok (.iconst 0, 1) := by decide +kernel
theorem dX1_init_16 : decode cX1_init 16 = .ok (.putfield 18, 3) := by decide +kernel
theorem dX1_init_19 : decode cX1_init 19 = .ok (.return_, 1) := by decide +kernel
theorem dX1_read_0 : decode cX1_read 0 = .ok (.iload_n 1, 1) := by decide +kernel
theorem dX1_read_1 : decode cX1_read 1 = .ok (.bipush 65, 2) := by decide +kernel
theorem dX1_read_3 : decode cX1_read 3 = .ok (.if_icmp .lt 9, 3) := by decide +kernel
theorem dX1_read_6 : decode cX1_read 6 = .ok (.iload_n 1, 1) := by decide +kernel
theorem dX1_read_7 : decode cX1_read 7 = .ok (.bipush 90, 2) := by decide +kernel
theorem dX1_read_9 : decode cX1_read 9 = .ok (.if_icmp .le 9, 3) := by decide +kernel
theorem dX1_read_12 : decode cX1_read 12 = .ok (.aload_n 0, 1) := by decide +kernel
theorem dX1_read_13 : decode cX1_read 13 = .ok (.invokevirtual 21, 3) := by decide +kernel
theorem dX1_read_16 : decode cX1_read 16 = .ok (.iconst (-1), 1) := by decide +kernel
theorem dX1_read_17 : decode cX1_read 17 = .ok (.ireturn, 1) := by decide +kernel
theorem dX1_read_18 : decode cX1_read 18 = .ok (.iload_n 1, 1) := by decide +kernel
theorem dX1_read_19 : decode cX1_read 19 = .ok (.bipush 65, 2) := by decide +kernel
theorem dX1_read_21 : decode cX1_read 21 = .ok (.isub, 1) := by decide +kernel
theorem dX1_read_22 : decode cX1_read 22 = .ok (.istore_n 2, 1) := by decide +kernel
theorem dX1_read_23 : decode cX1_read 23 = .ok (.aload_n 0, 1) := by decide +kernel
theorem dX1_read_24 : decode cX1_read 24 = .ok (.getfield 15, 3) := by decide +kernel
theorem dX1_read_27 : decode cX1_read 27 = .ok (.bipush 6, 2) := by decide +kernel
theorem dX1_read_29 : decode cX1_read 29 = .ok (.if_icmp .ge 28, 3) := by decide +kernel
theorem dX1_read_32 : decode cX1_read 32 = .ok (.aload_n 0, 1) := by decide +kernel
theorem dX1_read_33 : decode cX1_read 33 = .ok (.aload_n 0, 1) := by decide +kernel
theorem dX1_read_34 : decode cX1_read 34 = .ok (.getfield 18, 3) := by decide +kernel
theorem dX1_read_37 : decode cX1_read 37 = .ok (.bipush 26, 2) := by decide +kernel
theorem dX1_read_39 : decode cX1_read 39 = .ok (.imul, 1) := by decide +kernel
theorem dX1_read_40 : decode cX1_read 40 = .ok (.iload_n 2, 1) := by decide +kernel
theorem dX1_read_41 : decode cX1_read 41 = .ok (.iadd, 1) := by decide +kernel
theorem dX1_read_42 : decode cX1_read 42 = .ok (.putfield 18, 3) := by decide +kernel
theorem dX1_read_45 : decode cX1_read 45 = .ok (.aload_n 0, 1) := by decide +kernel
theorem dX1_read_46 : decode cX1_read 46 = .ok (.aload_n 0, 1) := by decide +kernel
theorem dX1_read_47 : decode cX1_read 47 = .ok (.getfield 15, 3) := by decide +kernel
theorem dX1_read_50 : decode cX1_read 50 = .ok (.iconst 1, 1) := by decide +kernel
theorem dX1_read_51 : decode cX1_read 51 = .ok (.iadd, 1) := by decide +kernel
theorem dX1_read_52 : decode cX1_read 52 = .ok (.putfield 15, 3) := by decide +kernel
theorem dX1_read_55 : decode cX1_read 55 = .ok (.iconst 0, 1) := by decide +kernel
theorem dX1_read_56 : decode cX1_read 56 = .ok (.ireturn, 1) := by decide +kernel
theorem dX1_read_57 : decode cX1_read 57 = .ok (.aload_n 0, 1) := by decide +kernel
theorem dX1_read_58 : decode cX1_read 58 = .ok (.getfield 18, 3) := by decide +kernel
theorem dX1_read_61 : decode cX1_read 61 = .ok (.ldc 24, 2) := by decide +kernel
theorem dX1_read_63 : decode cX1_read 63 = .ok (.if_icmp .gt 18, 3) := by decide +kernel
theorem dX1_read_66 : decode cX1_read 66 = .ok (.iload_n 2, 1) := by decide +kernel
theorem dX1_read_67 : decode cX1_read 67 = .ok (.aload_n 0, 1) := by decide +kernel
theorem dX1_read_68 : decode cX1_read 68 = .ok (.getfield 18, 3) := by decide +kernel
theorem dX1_read_71 : decode cX1_read 71 = .ok (.invokestatic 25, 3) := by decide +kernel
theorem dX1_read_74 : decode cX1_read 74 = .ok (.if_icmp .ne 7, 3) := by decide +kernel
theorem dX1_read_77 : decode cX1_read 77 = .ok (.iconst 1, 1) := by decide +kernel
theorem dX1_read_78 : decode cX1_read 78 = .ok (.goto 4, 3) := by decide +kernel
theorem dX1_read_81 : decode cX1_read 81 = .ok (.iconst 0, 1) := by decide +kernel
theorem dX1_read_82 : decode cX1_read 82 = .ok (.istore_n 3, 1) := by decide +kernel
theorem dX1_read_83 : decode cX1_read 83 = .ok (.iload_n 3, 1) := by decide +kernel
theorem dX1_read_84 : decode cX1_read 84 = .ok (.ifCond .eq 11, 3) := by decide +kernel
theorem dX1_read_87 : decode cX1_read 87 = .ok (.aload_n 0, 1) := by decide +kernel
theorem dX1_read_88 : decode cX1_read 88 = .ok (.aload_n 0, 1) := by decide +kernel
theorem dX1_read_89 : decode cX1_read 89 = .ok (.getfield 18, 3) := by decide +kernel
theorem dX1_read_92 : decode cX1_read 92 = .ok (.putfield 9, 3) := by decide +kernel
theorem dX1_read_95 : decode cX1_read 95 = .ok (.aload_n 0, 1) := by decide +kernel
theorem dX1_read_96 : decode cX1_read 96 = .ok (.invokevirtual 21, 3) := by decide +kernel
theorem dX1_read_99 : decode cX1_read 99 = .ok (.iload_n 3, 1) := by decide +kernel
theorem dX1_read_100 : decode cX1_read 100 = .ok (.ifCond .eq 7, 3) := by decide +kernel
theorem dX1_read_103 : decode cX1_read 103 = .ok (.iconst 1, 1) := by decide +kernel
theorem dX1_read_104 : decode cX1_read 104 = .ok (.goto 4, 3) := by decide +kernel
theorem dX1_read_107 : decode cX1_read 107 = .ok (.iconst (-1), 1) := by decide +kernel
theorem dX1_read_108 : decode cX1_read 108 = .ok (.ireturn, 1) := by decide +kernel
theorem dX1_restart_0 : decode cX1_restart 0 = .ok (.aload_n 0, 1) := by decide +kernel
theorem dX1_restart_1 : decode cX1_restart 1 = .ok (.iconst 0, 1) := by decide +kernel
theorem dX1_restart_2 : decode cX1_restart 2 = .ok (.putfield 15, 3) := by decide +kernel
theorem dX1_restart_5 : decode cX1_restart 5 = .ok (.aload_n 0, 1) := by decide +kernel
theorem dX1_restart_6 : decode cX1_restart 6 = .ok (.iconst 0, 1) := by decide +kernel
theorem dX1_restart_7 : decode cX1_restart 7 = .ok (.putfield 18, 3) := by decide +kernel
theorem dX1_restart_10 : decode cX1_restart 10 = .ok (.return_, 1) := by decide +kernel
theorem dX2_init_0 : decode cX2_init 0 = .ok (.aload_n 0, 1) := by decide +kernel
theorem dX2_init_1 : decode cX2_init 1 = .ok (.invokespecial 3, 3) := by decide +kernel
theorem dX2_init_4 : decode cX2_init 4 = .ok (.aload_n 0, 1) := by decide +kernel
theorem dX2_init_5 : decode cX2_init 5 = .ok (.iconst 0, 1) := by decide +kernel
theorem dX2_init_6 : decode cX2_init 6 = .ok (.putfield 9, 3) := by decide +kernel
theorem dX2_init_9 : decode cX2_init 9 = .ok (.aload_n 0, 1) := by decide +kernel
theorem dX2_init_10 : decode cX2_init 10 = .ok (.bipush 60, 2) := by decide +kernel
theorem dX2_init_12 : decode cX2_init 12 = .ok (.newarray .int, 2) := by decide +kernel
theorem dX2_init_14 : decode cX2_init 14 = .ok (.putfield 15, 3) := by decide +kernel
theorem dX2_init_17 : decode cX2_init 17 = .ok (.aload_n 0, 1) := by decide +kernel
theorem dX2_init_18 : decode cX2_init 18 = .ok (.bipush 60, 2) := by decide +kernel
theorem dX2_init_20 : decode cX2_init 20 = .ok (.newarray .int, 2) := by decide +kernel
theorem dX2_init_22 : decode cX2_init 22 = .ok (.putfield 19, 3) := by decide +kernel
theorem dX2_init_25 : decode cX2_init 25 = .ok (.aload_n 0, 1) := by decide +kernel
theorem dX2_init_26 : decode cX2_init 26 = .ok (.bipush 60, 2) := by decide +kernel
theorem dX2_init_28 : decode cX2_init 28 = .ok (.newarray .int, 2) := by decide +kernel
theorem dX2_init_30 : decode cX2_init 30 = .ok (.putfield 22, 3) := by decide +kernel
theorem dX2_init_33 : decode cX2_init 33 = .ok (.aload_n 0, 1) := by decide +kernel
theorem dX2_init_34 : decode cX2_init 34 = .ok (.bipush 60, 2) := by decide +kernel
theorem dX2_init_36 : decode cX2_init 36 = .ok (.newarray .int, 2) := by decide +kernel
theorem dX2_init_38 : decode cX2_init 38 = .ok (.putfield 25, 3) := by decide +kernel
theorem dX2_init_41 : decode cX2_init 41 = .ok (.aload_n 0, 1) := by decide +kernel
theorem dX2_init_42 : decode cX2_init 42 = .ok (.bipush 60, 2) := by decide +kernel
theorem dX2_init_44 : decode cX2_init 44 = .ok (.newarray .int, 2) := by decide +kernel
theorem dX2_init_46 : decode cX2_init 46 = .ok (.putfield 28, 3) := by decide +kernel
theorem dX2_init_49 : decode cX2_init 49 = .ok (.return_, 1) := by decide +kernel
theorem dX2_append_0 : decode cX2_append 0 = .ok (.aload_n 0, 1) := by decide +kernel
theorem dX2_append_1 : decode cX2_append 1 = .ok (.getfield 15, 3) := by decide +kernel
theorem dX2_append_4 : decode cX2_append 4 = .ok (.aload_n 0, 1) := by decide +kernel
theorem dX2_append_5 : decode cX2_append 5 = .ok (.getfield 9, 3) := by decide +kernel
theorem dX2_append_8 : decode cX2_append 8 = .ok (.iload_n 1, 1) := by decide +kernel
theorem dX2_append_9 : decode cX2_append 9 = .ok (.iastore, 1) := by decide +kernel
theorem dX2_append_10 : decode cX2_append 10 = .ok (.aload_n 0, 1) := by decide +kernel
theorem dX2_append_11 : decode cX2_append 11 = .ok (.getfield 19, 3) := by decide +kernel
theorem dX2_append_14 : decode cX2_append 14 = .ok (.aload_n 0, 1) := by decide +kernel
theorem dX2_append_15 : decode cX2_append 15 = .ok (.getfield 9, 3) := by decide +kernel
theorem dX2_append_18 : decode cX2_append 18 = .ok (.iload_n 2, 1) := by decide +kernel
theorem dX2_append_19 : decode cX2_append 19 = .ok (.iastore, 1) := by decide +kernel
theorem dX2_append_20 : decode cX2_append 20 = .ok (.aload_n 0, 1) := by decide +kernel
theorem dX2_append_21 : decode cX2_append 21 = .ok (.getfield 22, 3) := by decide +kernel
theorem dX2_append_24 : decode cX2_append 24 = .ok (.aload_n 0, 1) := by decide +kernel
theorem dX2_append_25 : decode cX2_append 25 = .ok (.getfield 9, 3) := by decide +kernel
theorem dX2_append_28 : decode cX2_append 28 = .ok (.iload_n 3, 1) := by decide +kernel
theorem dX2_append_29 : decode cX2_append 29 = .ok (.iastore, 1) := by decide +kernel
theorem dX2_append_30 : decode cX2_append 30 = .ok (.aload_n 0, 1) := by decide +kernel
theorem dX2_append_31 : decode cX2_append 31 = .ok (.getfield 25, 3) := by decide +kernel
theorem dX2_append_34 : decode cX2_append 34 = .ok (.aload_n 0, 1) := by decide +kernel
theorem dX2_append_35 : decode cX2_append 35 = .ok (.getfield 9, 3) := by decide +kernel
theorem dX2_append_38 : decode cX2_append 38 = .ok (.iload 4, 2) := by decide +kernel
theorem dX2_append_40 : decode cX2_append 40 = .ok (.iastore, 1) := by decide +kernel
theorem dX2_append_41 : decode cX2_append 41 = .ok (.aload_n 0, 1) := by decide +kernel
theorem dX2_append_42 : decode cX2_append 42 = .ok (.getfield 28, 3) := by decide +kernel
theorem dX2_append_45 : decode cX2_append 45 = .ok (.aload_n 0, 1) := by decide +kernel
theorem dX2_append_46 : decode cX2_append 46 = .ok (.getfield 9, 3) := by decide +kernel
theorem dX2_append_49 : decode cX2_append 49 = .ok (.iload 5, 2) := by decide +kernel
theorem dX2_append_51 : decode cX2_append 51 = .ok (.iastore, 1) := by decide +kernel
theorem dX2_append_52 : decode cX2_append 52 = .ok (.aload_n 0, 1) := by decide +kernel
theorem dX2_append_53 : decode cX2_append 53 = .ok (.aload_n 0, 1) := by decide +kernel
theorem dX2_append_54 : decode cX2_append 54 = .ok (.getfield 9, 3) := by decide +kernel
theorem dX2_append_57 : decode cX2_append 57 = .ok (.iconst 1, 1) := by decide +kernel
theorem dX2_append_58 : decode cX2_append 58 = .ok (.iadd, 1) := by decide +kernel
theorem dX2_append_59 : decode cX2_append 59 = .ok (.putfield 9, 3) := by decide +kernel
theorem dX2_append_62 : decode cX2_append 62 = .ok (.return_, 1) := by decide +kernel
theorem dX2_tradersWith_0 : decode cX2_tradersWith 0 = .ok (.iconst 0, 1) := by decide +kernel
theorem dX2_tradersWith_1 : decode cX2_tradersWith 1 = .ok (.istore 4, 2) := by decide +kernel
theorem dX2_tradersWith_3 : decode cX2_tradersWith 3 = .ok (.iconst 0, 1) := by decide +kernel
theorem dX2_tradersWith_4 : decode cX2_tradersWith 4 = .ok (.istore 5, 2) := by decide +kernel
theorem dX2_tradersWith_6 : decode cX2_tradersWith 6 = .ok (.iload 5, 2) := by decide +kernel
theorem dX2_tradersWith_8 : decode cX2_tradersWith 8 = .ok (.aload_n 0, 1) := by decide +kernel
theorem dX2_tradersWith_9 : decode cX2_tradersWith 9 = .ok (.getfield 9, 3) := by decide +kernel
theorem dX2_tradersWith_12 : decode cX2_tradersWith 12 = .ok (.if_icmp .ge 79, 3) := by decide +kernel
theorem dX2_tradersWith_15 : decode cX2_tradersWith 15 = .ok (.aload_n 0, 1) := by decide +kernel
theorem dX2_tradersWith_16 : decode cX2_tradersWith 16 = .ok (.getfield 22, 3) := by decide +kernel
theorem dX2_tradersWith_19 : decode cX2_tradersWith 19 = .ok (.iload 5, 2) := by decide +kernel
theorem dX2_tradersWith_21 : decode cX2_tradersWith 21 = .ok (.iaload, 1) := by decide +kernel
theorem dX2_tradersWith_22 : decode cX2_tradersWith 22 = .ok (.iconst (-1), 1) := by decide +kernel
theorem dX2_tradersWith_23 : decode cX2_tradersWith 23 = .ok (.if_icmp .eq 14, 3) := by decide +kernel
theorem dX2_tradersWith_26 : decode cX2_tradersWith 26 = .ok (.aload_n 0, 1) := by decide +kernel
theorem dX2_tradersWith_27 : decode cX2_tradersWith 27 = .ok (.getfield 22, 3) := by decide +kernel
theorem dX2_tradersWith_30 : decode cX2_tradersWith 30 = .ok (.iload 5, 2) := by decide +kernel
theorem dX2_tradersWith_32 : decode cX2_tradersWith 32 = .ok (.iaload, 1) := by decide +kernel
theorem dX2_tradersWith_33 : decode cX2_tradersWith 33 = .ok (.iload_n 2, 1) := by decide +kernel
theorem dX2_tradersWith_34 : decode cX2_tradersWith 34 = .ok (.if_icmp .ne 7, 3) := by decide +kernel
theorem dX2_tradersWith_37 : decode cX2_tradersWith 37 = .ok (.iconst 1, 1) := by decide +kernel
theorem dX2_tradersWith_38 : decode cX2_tradersWith 38 = .ok (.goto 4, 3) := by decide +kernel
theorem dX2_tradersWith_41 : decode cX2_tradersWith 41 = .ok (.iconst 0, 1) := by decide +kernel
theorem dX2_tradersWith_42 : decode cX2_tradersWith 42 = .ok (.istore 6, 2) := by decide +kernel
theorem dX2_tradersWith_44 : decode cX2_tradersWith 44 = .ok (.aload_n 0, 1) := by decide +kernel
theorem dX2_tradersWith_45 : decode cX2_tradersWith 45 = .ok (.getfield 19, 3) := by decide +kernel
theorem dX2_tradersWith_48 : decode cX2_tradersWith 48 = .ok (.iload 5, 2) := by decide +kernel
theorem dX2_tradersWith_50 : decode cX2_tradersWith 50 = .ok (.iaload, 1) := by decide +kernel
theorem dX2_tradersWith_51 : decode cX2_tradersWith 51 = .ok (.iload_n 1, 1) := by decide +kernel
theorem dX2_tradersWith_52 : decode cX2_tradersWith 52 = .ok (.if_icmp .ne 33, 3) := by decide +kernel
theorem dX2_tradersWith_55 : decode cX2_tradersWith 55 = .ok (.iload 6, 2) := by decide +kernel
theorem dX2_tradersWith_57 : decode cX2_tradersWith 57 = .ok (.ifCond .eq 28, 3) := by decide +kernel
theorem dX2_tradersWith_60 : decode cX2_tradersWith 60 = .ok (.aload_n 0, 1) := by decide +kernel
theorem dX2_tradersWith_61 : decode cX2_tradersWith 61 = .ok (.iload 5, 2) := by decide +kernel
theorem dX2_tradersWith_63 : decode cX2_tradersWith 63 = .ok (.iload_n 3, 1) := by decide +kernel
theorem dX2_tradersWith_64 : decode cX2_tradersWith 64 = .ok (.invokevirtual 31, 3) := by decide +kernel
theorem dX2_tradersWith_67 : decode cX2_tradersWith 67 = .ok (.ifCond .eq 18, 3) := by decide +kernel
theorem dX2_tradersWith_70 : decode cX2_tradersWith 70 = .ok (.iload 4, 2) := by decide +kernel
theorem dX2_tradersWith_72 : decode cX2_tradersWith 72 = .ok (.aload_n 0, 1) := by decide +kernel
theorem dX2_tradersWith_73 : decode cX2_tradersWith 73 = .ok (.getfield 15, 3) := by decide +kernel
theorem dX2_tradersWith_76 : decode cX2_tradersWith 76 = .ok (.iload 5, 2) := by decide +kernel
theorem dX2_tradersWith_78 : decode cX2_tradersWith 78 = .ok (.iaload, 1) := by decide +kernel
theorem dX2_tradersWith_79 : decode cX2_tradersWith 79 = .ok (.invokestatic 35, 3) := by decide +kernel
theorem dX2_tradersWith_82 : decode cX2_tradersWith 82 = .ok (.ior, 1) := by decide +kernel
theorem dX2_tradersWith_83 : decode cX2_tradersWith 83 = .ok (.istore 4, 2) := by decide +kernel
theorem dX2_tradersWith_85 : decode cX2_tradersWith 85 = .ok (.iinc 5 1, 3) := by decide +kernel
theorem dX2_tradersWith_88 : decode cX2_tradersWith 88 = .ok (.goto (-82), 3) := by decide +kernel
theorem dX2_tradersWith_91 : decode cX2_tradersWith 91 = .ok (.iload 4, 2) := by decide +kernel
theorem dX2_tradersWith_93 : decode cX2_tradersWith 93 = .ok (.ireturn, 1) := by decide +kernel
theorem dX2_actsOf_0 : decode cX2_actsOf 0 = .ok (.iconst 0, 1) := by decide +kernel
theorem dX2_actsOf_1 : decode cX2_actsOf 1 = .ok (.istore_n 3, 1) := by decide +kernel
theorem dX2_actsOf_2 : decode cX2_actsOf 2 = .ok (.iconst 0, 1) := by decide +kernel
theorem dX2_actsOf_3 : decode cX2_actsOf 3 = .ok (.istore 4, 2) := by decide +kernel
theorem dX2_actsOf_5 : decode cX2_actsOf 5 = .ok (.iload 4, 2) := by decide +kernel
theorem dX2_actsOf_7 : decode cX2_actsOf 7 = .ok (.aload_n 0, 1) := by decide +kernel
theorem dX2_actsOf_8 : decode cX2_actsOf 8 = .ok (.getfield 9, 3) := by decide +kernel
theorem dX2_actsOf_11 : decode cX2_actsOf 11 = .ok (.if_icmp .ge 46, 3) := by decide +kernel
theorem dX2_actsOf_14 : decode cX2_actsOf 14 = .ok (.iload_n 1, 1) := by decide +kernel
theorem dX2_actsOf_15 : decode cX2_actsOf 15 = .ok (.aload_n 0, 1) := by decide +kernel
theorem dX2_actsOf_16 : decode cX2_actsOf 16 = .ok (.getfield 15, 3) := by decide +kernel
theorem dX2_actsOf_19 : decode cX2_actsOf 19 = .ok (.iload 4, 2) := by decide +kernel
theorem dX2_actsOf_21 : decode cX2_actsOf 21 = .ok (.iaload, 1) := by decide +kernel
theorem dX2_actsOf_22 : decode cX2_actsOf 22 = .ok (.invokestatic 39, 3) := by decide +kernel
theorem dX2_actsOf_25 : decode cX2_actsOf 25 = .ok (.ifCond .eq 26, 3) := by decide +kernel
theorem dX2_actsOf_28 : decode cX2_actsOf 28 = .ok (.aload_n 0, 1) := by decide +kernel
theorem dX2_actsOf_29 : decode cX2_actsOf 29 = .ok (.iload 4, 2) := by decide +kernel
theorem dX2_actsOf_31 : decode cX2_actsOf 31 = .ok (.iload_n 2, 1) := by decide +kernel
theorem dX2_actsOf_32 : decode cX2_actsOf 32 = .ok (.invokevirtual 31, 3) := by decide +kernel
theorem dX2_actsOf_35 : decode cX2_actsOf 35 = .ok (.ifCond .eq 16, 3) := by decide +kernel
theorem dX2_actsOf_38 : decode cX2_actsOf 38 = .ok (.iload_n 3, 1) := by decide +kernel
theorem dX2_actsOf_39 : decode cX2_actsOf 39 = .ok (.aload_n 0, 1) := by decide +kernel
theorem dX2_actsOf_40 : decode cX2_actsOf 40 = .ok (.getfield 19, 3) := by decide +kernel
theorem dX2_actsOf_43 : decode cX2_actsOf 43 = .ok (.iload 4, 2) := by decide +kernel
theorem dX2_actsOf_45 : decode cX2_actsOf 45 = .ok (.iaload, 1) := by decide +kernel
theorem dX2_actsOf_46 : decode cX2_actsOf 46 = .ok (.invokestatic 35, 3) := by decide +kernel
theorem dX2_actsOf_49 : decode cX2_actsOf 49 = .ok (.ior, 1) := by decide +kernel
theorem dX2_actsOf_50 : decode cX2_actsOf 50 = .ok (.istore_n 3, 1) := by decide +kernel
theorem dX2_actsOf_51 : decode cX2_actsOf 51 = .ok (.iinc 4 1, 3) := by decide +kernel
theorem dX2_actsOf_54 : decode cX2_actsOf 54 = .ok (.goto (-49), 3) := by decide +kernel
theorem dX2_actsOf_57 : decode cX2_actsOf 57 = .ok (.iload_n 3, 1) := by decide +kernel
theorem dX2_actsOf_58 : decode cX2_actsOf 58 = .ok (.ireturn, 1) := by decide +kernel
theorem dX2_isOnDay_0 : decode cX2_isOnDay 0 = .ok (.aload_n 0, 1) := by decide +kernel
theorem dX2_isOnDay_1 : decode cX2_isOnDay 1 = .ok (.getfield 25, 3) := by decide +kernel
theorem dX2_isOnDay_4 : decode cX2_isOnDay 4 = .ok (.iload_n 1, 1) := by decide +kernel
theorem dX2_isOnDay_5 : decode cX2_isOnDay 5 = .ok (.iaload, 1) := by decide +kernel
theorem dX2_isOnDay_6 : decode cX2_isOnDay 6 = .ok (.iload_n 2, 1) := by decide +kernel
theorem dX2_isOnDay_7 : decode cX2_isOnDay 7 = .ok (.if_icmp .gt 17, 3) := by decide +kernel
theorem dX2_isOnDay_10 : decode cX2_isOnDay 10 = .ok (.iload_n 2, 1) := by decide +kernel
theorem dX2_isOnDay_11 : decode cX2_isOnDay 11 = .ok (.aload_n 0, 1) := by decide +kernel
theorem dX2_isOnDay_12 : decode cX2_isOnDay 12 = .ok (.getfield 28, 3) := by decide +kernel
theorem dX2_isOnDay_15 : decode cX2_isOnDay 15 = .ok (.iload_n 1, 1) := by decide +kernel
theorem dX2_isOnDay_16 : decode cX2_isOnDay 16 = .ok (.iaload, 1) := by decide +kernel
theorem dX2_isOnDay_17 : decode cX2_isOnDay 17 = .ok (.if_icmp .gt 7, 3) := by decide +kernel
theorem dX2_isOnDay_20 : decode cX2_isOnDay 20 = .ok (.iconst 1, 1) := by decide +kernel
theorem dX2_isOnDay_21 : decode cX2_isOnDay 21 = .ok (.goto 4, 3) := by decide +kernel
theorem dX2_isOnDay_24 : decode cX2_isOnDay 24 = .ok (.iconst 0, 1) := by decide +kernel
theorem dX2_isOnDay_25 : decode cX2_isOnDay 25 = .ok (.ireturn, 1) := by decide +kernel
theorem dX3_init_0 : decode cX3_init 0 = .ok (.aload_n 0, 1) := by decide +kernel
theorem dX3_init_1 : decode cX3_init 1 = .ok (.invokespecial 3, 3) := by decide +kernel
theorem dX3_init_4 : decode cX3_init 4 = .ok (.aload_n 0, 1) := by decide +kernel
theorem dX3_init_5 : decode cX3_init 5 = .ok (.iconst 0, 1) := by decide +kernel
theorem dX3_init_6 : decode cX3_init 6 = .ok (.putfield 9, 3) := by decide +kernel
theorem dX3_init_9 : decode cX3_init 9 = .ok (.aload_n 0, 1) := by decide +kernel
theorem dX3_init_10 : decode cX3_init 10 = .ok (.bipush 60, 2) := by decide +kernel
theorem dX3_init_12 : decode cX3_init 12 = .ok (.newarray .int, 2) := by decide +kernel
theorem dX3_init_14 : decode cX3_init 14 = .ok (.putfield 15, 3) := by decide +kernel
theorem dX3_init_17 : decode cX3_init 17 = .ok (.aload_n 0, 1) := by decide +kernel
theorem dX3_init_18 : decode cX3_init 18 = .ok (.bipush 60, 2) := by decide +kernel
theorem dX3_init_20 : decode cX3_init 20 = .ok (.newarray .int, 2) := by decide +kernel
theorem dX3_init_22 : decode cX3_init 22 = .ok (.putfield 19, 3) := by decide +kernel
theorem dX3_init_25 : decode cX3_init 25 = .ok (.aload_n 0, 1) := by decide +kernel
theorem dX3_init_26 : decode cX3_init 26 = .ok (.bipush 60, 2) := by decide +kernel
theorem dX3_init_28 : decode cX3_init 28 = .ok (.newarray .boolean, 2) := by decide +kernel
theorem dX3_init_30 : decode cX3_init 30 = .ok (.putfield 22, 3) := by decide +kernel
theorem dX3_init_33 : decode cX3_init 33 = .ok (.return_, 1) := by decide +kernel
theorem dX3_append_0 : decode cX3_append 0 = .ok (.aload_n 0, 1) := by decide +kernel
theorem dX3_append_1 : decode cX3_append 1 = .ok (.getfield 15, 3) := by decide +kernel
theorem dX3_append_4 : decode cX3_append 4 = .ok (.aload_n 0, 1) := by decide +kernel
theorem dX3_append_5 : decode cX3_append 5 = .ok (.getfield 9, 3) := by decide +kernel
theorem dX3_append_8 : decode cX3_append 8 = .ok (.iload_n 1, 1) := by decide +kernel
theorem dX3_append_9 : decode cX3_append 9 = .ok (.iastore, 1) := by decide +kernel
theorem dX3_append_10 : decode cX3_append 10 = .ok (.aload_n 0, 1) := by decide +kernel
theorem dX3_append_11 : decode cX3_append 11 = .ok (.getfield 19, 3) := by decide +kernel
theorem dX3_append_14 : decode cX3_append 14 = .ok (.aload_n 0, 1) := by decide +kernel
theorem dX3_append_15 : decode cX3_append 15 = .ok (.getfield 9, 3) := by decide +kernel
theorem dX3_append_18 : decode cX3_append 18 = .ok (.iload_n 2, 1) := by decide +kernel
theorem dX3_append_19 : decode cX3_append 19 = .ok (.iastore, 1) := by decide +kernel
theorem dX3_append_20 : decode cX3_append 20 = .ok (.aload_n 0, 1) := by decide +kernel
theorem dX3_append_21 : decode cX3_append 21 = .ok (.getfield 22, 3) := by decide +kernel
theorem dX3_append_24 : decode cX3_append 24 = .ok (.aload_n 0, 1) := by decide +kernel
theorem dX3_append_25 : decode cX3_append 25 = .ok (.getfield 9, 3) := by decide +kernel
theorem dX3_append_28 : decode cX3_append 28 = .ok (.iload_n 3, 1) := by decide +kernel
theorem dX3_append_29 : decode cX3_append 29 = .ok (.bastore, 1) := by decide +kernel
theorem dX3_append_30 : decode cX3_append 30 = .ok (.aload_n 0, 1) := by decide +kernel
theorem dX3_append_31 : decode cX3_append 31 = .ok (.aload_n 0, 1) := by decide +kernel
theorem dX3_append_32 : decode cX3_append 32 = .ok (.getfield 9, 3) := by decide +kernel
theorem dX3_append_35 : decode cX3_append 35 = .ok (.iconst 1, 1) := by decide +kernel
theorem dX3_append_36 : decode cX3_append 36 = .ok (.iadd, 1) := by decide +kernel
theorem dX3_append_37 : decode cX3_append 37 = .ok (.putfield 9, 3) := by decide +kernel
theorem dX3_append_40 : decode cX3_append 40 = .ok (.return_, 1) := by decide +kernel
theorem dX3_isOn_0 : decode cX3_isOn 0 = .ok (.iconst 0, 1) := by decide +kernel
theorem dX3_isOn_1 : decode cX3_isOn 1 = .ok (.istore_n 3, 1) := by decide +kernel
theorem dX3_isOn_2 : decode cX3_isOn 2 = .ok (.iconst (-1), 1) := by decide +kernel
theorem dX3_isOn_3 : decode cX3_isOn 3 = .ok (.istore 4, 2) := by decide +kernel
theorem dX3_isOn_5 : decode cX3_isOn 5 = .ok (.iconst 0, 1) := by decide +kernel
theorem dX3_isOn_6 : decode cX3_isOn 6 = .ok (.istore 5, 2) := by decide +kernel
theorem dX3_isOn_8 : decode cX3_isOn 8 = .ok (.iload 5, 2) := by decide +kernel
theorem dX3_isOn_10 : decode cX3_isOn 10 = .ok (.aload_n 0, 1) := by decide +kernel
theorem dX3_isOn_11 : decode cX3_isOn 11 = .ok (.getfield 9, 3) := by decide +kernel
theorem dX3_isOn_14 : decode cX3_isOn 14 = .ok (.if_icmp .ge 60, 3) := by decide +kernel
theorem dX3_isOn_17 : decode cX3_isOn 17 = .ok (.aload_n 0, 1) := by decide +kernel
theorem dX3_isOn_18 : decode cX3_isOn 18 = .ok (.getfield 15, 3) := by decide +kernel
theorem dX3_isOn_21 : decode cX3_isOn 21 = .ok (.iload 5, 2) := by decide +kernel
theorem dX3_isOn_23 : decode cX3_isOn 23 = .ok (.iaload, 1) := by decide +kernel
theorem dX3_isOn_24 : decode cX3_isOn 24 = .ok (.iload_n 1, 1) := by decide +kernel
theorem dX3_isOn_25 : decode cX3_isOn 25 = .ok (.if_icmp .ne 43, 3) := by decide +kernel
theorem dX3_isOn_28 : decode cX3_isOn 28 = .ok (.aload_n 0, 1) := by decide +kernel
theorem dX3_isOn_29 : decode cX3_isOn 29 = .ok (.getfield 19, 3) := by decide +kernel
theorem dX3_isOn_32 : decode cX3_isOn 32 = .ok (.iload 5, 2) := by decide +kernel
theorem dX3_isOn_34 : decode cX3_isOn 34 = .ok (.iaload, 1) := by decide +kernel
theorem dX3_isOn_35 : decode cX3_isOn 35 = .ok (.iload_n 2, 1) := by decide +kernel
theorem dX3_isOn_36 : decode cX3_isOn 36 = .ok (.if_icmp .gt 32, 3) := by decide +kernel
theorem dX3_isOn_39 : decode cX3_isOn 39 = .ok (.aload_n 0, 1) := by decide +kernel
theorem dX3_isOn_40 : decode cX3_isOn 40 = .ok (.getfield 19, 3) := by decide +kernel
theorem dX3_isOn_43 : decode cX3_isOn 43 = .ok (.iload 5, 2) := by decide +kernel
theorem dX3_isOn_45 : decode cX3_isOn 45 = .ok (.iaload, 1) := by decide +kernel
theorem dX3_isOn_46 : decode cX3_isOn 46 = .ok (.iload 4, 2) := by decide +kernel
theorem dX3_isOn_48 : decode cX3_isOn 48 = .ok (.if_icmp .lt 20, 3) := by decide +kernel
theorem dX3_isOn_51 : decode cX3_isOn 51 = .ok (.aload_n 0, 1) := by decide +kernel
theorem dX3_isOn_52 : decode cX3_isOn 52 = .ok (.getfield 19, 3) := by decide +kernel
theorem dX3_isOn_55 : decode cX3_isOn 55 = .ok (.iload 5, 2) := by decide +kernel
theorem dX3_isOn_57 : decode cX3_isOn 57 = .ok (.iaload, 1) := by decide +kernel
theorem dX3_isOn_58 : decode cX3_isOn 58 = .ok (.istore 4, 2) := by decide +kernel
theorem dX3_isOn_60 : decode cX3_isOn 60 = .ok (.aload_n 0, 1) := by decide +kernel
theorem dX3_isOn_61 : decode cX3_isOn 61 = .ok (.getfield 22, 3) := by decide +kernel
theorem dX3_isOn_64 : decode cX3_isOn 64 = .ok (.iload 5, 2) := by decide +kernel
theorem dX3_isOn_66 : decode cX3_isOn 66 = .ok (.baload, 1) := by decide +kernel
theorem dX3_isOn_67 : decode cX3_isOn 67 = .ok (.istore_n 3, 1) := by decide +kernel
theorem dX3_isOn_68 : decode cX3_isOn 68 = .ok (.iinc 5 1, 3) := by decide +kernel
theorem dX3_isOn_71 : decode cX3_isOn 71 = .ok (.goto (-63), 3) := by decide +kernel
theorem dX3_isOn_74 : decode cX3_isOn 74 = .ok (.iload_n 3, 1) := by decide +kernel
theorem dX3_isOn_75 : decode cX3_isOn 75 = .ok (.ireturn, 1) := by decide +kernel
theorem dX4_init_0 : decode cX4_init 0 = .ok (.aload_n 0, 1) := by decide +kernel
theorem dX4_init_1 : decode cX4_init 1 = .ok (.invokespecial 1, 3) := by decide +kernel
theorem dX4_init_4 : decode cX4_init 4 = .ok (.aload_n 0, 1) := by decide +kernel
theorem dX4_init_5 : decode cX4_init 5 = .ok (.iconst 0, 1) := by decide +kernel
theorem dX4_init_6 : decode cX4_init 6 = .ok (.putfield 7, 3) := by decide +kernel
theorem dX4_init_9 : decode cX4_init 9 = .ok (.aload_n 0, 1) := by decide +kernel
theorem dX4_init_10 : decode cX4_init 10 = .ok (.iconst 0, 1) := by decide +kernel
theorem dX4_init_11 : decode cX4_init 11 = .ok (.putfield 13, 3) := by decide +kernel
theorem dX4_init_14 : decode cX4_init 14 = .ok (.aload_n 0, 1) := by decide +kernel
theorem dX4_init_15 : decode cX4_init 15 = .ok (.bipush 12, 2) := by decide +kernel
theorem dX4_init_17 : decode cX4_init 17 = .ok (.newarray .int, 2) := by decide +kernel
theorem dX4_init_19 : decode cX4_init 19 = .ok (.putfield 16, 3) := by decide +kernel
theorem dX4_init_22 : decode cX4_init 22 = .ok (.aload_n 0, 1) := by decide +kernel
theorem dX4_init_23 : decode cX4_init 23 = .ok (.bipush 12, 2) := by decide +kernel
theorem dX4_init_25 : decode cX4_init 25 = .ok (.newarray .int, 2) := by decide +kernel
theorem dX4_init_27 : decode cX4_init 27 = .ok (.putfield 20, 3) := by decide +kernel
theorem dX4_init_30 : decode cX4_init 30 = .ok (.aload_n 0, 1) := by decide +kernel
theorem dX4_init_31 : decode cX4_init 31 = .ok (.bipush 12, 2) := by decide +kernel
theorem dX4_init_33 : decode cX4_init 33 = .ok (.newarray .int, 2) := by decide +kernel
theorem dX4_init_35 : decode cX4_init 35 = .ok (.putfield 23, 3) := by decide +kernel
theorem dX4_init_38 : decode cX4_init 38 = .ok (.aload_n 0, 1) := by decide +kernel
theorem dX4_init_39 : decode cX4_init 39 = .ok (.bipush 12, 2) := by decide +kernel
theorem dX4_init_41 : decode cX4_init 41 = .ok (.newarray .int, 2) := by decide +kernel
theorem dX4_init_43 : decode cX4_init 43 = .ok (.putfield 26, 3) := by decide +kernel
theorem dX4_init_46 : decode cX4_init 46 = .ok (.aload_n 0, 1) := by decide +kernel
theorem dX4_init_47 : decode cX4_init 47 = .ok (.bipush 12, 2) := by decide +kernel
theorem dX4_init_49 : decode cX4_init 49 = .ok (.newarray .int, 2) := by decide +kernel
theorem dX4_init_51 : decode cX4_init 51 = .ok (.putfield 29, 3) := by decide +kernel
theorem dX4_init_54 : decode cX4_init 54 = .ok (.aload_n 0, 1) := by decide +kernel
theorem dX4_init_55 : decode cX4_init 55 = .ok (.getfield 23, 3) := by decide +kernel
theorem dX4_init_58 : decode cX4_init 58 = .ok (.iconst (-1), 1) := by decide +kernel
theorem dX4_init_59 : decode cX4_init 59 = .ok (.invokestatic 32, 3) := by decide +kernel
theorem dX4_init_62 : decode cX4_init 62 = .ok (.aload_n 0, 1) := by decide +kernel
theorem dX4_init_63 : decode cX4_init 63 = .ok (.getfield 26, 3) := by decide +kernel
theorem dX4_init_66 : decode cX4_init 66 = .ok (.iconst (-1), 1) := by decide +kernel
theorem dX4_init_67 : decode cX4_init 67 = .ok (.invokestatic 32, 3) := by decide +kernel
theorem dX4_init_70 : decode cX4_init 70 = .ok (.aload_n 0, 1) := by decide +kernel
theorem dX4_init_71 : decode cX4_init 71 = .ok (.getfield 29, 3) := by decide +kernel
theorem dX4_init_74 : decode cX4_init 74 = .ok (.iconst (-1), 1) := by decide +kernel
theorem dX4_init_75 : decode cX4_init 75 = .ok (.invokestatic 32, 3) := by decide +kernel
theorem dX4_init_78 : decode cX4_init 78 = .ok (.aload_n 0, 1) := by decide +kernel
theorem dX4_init_79 : decode cX4_init 79 = .ok (.new 38, 3) := by decide +kernel
theorem dX4_init_82 : decode cX4_init 82 = .ok (.dup, 1) := by decide +kernel
theorem dX4_init_83 : decode cX4_init 83 = .ok (.invokespecial 40, 3) := by decide +kernel
theorem dX4_init_86 : decode cX4_init 86 = .ok (.putfield 41, 3) := by decide +kernel
theorem dX4_init_89 : decode cX4_init 89 = .ok (.aload_n 0, 1) := by decide +kernel
theorem dX4_init_90 : decode cX4_init 90 = .ok (.new 45, 3) := by decide +kernel
theorem dX4_init_93 : decode cX4_init 93 = .ok (.dup, 1) := by decide +kernel
theorem dX4_init_94 : decode cX4_init 94 = .ok (.invokespecial 47, 3) := by decide +kernel
theorem dX4_init_97 : decode cX4_init 97 = .ok (.putfield 48, 3) := by decide +kernel
theorem dX4_init_100 : decode cX4_init 100 = .ok (.aload_n 0, 1) := by decide +kernel
theorem dX4_init_101 : decode cX4_init 101 = .ok (.new 52, 3) := by decide +kernel
theorem dX4_init_104 : decode cX4_init 104 = .ok (.dup, 1) := by decide +kernel
theorem dX4_init_105 : decode cX4_init 105 = .ok (.invokespecial 54, 3) := by decide +kernel
theorem dX4_init_108 : decode cX4_init 108 = .ok (.putfield 55, 3) := by decide +kernel
theorem dX4_init_111 : decode cX4_init 111 = .ok (.aload_n 0, 1) := by decide +kernel
theorem dX4_init_112 : decode cX4_init 112 = .ok (.new 59, 3) := by decide +kernel
theorem dX4_init_115 : decode cX4_init 115 = .ok (.dup, 1) := by decide +kernel
theorem dX4_init_116 : decode cX4_init 116 = .ok (.invokespecial 61, 3) := by decide +kernel
theorem dX4_init_119 : decode cX4_init 119 = .ok (.putfield 62, 3) := by decide +kernel
theorem dX4_init_122 : decode cX4_init 122 = .ok (.return_, 1) := by decide +kernel
theorem dX4_trader_0 : decode cX4_trader 0 = .ok (.aload_n 0, 1) := by decide +kernel
theorem dX4_trader_1 : decode cX4_trader 1 = .ok (.getfield 7, 3) := by decide +kernel
theorem dX4_trader_4 : decode cX4_trader 4 = .ok (.bipush 12, 2) := by decide +kernel
theorem dX4_trader_6 : decode cX4_trader 6 = .ok (.if_icmp .lt 13, 3) := by decide +kernel
theorem dX4_trader_9 : decode cX4_trader 9 = .ok (.new 66, 3) := by decide +kernel
theorem dX4_trader_12 : decode cX4_trader 12 = .ok (.dup, 1) := by decide +kernel
theorem dX4_trader_13 : decode cX4_trader 13 = .ok (.ldc 68, 2) := by decide +kernel
theorem dX4_trader_15 : decode cX4_trader 15 = .ok (.invokespecial 70, 3) := by decide +kernel
theorem dX4_trader_18 : decode cX4_trader 18 = .ok (.athrow, 1) := by decide +kernel
theorem dX4_trader_19 : decode cX4_trader 19 = .ok (.aload_n 0, 1) := by decide +kernel
theorem dX4_trader_20 : decode cX4_trader 20 = .ok (.getfield 7, 3) := by decide +kernel
theorem dX4_trader_23 : decode cX4_trader 23 = .ok (.istore_n 1, 1) := by decide +kernel
theorem dX4_trader_24 : decode cX4_trader 24 = .ok (.aload_n 0, 1) := by decide +kernel
theorem dX4_trader_25 : decode cX4_trader 25 = .ok (.aload_n 0, 1) := by decide +kernel
theorem dX4_trader_26 : decode cX4_trader 26 = .ok (.getfield 7, 3) := by decide +kernel
theorem dX4_trader_29 : decode cX4_trader 29 = .ok (.iconst 1, 1) := by decide +kernel
theorem dX4_trader_30 : decode cX4_trader 30 = .ok (.iadd, 1) := by decide +kernel
theorem dX4_trader_31 : decode cX4_trader 31 = .ok (.putfield 7, 3) := by decide +kernel
theorem dX4_trader_34 : decode cX4_trader 34 = .ok (.iload_n 1, 1) := by decide +kernel
theorem dX4_trader_35 : decode cX4_trader 35 = .ok (.ireturn, 1) := by decide +kernel
theorem dX4_right_0 : decode cX4_right 0 = .ok (.aload_n 0, 1) := by decide +kernel
theorem dX4_right_1 : decode cX4_right 1 = .ok (.iload_n 1, 1) := by decide +kernel
theorem dX4_right_2 : decode cX4_right 2 = .ok (.invokevirtual 73, 3) := by decide +kernel
theorem dX4_right_5 : decode cX4_right 5 = .ok (.ifCond .eq 22, 3) := by decide +kernel
theorem dX4_right_8 : decode cX4_right 8 = .ok (.iload_n 2, 1) := by decide +kernel
theorem dX4_right_9 : decode cX4_right 9 = .ok (.invokestatic 77, 3) := by decide +kernel
theorem dX4_right_12 : decode cX4_right 12 = .ok (.ifCond .eq 15, 3) := by decide +kernel
theorem dX4_right_15 : decode cX4_right 15 = .ok (.iload_n 3, 1) := by decide +kernel
theorem dX4_right_16 : decode cX4_right 16 = .ok (.iconst (-1), 1) := by decide +kernel
theorem dX4_right_17 : decode cX4_right 17 = .ok (.if_icmp .eq 20, 3) := by decide +kernel
theorem dX4_right_20 : decode cX4_right 20 = .ok (.iload_n 3, 1) := by decide +kernel
theorem dX4_right_21 : decode cX4_right 21 = .ok (.invokestatic 80, 3) := by decide +kernel
theorem dX4_right_24 : decode cX4_right 24 = .ok (.ifCond .ne 13, 3) := by decide +kernel
theorem dX4_right_27 : decode cX4_right 27 = .ok (.new 83, 3) := by decide +kernel
theorem dX4_right_30 : decode cX4_right 30 = .ok (.dup, 1) := by decide +kernel
theorem dX4_right_31 : decode cX4_right 31 = .ok (.ldc 85, 2) := by decide +kernel
theorem dX4_right_33 : decode cX4_right 33 = .ok (.invokespecial 87, 3) := by decide +kernel
theorem dX4_right_36 : decode cX4_right 36 = .ok (.athrow, 1) := by decide +kernel
theorem dX4_right_37 : decode cX4_right 37 = .ok (.iload 4, 2) := by decide +kernel
theorem dX4_right_39 : decode cX4_right 39 = .ok (.invokestatic 88, 3) := by decide +kernel
theorem dX4_right_42 : decode cX4_right 42 = .ok (.ifCond .eq 18, 3) := by decide +kernel
theorem dX4_right_45 : decode cX4_right 45 = .ok (.iload 5, 2) := by decide +kernel
theorem dX4_right_47 : decode cX4_right 47 = .ok (.invokestatic 88, 3) := by decide +kernel
theorem dX4_right_50 : decode cX4_right 50 = .ok (.ifCond .eq 10, 3) := by decide +kernel
theorem dX4_right_53 : decode cX4_right 53 = .ok (.iload 4, 2) := by decide +kernel
theorem dX4_right_55 : decode cX4_right 55 = .ok (.iload 5, 2) := by decide +kernel
theorem dX4_right_57 : decode cX4_right 57 = .ok (.if_icmp .le 13, 3) := by decide +kernel
theorem dX4_right_60 : decode cX4_right 60 = .ok (.new 83, 3) := by decide +kernel
theorem dX4_right_63 : decode cX4_right 63 = .ok (.dup, 1) := by decide +kernel
theorem dX4_right_64 : decode cX4_right 64 = .ok (.ldc 91, 2) := by decide +kernel
theorem dX4_right_66 : decode cX4_right 66 = .ok (.invokespecial 87, 3) := by decide +kernel
theorem dX4_right_69 : decode cX4_right 69 = .ok (.athrow, 1) := by decide +kernel
theorem dX4_right_70 : decode cX4_right 70 = .ok (.aload_n 0, 1) := by decide +kernel
theorem dX4_right_71 : decode cX4_right 71 = .ok (.getfield 41, 3) := by decide +kernel
theorem dX4_right_74 : decode cX4_right 74 = .ok (.getfield 93, 3) := by decide +kernel
theorem dX4_right_77 : decode cX4_right 77 = .ok (.bipush 60, 2) := by decide +kernel
theorem dX4_right_79 : decode cX4_right 79 = .ok (.if_icmp .lt 13, 3) := by decide +kernel
theorem dX4_right_82 : decode cX4_right 82 = .ok (.new 66, 3) := by decide +kernel
theorem dX4_right_85 : decode cX4_right 85 = .ok (.dup, 1) := by decide +kernel
theorem dX4_right_86 : decode cX4_right 86 = .ok (.ldc 96, 2) := by decide +kernel
theorem dX4_right_88 : decode cX4_right 88 = .ok (.invokespecial 70, 3) := by decide +kernel
theorem dX4_right_91 : decode cX4_right 91 = .ok (.athrow, 1) := by decide +kernel
theorem dX4_right_92 : decode cX4_right 92 = .ok (.aload_n 0, 1) := by decide +kernel
theorem dX4_right_93 : decode cX4_right 93 = .ok (.getfield 41, 3) := by decide +kernel
theorem dX4_right_96 : decode cX4_right 96 = .ok (.iload_n 1, 1) := by decide +kernel
theorem dX4_right_97 : decode cX4_right 97 = .ok (.iload_n 2, 1) := by decide +kernel
theorem dX4_right_98 : decode cX4_right 98 = .ok (.iload_n 3, 1) := by decide +kernel
theorem dX4_right_99 : decode cX4_right 99 = .ok (.iload 4, 2) := by decide +kernel
theorem dX4_right_101 : decode cX4_right 101 = .ok (.iload 5, 2) := by decide +kernel
theorem dX4_right_103 : decode cX4_right 103 = .ok (.invokevirtual 98, 3) := by decide +kernel
theorem dX4_right_106 : decode cX4_right 106 = .ok (.aload_n 0, 1) := by decide +kernel
theorem dX4_right_107 : decode cX4_right 107 = .ok (.getfield 41, 3) := by decide +kernel
theorem dX4_right_110 : decode cX4_right 110 = .ok (.getfield 93, 3) := by decide +kernel
theorem dX4_right_113 : decode cX4_right 113 = .ok (.ireturn, 1) := by decide +kernel
theorem dX4_forbid_0 : decode cX4_forbid 0 = .ok (.aload_n 0, 1) := by decide +kernel
theorem dX4_forbid_1 : decode cX4_forbid 1 = .ok (.iload_n 1, 1) := by decide +kernel
theorem dX4_forbid_2 : decode cX4_forbid 2 = .ok (.invokevirtual 73, 3) := by decide +kernel
theorem dX4_forbid_5 : decode cX4_forbid 5 = .ok (.ifCond .eq 20, 3) := by decide +kernel
theorem dX4_forbid_8 : decode cX4_forbid 8 = .ok (.iload_n 2, 1) := by decide +kernel
theorem dX4_forbid_9 : decode cX4_forbid 9 = .ok (.invokestatic 77, 3) := by decide +kernel
theorem dX4_forbid_12 : decode cX4_forbid 12 = .ok (.ifCond .eq 13, 3) := by decide +kernel
theorem dX4_forbid_15 : decode cX4_forbid 15 = .ok (.aload_n 0, 1) := by decide +kernel
theorem dX4_forbid_16 : decode cX4_forbid 16 = .ok (.iload_n 1, 1) := by decide +kernel
theorem dX4_forbid_17 : decode cX4_forbid 17 = .ok (.iload_n 2, 1) := by decide +kernel
theorem dX4_forbid_18 : decode cX4_forbid 18 = .ok (.invokevirtual 102, 3) := by decide +kernel
theorem dX4_forbid_21 : decode cX4_forbid 21 = .ok (.iload_n 3, 1) := by decide +kernel
theorem dX4_forbid_22 : decode cX4_forbid 22 = .ok (.if_icmp .ne 5, 3) := by decide +kernel
theorem dX4_forbid_25 : decode cX4_forbid 25 = .ok (.iconst 0, 1) := by decide +kernel
theorem dX4_forbid_26 : decode cX4_forbid 26 = .ok (.ireturn, 1) := by decide +kernel
theorem dX4_forbid_27 : decode cX4_forbid 27 = .ok (.aload_n 0, 1) := by decide +kernel
theorem dX4_forbid_28 : decode cX4_forbid 28 = .ok (.getfield 20, 3) := by decide +kernel
theorem dX4_forbid_31 : decode cX4_forbid 31 = .ok (.iload_n 1, 1) := by decide +kernel
theorem dX4_forbid_32 : decode cX4_forbid 32 = .ok (.aload_n 0, 1) := by decide +kernel
theorem dX4_forbid_33 : decode cX4_forbid 33 = .ok (.getfield 20, 3) := by decide +kernel
theorem dX4_forbid_36 : decode cX4_forbid 36 = .ok (.iload_n 1, 1) := by decide +kernel
theorem dX4_forbid_37 : decode cX4_forbid 37 = .ok (.iaload, 1) := by decide +kernel
theorem dX4_forbid_38 : decode cX4_forbid 38 = .ok (.iload_n 2, 1) := by decide +kernel
theorem dX4_forbid_39 : decode cX4_forbid 39 = .ok (.invokestatic 106, 3) := by decide +kernel
theorem dX4_forbid_42 : decode cX4_forbid 42 = .ok (.ixor, 1) := by decide +kernel
theorem dX4_forbid_43 : decode cX4_forbid 43 = .ok (.iastore, 1) := by decide +kernel
theorem dX4_forbid_44 : decode cX4_forbid 44 = .ok (.iconst 1, 1) := by decide +kernel
theorem dX4_forbid_45 : decode cX4_forbid 45 = .ok (.ireturn, 1) := by decide +kernel
theorem dX4_group_0 : decode cX4_group 0 = .ok (.aload_n 0, 1) := by decide +kernel
theorem dX4_group_1 : decode cX4_group 1 = .ok (.iload_n 1, 1) := by decide +kernel
theorem dX4_group_2 : decode cX4_group 2 = .ok (.iload_n 2, 1) := by decide +kernel
theorem dX4_group_3 : decode cX4_group 3 = .ok (.invokevirtual 110, 3) := by decide +kernel
theorem dX4_group_6 : decode cX4_group 6 = .ok (.ifCond .ne 13, 3) := by decide +kernel
theorem dX4_group_9 : decode cX4_group 9 = .ok (.new 83, 3) := by decide +kernel
theorem dX4_group_12 : decode cX4_group 12 = .ok (.dup, 1) := by decide +kernel
theorem dX4_group_13 : decode cX4_group 13 = .ok (.ldc 113, 2) := by decide +kernel
theorem dX4_group_15 : decode cX4_group 15 = .ok (.invokespecial 87, 3) := by decide +kernel
theorem dX4_group_18 : decode cX4_group 18 = .ok (.athrow, 1) := by decide +kernel
theorem dX4_group_19 : decode cX4_group 19 = .ok (.aload_n 0, 1) := by decide +kernel
theorem dX4_group_20 : decode cX4_group 20 = .ok (.getfield 16, 3) := by decide +kernel
theorem dX4_group_23 : decode cX4_group 23 = .ok (.iload_n 1, 1) := by decide +kernel
theorem dX4_group_24 : decode cX4_group 24 = .ok (.iaload, 1) := by decide +kernel
theorem dX4_group_25 : decode cX4_group 25 = .ok (.istore_n 3, 1) := by decide +kernel
theorem dX4_group_26 : decode cX4_group 26 = .ok (.aload_n 0, 1) := by decide +kernel
theorem dX4_group_27 : decode cX4_group 27 = .ok (.iload_n 2, 1) := by decide +kernel
theorem dX4_group_28 : decode cX4_group 28 = .ok (.aload_n 0, 1) := by decide +kernel
theorem dX4_group_29 : decode cX4_group 29 = .ok (.invokevirtual 115, 3) := by decide +kernel
theorem dX4_group_32 : decode cX4_group 32 = .ok (.invokevirtual 119, 3) := by decide +kernel
theorem dX4_group_35 : decode cX4_group 35 = .ok (.iload_n 1, 1) := by decide +kernel
theorem dX4_group_36 : decode cX4_group 36 = .ok (.invokestatic 123, 3) := by decide +kernel
theorem dX4_group_39 : decode cX4_group 39 = .ok (.istore 4, 2) := by decide +kernel
theorem dX4_group_41 : decode cX4_group 41 = .ok (.iload_n 3, 1) := by decide +kernel
theorem dX4_group_42 : decode cX4_group 42 = .ok (.iload_n 2, 1) := by decide +kernel
theorem dX4_group_43 : decode cX4_group 43 = .ok (.invokestatic 123, 3) := by decide +kernel
theorem dX4_group_46 : decode cX4_group 46 = .ok (.ifCond .ne 16, 3) := by decide +kernel
theorem dX4_group_49 : decode cX4_group 49 = .ok (.iload 4, 2) := by decide +kernel
theorem dX4_group_51 : decode cX4_group 51 = .ok (.ifCond .ne 11, 3) := by decide +kernel
theorem dX4_group_54 : decode cX4_group 54 = .ok (.iload_n 3, 1) := by decide +kernel
theorem dX4_group_55 : decode cX4_group 55 = .ok (.invokestatic 126, 3) := by decide +kernel
theorem dX4_group_58 : decode cX4_group 58 = .ok (.iconst 4, 1) := by decide +kernel
theorem dX4_group_59 : decode cX4_group 59 = .ok (.if_icmp .lt 5, 3) := by decide +kernel
theorem dX4_group_62 : decode cX4_group 62 = .ok (.iconst 0, 1) := by decide +kernel
theorem dX4_group_63 : decode cX4_group 63 = .ok (.ireturn, 1) := by decide +kernel
theorem dX4_group_64 : decode cX4_group 64 = .ok (.aload_n 0, 1) := by decide +kernel
theorem dX4_group_65 : decode cX4_group 65 = .ok (.getfield 16, 3) := by decide +kernel
theorem dX4_group_68 : decode cX4_group 68 = .ok (.iload_n 1, 1) := by decide +kernel
theorem dX4_group_69 : decode cX4_group 69 = .ok (.iload_n 3, 1) := by decide +kernel
theorem dX4_group_70 : decode cX4_group 70 = .ok (.iload_n 2, 1) := by decide +kernel
theorem dX4_group_71 : decode cX4_group 71 = .ok (.invokestatic 106, 3) := by decide +kernel
theorem dX4_group_74 : decode cX4_group 74 = .ok (.ior, 1) := by decide +kernel
theorem dX4_group_75 : decode cX4_group 75 = .ok (.iastore, 1) := by decide +kernel
theorem dX4_group_76 : decode cX4_group 76 = .ok (.iconst 1, 1) := by decide +kernel
theorem dX4_group_77 : decode cX4_group 77 = .ok (.ireturn, 1) := by decide +kernel
theorem dX4_deputy_0 : decode cX4_deputy 0 = .ok (.aload_n 0, 1) := by decide +kernel
theorem dX4_deputy_1 : decode cX4_deputy 1 = .ok (.iload_n 1, 1) := by decide +kernel
theorem dX4_deputy_2 : decode cX4_deputy 2 = .ok (.iload_n 2, 1) := by decide +kernel
theorem dX4_deputy_3 : decode cX4_deputy 3 = .ok (.invokevirtual 110, 3) := by decide +kernel
theorem dX4_deputy_6 : decode cX4_deputy 6 = .ok (.ifCond .ne 13, 3) := by decide +kernel
theorem dX4_deputy_9 : decode cX4_deputy 9 = .ok (.new 83, 3) := by decide +kernel
theorem dX4_deputy_12 : decode cX4_deputy 12 = .ok (.dup, 1) := by decide +kernel
theorem dX4_deputy_13 : decode cX4_deputy 13 = .ok (.ldc 113, 2) := by decide +kernel
theorem dX4_deputy_15 : decode cX4_deputy 15 = .ok (.invokespecial 87, 3) := by decide +kernel
theorem dX4_deputy_18 : decode cX4_deputy 18 = .ok (.athrow, 1) := by decide +kernel
theorem dX4_deputy_19 : decode cX4_deputy 19 = .ok (.aload_n 0, 1) := by decide +kernel
theorem dX4_deputy_20 : decode cX4_deputy 20 = .ok (.iload_n 1, 1) := by decide +kernel
theorem dX4_deputy_21 : decode cX4_deputy 21 = .ok (.invokevirtual 131, 3) := by decide +kernel
theorem dX4_deputy_24 : decode cX4_deputy 24 = .ok (.ifCond .ne 11, 3) := by decide +kernel
theorem dX4_deputy_27 : decode cX4_deputy 27 = .ok (.aload_n 0, 1) := by decide +kernel
theorem dX4_deputy_28 : decode cX4_deputy 28 = .ok (.iload_n 2, 1) := by decide +kernel
theorem dX4_deputy_29 : decode cX4_deputy 29 = .ok (.invokevirtual 131, 3) := by decide +kernel
theorem dX4_deputy_32 : decode cX4_deputy 32 = .ok (.ifCond .eq 5, 3) := by decide +kernel
theorem dX4_deputy_35 : decode cX4_deputy 35 = .ok (.iconst 0, 1) := by decide +kernel
theorem dX4_deputy_36 : decode cX4_deputy 36 = .ok (.ireturn, 1) := by decide +kernel
theorem dX4_deputy_37 : decode cX4_deputy 37 = .ok (.aload_n 0, 1) := by decide +kernel
theorem dX4_deputy_38 : decode cX4_deputy 38 = .ok (.getfield 23, 3) := by decide +kernel
theorem dX4_deputy_41 : decode cX4_deputy 41 = .ok (.iload_n 1, 1) := by decide +kernel
theorem dX4_deputy_42 : decode cX4_deputy 42 = .ok (.iload_n 2, 1) := by decide +kernel
theorem dX4_deputy_43 : decode cX4_deputy 43 = .ok (.iastore, 1) := by decide +kernel
theorem dX4_deputy_44 : decode cX4_deputy 44 = .ok (.aload_n 0, 1) := by decide +kernel
theorem dX4_deputy_45 : decode cX4_deputy 45 = .ok (.getfield 26, 3) := by decide +kernel
theorem dX4_deputy_48 : decode cX4_deputy 48 = .ok (.iload_n 2, 1) := by decide +kernel
theorem dX4_deputy_49 : decode cX4_deputy 49 = .ok (.iload_n 1, 1) := by decide +kernel
theorem dX4_deputy_50 : decode cX4_deputy 50 = .ok (.iastore, 1) := by decide +kernel
theorem dX4_deputy_51 : decode cX4_deputy 51 = .ok (.iconst 1, 1) := by decide +kernel
theorem dX4_deputy_52 : decode cX4_deputy 52 = .ok (.ireturn, 1) := by decide +kernel
theorem dX4_mandate_0 : decode cX4_mandate 0 = .ok (.aload_n 0, 1) := by decide +kernel
theorem dX4_mandate_1 : decode cX4_mandate 1 = .ok (.iload_n 1, 1) := by decide +kernel
theorem dX4_mandate_2 : decode cX4_mandate 2 = .ok (.iload_n 2, 1) := by decide +kernel
theorem dX4_mandate_3 : decode cX4_mandate 3 = .ok (.invokevirtual 110, 3) := by decide +kernel
theorem dX4_mandate_6 : decode cX4_mandate 6 = .ok (.ifCond .ne 13, 3) := by decide +kernel
theorem dX4_mandate_9 : decode cX4_mandate 9 = .ok (.new 83, 3) := by decide +kernel
theorem dX4_mandate_12 : decode cX4_mandate 12 = .ok (.dup, 1) := by decide +kernel
theorem dX4_mandate_13 : decode cX4_mandate 13 = .ok (.ldc 113, 2) := by decide +kernel
theorem dX4_mandate_15 : decode cX4_mandate 15 = .ok (.invokespecial 87, 3) := by decide +kernel
theorem dX4_mandate_18 : decode cX4_mandate 18 = .ok (.athrow, 1) := by decide +kernel
theorem dX4_mandate_19 : decode cX4_mandate 19 = .ok (.iload 4, 2) := by decide +kernel
theorem dX4_mandate_21 : decode cX4_mandate 21 = .ok (.invokestatic 88, 3) := by decide +kernel
theorem dX4_mandate_24 : decode cX4_mandate 24 = .ok (.ifCond .ne 13, 3) := by decide +kernel
theorem dX4_mandate_27 : decode cX4_mandate 27 = .ok (.new 83, 3) := by decide +kernel
theorem dX4_mandate_30 : decode cX4_mandate 30 = .ok (.dup, 1) := by decide +kernel
theorem dX4_mandate_31 : decode cX4_mandate 31 = .ok (.ldc 134, 2) := by decide +kernel
theorem dX4_mandate_33 : decode cX4_mandate 33 = .ok (.invokespecial 87, 3) := by decide +kernel
theorem dX4_mandate_36 : decode cX4_mandate 36 = .ok (.athrow, 1) := by decide +kernel
theorem dX4_mandate_37 : decode cX4_mandate 37 = .ok (.aload_n 0, 1) := by decide +kernel
theorem dX4_mandate_38 : decode cX4_mandate 38 = .ok (.getfield 48, 3) := by decide +kernel
theorem dX4_mandate_41 : decode cX4_mandate 41 = .ok (.getfield 136, 3) := by decide +kernel
theorem dX4_mandate_44 : decode cX4_mandate 44 = .ok (.bipush 60, 2) := by decide +kernel
theorem dX4_mandate_46 : decode cX4_mandate 46 = .ok (.if_icmp .lt 13, 3) := by decide +kernel
theorem dX4_mandate_49 : decode cX4_mandate 49 = .ok (.new 66, 3) := by decide +kernel
theorem dX4_mandate_52 : decode cX4_mandate 52 = .ok (.dup, 1) := by decide +kernel
theorem dX4_mandate_53 : decode cX4_mandate 53 = .ok (.ldc 137, 2) := by decide +kernel
theorem dX4_mandate_55 : decode cX4_mandate 55 = .ok (.invokespecial 70, 3) := by decide +kernel
theorem dX4_mandate_58 : decode cX4_mandate 58 = .ok (.athrow, 1) := by decide +kernel
theorem dX4_mandate_59 : decode cX4_mandate 59 = .ok (.aload_n 0, 1) := by decide +kernel
theorem dX4_mandate_60 : decode cX4_mandate 60 = .ok (.getfield 48, 3) := by decide +kernel
theorem dX4_mandate_63 : decode cX4_mandate 63 = .ok (.iload_n 1, 1) := by decide +kernel
theorem dX4_mandate_64 : decode cX4_mandate 64 = .ok (.iload_n 2, 1) := by decide +kernel
theorem dX4_mandate_65 : decode cX4_mandate 65 = .ok (.iload_n 3, 1) := by decide +kernel
theorem dX4_mandate_66 : decode cX4_mandate 66 = .ok (.iload 4, 2) := by decide +kernel
theorem dX4_mandate_68 : decode cX4_mandate 68 = .ok (.invokevirtual 139, 3) := by decide +kernel
theorem dX4_mandate_71 : decode cX4_mandate 71 = .ok (.aload_n 0, 1) := by decide +kernel
theorem dX4_mandate_72 : decode cX4_mandate 72 = .ok (.getfield 48, 3) := by decide +kernel
theorem dX4_mandate_75 : decode cX4_mandate 75 = .ok (.getfield 136, 3) := by decide +kernel
theorem dX4_mandate_78 : decode cX4_mandate 78 = .ok (.ireturn, 1) := by decide +kernel
theorem dX4_suspend_0 : decode cX4_suspend 0 = .ok (.aload_n 0, 1) := by decide +kernel
theorem dX4_suspend_1 : decode cX4_suspend 1 = .ok (.iload_n 1, 1) := by decide +kernel
theorem dX4_suspend_2 : decode cX4_suspend 2 = .ok (.invokevirtual 73, 3) := by decide +kernel
theorem dX4_suspend_5 : decode cX4_suspend 5 = .ok (.ifCond .eq 10, 3) := by decide +kernel
theorem dX4_suspend_8 : decode cX4_suspend 8 = .ok (.iload_n 2, 1) := by decide +kernel
theorem dX4_suspend_9 : decode cX4_suspend 9 = .ok (.invokestatic 88, 3) := by decide +kernel
theorem dX4_suspend_12 : decode cX4_suspend 12 = .ok (.ifCond .ne 13, 3) := by decide +kernel
theorem dX4_suspend_15 : decode cX4_suspend 15 = .ok (.new 83, 3) := by decide +kernel
theorem dX4_suspend_18 : decode cX4_suspend 18 = .ok (.dup, 1) := by decide +kernel
theorem dX4_suspend_19 : decode cX4_suspend 19 = .ok (.ldc 142, 2) := by decide +kernel
theorem dX4_suspend_21 : decode cX4_suspend 21 = .ok (.invokespecial 87, 3) := by decide +kernel
theorem dX4_suspend_24 : decode cX4_suspend 24 = .ok (.athrow, 1) := by decide +kernel
theorem dX4_suspend_25 : decode cX4_suspend 25 = .ok (.aload_n 0, 1) := by decide +kernel
theorem dX4_suspend_26 : decode cX4_suspend 26 = .ok (.getfield 55, 3) := by decide +kernel
theorem dX4_suspend_29 : decode cX4_suspend 29 = .ok (.getfield 144, 3) := by decide +kernel
theorem dX4_suspend_32 : decode cX4_suspend 32 = .ok (.bipush 60, 2) := by decide +kernel
theorem dX4_suspend_34 : decode cX4_suspend 34 = .ok (.if_icmp .lt 13, 3) := by decide +kernel
theorem dX4_suspend_37 : decode cX4_suspend 37 = .ok (.new 66, 3) := by decide +kernel
theorem dX4_suspend_40 : decode cX4_suspend 40 = .ok (.dup, 1) := by decide +kernel
theorem dX4_suspend_41 : decode cX4_suspend 41 = .ok (.ldc 145, 2) := by decide +kernel
theorem dX4_suspend_43 : decode cX4_suspend 43 = .ok (.invokespecial 70, 3) := by decide +kernel
theorem dX4_suspend_46 : decode cX4_suspend 46 = .ok (.athrow, 1) := by decide +kernel
theorem dX4_suspend_47 : decode cX4_suspend 47 = .ok (.aload_n 0, 1) := by decide +kernel
theorem dX4_suspend_48 : decode cX4_suspend 48 = .ok (.getfield 55, 3) := by decide +kernel
theorem dX4_suspend_51 : decode cX4_suspend 51 = .ok (.iload_n 1, 1) := by decide +kernel
theorem dX4_suspend_52 : decode cX4_suspend 52 = .ok (.iload_n 2, 1) := by decide +kernel
theorem dX4_suspend_53 : decode cX4_suspend 53 = .ok (.iload_n 3, 1) := by decide +kernel
theorem dX4_suspend_54 : decode cX4_suspend 54 = .ok (.invokevirtual 147, 3) := by decide +kernel
theorem dX4_suspend_57 : decode cX4_suspend 57 = .ok (.aload_n 0, 1) := by decide +kernel
theorem dX4_suspend_58 : decode cX4_suspend 58 = .ok (.getfield 55, 3) := by decide +kernel
theorem dX4_suspend_61 : decode cX4_suspend 61 = .ok (.getfield 144, 3) := by decide +kernel
theorem dX4_suspend_64 : decode cX4_suspend 64 = .ok (.ireturn, 1) := by decide +kernel
theorem dX4_end_0 : decode cX4_end 0 = .ok (.aload_n 0, 1) := by decide +kernel
theorem dX4_end_1 : decode cX4_end 1 = .ok (.iload_n 1, 1) := by decide +kernel
theorem dX4_end_2 : decode cX4_end 2 = .ok (.invokevirtual 73, 3) := by decide +kernel
theorem dX4_end_5 : decode cX4_end 5 = .ok (.ifCond .eq 20, 3) := by decide +kernel
theorem dX4_end_8 : decode cX4_end 8 = .ok (.iload_n 2, 1) := by decide +kernel
theorem dX4_end_9 : decode cX4_end 9 = .ok (.invokestatic 88, 3) := by decide +kernel
theorem dX4_end_12 : decode cX4_end 12 = .ok (.ifCond .eq 13, 3) := by decide +kernel
theorem dX4_end_15 : decode cX4_end 15 = .ok (.aload_n 0, 1) := by decide +kernel
theorem dX4_end_16 : decode cX4_end 16 = .ok (.getfield 29, 3) := by decide +kernel
theorem dX4_end_19 : decode cX4_end 19 = .ok (.iload_n 1, 1) := by decide +kernel
theorem dX4_end_20 : decode cX4_end 20 = .ok (.iaload, 1) := by decide +kernel
theorem dX4_end_21 : decode cX4_end 21 = .ok (.iconst (-1), 1) := by decide +kernel
theorem dX4_end_22 : decode cX4_end 22 = .ok (.if_icmp .eq 5, 3) := by decide +kernel
theorem dX4_end_25 : decode cX4_end 25 = .ok (.iconst 0, 1) := by decide +kernel
theorem dX4_end_26 : decode cX4_end 26 = .ok (.ireturn, 1) := by decide +kernel
theorem dX4_end_27 : decode cX4_end 27 = .ok (.aload_n 0, 1) := by decide +kernel
theorem dX4_end_28 : decode cX4_end 28 = .ok (.getfield 29, 3) := by decide +kernel
theorem dX4_end_31 : decode cX4_end 31 = .ok (.iload_n 1, 1) := by decide +kernel
theorem dX4_end_32 : decode cX4_end 32 = .ok (.iload_n 2, 1) := by decide +kernel
theorem dX4_end_33 : decode cX4_end 33 = .ok (.iastore, 1) := by decide +kernel
theorem dX4_end_34 : decode cX4_end 34 = .ok (.iconst 1, 1) := by decide +kernel
theorem dX4_end_35 : decode cX4_end 35 = .ok (.ireturn, 1) := by decide +kernel
theorem dX4_may_0 : decode cX4_may 0 = .ok (.aload_n 0, 1) := by decide +kernel
theorem dX4_may_1 : decode cX4_may 1 = .ok (.iload_n 1, 1) := by decide +kernel
theorem dX4_may_2 : decode cX4_may 2 = .ok (.invokevirtual 73, 3) := by decide +kernel
theorem dX4_may_5 : decode cX4_may 5 = .ok (.ifCond .eq 25, 3) := by decide +kernel
theorem dX4_may_8 : decode cX4_may 8 = .ok (.iload_n 2, 1) := by decide +kernel
theorem dX4_may_9 : decode cX4_may 9 = .ok (.invokestatic 77, 3) := by decide +kernel
theorem dX4_may_12 : decode cX4_may 12 = .ok (.ifCond .eq 18, 3) := by decide +kernel
theorem dX4_may_15 : decode cX4_may 15 = .ok (.iload_n 3, 1) := by decide +kernel
theorem dX4_may_16 : decode cX4_may 16 = .ok (.invokestatic 80, 3) := by decide +kernel
theorem dX4_may_19 : decode cX4_may 19 = .ok (.ifCond .eq 11, 3) := by decide +kernel
theorem dX4_may_22 : decode cX4_may 22 = .ok (.iload 4, 2) := by decide +kernel
theorem dX4_may_24 : decode cX4_may 24 = .ok (.invokestatic 88, 3) := by decide +kernel
theorem dX4_may_27 : decode cX4_may 27 = .ok (.ifCond .ne 5, 3) := by decide +kernel
theorem dX4_may_30 : decode cX4_may 30 = .ok (.iconst 1, 1) := by decide +kernel
theorem dX4_may_31 : decode cX4_may 31 = .ok (.ireturn, 1) := by decide +kernel
theorem dX4_may_32 : decode cX4_may 32 = .ok (.aload_n 0, 1) := by decide +kernel
theorem dX4_may_33 : decode cX4_may 33 = .ok (.iload_n 1, 1) := by decide +kernel
theorem dX4_may_34 : decode cX4_may 34 = .ok (.iload 4, 2) := by decide +kernel
theorem dX4_may_36 : decode cX4_may 36 = .ok (.invokevirtual 150, 3) := by decide +kernel
theorem dX4_may_39 : decode cX4_may 39 = .ok (.ifCond .eq 5, 3) := by decide +kernel
theorem dX4_may_42 : decode cX4_may 42 = .ok (.iconst 2, 1) := by decide +kernel
theorem dX4_may_43 : decode cX4_may 43 = .ok (.ireturn, 1) := by decide +kernel
theorem dX4_may_44 : decode cX4_may 44 = .ok (.aload_n 0, 1) := by decide +kernel
theorem dX4_may_45 : decode cX4_may 45 = .ok (.getfield 55, 3) := by decide +kernel
theorem dX4_may_48 : decode cX4_may 48 = .ok (.iload_n 1, 1) := by decide +kernel
theorem dX4_may_49 : decode cX4_may 49 = .ok (.iload 4, 2) := by decide +kernel
theorem dX4_may_51 : decode cX4_may 51 = .ok (.invokevirtual 153, 3) := by decide +kernel
theorem dX4_may_54 : decode cX4_may 54 = .ok (.ifCond .eq 5, 3) := by decide +kernel
theorem dX4_may_57 : decode cX4_may 57 = .ok (.iconst 3, 1) := by decide +kernel
theorem dX4_may_58 : decode cX4_may 58 = .ok (.ireturn, 1) := by decide +kernel
theorem dX4_may_59 : decode cX4_may 59 = .ok (.aload_n 0, 1) := by decide +kernel
theorem dX4_may_60 : decode cX4_may 60 = .ok (.iload_n 1, 1) := by decide +kernel
theorem dX4_may_61 : decode cX4_may 61 = .ok (.iload_n 2, 1) := by decide +kernel
theorem dX4_may_62 : decode cX4_may 62 = .ok (.iload_n 3, 1) := by decide +kernel
theorem dX4_may_63 : decode cX4_may 63 = .ok (.iload 4, 2) := by decide +kernel
theorem dX4_may_65 : decode cX4_may 65 = .ok (.invokevirtual 156, 3) := by decide +kernel
theorem dX4_may_68 : decode cX4_may 68 = .ok (.ireturn, 1) := by decide +kernel
theorem dX4_two_0 : decode cX4_two 0 = .ok (.iload_n 1, 1) := by decide +kernel
theorem dX4_two_1 : decode cX4_two 1 = .ok (.invokestatic 77, 3) := by decide +kernel
theorem dX4_two_4 : decode cX4_two 4 = .ok (.ifCond .eq 12, 3) := by decide +kernel
theorem dX4_two_7 : decode cX4_two 7 = .ok (.aload_n 0, 1) := by decide +kernel
theorem dX4_two_8 : decode cX4_two 8 = .ok (.iload_n 1, 1) := by decide +kernel
theorem dX4_two_9 : decode cX4_two 9 = .ok (.invokevirtual 160, 3) := by decide +kernel
theorem dX4_two_12 : decode cX4_two 12 = .ok (.iload_n 2, 1) := by decide +kernel
theorem dX4_two_13 : decode cX4_two 13 = .ok (.if_icmp .ne 5, 3) := by decide +kernel
theorem dX4_two_16 : decode cX4_two 16 = .ok (.iconst 0, 1) := by decide +kernel
theorem dX4_two_17 : decode cX4_two 17 = .ok (.ireturn, 1) := by decide +kernel
theorem dX4_two_18 : decode cX4_two 18 = .ok (.aload_n 0, 1) := by decide +kernel
theorem dX4_two_19 : decode cX4_two 19 = .ok (.aload_n 0, 1) := by decide +kernel
theorem dX4_two_20 : decode cX4_two 20 = .ok (.getfield 13, 3) := by decide +kernel
theorem dX4_two_23 : decode cX4_two 23 = .ok (.iload_n 1, 1) := by decide +kernel
theorem dX4_two_24 : decode cX4_two 24 = .ok (.invokestatic 106, 3) := by decide +kernel
theorem dX4_two_27 : decode cX4_two 27 = .ok (.ixor, 1) := by decide +kernel
theorem dX4_two_28 : decode cX4_two 28 = .ok (.putfield 13, 3) := by decide +kernel
theorem dX4_two_31 : decode cX4_two 31 = .ok (.iconst 1, 1) := by decide +kernel
theorem dX4_two_32 : decode cX4_two 32 = .ok (.ireturn, 1) := by decide +kernel
theorem dX4_done_0 : decode cX4_done 0 = .ok (.aload_n 0, 1) := by decide +kernel
theorem dX4_done_1 : decode cX4_done 1 = .ok (.iload 4, 2) := by decide +kernel
theorem dX4_done_3 : decode cX4_done 3 = .ok (.iload_n 1, 1) := by decide +kernel
theorem dX4_done_4 : decode cX4_done 4 = .ok (.iload_n 2, 1) := by decide +kernel
theorem dX4_done_5 : decode cX4_done 5 = .ok (.iload_n 3, 1) := by decide +kernel
theorem dX4_done_6 : decode cX4_done 6 = .ok (.invokevirtual 163, 3) := by decide +kernel
theorem dX4_done_9 : decode cX4_done 9 = .ok (.ifCond .eq 5, 3) := by decide +kernel
theorem dX4_done_12 : decode cX4_done 12 = .ok (.iconst 1, 1) := by decide +kernel
theorem dX4_done_13 : decode cX4_done 13 = .ok (.ireturn, 1) := by decide +kernel
theorem dX4_done_14 : decode cX4_done 14 = .ok (.aload_n 0, 1) := by decide +kernel
theorem dX4_done_15 : decode cX4_done 15 = .ok (.iload_n 1, 1) := by decide +kernel
theorem dX4_done_16 : decode cX4_done 16 = .ok (.invokevirtual 160, 3) := by decide +kernel
theorem dX4_done_19 : decode cX4_done 19 = .ok (.ifCond .ne 5, 3) := by decide +kernel
theorem dX4_done_22 : decode cX4_done 22 = .ok (.iconst 0, 1) := by decide +kernel
theorem dX4_done_23 : decode cX4_done 23 = .ok (.ireturn, 1) := by decide +kernel
theorem dX4_done_24 : decode cX4_done 24 = .ok (.aload_n 0, 1) := by decide +kernel
theorem dX4_done_25 : decode cX4_done 25 = .ok (.iload 5, 2) := by decide +kernel
theorem dX4_done_27 : decode cX4_done 27 = .ok (.iload_n 1, 1) := by decide +kernel
theorem dX4_done_28 : decode cX4_done 28 = .ok (.iload_n 2, 1) := by decide +kernel
theorem dX4_done_29 : decode cX4_done 29 = .ok (.iload_n 3, 1) := by decide +kernel
theorem dX4_done_30 : decode cX4_done 30 = .ok (.invokevirtual 163, 3) := by decide +kernel
theorem dX4_done_33 : decode cX4_done 33 = .ok (.ifCond .eq 5, 3) := by decide +kernel
theorem dX4_done_36 : decode cX4_done 36 = .ok (.iconst 2, 1) := by decide +kernel
theorem dX4_done_37 : decode cX4_done 37 = .ok (.ireturn, 1) := by decide +kernel
theorem dX4_done_38 : decode cX4_done 38 = .ok (.iload 4, 2) := by decide +kernel
theorem dX4_done_40 : decode cX4_done 40 = .ok (.iload 5, 2) := by decide +kernel
theorem dX4_done_42 : decode cX4_done 42 = .ok (.if_icmp .eq 27, 3) := by decide +kernel
theorem dX4_done_45 : decode cX4_done 45 = .ok (.aload_n 0, 1) := by decide +kernel
theorem dX4_done_46 : decode cX4_done 46 = .ok (.getfield 23, 3) := by decide +kernel
theorem dX4_done_49 : decode cX4_done 49 = .ok (.iload 4, 2) := by decide +kernel
theorem dX4_done_51 : decode cX4_done 51 = .ok (.iaload, 1) := by decide +kernel
theorem dX4_done_52 : decode cX4_done 52 = .ok (.iload 5, 2) := by decide +kernel
theorem dX4_done_54 : decode cX4_done 54 = .ok (.if_icmp .eq 15, 3) := by decide +kernel
theorem dX4_done_57 : decode cX4_done 57 = .ok (.aload_n 0, 1) := by decide +kernel
theorem dX4_done_58 : decode cX4_done 58 = .ok (.getfield 23, 3) := by decide +kernel
theorem dX4_done_61 : decode cX4_done 61 = .ok (.iload 5, 2) := by decide +kernel
theorem dX4_done_63 : decode cX4_done 63 = .ok (.iaload, 1) := by decide +kernel
theorem dX4_done_64 : decode cX4_done 64 = .ok (.iload 4, 2) := by decide +kernel
theorem dX4_done_66 : decode cX4_done 66 = .ok (.if_icmp .ne 5, 3) := by decide +kernel
theorem dX4_done_69 : decode cX4_done 69 = .ok (.iconst 3, 1) := by decide +kernel
theorem dX4_done_70 : decode cX4_done 70 = .ok (.ireturn, 1) := by decide +kernel
theorem dX4_done_71 : decode cX4_done 71 = .ok (.iconst 0, 1) := by decide +kernel
theorem dX4_done_72 : decode cX4_done 72 = .ok (.ireturn, 1) := by decide +kernel
theorem dX4_letter_0 : decode cX4_letter 0 = .ok (.iload_n 1, 1) := by decide +kernel
theorem dX4_letter_1 : decode cX4_letter 1 = .ok (.ifCond .lt 9, 3) := by decide +kernel
theorem dX4_letter_4 : decode cX4_letter 4 = .ok (.iload_n 1, 1) := by decide +kernel
theorem dX4_letter_5 : decode cX4_letter 5 = .ok (.ldc 166, 2) := by decide +kernel
theorem dX4_letter_7 : decode cX4_letter 7 = .ok (.if_icmp .le 13, 3) := by decide +kernel
theorem dX4_letter_10 : decode cX4_letter 10 = .ok (.new 83, 3) := by decide +kernel
theorem dX4_letter_13 : decode cX4_letter 13 = .ok (.dup, 1) := by decide +kernel
theorem dX4_letter_14 : decode cX4_letter 14 = .ok (.ldc 167, 2) := by decide +kernel
theorem dX4_letter_16 : decode cX4_letter 16 = .ok (.invokespecial 87, 3) := by decide +kernel
theorem dX4_letter_19 : decode cX4_letter 19 = .ok (.athrow, 1) := by decide +kernel
theorem dX4_letter_20 : decode cX4_letter 20 = .ok (.iload_n 2, 1) := by decide +kernel
theorem dX4_letter_21 : decode cX4_letter 21 = .ok (.ifCond .lt 9, 3) := by decide +kernel
theorem dX4_letter_24 : decode cX4_letter 24 = .ok (.iload_n 2, 1) := by decide +kernel
theorem dX4_letter_25 : decode cX4_letter 25 = .ok (.bipush 7, 2) := by decide +kernel
theorem dX4_letter_27 : decode cX4_letter 27 = .ok (.if_icmp .lt 13, 3) := by decide +kernel
theorem dX4_letter_30 : decode cX4_letter 30 = .ok (.new 169, 3) := by decide +kernel
theorem dX4_letter_33 : decode cX4_letter 33 = .ok (.dup, 1) := by decide +kernel
theorem dX4_letter_34 : decode cX4_letter 34 = .ok (.ldc 171, 2) := by decide +kernel
theorem dX4_letter_36 : decode cX4_letter 36 = .ok (.invokespecial 173, 3) := by decide +kernel
theorem dX4_letter_39 : decode cX4_letter 39 = .ok (.athrow, 1) := by decide +kernel
theorem dX4_letter_40 : decode cX4_letter 40 = .ok (.bipush 65, 2) := by decide +kernel
theorem dX4_letter_42 : decode cX4_letter 42 = .ok (.iload_n 2, 1) := by decide +kernel
theorem dX4_letter_43 : decode cX4_letter 43 = .ok (.bipush 6, 2) := by decide +kernel
theorem dX4_letter_45 : decode cX4_letter 45 = .ok (.if_icmp .ge 11, 3) := by decide +kernel
theorem dX4_letter_48 : decode cX4_letter 48 = .ok (.iload_n 1, 1) := by decide +kernel
theorem dX4_letter_49 : decode cX4_letter 49 = .ok (.iload_n 2, 1) := by decide +kernel
theorem dX4_letter_50 : decode cX4_letter 50 = .ok (.invokestatic 174, 3) := by decide +kernel
theorem dX4_letter_53 : decode cX4_letter 53 = .ok (.goto 7, 3) := by decide +kernel
theorem dX4_letter_56 : decode cX4_letter 56 = .ok (.iload_n 1, 1) := by decide +kernel
theorem dX4_letter_57 : decode cX4_letter 57 = .ok (.invokestatic 177, 3) := by decide +kernel
theorem dX4_letter_60 : decode cX4_letter 60 = .ok (.iadd, 1) := by decide +kernel
theorem dX4_letter_61 : decode cX4_letter 61 = .ok (.ireturn, 1) := by decide +kernel
theorem dX4_check_0 : decode cX4_check 0 = .ok (.aload_n 0, 1) := by decide +kernel
theorem dX4_check_1 : decode cX4_check 1 = .ok (.getfield 62, 3) := by decide +kernel
theorem dX4_check_4 : decode cX4_check 4 = .ok (.iload_n 1, 1) := by decide +kernel
theorem dX4_check_5 : decode cX4_check 5 = .ok (.invokevirtual 180, 3) := by decide +kernel
theorem dX4_check_8 : decode cX4_check 8 = .ok (.ireturn, 1) := by decide +kernel
theorem dX4_certified_0 : decode cX4_certified 0 = .ok (.aload_n 0, 1) := by decide +kernel
theorem dX4_certified_1 : decode cX4_certified 1 = .ok (.getfield 62, 3) := by decide +kernel
theorem dX4_certified_4 : decode cX4_certified 4 = .ok (.getfield 183, 3) := by decide +kernel
theorem dX4_certified_7 : decode cX4_certified 7 = .ok (.ireturn, 1) := by decide +kernel
theorem dX4_look_0 : decode cX4_look 0 = .ok (.aload_n 0, 1) := by decide +kernel
theorem dX4_look_1 : decode cX4_look 1 = .ok (.iload_n 1, 1) := by decide +kernel
theorem dX4_look_2 : decode cX4_look 2 = .ok (.invokevirtual 73, 3) := by decide +kernel
theorem dX4_look_5 : decode cX4_look 5 = .ok (.ifCond .eq 13, 3) := by decide +kernel
theorem dX4_look_8 : decode cX4_look 8 = .ok (.iload_n 3, 1) := by decide +kernel
theorem dX4_look_9 : decode cX4_look 9 = .ok (.ifCond .lt 9, 3) := by decide +kernel
theorem dX4_look_12 : decode cX4_look 12 = .ok (.iload_n 3, 1) := by decide +kernel
theorem dX4_look_13 : decode cX4_look 13 = .ok (.bipush 7, 2) := by decide +kernel
theorem dX4_look_15 : decode cX4_look 15 = .ok (.if_icmp .lt 13, 3) := by decide +kernel
theorem dX4_look_18 : decode cX4_look 18 = .ok (.new 169, 3) := by decide +kernel
theorem dX4_look_21 : decode cX4_look 21 = .ok (.dup, 1) := by decide +kernel
theorem dX4_look_22 : decode cX4_look 22 = .ok (.ldc 186, 2) := by decide +kernel
theorem dX4_look_24 : decode cX4_look 24 = .ok (.invokespecial 173, 3) := by decide +kernel
theorem dX4_look_27 : decode cX4_look 27 = .ok (.athrow, 1) := by decide +kernel
theorem dX4_look_28 : decode cX4_look 28 = .ok (.iload_n 2, 1) := by decide +kernel
theorem dX4_look_29 : decode cX4_look 29 = .ok (.invokestatic 88, 3) := by decide +kernel
theorem dX4_look_32 : decode cX4_look 32 = .ok (.ifCond .ne 13, 3) := by decide +kernel
theorem dX4_look_35 : decode cX4_look 35 = .ok (.new 83, 3) := by decide +kernel
theorem dX4_look_38 : decode cX4_look 38 = .ok (.dup, 1) := by decide +kernel
theorem dX4_look_39 : decode cX4_look 39 = .ok (.ldc 134, 2) := by decide +kernel
theorem dX4_look_41 : decode cX4_look 41 = .ok (.invokespecial 87, 3) := by decide +kernel
theorem dX4_look_44 : decode cX4_look 44 = .ok (.athrow, 1) := by decide +kernel
theorem dX4_look_45 : decode cX4_look 45 = .ok (.iload_n 3, 1) := by decide +kernel
theorem dX4_look_46 : decode cX4_look 46 = .ok (.tableswitch 109 0 5 #[38, 53, 71, 85, 95, 102], 38) := by decide +kernel
theorem dX4_look_84 : decode cX4_look 84 = .ok (.aload_n 0, 1) := by decide +kernel
theorem dX4_look_85 : decode cX4_look 85 = .ok (.iload_n 1, 1) := by decide +kernel
theorem dX4_look_86 : decode cX4_look 86 = .ok (.iload_n 2, 1) := by decide +kernel
theorem dX4_look_87 : decode cX4_look 87 = .ok (.invokevirtual 150, 3) := by decide +kernel
theorem dX4_look_90 : decode cX4_look 90 = .ok (.ifCond .eq 7, 3) := by decide +kernel
theorem dX4_look_93 : decode cX4_look 93 = .ok (.iconst 1, 1) := by decide +kernel
theorem dX4_look_94 : decode cX4_look 94 = .ok (.goto 4, 3) := by decide +kernel
theorem dX4_look_97 : decode cX4_look 97 = .ok (.iconst 0, 1) := by decide +kernel
theorem dX4_look_98 : decode cX4_look 98 = .ok (.ireturn, 1) := by decide +kernel
theorem dX4_look_99 : decode cX4_look 99 = .ok (.aload_n 0, 1) := by decide +kernel
theorem dX4_look_100 : decode cX4_look 100 = .ok (.getfield 55, 3) := by decide +kernel
theorem dX4_look_103 : decode cX4_look 103 = .ok (.iload_n 1, 1) := by decide +kernel
theorem dX4_look_104 : decode cX4_look 104 = .ok (.iload_n 2, 1) := by decide +kernel
theorem dX4_look_105 : decode cX4_look 105 = .ok (.invokevirtual 153, 3) := by decide +kernel
theorem dX4_look_108 : decode cX4_look 108 = .ok (.ifCond .eq 7, 3) := by decide +kernel
theorem dX4_look_111 : decode cX4_look 111 = .ok (.iconst 1, 1) := by decide +kernel
theorem dX4_look_112 : decode cX4_look 112 = .ok (.goto 4, 3) := by decide +kernel
theorem dX4_look_115 : decode cX4_look 115 = .ok (.iconst 0, 1) := by decide +kernel
theorem dX4_look_116 : decode cX4_look 116 = .ok (.ireturn, 1) := by decide +kernel
theorem dX4_look_117 : decode cX4_look 117 = .ok (.aload_n 0, 1) := by decide +kernel
theorem dX4_look_118 : decode cX4_look 118 = .ok (.iload_n 1, 1) := by decide +kernel
theorem dX4_look_119 : decode cX4_look 119 = .ok (.aload_n 0, 1) := by decide +kernel
theorem dX4_look_120 : decode cX4_look 120 = .ok (.iload_n 2, 1) := by decide +kernel
theorem dX4_look_121 : decode cX4_look 121 = .ok (.invokevirtual 188, 3) := by decide +kernel
theorem dX4_look_124 : decode cX4_look 124 = .ok (.invokevirtual 119, 3) := by decide +kernel
theorem dX4_look_127 : decode cX4_look 127 = .ok (.invokestatic 126, 3) := by decide +kernel
theorem dX4_look_130 : decode cX4_look 130 = .ok (.ireturn, 1) := by decide +kernel
theorem dX4_look_131 : decode cX4_look 131 = .ok (.aload_n 0, 1) := by decide +kernel
theorem dX4_look_132 : decode cX4_look 132 = .ok (.iload_n 1, 1) := by decide +kernel
theorem dX4_look_133 : decode cX4_look 133 = .ok (.iload_n 2, 1) := by decide +kernel
theorem dX4_look_134 : decode cX4_look 134 = .ok (.invokevirtual 191, 3) := by decide +kernel
theorem dX4_look_137 : decode cX4_look 137 = .ok (.invokestatic 126, 3) := by decide +kernel
theorem dX4_look_140 : decode cX4_look 140 = .ok (.ireturn, 1) := by decide +kernel
theorem dX4_look_141 : decode cX4_look 141 = .ok (.aload_n 0, 1) := by decide +kernel
theorem dX4_look_142 : decode cX4_look 142 = .ok (.getfield 23, 3) := by decide +kernel
theorem dX4_look_145 : decode cX4_look 145 = .ok (.iload_n 1, 1) := by decide +kernel
theorem dX4_look_146 : decode cX4_look 146 = .ok (.iaload, 1) := by decide +kernel
theorem dX4_look_147 : decode cX4_look 147 = .ok (.ireturn, 1) := by decide +kernel
theorem dX4_look_148 : decode cX4_look 148 = .ok (.aload_n 0, 1) := by decide +kernel
theorem dX4_look_149 : decode cX4_look 149 = .ok (.getfield 26, 3) := by decide +kernel
theorem dX4_look_152 : decode cX4_look 152 = .ok (.iload_n 1, 1) := by decide +kernel
theorem dX4_look_153 : decode cX4_look 153 = .ok (.iaload, 1) := by decide +kernel
theorem dX4_look_154 : decode cX4_look 154 = .ok (.ireturn, 1) := by decide +kernel
theorem dX4_look_155 : decode cX4_look 155 = .ok (.aload_n 0, 1) := by decide +kernel
theorem dX4_look_156 : decode cX4_look 156 = .ok (.getfield 48, 3) := by decide +kernel
theorem dX4_look_159 : decode cX4_look 159 = .ok (.iload_n 1, 1) := by decide +kernel
theorem dX4_look_160 : decode cX4_look 160 = .ok (.iload_n 2, 1) := by decide +kernel
theorem dX4_look_161 : decode cX4_look 161 = .ok (.invokevirtual 194, 3) := by decide +kernel
theorem dX4_look_164 : decode cX4_look 164 = .ok (.ireturn, 1) := by decide +kernel
theorem dX4_count_0 : decode cX4_count 0 = .ok (.iload_n 1, 1) := by decide +kernel
theorem dX4_count_1 : decode cX4_count 1 = .ok (.tableswitch 81 0 5 #[39, 44, 52, 60, 68, 73], 39) := by decide +kernel
theorem dX4_count_40 : decode cX4_count 40 = .ok (.aload_n 0, 1) := by decide +kernel
theorem dX4_count_41 : decode cX4_count 41 = .ok (.getfield 7, 3) := by decide +kernel
theorem dX4_count_44 : decode cX4_count 44 = .ok (.ireturn, 1) := by decide +kernel
theorem dX4_count_45 : decode cX4_count 45 = .ok (.aload_n 0, 1) := by decide +kernel
theorem dX4_count_46 : decode cX4_count 46 = .ok (.getfield 41, 3) := by decide +kernel
theorem dX4_count_49 : decode cX4_count 49 = .ok (.getfield 93, 3) := by decide +kernel
theorem dX4_count_52 : decode cX4_count 52 = .ok (.ireturn, 1) := by decide +kernel
theorem dX4_count_53 : decode cX4_count 53 = .ok (.aload_n 0, 1) := by decide +kernel
theorem dX4_count_54 : decode cX4_count 54 = .ok (.getfield 48, 3) := by decide +kernel
theorem dX4_count_57 : decode cX4_count 57 = .ok (.getfield 136, 3) := by decide +kernel
theorem dX4_count_60 : decode cX4_count 60 = .ok (.ireturn, 1) := by decide +kernel
theorem dX4_count_61 : decode cX4_count 61 = .ok (.aload_n 0, 1) := by decide +kernel
theorem dX4_count_62 : decode cX4_count 62 = .ok (.getfield 55, 3) := by decide +kernel
theorem dX4_count_65 : decode cX4_count 65 = .ok (.getfield 144, 3) := by decide +kernel
theorem dX4_count_68 : decode cX4_count 68 = .ok (.ireturn, 1) := by decide +kernel
theorem dX4_count_69 : decode cX4_count 69 = .ok (.aload_n 0, 1) := by decide +kernel
theorem dX4_count_70 : decode cX4_count 70 = .ok (.getfield 13, 3) := by decide +kernel
theorem dX4_count_73 : decode cX4_count 73 = .ok (.ireturn, 1) := by decide +kernel
theorem dX4_count_74 : decode cX4_count 74 = .ok (.aload_n 0, 1) := by decide +kernel
theorem dX4_count_75 : decode cX4_count 75 = .ok (.getfield 62, 3) := by decide +kernel
theorem dX4_count_78 : decode cX4_count 78 = .ok (.getfield 197, 3) := by decide +kernel
theorem dX4_count_81 : decode cX4_count 81 = .ok (.ireturn, 1) := by decide +kernel
theorem dX4_count_82 : decode cX4_count 82 = .ok (.iconst (-1), 1) := by decide +kernel
theorem dX4_count_83 : decode cX4_count 83 = .ok (.ireturn, 1) := by decide +kernel
theorem dX4_isTrader_0 : decode cX4_isTrader 0 = .ok (.iload_n 1, 1) := by decide +kernel
theorem dX4_isTrader_1 : decode cX4_isTrader 1 = .ok (.ifCond .lt 15, 3) := by decide +kernel
theorem dX4_isTrader_4 : decode cX4_isTrader 4 = .ok (.iload_n 1, 1) := by decide +kernel
theorem dX4_isTrader_5 : decode cX4_isTrader 5 = .ok (.aload_n 0, 1) := by decide +kernel
theorem dX4_isTrader_6 : decode cX4_isTrader 6 = .ok (.getfield 7, 3) := by decide +kernel
theorem dX4_isTrader_9 : decode cX4_isTrader 9 = .ok (.if_icmp .ge 7, 3) := by decide +kernel
theorem dX4_isTrader_12 : decode cX4_isTrader 12 = .ok (.iconst 1, 1) := by decide +kernel
theorem dX4_isTrader_13 : decode cX4_isTrader 13 = .ok (.goto 4, 3) := by decide +kernel
theorem dX4_isTrader_16 : decode cX4_isTrader 16 = .ok (.iconst 0, 1) := by decide +kernel
theorem dX4_isTrader_17 : decode cX4_isTrader 17 = .ok (.ireturn, 1) := by decide +kernel
theorem dX4_areTwoTraders_0 : decode cX4_areTwoTraders 0 = .ok (.aload_n 0, 1) := by decide +kernel
theorem dX4_areTwoTraders_1 : decode cX4_areTwoTraders 1 = .ok (.iload_n 1, 1) := by decide +kernel
theorem dX4_areTwoTraders_2 : decode cX4_areTwoTraders 2 = .ok (.invokevirtual 73, 3) := by decide +kernel
theorem dX4_areTwoTraders_5 : decode cX4_areTwoTraders 5 = .ok (.ifCond .eq 20, 3) := by decide +kernel
theorem dX4_areTwoTraders_8 : decode cX4_areTwoTraders 8 = .ok (.aload_n 0, 1) := by decide +kernel
theorem dX4_areTwoTraders_9 : decode cX4_areTwoTraders 9 = .ok (.iload_n 2, 1) := by decide +kernel
theorem dX4_areTwoTraders_10 : decode cX4_areTwoTraders 10 = .ok (.invokevirtual 73, 3) := by decide +kernel
theorem dX4_areTwoTraders_13 : decode cX4_areTwoTraders 13 = .ok (.ifCond .eq 12, 3) := by decide +kernel
theorem dX4_areTwoTraders_16 : decode cX4_areTwoTraders 16 = .ok (.iload_n 1, 1) := by decide +kernel
theorem dX4_areTwoTraders_17 : decode cX4_areTwoTraders 17 = .ok (.iload_n 2, 1) := by decide +kernel
theorem dX4_areTwoTraders_18 : decode cX4_areTwoTraders 18 = .ok (.if_icmp .eq 7, 3) := by decide +kernel
theorem dX4_areTwoTraders_21 : decode cX4_areTwoTraders 21 = .ok (.iconst 1, 1) := by decide +kernel
theorem dX4_areTwoTraders_22 : decode cX4_areTwoTraders 22 = .ok (.goto 4, 3) := by decide +kernel
theorem dX4_areTwoTraders_25 : decode cX4_areTwoTraders 25 = .ok (.iconst 0, 1) := by decide +kernel
theorem dX4_areTwoTraders_26 : decode cX4_areTwoTraders 26 = .ok (.ireturn, 1) := by decide +kernel
theorem dX4_isAct_0 : decode cX4_isAct 0 = .ok (.iload_n 0, 1) := by decide +kernel
theorem dX4_isAct_1 : decode cX4_isAct 1 = .ok (.ifCond .lt 13, 3) := by decide +kernel
theorem dX4_isAct_4 : decode cX4_isAct 4 = .ok (.iload_n 0, 1) := by decide +kernel
theorem dX4_isAct_5 : decode cX4_isAct 5 = .ok (.bipush 8, 2) := by decide +kernel
theorem dX4_isAct_7 : decode cX4_isAct 7 = .ok (.if_icmp .ge 7, 3) := by decide +kernel
theorem dX4_isAct_10 : decode cX4_isAct 10 = .ok (.iconst 1, 1) := by decide +kernel
theorem dX4_isAct_11 : decode cX4_isAct 11 = .ok (.goto 4, 3) := by decide +kernel
theorem dX4_isAct_14 : decode cX4_isAct 14 = .ok (.iconst 0, 1) := by decide +kernel
theorem dX4_isAct_15 : decode cX4_isAct 15 = .ok (.ireturn, 1) := by decide +kernel
theorem dX4_isPlace_0 : decode cX4_isPlace 0 = .ok (.iload_n 0, 1) := by decide +kernel
theorem dX4_isPlace_1 : decode cX4_isPlace 1 = .ok (.ifCond .lt 13, 3) := by decide +kernel
theorem dX4_isPlace_4 : decode cX4_isPlace 4 = .ok (.iload_n 0, 1) := by decide +kernel
theorem dX4_isPlace_5 : decode cX4_isPlace 5 = .ok (.bipush 8, 2) := by decide +kernel
theorem dX4_isPlace_7 : decode cX4_isPlace 7 = .ok (.if_icmp .ge 7, 3) := by decide +kernel
theorem dX4_isPlace_10 : decode cX4_isPlace 10 = .ok (.iconst 1, 1) := by decide +kernel
theorem dX4_isPlace_11 : decode cX4_isPlace 11 = .ok (.goto 4, 3) := by decide +kernel
theorem dX4_isPlace_14 : decode cX4_isPlace 14 = .ok (.iconst 0, 1) := by decide +kernel
theorem dX4_isPlace_15 : decode cX4_isPlace 15 = .ok (.ireturn, 1) := by decide +kernel
theorem dX4_isDay_0 : decode cX4_isDay 0 = .ok (.iload_n 0, 1) := by decide +kernel
theorem dX4_isDay_1 : decode cX4_isDay 1 = .ok (.ifCond .lt 13, 3) := by decide +kernel
theorem dX4_isDay_4 : decode cX4_isDay 4 = .ok (.iload_n 0, 1) := by decide +kernel
theorem dX4_isDay_5 : decode cX4_isDay 5 = .ok (.ldc 200, 2) := by decide +kernel
theorem dX4_isDay_7 : decode cX4_isDay 7 = .ok (.if_icmp .gt 7, 3) := by decide +kernel
theorem dX4_isDay_10 : decode cX4_isDay 10 = .ok (.iconst 1, 1) := by decide +kernel
theorem dX4_isDay_11 : decode cX4_isDay 11 = .ok (.goto 4, 3) := by decide +kernel
theorem dX4_isDay_14 : decode cX4_isDay 14 = .ok (.iconst 0, 1) := by decide +kernel
theorem dX4_isDay_15 : decode cX4_isDay 15 = .ok (.ireturn, 1) := by decide +kernel
theorem dX4_bit_0 : decode cX4_bit 0 = .ok (.iconst 1, 1) := by decide +kernel
theorem dX4_bit_1 : decode cX4_bit 1 = .ok (.iload_n 0, 1) := by decide +kernel
theorem dX4_bit_2 : decode cX4_bit 2 = .ok (.ishl, 1) := by decide +kernel
theorem dX4_bit_3 : decode cX4_bit 3 = .ok (.ireturn, 1) := by decide +kernel
theorem dX4_holds_0 : decode cX4_holds 0 = .ok (.iload_n 0, 1) := by decide +kernel
theorem dX4_holds_1 : decode cX4_holds 1 = .ok (.iload_n 1, 1) := by decide +kernel
theorem dX4_holds_2 : decode cX4_holds 2 = .ok (.ishr, 1) := by decide +kernel
theorem dX4_holds_3 : decode cX4_holds 3 = .ok (.iconst 1, 1) := by decide +kernel
theorem dX4_holds_4 : decode cX4_holds 4 = .ok (.iand, 1) := by decide +kernel
theorem dX4_holds_5 : decode cX4_holds 5 = .ok (.ifCond .eq 7, 3) := by decide +kernel
theorem dX4_holds_8 : decode cX4_holds 8 = .ok (.iconst 1, 1) := by decide +kernel
theorem dX4_holds_9 : decode cX4_holds 9 = .ok (.goto 4, 3) := by decide +kernel
theorem dX4_holds_12 : decode cX4_holds 12 = .ok (.iconst 0, 1) := by decide +kernel
theorem dX4_holds_13 : decode cX4_holds 13 = .ok (.ireturn, 1) := by decide +kernel
theorem dX4_everyTrader_0 : decode cX4_everyTrader 0 = .ok (.aload_n 0, 1) := by decide +kernel
theorem dX4_everyTrader_1 : decode cX4_everyTrader 1 = .ok (.getfield 7, 3) := by decide +kernel
theorem dX4_everyTrader_4 : decode cX4_everyTrader 4 = .ok (.invokestatic 106, 3) := by decide +kernel
theorem dX4_everyTrader_7 : decode cX4_everyTrader 7 = .ok (.iconst 1, 1) := by decide +kernel
theorem dX4_everyTrader_8 : decode cX4_everyTrader 8 = .ok (.isub, 1) := by decide +kernel
theorem dX4_everyTrader_9 : decode cX4_everyTrader 9 = .ok (.ireturn, 1) := by decide +kernel
theorem dX4_isForbidden_0 : decode cX4_isForbidden 0 = .ok (.aload_n 0, 1) := by decide +kernel
theorem dX4_isForbidden_1 : decode cX4_isForbidden 1 = .ok (.getfield 20, 3) := by decide +kernel
theorem dX4_isForbidden_4 : decode cX4_isForbidden 4 = .ok (.iload_n 1, 1) := by decide +kernel
theorem dX4_isForbidden_5 : decode cX4_isForbidden 5 = .ok (.iaload, 1) := by decide +kernel
theorem dX4_isForbidden_6 : decode cX4_isForbidden 6 = .ok (.iload_n 2, 1) := by decide +kernel
theorem dX4_isForbidden_7 : decode cX4_isForbidden 7 = .ok (.invokestatic 123, 3) := by decide +kernel
theorem dX4_isForbidden_10 : decode cX4_isForbidden 10 = .ok (.ireturn, 1) := by decide +kernel
theorem dX4_needsTwo_0 : decode cX4_needsTwo 0 = .ok (.aload_n 0, 1) := by decide +kernel
theorem dX4_needsTwo_1 : decode cX4_needsTwo 1 = .ok (.getfield 13, 3) := by decide +kernel
theorem dX4_needsTwo_4 : decode cX4_needsTwo 4 = .ok (.iload_n 1, 1) := by decide +kernel
theorem dX4_needsTwo_5 : decode cX4_needsTwo 5 = .ok (.invokestatic 123, 3) := by decide +kernel
theorem dX4_needsTwo_8 : decode cX4_needsTwo 8 = .ok (.ireturn, 1) := by decide +kernel
theorem dX4_isInDeputyPair_0 : decode cX4_isInDeputyPair 0 = .ok (.aload_n 0, 1) := by decide +kernel
theorem dX4_isInDeputyPair_1 : decode cX4_isInDeputyPair 1 = .ok (.getfield 23, 3) := by decide +kernel
theorem dX4_isInDeputyPair_4 : decode cX4_isInDeputyPair 4 = .ok (.iload_n 1, 1) := by decide +kernel
theorem dX4_isInDeputyPair_5 : decode cX4_isInDeputyPair 5 = .ok (.iaload, 1) := by decide +kernel
theorem dX4_isInDeputyPair_6 : decode cX4_isInDeputyPair 6 = .ok (.iconst (-1), 1) := by decide +kernel
theorem dX4_isInDeputyPair_7 : decode cX4_isInDeputyPair 7 = .ok (.if_icmp .ne 13, 3) := by decide +kernel
theorem dX4_isInDeputyPair_10 : decode cX4_isInDeputyPair 10 = .ok (.aload_n 0, 1) := by decide +kernel
theorem dX4_isInDeputyPair_11 : decode cX4_isInDeputyPair 11 = .ok (.getfield 26, 3) := by decide +kernel
theorem dX4_isInDeputyPair_14 : decode cX4_isInDeputyPair 14 = .ok (.iload_n 1, 1) := by decide +kernel
theorem dX4_isInDeputyPair_15 : decode cX4_isInDeputyPair 15 = .ok (.iaload, 1) := by decide +kernel
theorem dX4_isInDeputyPair_16 : decode cX4_isInDeputyPair 16 = .ok (.iconst (-1), 1) := by decide +kernel
theorem dX4_isInDeputyPair_17 : decode cX4_isInDeputyPair 17 = .ok (.if_icmp .eq 7, 3) := by decide +kernel
theorem dX4_isInDeputyPair_20 : decode cX4_isInDeputyPair 20 = .ok (.iconst 1, 1) := by decide +kernel
theorem dX4_isInDeputyPair_21 : decode cX4_isInDeputyPair 21 = .ok (.goto 4, 3) := by decide +kernel
theorem dX4_isInDeputyPair_24 : decode cX4_isInDeputyPair 24 = .ok (.iconst 0, 1) := by decide +kernel
theorem dX4_isInDeputyPair_25 : decode cX4_isInDeputyPair 25 = .ok (.ireturn, 1) := by decide +kernel
theorem dX4_isEnded_0 : decode cX4_isEnded 0 = .ok (.aload_n 0, 1) := by decide +kernel
theorem dX4_isEnded_1 : decode cX4_isEnded 1 = .ok (.getfield 29, 3) := by decide +kernel
theorem dX4_isEnded_4 : decode cX4_isEnded 4 = .ok (.iload_n 1, 1) := by decide +kernel
theorem dX4_isEnded_5 : decode cX4_isEnded 5 = .ok (.iaload, 1) := by decide +kernel
theorem dX4_isEnded_6 : decode cX4_isEnded 6 = .ok (.iconst (-1), 1) := by decide +kernel
theorem dX4_isEnded_7 : decode cX4_isEnded 7 = .ok (.if_icmp .eq 17, 3) := by decide +kernel
theorem dX4_isEnded_10 : decode cX4_isEnded 10 = .ok (.aload_n 0, 1) := by decide +kernel
theorem dX4_isEnded_11 : decode cX4_isEnded 11 = .ok (.getfield 29, 3) := by decide +kernel
theorem dX4_isEnded_14 : decode cX4_isEnded 14 = .ok (.iload_n 1, 1) := by decide +kernel
theorem dX4_isEnded_15 : decode cX4_isEnded 15 = .ok (.iaload, 1) := by decide +kernel
theorem dX4_isEnded_16 : decode cX4_isEnded 16 = .ok (.iload_n 2, 1) := by decide +kernel
theorem dX4_isEnded_17 : decode cX4_isEnded 17 = .ok (.if_icmp .gt 7, 3) := by decide +kernel
theorem dX4_isEnded_20 : decode cX4_isEnded 20 = .ok (.iconst 1, 1) := by decide +kernel
theorem dX4_isEnded_21 : decode cX4_isEnded 21 = .ok (.goto 4, 3) := by decide +kernel
theorem dX4_isEnded_24 : decode cX4_isEnded 24 = .ok (.iconst 0, 1) := by decide +kernel
theorem dX4_isEnded_25 : decode cX4_isEnded 25 = .ok (.ireturn, 1) := by decide +kernel
theorem dX4_aliveOn_0 : decode cX4_aliveOn 0 = .ok (.iconst 0, 1) := by decide +kernel
theorem dX4_aliveOn_1 : decode cX4_aliveOn 1 = .ok (.istore_n 2, 1) := by decide +kernel
theorem dX4_aliveOn_2 : decode cX4_aliveOn 2 = .ok (.iconst 0, 1) := by decide +kernel
theorem dX4_aliveOn_3 : decode cX4_aliveOn 3 = .ok (.istore_n 3, 1) := by decide +kernel
theorem dX4_aliveOn_4 : decode cX4_aliveOn 4 = .ok (.iload_n 3, 1) := by decide +kernel
theorem dX4_aliveOn_5 : decode cX4_aliveOn 5 = .ok (.aload_n 0, 1) := by decide +kernel
theorem dX4_aliveOn_6 : decode cX4_aliveOn 6 = .ok (.getfield 7, 3) := by decide +kernel
theorem dX4_aliveOn_9 : decode cX4_aliveOn 9 = .ok (.if_icmp .ge 37, 3) := by decide +kernel
theorem dX4_aliveOn_12 : decode cX4_aliveOn 12 = .ok (.aload_n 0, 1) := by decide +kernel
theorem dX4_aliveOn_13 : decode cX4_aliveOn 13 = .ok (.iload_n 3, 1) := by decide +kernel
theorem dX4_aliveOn_14 : decode cX4_aliveOn 14 = .ok (.iload_n 1, 1) := by decide +kernel
theorem dX4_aliveOn_15 : decode cX4_aliveOn 15 = .ok (.invokevirtual 150, 3) := by decide +kernel
theorem dX4_aliveOn_18 : decode cX4_aliveOn 18 = .ok (.ifCond .ne 22, 3) := by decide +kernel
theorem dX4_aliveOn_21 : decode cX4_aliveOn 21 = .ok (.aload_n 0, 1) := by decide +kernel
theorem dX4_aliveOn_22 : decode cX4_aliveOn 22 = .ok (.getfield 55, 3) := by decide +kernel
theorem dX4_aliveOn_25 : decode cX4_aliveOn 25 = .ok (.iload_n 3, 1) := by decide +kernel
theorem dX4_aliveOn_26 : decode cX4_aliveOn 26 = .ok (.iload_n 1, 1) := by decide +kernel
theorem dX4_aliveOn_27 : decode cX4_aliveOn 27 = .ok (.invokevirtual 153, 3) := by decide +kernel
theorem dX4_aliveOn_30 : decode cX4_aliveOn 30 = .ok (.ifCond .ne 10, 3) := by decide +kernel
theorem dX4_aliveOn_33 : decode cX4_aliveOn 33 = .ok (.iload_n 2, 1) := by decide +kernel
theorem dX4_aliveOn_34 : decode cX4_aliveOn 34 = .ok (.iload_n 3, 1) := by decide +kernel
theorem dX4_aliveOn_35 : decode cX4_aliveOn 35 = .ok (.invokestatic 106, 3) := by decide +kernel
theorem dX4_aliveOn_38 : decode cX4_aliveOn 38 = .ok (.ior, 1) := by decide +kernel
theorem dX4_aliveOn_39 : decode cX4_aliveOn 39 = .ok (.istore_n 2, 1) := by decide +kernel
theorem dX4_aliveOn_40 : decode cX4_aliveOn 40 = .ok (.iinc 3 1, 3) := by decide +kernel
theorem dX4_aliveOn_43 : decode cX4_aliveOn 43 = .ok (.goto (-39), 3) := by decide +kernel
theorem dX4_aliveOn_46 : decode cX4_aliveOn 46 = .ok (.iload_n 2, 1) := by decide +kernel
theorem dX4_aliveOn_47 : decode cX4_aliveOn 47 = .ok (.ireturn, 1) := by decide +kernel
theorem dX4_groupsAmong_0 : decode cX4_groupsAmong 0 = .ok (.aload_n 0, 1) := by decide +kernel
theorem dX4_groupsAmong_1 : decode cX4_groupsAmong 1 = .ok (.getfield 16, 3) := by decide +kernel
theorem dX4_groupsAmong_4 : decode cX4_groupsAmong 4 = .ok (.iload_n 1, 1) := by decide +kernel
theorem dX4_groupsAmong_5 : decode cX4_groupsAmong 5 = .ok (.iaload, 1) := by decide +kernel
theorem dX4_groupsAmong_6 : decode cX4_groupsAmong 6 = .ok (.iload_n 2, 1) := by decide +kernel
theorem dX4_groupsAmong_7 : decode cX4_groupsAmong 7 = .ok (.iand, 1) := by decide +kernel
theorem dX4_groupsAmong_8 : decode cX4_groupsAmong 8 = .ok (.istore_n 3, 1) := by decide +kernel
theorem dX4_groupsAmong_9 : decode cX4_groupsAmong 9 = .ok (.iconst 2, 1) := by decide +kernel
theorem dX4_groupsAmong_10 : decode cX4_groupsAmong 10 = .ok (.istore 4, 2) := by decide +kernel
theorem dX4_groupsAmong_12 : decode cX4_groupsAmong 12 = .ok (.iload 4, 2) := by decide +kernel
theorem dX4_groupsAmong_14 : decode cX4_groupsAmong 14 = .ok (.aload_n 0, 1) := by decide +kernel
theorem dX4_groupsAmong_15 : decode cX4_groupsAmong 15 = .ok (.getfield 7, 3) := by decide +kernel
theorem dX4_groupsAmong_18 : decode cX4_groupsAmong 18 = .ok (.if_icmp .ge 19, 3) := by decide +kernel
theorem dX4_groupsAmong_21 : decode cX4_groupsAmong 21 = .ok (.iload_n 3, 1) := by decide +kernel
theorem dX4_groupsAmong_22 : decode cX4_groupsAmong 22 = .ok (.aload_n 0, 1) := by decide +kernel
theorem dX4_groupsAmong_23 : decode cX4_groupsAmong 23 = .ok (.iload_n 3, 1) := by decide +kernel
theorem dX4_groupsAmong_24 : decode cX4_groupsAmong 24 = .ok (.invokevirtual 201, 3) := by decide +kernel
theorem dX4_groupsAmong_27 : decode cX4_groupsAmong 27 = .ok (.iload_n 2, 1) := by decide +kernel
theorem dX4_groupsAmong_28 : decode cX4_groupsAmong 28 = .ok (.iand, 1) := by decide +kernel
theorem dX4_groupsAmong_29 : decode cX4_groupsAmong 29 = .ok (.ior, 1) := by decide +kernel
theorem dX4_groupsAmong_30 : decode cX4_groupsAmong 30 = .ok (.istore_n 3, 1) := by decide +kernel
theorem dX4_groupsAmong_31 : decode cX4_groupsAmong 31 = .ok (.iinc 4 1, 3) := by decide +kernel
theorem dX4_groupsAmong_34 : decode cX4_groupsAmong 34 = .ok (.goto (-22), 3) := by decide +kernel
theorem dX4_groupsAmong_37 : decode cX4_groupsAmong 37 = .ok (.iload_n 3, 1) := by decide +kernel
theorem dX4_groupsAmong_38 : decode cX4_groupsAmong 38 = .ok (.ireturn, 1) := by decide +kernel
theorem dX4_groupsOfAll_0 : decode cX4_groupsOfAll 0 = .ok (.iconst 0, 1) := by decide +kernel
theorem dX4_groupsOfAll_1 : decode cX4_groupsOfAll 1 = .ok (.istore_n 2, 1) := by decide +kernel
theorem dX4_groupsOfAll_2 : decode cX4_groupsOfAll 2 = .ok (.iconst 0, 1) := by decide +kernel
theorem dX4_groupsOfAll_3 : decode cX4_groupsOfAll 3 = .ok (.istore_n 3, 1) := by decide +kernel
theorem dX4_groupsOfAll_4 : decode cX4_groupsOfAll 4 = .ok (.iload_n 3, 1) := by decide +kernel
theorem dX4_groupsOfAll_5 : decode cX4_groupsOfAll 5 = .ok (.aload_n 0, 1) := by decide +kernel
theorem dX4_groupsOfAll_6 : decode cX4_groupsOfAll 6 = .ok (.getfield 7, 3) := by decide +kernel
theorem dX4_groupsOfAll_9 : decode cX4_groupsOfAll 9 = .ok (.if_icmp .ge 26, 3) := by decide +kernel
theorem dX4_groupsOfAll_12 : decode cX4_groupsOfAll 12 = .ok (.iload_n 1, 1) := by decide +kernel
theorem dX4_groupsOfAll_13 : decode cX4_groupsOfAll 13 = .ok (.iload_n 3, 1) := by decide +kernel
theorem dX4_groupsOfAll_14 : decode cX4_groupsOfAll 14 = .ok (.invokestatic 123, 3) := by decide +kernel
theorem dX4_groupsOfAll_17 : decode cX4_groupsOfAll 17 = .ok (.ifCond .eq 12, 3) := by decide +kernel
theorem dX4_groupsOfAll_20 : decode cX4_groupsOfAll 20 = .ok (.iload_n 2, 1) := by decide +kernel
theorem dX4_groupsOfAll_21 : decode cX4_groupsOfAll 21 = .ok (.aload_n 0, 1) := by decide +kernel
theorem dX4_groupsOfAll_22 : decode cX4_groupsOfAll 22 = .ok (.getfield 16, 3) := by decide +kernel
theorem dX4_groupsOfAll_25 : decode cX4_groupsOfAll 25 = .ok (.iload_n 3, 1) := by decide +kernel
theorem dX4_groupsOfAll_26 : decode cX4_groupsOfAll 26 = .ok (.iaload, 1) := by decide +kernel
theorem dX4_groupsOfAll_27 : decode cX4_groupsOfAll 27 = .ok (.ior, 1) := by decide +kernel
theorem dX4_groupsOfAll_28 : decode cX4_groupsOfAll 28 = .ok (.istore_n 2, 1) := by decide +kernel
theorem dX4_groupsOfAll_29 : decode cX4_groupsOfAll 29 = .ok (.iinc 3 1, 3) := by decide +kernel
theorem dX4_groupsOfAll_32 : decode cX4_groupsOfAll 32 = .ok (.goto (-28), 3) := by decide +kernel
theorem dX4_groupsOfAll_35 : decode cX4_groupsOfAll 35 = .ok (.iload_n 2, 1) := by decide +kernel
theorem dX4_groupsOfAll_36 : decode cX4_groupsOfAll 36 = .ok (.ireturn, 1) := by decide +kernel
theorem dX4_ownersOf_0 : decode cX4_ownersOf 0 = .ok (.aload_n 0, 1) := by decide +kernel
theorem dX4_ownersOf_1 : decode cX4_ownersOf 1 = .ok (.getfield 41, 3) := by decide +kernel
theorem dX4_ownersOf_4 : decode cX4_ownersOf 4 = .ok (.iload_n 1, 1) := by decide +kernel
theorem dX4_ownersOf_5 : decode cX4_ownersOf 5 = .ok (.iload_n 2, 1) := by decide +kernel
theorem dX4_ownersOf_6 : decode cX4_ownersOf 6 = .ok (.iload_n 3, 1) := by decide +kernel
theorem dX4_ownersOf_7 : decode cX4_ownersOf 7 = .ok (.invokevirtual 204, 3) := by decide +kernel
theorem dX4_ownersOf_10 : decode cX4_ownersOf 10 = .ok (.istore 5, 2) := by decide +kernel
theorem dX4_ownersOf_12 : decode cX4_ownersOf 12 = .ok (.iconst 0, 1) := by decide +kernel
theorem dX4_ownersOf_13 : decode cX4_ownersOf 13 = .ok (.istore 6, 2) := by decide +kernel
theorem dX4_ownersOf_15 : decode cX4_ownersOf 15 = .ok (.iconst 0, 1) := by decide +kernel
theorem dX4_ownersOf_16 : decode cX4_ownersOf 16 = .ok (.istore 7, 2) := by decide +kernel
theorem dX4_ownersOf_18 : decode cX4_ownersOf 18 = .ok (.iload 7, 2) := by decide +kernel
theorem dX4_ownersOf_20 : decode cX4_ownersOf 20 = .ok (.aload_n 0, 1) := by decide +kernel
theorem dX4_ownersOf_21 : decode cX4_ownersOf 21 = .ok (.getfield 7, 3) := by decide +kernel
theorem dX4_ownersOf_24 : decode cX4_ownersOf 24 = .ok (.if_icmp .ge 53, 3) := by decide +kernel
theorem dX4_ownersOf_27 : decode cX4_ownersOf 27 = .ok (.iload 7, 2) := by decide +kernel
theorem dX4_ownersOf_29 : decode cX4_ownersOf 29 = .ok (.invokestatic 106, 3) := by decide +kernel
theorem dX4_ownersOf_32 : decode cX4_ownersOf 32 = .ok (.aload_n 0, 1) := by decide +kernel
theorem dX4_ownersOf_33 : decode cX4_ownersOf 33 = .ok (.iload 7, 2) := by decide +kernel
theorem dX4_ownersOf_35 : decode cX4_ownersOf 35 = .ok (.iload 4, 2) := by decide +kernel
theorem dX4_ownersOf_37 : decode cX4_ownersOf 37 = .ok (.invokevirtual 119, 3) := by decide +kernel
theorem dX4_ownersOf_40 : decode cX4_ownersOf 40 = .ok (.ior, 1) := by decide +kernel
theorem dX4_ownersOf_41 : decode cX4_ownersOf 41 = .ok (.istore 8, 2) := by decide +kernel
theorem dX4_ownersOf_43 : decode cX4_ownersOf 43 = .ok (.aload_n 0, 1) := by decide +kernel
theorem dX4_ownersOf_44 : decode cX4_ownersOf 44 = .ok (.iload 7, 2) := by decide +kernel
theorem dX4_ownersOf_46 : decode cX4_ownersOf 46 = .ok (.iload_n 1, 1) := by decide +kernel
theorem dX4_ownersOf_47 : decode cX4_ownersOf 47 = .ok (.invokevirtual 102, 3) := by decide +kernel
theorem dX4_ownersOf_50 : decode cX4_ownersOf 50 = .ok (.ifCond .ne 21, 3) := by decide +kernel
theorem dX4_ownersOf_53 : decode cX4_ownersOf 53 = .ok (.iload 8, 2) := by decide +kernel
theorem dX4_ownersOf_55 : decode cX4_ownersOf 55 = .ok (.iload 5, 2) := by decide +kernel
theorem dX4_ownersOf_57 : decode cX4_ownersOf 57 = .ok (.iand, 1) := by decide +kernel
theorem dX4_ownersOf_58 : decode cX4_ownersOf 58 = .ok (.ifCond .eq 13, 3) := by decide +kernel
theorem dX4_ownersOf_61 : decode cX4_ownersOf 61 = .ok (.iload 6, 2) := by decide +kernel
theorem dX4_ownersOf_63 : decode cX4_ownersOf 63 = .ok (.iload 7, 2) := by decide +kernel
theorem dX4_ownersOf_65 : decode cX4_ownersOf 65 = .ok (.invokestatic 106, 3) := by decide +kernel
theorem dX4_ownersOf_68 : decode cX4_ownersOf 68 = .ok (.ior, 1) := by decide +kernel
theorem dX4_ownersOf_69 : decode cX4_ownersOf 69 = .ok (.istore 6, 2) := by decide +kernel
theorem dX4_ownersOf_71 : decode cX4_ownersOf 71 = .ok (.iinc 7 1, 3) := by decide +kernel
theorem dX4_ownersOf_74 : decode cX4_ownersOf 74 = .ok (.goto (-56), 3) := by decide +kernel
theorem dX4_ownersOf_77 : decode cX4_ownersOf 77 = .ok (.iload 6, 2) := by decide +kernel
theorem dX4_ownersOf_79 : decode cX4_ownersOf 79 = .ok (.ireturn, 1) := by decide +kernel
theorem dX4_ownActs_0 : decode cX4_ownActs 0 = .ok (.iload_n 1, 1) := by decide +kernel
theorem dX4_ownActs_1 : decode cX4_ownActs 1 = .ok (.invokestatic 106, 3) := by decide +kernel
theorem dX4_ownActs_4 : decode cX4_ownActs 4 = .ok (.aload_n 0, 1) := by decide +kernel
theorem dX4_ownActs_5 : decode cX4_ownActs 5 = .ok (.iload_n 1, 1) := by decide +kernel
theorem dX4_ownActs_6 : decode cX4_ownActs 6 = .ok (.aload_n 0, 1) := by decide +kernel
theorem dX4_ownActs_7 : decode cX4_ownActs 7 = .ok (.iload_n 2, 1) := by decide +kernel
theorem dX4_ownActs_8 : decode cX4_ownActs 8 = .ok (.invokevirtual 188, 3) := by decide +kernel
theorem dX4_ownActs_11 : decode cX4_ownActs 11 = .ok (.invokevirtual 119, 3) := by decide +kernel
theorem dX4_ownActs_14 : decode cX4_ownActs 14 = .ok (.ior, 1) := by decide +kernel
theorem dX4_ownActs_15 : decode cX4_ownActs 15 = .ok (.istore_n 3, 1) := by decide +kernel
theorem dX4_ownActs_16 : decode cX4_ownActs 16 = .ok (.aload_n 0, 1) := by decide +kernel
theorem dX4_ownActs_17 : decode cX4_ownActs 17 = .ok (.getfield 41, 3) := by decide +kernel
theorem dX4_ownActs_20 : decode cX4_ownActs 20 = .ok (.iload_n 3, 1) := by decide +kernel
theorem dX4_ownActs_21 : decode cX4_ownActs 21 = .ok (.iload_n 2, 1) := by decide +kernel
theorem dX4_ownActs_22 : decode cX4_ownActs 22 = .ok (.invokevirtual 208, 3) := by decide +kernel
theorem dX4_ownActs_25 : decode cX4_ownActs 25 = .ok (.aload_n 0, 1) := by decide +kernel
theorem dX4_ownActs_26 : decode cX4_ownActs 26 = .ok (.getfield 20, 3) := by decide +kernel
theorem dX4_ownActs_29 : decode cX4_ownActs 29 = .ok (.iload_n 1, 1) := by decide +kernel
theorem dX4_ownActs_30 : decode cX4_ownActs 30 = .ok (.iaload, 1) := by decide +kernel
theorem dX4_ownActs_31 : decode cX4_ownActs 31 = .ok (.iconst (-1), 1) := by decide +kernel
theorem dX4_ownActs_32 : decode cX4_ownActs 32 = .ok (.ixor, 1) := by decide +kernel
theorem dX4_ownActs_33 : decode cX4_ownActs 33 = .ok (.iand, 1) := by decide +kernel
theorem dX4_ownActs_34 : decode cX4_ownActs 34 = .ok (.ireturn, 1) := by decide +kernel
theorem dX4_answerForAlive_0 : decode cX4_answerForAlive 0 = .ok (.aload_n 0, 1) := by decide +kernel
theorem dX4_answerForAlive_1 : decode cX4_answerForAlive 1 = .ok (.iload 4, 2) := by decide +kernel
theorem dX4_answerForAlive_3 : decode cX4_answerForAlive 3 = .ok (.invokevirtual 188, 3) := by decide +kernel
theorem dX4_answerForAlive_6 : decode cX4_answerForAlive 6 = .ok (.istore 5, 2) := by decide +kernel
theorem dX4_answerForAlive_8 : decode cX4_answerForAlive 8 = .ok (.aload_n 0, 1) := by decide +kernel
theorem dX4_answerForAlive_9 : decode cX4_answerForAlive 9 = .ok (.iload_n 2, 1) := by decide +kernel
theorem dX4_answerForAlive_10 : decode cX4_answerForAlive 10 = .ok (.iload_n 3, 1) := by decide +kernel
theorem dX4_answerForAlive_11 : decode cX4_answerForAlive 11 = .ok (.iload 4, 2) := by decide +kernel
theorem dX4_answerForAlive_13 : decode cX4_answerForAlive 13 = .ok (.iload 5, 2) := by decide +kernel
theorem dX4_answerForAlive_15 : decode cX4_answerForAlive 15 = .ok (.invokevirtual 211, 3) := by decide +kernel
theorem dX4_answerForAlive_18 : decode cX4_answerForAlive 18 = .ok (.istore 6, 2) := by decide +kernel
theorem dX4_answerForAlive_20 : decode cX4_answerForAlive 20 = .ok (.iload 6, 2) := by decide +kernel
theorem dX4_answerForAlive_22 : decode cX4_answerForAlive 22 = .ok (.iload_n 1, 1) := by decide +kernel
theorem dX4_answerForAlive_23 : decode cX4_answerForAlive 23 = .ok (.invokestatic 123, 3) := by decide +kernel
theorem dX4_answerForAlive_26 : decode cX4_answerForAlive 26 = .ok (.ifCond .eq 5, 3) := by decide +kernel
theorem dX4_answerForAlive_29 : decode cX4_answerForAlive 29 = .ok (.iconst 0, 1) := by decide +kernel
theorem dX4_answerForAlive_30 : decode cX4_answerForAlive 30 = .ok (.ireturn, 1) := by decide +kernel
theorem dX4_answerForAlive_31 : decode cX4_answerForAlive 31 = .ok (.iload 6, 2) := by decide +kernel
theorem dX4_answerForAlive_33 : decode cX4_answerForAlive 33 = .ok (.aload_n 0, 1) := by decide +kernel
theorem dX4_answerForAlive_34 : decode cX4_answerForAlive 34 = .ok (.iload_n 1, 1) := by decide +kernel
theorem dX4_answerForAlive_35 : decode cX4_answerForAlive 35 = .ok (.invokevirtual 214, 3) := by decide +kernel
theorem dX4_answerForAlive_38 : decode cX4_answerForAlive 38 = .ok (.aload_n 0, 1) := by decide +kernel
theorem dX4_answerForAlive_39 : decode cX4_answerForAlive 39 = .ok (.getfield 48, 3) := by decide +kernel
theorem dX4_answerForAlive_42 : decode cX4_answerForAlive 42 = .ok (.iload_n 1, 1) := by decide +kernel
theorem dX4_answerForAlive_43 : decode cX4_answerForAlive 43 = .ok (.iconst 1, 1) := by decide +kernel
theorem dX4_answerForAlive_44 : decode cX4_answerForAlive 44 = .ok (.iload 4, 2) := by decide +kernel
theorem dX4_answerForAlive_46 : decode cX4_answerForAlive 46 = .ok (.invokevirtual 217, 3) := by decide +kernel
theorem dX4_answerForAlive_49 : decode cX4_answerForAlive 49 = .ok (.ior, 1) := by decide +kernel
theorem dX4_answerForAlive_50 : decode cX4_answerForAlive 50 = .ok (.iand, 1) := by decide +kernel
theorem dX4_answerForAlive_51 : decode cX4_answerForAlive 51 = .ok (.istore 7, 2) := by decide +kernel
theorem dX4_answerForAlive_53 : decode cX4_answerForAlive 53 = .ok (.iload 6, 2) := by decide +kernel
theorem dX4_answerForAlive_55 : decode cX4_answerForAlive 55 = .ok (.aload_n 0, 1) := by decide +kernel
theorem dX4_answerForAlive_56 : decode cX4_answerForAlive 56 = .ok (.getfield 48, 3) := by decide +kernel
theorem dX4_answerForAlive_59 : decode cX4_answerForAlive 59 = .ok (.iload_n 1, 1) := by decide +kernel
theorem dX4_answerForAlive_60 : decode cX4_answerForAlive 60 = .ok (.iconst 0, 1) := by decide +kernel
theorem dX4_answerForAlive_61 : decode cX4_answerForAlive 61 = .ok (.iload 4, 2) := by decide +kernel
theorem dX4_answerForAlive_63 : decode cX4_answerForAlive 63 = .ok (.invokevirtual 217, 3) := by decide +kernel
theorem dX4_answerForAlive_66 : decode cX4_answerForAlive 66 = .ok (.iand, 1) := by decide +kernel
theorem dX4_answerForAlive_67 : decode cX4_answerForAlive 67 = .ok (.istore 8, 2) := by decide +kernel
theorem dX4_answerForAlive_69 : decode cX4_answerForAlive 69 = .ok (.iload 7, 2) := by decide +kernel
theorem dX4_answerForAlive_71 : decode cX4_answerForAlive 71 = .ok (.iload 5, 2) := by decide +kernel
theorem dX4_answerForAlive_73 : decode cX4_answerForAlive 73 = .ok (.iand, 1) := by decide +kernel
theorem dX4_answerForAlive_74 : decode cX4_answerForAlive 74 = .ok (.ifCond .eq 5, 3) := by decide +kernel
theorem dX4_answerForAlive_77 : decode cX4_answerForAlive 77 = .ok (.iconst 0, 1) := by decide +kernel
theorem dX4_answerForAlive_78 : decode cX4_answerForAlive 78 = .ok (.ireturn, 1) := by decide +kernel
theorem dX4_answerForAlive_79 : decode cX4_answerForAlive 79 = .ok (.iload 8, 2) := by decide +kernel
theorem dX4_answerForAlive_81 : decode cX4_answerForAlive 81 = .ok (.iload 5, 2) := by decide +kernel
theorem dX4_answerForAlive_83 : decode cX4_answerForAlive 83 = .ok (.iand, 1) := by decide +kernel
theorem dX4_answerForAlive_84 : decode cX4_answerForAlive 84 = .ok (.ifCond .eq 22, 3) := by decide +kernel
theorem dX4_answerForAlive_87 : decode cX4_answerForAlive 87 = .ok (.aload_n 0, 1) := by decide +kernel
theorem dX4_answerForAlive_88 : decode cX4_answerForAlive 88 = .ok (.iconst 0, 1) := by decide +kernel
theorem dX4_answerForAlive_89 : decode cX4_answerForAlive 89 = .ok (.iload_n 3, 1) := by decide +kernel
theorem dX4_answerForAlive_90 : decode cX4_answerForAlive 90 = .ok (.iload 4, 2) := by decide +kernel
theorem dX4_answerForAlive_92 : decode cX4_answerForAlive 92 = .ok (.iload 5, 2) := by decide +kernel
theorem dX4_answerForAlive_94 : decode cX4_answerForAlive 94 = .ok (.invokevirtual 211, 3) := by decide +kernel
theorem dX4_answerForAlive_97 : decode cX4_answerForAlive 97 = .ok (.iload_n 1, 1) := by decide +kernel
theorem dX4_answerForAlive_98 : decode cX4_answerForAlive 98 = .ok (.invokestatic 123, 3) := by decide +kernel
theorem dX4_answerForAlive_101 : decode cX4_answerForAlive 101 = .ok (.ifCond .eq 5, 3) := by decide +kernel
theorem dX4_answerForAlive_104 : decode cX4_answerForAlive 104 = .ok (.iconst 0, 1) := by decide +kernel
theorem dX4_answerForAlive_105 : decode cX4_answerForAlive 105 = .ok (.ireturn, 1) := by decide +kernel
theorem dX4_answerForAlive_106 : decode cX4_answerForAlive 106 = .ok (.aload_n 0, 1) := by decide +kernel
theorem dX4_answerForAlive_107 : decode cX4_answerForAlive 107 = .ok (.iload_n 1, 1) := by decide +kernel
theorem dX4_answerForAlive_108 : decode cX4_answerForAlive 108 = .ok (.iload_n 2, 1) := by decide +kernel
theorem dX4_answerForAlive_109 : decode cX4_answerForAlive 109 = .ok (.invokevirtual 102, 3) := by decide +kernel
theorem dX4_answerForAlive_112 : decode cX4_answerForAlive 112 = .ok (.ifCond .eq 5, 3) := by decide +kernel
theorem dX4_answerForAlive_115 : decode cX4_answerForAlive 115 = .ok (.iconst 4, 1) := by decide +kernel
theorem dX4_answerForAlive_116 : decode cX4_answerForAlive 116 = .ok (.ireturn, 1) := by decide +kernel
theorem dX4_answerForAlive_117 : decode cX4_answerForAlive 117 = .ok (.iload 8, 2) := by decide +kernel
theorem dX4_answerForAlive_119 : decode cX4_answerForAlive 119 = .ok (.iload 5, 2) := by decide +kernel
theorem dX4_answerForAlive_121 : decode cX4_answerForAlive 121 = .ok (.iand, 1) := by decide +kernel
theorem dX4_answerForAlive_122 : decode cX4_answerForAlive 122 = .ok (.ifCond .eq 5, 3) := by decide +kernel
theorem dX4_answerForAlive_125 : decode cX4_answerForAlive 125 = .ok (.iconst 5, 1) := by decide +kernel
theorem dX4_answerForAlive_126 : decode cX4_answerForAlive 126 = .ok (.ireturn, 1) := by decide +kernel
theorem dX4_answerForAlive_127 : decode cX4_answerForAlive 127 = .ok (.iload 7, 2) := by decide +kernel
theorem dX4_answerForAlive_129 : decode cX4_answerForAlive 129 = .ok (.iload 8, 2) := by decide +kernel
theorem dX4_answerForAlive_131 : decode cX4_answerForAlive 131 = .ok (.ior, 1) := by decide +kernel
theorem dX4_answerForAlive_132 : decode cX4_answerForAlive 132 = .ok (.ifCond .eq 8, 3) := by decide +kernel
theorem dX4_answerForAlive_135 : decode cX4_answerForAlive 135 = .ok (.bipush 6, 2) := by decide +kernel
theorem dX4_answerForAlive_137 : decode cX4_answerForAlive 137 = .ok (.goto 5, 3) := by decide +kernel
theorem dX4_answerForAlive_140 : decode cX4_answerForAlive 140 = .ok (.bipush 7, 2) := by decide +kernel
theorem dX4_answerForAlive_142 : decode cX4_answerForAlive 142 = .ok (.ireturn, 1) := by decide +kernel
theorem dX4_principalSet_0 : decode cX4_principalSet 0 = .ok (.aload_n 0, 1) := by decide +kernel
theorem dX4_principalSet_1 : decode cX4_principalSet 1 = .ok (.getfield 26, 3) := by decide +kernel
theorem dX4_principalSet_4 : decode cX4_principalSet 4 = .ok (.iload_n 1, 1) := by decide +kernel
theorem dX4_principalSet_5 : decode cX4_principalSet 5 = .ok (.iaload, 1) := by decide +kernel
theorem dX4_principalSet_6 : decode cX4_principalSet 6 = .ok (.iconst (-1), 1) := by decide +kernel
theorem dX4_principalSet_7 : decode cX4_principalSet 7 = .ok (.if_icmp .ne 7, 3) := by decide +kernel
theorem dX4_principalSet_10 : decode cX4_principalSet 10 = .ok (.iconst 0, 1) := by decide +kernel
theorem dX4_principalSet_11 : decode cX4_principalSet 11 = .ok (.goto 12, 3) := by decide +kernel
theorem dX4_principalSet_14 : decode cX4_principalSet 14 = .ok (.aload_n 0, 1) := by decide +kernel
theorem dX4_principalSet_15 : decode cX4_principalSet 15 = .ok (.getfield 26, 3) := by decide +kernel
theorem dX4_principalSet_18 : decode cX4_principalSet 18 = .ok (.iload_n 1, 1) := by decide +kernel
theorem dX4_principalSet_19 : decode cX4_principalSet 19 = .ok (.iaload, 1) := by decide +kernel
theorem dX4_principalSet_20 : decode cX4_principalSet 20 = .ok (.invokestatic 106, 3) := by decide +kernel
theorem dX4_principalSet_23 : decode cX4_principalSet 23 = .ok (.ireturn, 1) := by decide +kernel
theorem dX4_digit_0 : decode cX4_digit 0 = .ok (.iload_n 0, 1) := by decide +kernel
theorem dX4_digit_1 : decode cX4_digit 1 = .ok (.istore_n 2, 1) := by decide +kernel
theorem dX4_digit_2 : decode cX4_digit 2 = .ok (.iconst 5, 1) := by decide +kernel
theorem dX4_digit_3 : decode cX4_digit 3 = .ok (.istore_n 3, 1) := by decide +kernel
theorem dX4_digit_4 : decode cX4_digit 4 = .ok (.iload_n 3, 1) := by decide +kernel
theorem dX4_digit_5 : decode cX4_digit 5 = .ok (.iload_n 1, 1) := by decide +kernel
theorem dX4_digit_6 : decode cX4_digit 6 = .ok (.if_icmp .le 14, 3) := by decide +kernel
theorem dX4_digit_9 : decode cX4_digit 9 = .ok (.iload_n 2, 1) := by decide +kernel
theorem dX4_digit_10 : decode cX4_digit 10 = .ok (.bipush 26, 2) := by decide +kernel
theorem dX4_digit_12 : decode cX4_digit 12 = .ok (.idiv, 1) := by decide +kernel
theorem dX4_digit_13 : decode cX4_digit 13 = .ok (.istore_n 2, 1) := by decide +kernel
theorem dX4_digit_14 : decode cX4_digit 14 = .ok (.iinc 3 (-1), 3) := by decide +kernel
theorem dX4_digit_17 : decode cX4_digit 17 = .ok (.goto (-13), 3) := by decide +kernel
theorem dX4_digit_20 : decode cX4_digit 20 = .ok (.iload_n 2, 1) := by decide +kernel
theorem dX4_digit_21 : decode cX4_digit 21 = .ok (.bipush 26, 2) := by decide +kernel
theorem dX4_digit_23 : decode cX4_digit 23 = .ok (.irem, 1) := by decide +kernel
theorem dX4_digit_24 : decode cX4_digit 24 = .ok (.ireturn, 1) := by decide +kernel
theorem dX4_checkValue_0 : decode cX4_checkValue 0 = .ok (.iconst 0, 1) := by decide +kernel
theorem dX4_checkValue_1 : decode cX4_checkValue 1 = .ok (.istore_n 1, 1) := by decide +kernel
theorem dX4_checkValue_2 : decode cX4_checkValue 2 = .ok (.iconst 0, 1) := by decide +kernel
theorem dX4_checkValue_3 : decode cX4_checkValue 3 = .ok (.istore_n 2, 1) := by decide +kernel
theorem dX4_checkValue_4 : decode cX4_checkValue 4 = .ok (.iload_n 2, 1) := by decide +kernel
theorem dX4_checkValue_5 : decode cX4_checkValue 5 = .ok (.bipush 6, 2) := by decide +kernel
theorem dX4_checkValue_7 : decode cX4_checkValue 7 = .ok (.if_icmp .ge 21, 3) := by decide +kernel
theorem dX4_checkValue_10 : decode cX4_checkValue 10 = .ok (.iload_n 1, 1) := by decide +kernel
theorem dX4_checkValue_11 : decode cX4_checkValue 11 = .ok (.iload_n 2, 1) := by decide +kernel
theorem dX4_checkValue_12 : decode cX4_checkValue 12 = .ok (.iconst 1, 1) := by decide +kernel
theorem dX4_checkValue_13 : decode cX4_checkValue 13 = .ok (.iadd, 1) := by decide +kernel
theorem dX4_checkValue_14 : decode cX4_checkValue 14 = .ok (.iload_n 0, 1) := by decide +kernel
theorem dX4_checkValue_15 : decode cX4_checkValue 15 = .ok (.iload_n 2, 1) := by decide +kernel
theorem dX4_checkValue_16 : decode cX4_checkValue 16 = .ok (.invokestatic 174, 3) := by decide +kernel
theorem dX4_checkValue_19 : decode cX4_checkValue 19 = .ok (.imul, 1) := by decide +kernel
theorem dX4_checkValue_20 : decode cX4_checkValue 20 = .ok (.iadd, 1) := by decide +kernel
theorem dX4_checkValue_21 : decode cX4_checkValue 21 = .ok (.istore_n 1, 1) := by decide +kernel
theorem dX4_checkValue_22 : decode cX4_checkValue 22 = .ok (.iinc 2 1, 3) := by decide +kernel
theorem dX4_checkValue_25 : decode cX4_checkValue 25 = .ok (.goto (-21), 3) := by decide +kernel
theorem dX4_checkValue_28 : decode cX4_checkValue 28 = .ok (.iload_n 1, 1) := by decide +kernel
theorem dX4_checkValue_29 : decode cX4_checkValue 29 = .ok (.bipush 23, 2) := by decide +kernel
theorem dX4_checkValue_31 : decode cX4_checkValue 31 = .ok (.irem, 1) := by decide +kernel
theorem dX4_checkValue_32 : decode cX4_checkValue 32 = .ok (.ireturn, 1) := by decide +kernel
theorem dX5_init_0 : decode cX5_init 0 = .ok (.aload_n 0, 1) := by decide +kernel
theorem dX5_init_1 : decode cX5_init 1 = .ok (.invokespecial 1, 3) := by decide +kernel
theorem dX5_init_4 : decode cX5_init 4 = .ok (.aload_n 0, 1) := by decide +kernel
theorem dX5_init_5 : decode cX5_init 5 = .ok (.bipush 12, 2) := by decide +kernel
theorem dX5_init_7 : decode cX5_init 7 = .ok (.newarray .int, 2) := by decide +kernel
theorem dX5_init_9 : decode cX5_init 9 = .ok (.putfield 7, 3) := by decide +kernel
theorem dX5_init_12 : decode cX5_init 12 = .ok (.aload_n 0, 1) := by decide +kernel
theorem dX5_init_13 : decode cX5_init 13 = .ok (.bipush 12, 2) := by decide +kernel
theorem dX5_init_15 : decode cX5_init 15 = .ok (.newarray .int, 2) := by decide +kernel
theorem dX5_init_17 : decode cX5_init 17 = .ok (.putfield 13, 3) := by decide +kernel
theorem dX5_init_20 : decode cX5_init 20 = .ok (.aload_n 0, 1) := by decide +kernel
theorem dX5_init_21 : decode cX5_init 21 = .ok (.bipush 12, 2) := by decide +kernel
theorem dX5_init_23 : decode cX5_init 23 = .ok (.newarray .int, 2) := by decide +kernel
theorem dX5_init_25 : decode cX5_init 25 = .ok (.putfield 16, 3) := by decide +kernel
theorem dX5_init_28 : decode cX5_init 28 = .ok (.aload_n 0, 1) := by decide +kernel
theorem dX5_init_29 : decode cX5_init 29 = .ok (.bipush 12, 2) := by decide +kernel
theorem dX5_init_31 : decode cX5_init 31 = .ok (.newarray .int, 2) := by decide +kernel
theorem dX5_init_33 : decode cX5_init 33 = .ok (.putfield 19, 3) := by decide +kernel
theorem dX5_init_36 : decode cX5_init 36 = .ok (.aload_n 0, 1) := by decide +kernel
theorem dX5_init_37 : decode cX5_init 37 = .ok (.bipush 60, 2) := by decide +kernel
theorem dX5_init_39 : decode cX5_init 39 = .ok (.newarray .int, 2) := by decide +kernel
theorem dX5_init_41 : decode cX5_init 41 = .ok (.putfield 22, 3) := by decide +kernel
theorem dX5_init_44 : decode cX5_init 44 = .ok (.aload_n 0, 1) := by decide +kernel
theorem dX5_init_45 : decode cX5_init 45 = .ok (.bipush 60, 2) := by decide +kernel
theorem dX5_init_47 : decode cX5_init 47 = .ok (.newarray .int, 2) := by decide +kernel
theorem dX5_init_49 : decode cX5_init 49 = .ok (.putfield 25, 3) := by decide +kernel
theorem dX5_init_52 : decode cX5_init 52 = .ok (.aload_n 0, 1) := by decide +kernel
theorem dX5_init_53 : decode cX5_init 53 = .ok (.bipush 60, 2) := by decide +kernel
theorem dX5_init_55 : decode cX5_init 55 = .ok (.newarray .int, 2) := by decide +kernel
theorem dX5_init_57 : decode cX5_init 57 = .ok (.putfield 28, 3) := by decide +kernel
theorem dX5_init_60 : decode cX5_init 60 = .ok (.aload_n 0, 1) := by decide +kernel
theorem dX5_init_61 : decode cX5_init 61 = .ok (.bipush 60, 2) := by decide +kernel
theorem dX5_init_63 : decode cX5_init 63 = .ok (.newarray .int, 2) := by decide +kernel
theorem dX5_init_65 : decode cX5_init 65 = .ok (.putfield 31, 3) := by decide +kernel
theorem dX5_init_68 : decode cX5_init 68 = .ok (.aload_n 0, 1) := by decide +kernel
theorem dX5_init_69 : decode cX5_init 69 = .ok (.bipush 60, 2) := by decide +kernel
theorem dX5_init_71 : decode cX5_init 71 = .ok (.newarray .int, 2) := by decide +kernel
theorem dX5_init_73 : decode cX5_init 73 = .ok (.putfield 34, 3) := by decide +kernel
theorem dX5_init_76 : decode cX5_init 76 = .ok (.aload_n 0, 1) := by decide +kernel
theorem dX5_init_77 : decode cX5_init 77 = .ok (.bipush 60, 2) := by decide +kernel
theorem dX5_init_79 : decode cX5_init 79 = .ok (.newarray .int, 2) := by decide +kernel
theorem dX5_init_81 : decode cX5_init 81 = .ok (.putfield 37, 3) := by decide +kernel
theorem dX5_init_84 : decode cX5_init 84 = .ok (.aload_n 0, 1) := by decide +kernel
theorem dX5_init_85 : decode cX5_init 85 = .ok (.bipush 60, 2) := by decide +kernel
theorem dX5_init_87 : decode cX5_init 87 = .ok (.newarray .int, 2) := by decide +kernel
theorem dX5_init_89 : decode cX5_init 89 = .ok (.putfield 40, 3) := by decide +kernel
theorem dX5_init_92 : decode cX5_init 92 = .ok (.aload_n 0, 1) := by decide +kernel
theorem dX5_init_93 : decode cX5_init 93 = .ok (.bipush 60, 2) := by decide +kernel
theorem dX5_init_95 : decode cX5_init 95 = .ok (.newarray .boolean, 2) := by decide +kernel
theorem dX5_init_97 : decode cX5_init 97 = .ok (.putfield 43, 3) := by decide +kernel
theorem dX5_init_100 : decode cX5_init 100 = .ok (.aload_n 0, 1) := by decide +kernel
theorem dX5_init_101 : decode cX5_init 101 = .ok (.bipush 60, 2) := by decide +kernel
theorem dX5_init_103 : decode cX5_init 103 = .ok (.newarray .int, 2) := by decide +kernel
theorem dX5_init_105 : decode cX5_init 105 = .ok (.putfield 47, 3) := by decide +kernel
theorem dX5_init_108 : decode cX5_init 108 = .ok (.aload_n 0, 1) := by decide +kernel
theorem dX5_init_109 : decode cX5_init 109 = .ok (.bipush 60, 2) := by decide +kernel
theorem dX5_init_111 : decode cX5_init 111 = .ok (.newarray .int, 2) := by decide +kernel
theorem dX5_init_113 : decode cX5_init 113 = .ok (.putfield 50, 3) := by decide +kernel
theorem dX5_init_116 : decode cX5_init 116 = .ok (.aload_n 0, 1) := by decide +kernel
theorem dX5_init_117 : decode cX5_init 117 = .ok (.bipush 60, 2) := by decide +kernel
theorem dX5_init_119 : decode cX5_init 119 = .ok (.newarray .int, 2) := by decide +kernel
theorem dX5_init_121 : decode cX5_init 121 = .ok (.putfield 53, 3) := by decide +kernel
theorem dX5_init_124 : decode cX5_init 124 = .ok (.aload_n 0, 1) := by decide +kernel
theorem dX5_init_125 : decode cX5_init 125 = .ok (.bipush 60, 2) := by decide +kernel
theorem dX5_init_127 : decode cX5_init 127 = .ok (.newarray .boolean, 2) := by decide +kernel
theorem dX5_init_129 : decode cX5_init 129 = .ok (.putfield 56, 3) := by decide +kernel
theorem dX5_init_132 : decode cX5_init 132 = .ok (.aload_n 0, 1) := by decide +kernel
theorem dX5_init_133 : decode cX5_init 133 = .ok (.bipush 7, 2) := by decide +kernel
theorem dX5_init_135 : decode cX5_init 135 = .ok (.newarray .int, 2) := by decide +kernel
theorem dX5_init_137 : decode cX5_init 137 = .ok (.putfield 59, 3) := by decide +kernel
theorem dX5_init_140 : decode cX5_init 140 = .ok (.aload_n 0, 1) := by decide +kernel
theorem dX5_init_141 : decode cX5_init 141 = .ok (.iconst (-1), 1) := by decide +kernel
theorem dX5_init_142 : decode cX5_init 142 = .ok (.putfield 62, 3) := by decide +kernel
theorem dX5_init_145 : decode cX5_init 145 = .ok (.return_, 1) := by decide +kernel
theorem dX5_thrown_0 : decode cX5_thrown 0 = .ok (.aload_n 0, 1) := by decide +kernel
theorem dX5_thrown_1 : decode cX5_thrown 1 = .ok (.getfield 66, 3) := by decide +kernel
theorem dX5_thrown_4 : decode cX5_thrown 4 = .ok (.ireturn, 1) := by decide +kernel
theorem dX5_in_0 : decode cX5_in 0 = .ok (.iload_n 0, 1) := by decide +kernel
theorem dX5_in_1 : decode cX5_in 1 = .ok (.iload_n 1, 1) := by decide +kernel
theorem dX5_in_2 : decode cX5_in 2 = .ok (.if_icmp .lt 12, 3) := by decide +kernel
theorem dX5_in_5 : decode cX5_in 5 = .ok (.iload_n 0, 1) := by decide +kernel
theorem dX5_in_6 : decode cX5_in 6 = .ok (.iload_n 2, 1) := by decide +kernel
theorem dX5_in_7 : decode cX5_in 7 = .ok (.if_icmp .gt 7, 3) := by decide +kernel
theorem dX5_in_10 : decode cX5_in 10 = .ok (.iconst 1, 1) := by decide +kernel
theorem dX5_in_11 : decode cX5_in 11 = .ok (.goto 4, 3) := by decide +kernel
theorem dX5_in_14 : decode cX5_in 14 = .ok (.iconst 0, 1) := by decide +kernel
theorem dX5_in_15 : decode cX5_in 15 = .ok (.ireturn, 1) := by decide +kernel
theorem dX5_isTrader_0 : decode cX5_isTrader 0 = .ok (.iload_n 1, 1) := by decide +kernel
theorem dX5_isTrader_1 : decode cX5_isTrader 1 = .ok (.ifCond .lt 15, 3) := by decide +kernel
theorem dX5_isTrader_4 : decode cX5_isTrader 4 = .ok (.iload_n 1, 1) := by decide +kernel
theorem dX5_isTrader_5 : decode cX5_isTrader 5 = .ok (.aload_n 0, 1) := by decide +kernel
theorem dX5_isTrader_6 : decode cX5_isTrader 6 = .ok (.getfield 69, 3) := by decide +kernel
theorem dX5_isTrader_9 : decode cX5_isTrader 9 = .ok (.if_icmp .ge 7, 3) := by decide +kernel
theorem dX5_isTrader_12 : decode cX5_isTrader 12 = .ok (.iconst 1, 1) := by decide +kernel
theorem dX5_isTrader_13 : decode cX5_isTrader 13 = .ok (.goto 4, 3) := by decide +kernel
theorem dX5_isTrader_16 : decode cX5_isTrader 16 = .ok (.iconst 0, 1) := by decide +kernel
theorem dX5_isTrader_17 : decode cX5_isTrader 17 = .ok (.ireturn, 1) := by decide +kernel
theorem dX5_isDay_0 : decode cX5_isDay 0 = .ok (.iload_n 0, 1) := by decide +kernel
theorem dX5_isDay_1 : decode cX5_isDay 1 = .ok (.iconst 0, 1) := by decide +kernel
theorem dX5_isDay_2 : decode cX5_isDay 2 = .ok (.ldc 72, 2) := by decide +kernel
theorem dX5_isDay_4 : decode cX5_isDay 4 = .ok (.invokestatic 73, 3) := by decide +kernel
theorem dX5_isDay_7 : decode cX5_isDay 7 = .ok (.ireturn, 1) := by decide +kernel
theorem dX5_isEight_0 : decode cX5_isEight 0 = .ok (.iload_n 0, 1) := by decide +kernel
theorem dX5_isEight_1 : decode cX5_isEight 1 = .ok (.iconst 0, 1) := by decide +kernel
theorem dX5_isEight_2 : decode cX5_isEight 2 = .ok (.bipush 7, 2) := by decide +kernel
theorem dX5_isEight_4 : decode cX5_isEight 4 = .ok (.invokestatic 73, 3) := by decide +kernel
theorem dX5_isEight_7 : decode cX5_isEight 7 = .ok (.ireturn, 1) := by decide +kernel
theorem dX5_trader_0 : decode cX5_trader 0 = .ok (.aload_n 0, 1) := by decide +kernel
theorem dX5_trader_1 : decode cX5_trader 1 = .ok (.aload_n 0, 1) := by decide +kernel
theorem dX5_trader_2 : decode cX5_trader 2 = .ok (.getfield 69, 3) := by decide +kernel
theorem dX5_trader_5 : decode cX5_trader 5 = .ok (.bipush 12, 2) := by decide +kernel
theorem dX5_trader_7 : decode cX5_trader 7 = .ok (.if_icmp .ne 7, 3) := by decide +kernel
theorem dX5_trader_10 : decode cX5_trader 10 = .ok (.iconst 1, 1) := by decide +kernel
theorem dX5_trader_11 : decode cX5_trader 11 = .ok (.goto 4, 3) := by decide +kernel
theorem dX5_trader_14 : decode cX5_trader 14 = .ok (.iconst 0, 1) := by decide +kernel
theorem dX5_trader_15 : decode cX5_trader 15 = .ok (.putfield 66, 3) := by decide +kernel
theorem dX5_trader_18 : decode cX5_trader 18 = .ok (.aload_n 0, 1) := by decide +kernel
theorem dX5_trader_19 : decode cX5_trader 19 = .ok (.getfield 66, 3) := by decide +kernel
theorem dX5_trader_22 : decode cX5_trader 22 = .ok (.ifCond .le 5, 3) := by decide +kernel
theorem dX5_trader_25 : decode cX5_trader 25 = .ok (.iconst 0, 1) := by decide +kernel
theorem dX5_trader_26 : decode cX5_trader 26 = .ok (.ireturn, 1) := by decide +kernel
theorem dX5_trader_27 : decode cX5_trader 27 = .ok (.aload_n 0, 1) := by decide +kernel
theorem dX5_trader_28 : decode cX5_trader 28 = .ok (.getfield 16, 3) := by decide +kernel
theorem dX5_trader_31 : decode cX5_trader 31 = .ok (.aload_n 0, 1) := by decide +kernel
theorem dX5_trader_32 : decode cX5_trader 32 = .ok (.getfield 69, 3) := by decide +kernel
theorem dX5_trader_35 : decode cX5_trader 35 = .ok (.iconst (-1), 1) := by decide +kernel
theorem dX5_trader_36 : decode cX5_trader 36 = .ok (.iastore, 1) := by decide +kernel
theorem dX5_trader_37 : decode cX5_trader 37 = .ok (.aload_n 0, 1) := by decide +kernel
theorem dX5_trader_38 : decode cX5_trader 38 = .ok (.getfield 19, 3) := by decide +kernel
theorem dX5_trader_41 : decode cX5_trader 41 = .ok (.aload_n 0, 1) := by decide +kernel
theorem dX5_trader_42 : decode cX5_trader 42 = .ok (.getfield 69, 3) := by decide +kernel
theorem dX5_trader_45 : decode cX5_trader 45 = .ok (.iconst (-1), 1) := by decide +kernel
theorem dX5_trader_46 : decode cX5_trader 46 = .ok (.iastore, 1) := by decide +kernel
theorem dX5_trader_47 : decode cX5_trader 47 = .ok (.aload_n 0, 1) := by decide +kernel
theorem dX5_trader_48 : decode cX5_trader 48 = .ok (.dup, 1) := by decide +kernel
theorem dX5_trader_49 : decode cX5_trader 49 = .ok (.getfield 69, 3) := by decide +kernel
theorem dX5_trader_52 : decode cX5_trader 52 = .ok (.iconst 1, 1) := by decide +kernel
theorem dX5_trader_53 : decode cX5_trader 53 = .ok (.iadd, 1) := by decide +kernel
theorem dX5_trader_54 : decode cX5_trader 54 = .ok (.putfield 69, 3) := by decide +kernel
theorem dX5_trader_57 : decode cX5_trader 57 = .ok (.aload_n 0, 1) := by decide +kernel
theorem dX5_trader_58 : decode cX5_trader 58 = .ok (.getfield 69, 3) := by decide +kernel
theorem dX5_trader_61 : decode cX5_trader 61 = .ok (.iconst 1, 1) := by decide +kernel
theorem dX5_trader_62 : decode cX5_trader 62 = .ok (.isub, 1) := by decide +kernel
theorem dX5_trader_63 : decode cX5_trader 63 = .ok (.ireturn, 1) := by decide +kernel
theorem dX5_right_0 : decode cX5_right 0 = .ok (.aload_n 0, 1) := by decide +kernel
theorem dX5_right_1 : decode cX5_right 1 = .ok (.iload_n 1, 1) := by decide +kernel
theorem dX5_right_2 : decode cX5_right 2 = .ok (.invokevirtual 77, 3) := by decide +kernel
theorem dX5_right_5 : decode cX5_right 5 = .ok (.ifCond .eq 49, 3) := by decide +kernel
theorem dX5_right_8 : decode cX5_right 8 = .ok (.iload_n 2, 1) := by decide +kernel
theorem dX5_right_9 : decode cX5_right 9 = .ok (.invokestatic 81, 3) := by decide +kernel
theorem dX5_right_12 : decode cX5_right 12 = .ok (.ifCond .eq 42, 3) := by decide +kernel
theorem dX5_right_15 : decode cX5_right 15 = .ok (.iload_n 3, 1) := by decide +kernel
theorem dX5_right_16 : decode cX5_right 16 = .ok (.iconst (-1), 1) := by decide +kernel
theorem dX5_right_17 : decode cX5_right 17 = .ok (.if_icmp .eq 10, 3) := by decide +kernel
theorem dX5_right_20 : decode cX5_right 20 = .ok (.iload_n 3, 1) := by decide +kernel
theorem dX5_right_21 : decode cX5_right 21 = .ok (.invokestatic 81, 3) := by decide +kernel
theorem dX5_right_24 : decode cX5_right 24 = .ok (.ifCond .eq 30, 3) := by decide +kernel
theorem dX5_right_27 : decode cX5_right 27 = .ok (.iload 4, 2) := by decide +kernel
theorem dX5_right_29 : decode cX5_right 29 = .ok (.invokestatic 84, 3) := by decide +kernel
theorem dX5_right_32 : decode cX5_right 32 = .ok (.ifCond .eq 22, 3) := by decide +kernel
theorem dX5_right_35 : decode cX5_right 35 = .ok (.iload 5, 2) := by decide +kernel
theorem dX5_right_37 : decode cX5_right 37 = .ok (.invokestatic 84, 3) := by decide +kernel
theorem dX5_right_40 : decode cX5_right 40 = .ok (.ifCond .eq 14, 3) := by decide +kernel
theorem dX5_right_43 : decode cX5_right 43 = .ok (.iload 4, 2) := by decide +kernel
theorem dX5_right_45 : decode cX5_right 45 = .ok (.iload 5, 2) := by decide +kernel
theorem dX5_right_47 : decode cX5_right 47 = .ok (.if_icmp .gt 7, 3) := by decide +kernel
theorem dX5_right_50 : decode cX5_right 50 = .ok (.iconst 1, 1) := by decide +kernel
theorem dX5_right_51 : decode cX5_right 51 = .ok (.goto 4, 3) := by decide +kernel
theorem dX5_right_54 : decode cX5_right 54 = .ok (.iconst 0, 1) := by decide +kernel
theorem dX5_right_55 : decode cX5_right 55 = .ok (.istore 6, 2) := by decide +kernel
theorem dX5_right_57 : decode cX5_right 57 = .ok (.aload_n 0, 1) := by decide +kernel
theorem dX5_right_58 : decode cX5_right 58 = .ok (.iload 6, 2) := by decide +kernel
theorem dX5_right_60 : decode cX5_right 60 = .ok (.ifCond .ne 7, 3) := by decide +kernel
theorem dX5_right_63 : decode cX5_right 63 = .ok (.iconst 1, 1) := by decide +kernel
theorem dX5_right_64 : decode cX5_right 64 = .ok (.goto 17, 3) := by decide +kernel
theorem dX5_right_67 : decode cX5_right 67 = .ok (.aload_n 0, 1) := by decide +kernel
theorem dX5_right_68 : decode cX5_right 68 = .ok (.getfield 87, 3) := by decide +kernel
theorem dX5_right_71 : decode cX5_right 71 = .ok (.bipush 60, 2) := by decide +kernel
theorem dX5_right_73 : decode cX5_right 73 = .ok (.if_icmp .ne 7, 3) := by decide +kernel
theorem dX5_right_76 : decode cX5_right 76 = .ok (.iconst 2, 1) := by decide +kernel
theorem dX5_right_77 : decode cX5_right 77 = .ok (.goto 4, 3) := by decide +kernel
theorem dX5_right_80 : decode cX5_right 80 = .ok (.iconst 0, 1) := by decide +kernel
theorem dX5_right_81 : decode cX5_right 81 = .ok (.putfield 66, 3) := by decide +kernel
theorem dX5_right_84 : decode cX5_right 84 = .ok (.aload_n 0, 1) := by decide +kernel
theorem dX5_right_85 : decode cX5_right 85 = .ok (.getfield 66, 3) := by decide +kernel
theorem dX5_right_88 : decode cX5_right 88 = .ok (.ifCond .le 5, 3) := by decide +kernel
theorem dX5_right_91 : decode cX5_right 91 = .ok (.iconst 0, 1) := by decide +kernel
theorem dX5_right_92 : decode cX5_right 92 = .ok (.ireturn, 1) := by decide +kernel
theorem dX5_right_93 : decode cX5_right 93 = .ok (.aload_n 0, 1) := by decide +kernel
theorem dX5_right_94 : decode cX5_right 94 = .ok (.getfield 22, 3) := by decide +kernel
theorem dX5_right_97 : decode cX5_right 97 = .ok (.aload_n 0, 1) := by decide +kernel
theorem dX5_right_98 : decode cX5_right 98 = .ok (.getfield 87, 3) := by decide +kernel
theorem dX5_right_101 : decode cX5_right 101 = .ok (.iload_n 1, 1) := by decide +kernel
theorem dX5_right_102 : decode cX5_right 102 = .ok (.iastore, 1) := by decide +kernel
theorem dX5_right_103 : decode cX5_right 103 = .ok (.aload_n 0, 1) := by decide +kernel
theorem dX5_right_104 : decode cX5_right 104 = .ok (.getfield 25, 3) := by decide +kernel
theorem dX5_right_107 : decode cX5_right 107 = .ok (.aload_n 0, 1) := by decide +kernel
theorem dX5_right_108 : decode cX5_right 108 = .ok (.getfield 87, 3) := by decide +kernel
theorem dX5_right_111 : decode cX5_right 111 = .ok (.iload_n 2, 1) := by decide +kernel
theorem dX5_right_112 : decode cX5_right 112 = .ok (.iastore, 1) := by decide +kernel
theorem dX5_right_113 : decode cX5_right 113 = .ok (.aload_n 0, 1) := by decide +kernel
theorem dX5_right_114 : decode cX5_right 114 = .ok (.getfield 28, 3) := by decide +kernel
theorem dX5_right_117 : decode cX5_right 117 = .ok (.aload_n 0, 1) := by decide +kernel
theorem dX5_right_118 : decode cX5_right 118 = .ok (.getfield 87, 3) := by decide +kernel
theorem dX5_right_121 : decode cX5_right 121 = .ok (.iload_n 3, 1) := by decide +kernel
theorem dX5_right_122 : decode cX5_right 122 = .ok (.iastore, 1) := by decide +kernel
theorem dX5_right_123 : decode cX5_right 123 = .ok (.aload_n 0, 1) := by decide +kernel
theorem dX5_right_124 : decode cX5_right 124 = .ok (.getfield 31, 3) := by decide +kernel
theorem dX5_right_127 : decode cX5_right 127 = .ok (.aload_n 0, 1) := by decide +kernel
theorem dX5_right_128 : decode cX5_right 128 = .ok (.getfield 87, 3) := by decide +kernel
theorem dX5_right_131 : decode cX5_right 131 = .ok (.iload 4, 2) := by decide +kernel
theorem dX5_right_133 : decode cX5_right 133 = .ok (.iastore, 1) := by decide +kernel
theorem dX5_right_134 : decode cX5_right 134 = .ok (.aload_n 0, 1) := by decide +kernel
theorem dX5_right_135 : decode cX5_right 135 = .ok (.getfield 34, 3) := by decide +kernel
theorem dX5_right_138 : decode cX5_right 138 = .ok (.aload_n 0, 1) := by decide +kernel
theorem dX5_right_139 : decode cX5_right 139 = .ok (.getfield 87, 3) := by decide +kernel
theorem dX5_right_142 : decode cX5_right 142 = .ok (.iload 5, 2) := by decide +kernel
theorem dX5_right_144 : decode cX5_right 144 = .ok (.iastore, 1) := by decide +kernel
theorem dX5_right_145 : decode cX5_right 145 = .ok (.aload_n 0, 1) := by decide +kernel
theorem dX5_right_146 : decode cX5_right 146 = .ok (.dup, 1) := by decide +kernel
theorem dX5_right_147 : decode cX5_right 147 = .ok (.getfield 87, 3) := by decide +kernel
theorem dX5_right_150 : decode cX5_right 150 = .ok (.iconst 1, 1) := by decide +kernel
theorem dX5_right_151 : decode cX5_right 151 = .ok (.iadd, 1) := by decide +kernel
theorem dX5_right_152 : decode cX5_right 152 = .ok (.putfield 87, 3) := by decide +kernel
theorem dX5_right_155 : decode cX5_right 155 = .ok (.aload_n 0, 1) := by decide +kernel
theorem dX5_right_156 : decode cX5_right 156 = .ok (.getfield 87, 3) := by decide +kernel
theorem dX5_right_159 : decode cX5_right 159 = .ok (.ireturn, 1) := by decide +kernel
theorem dX5_isForbidden_0 : decode cX5_isForbidden 0 = .ok (.aload_n 0, 1) := by decide +kernel
theorem dX5_isForbidden_1 : decode cX5_isForbidden 1 = .ok (.getfield 13, 3) := by decide +kernel
theorem dX5_isForbidden_4 : decode cX5_isForbidden 4 = .ok (.iload_n 1, 1) := by decide +kernel
theorem dX5_isForbidden_5 : decode cX5_isForbidden 5 = .ok (.iaload, 1) := by decide +kernel
theorem dX5_isForbidden_6 : decode cX5_isForbidden 6 = .ok (.iload_n 2, 1) := by decide +kernel
theorem dX5_isForbidden_7 : decode cX5_isForbidden 7 = .ok (.ishr, 1) := by decide +kernel
theorem dX5_isForbidden_8 : decode cX5_isForbidden 8 = .ok (.iconst 1, 1) := by decide +kernel
theorem dX5_isForbidden_9 : decode cX5_isForbidden 9 = .ok (.iand, 1) := by decide +kernel
theorem dX5_isForbidden_10 : decode cX5_isForbidden 10 = .ok (.iconst 1, 1) := by decide +kernel
theorem dX5_isForbidden_11 : decode cX5_isForbidden 11 = .ok (.if_icmp .ne 7, 3) := by decide +kernel
theorem dX5_isForbidden_14 : decode cX5_isForbidden 14 = .ok (.iconst 1, 1) := by decide +kernel
theorem dX5_isForbidden_15 : decode cX5_isForbidden 15 = .ok (.goto 4, 3) := by decide +kernel
theorem dX5_isForbidden_18 : decode cX5_isForbidden 18 = .ok (.iconst 0, 1) := by decide +kernel
theorem dX5_isForbidden_19 : decode cX5_isForbidden 19 = .ok (.ireturn, 1) := by decide +kernel
theorem dX5_forbid_0 : decode cX5_forbid 0 = .ok (.aload_n 0, 1) := by decide +kernel
theorem dX5_forbid_1 : decode cX5_forbid 1 = .ok (.iconst 0, 1) := by decide +kernel
theorem dX5_forbid_2 : decode cX5_forbid 2 = .ok (.putfield 66, 3) := by decide +kernel
theorem dX5_forbid_5 : decode cX5_forbid 5 = .ok (.aload_n 0, 1) := by decide +kernel
theorem dX5_forbid_6 : decode cX5_forbid 6 = .ok (.iload_n 1, 1) := by decide +kernel
theorem dX5_forbid_7 : decode cX5_forbid 7 = .ok (.invokevirtual 77, 3) := by decide +kernel
theorem dX5_forbid_10 : decode cX5_forbid 10 = .ok (.ifCond .eq 20, 3) := by decide +kernel
theorem dX5_forbid_13 : decode cX5_forbid 13 = .ok (.iload_n 2, 1) := by decide +kernel
theorem dX5_forbid_14 : decode cX5_forbid 14 = .ok (.invokestatic 81, 3) := by decide +kernel
theorem dX5_forbid_17 : decode cX5_forbid 17 = .ok (.ifCond .eq 13, 3) := by decide +kernel
theorem dX5_forbid_20 : decode cX5_forbid 20 = .ok (.aload_n 0, 1) := by decide +kernel
theorem dX5_forbid_21 : decode cX5_forbid 21 = .ok (.iload_n 1, 1) := by decide +kernel
theorem dX5_forbid_22 : decode cX5_forbid 22 = .ok (.iload_n 2, 1) := by decide +kernel
theorem dX5_forbid_23 : decode cX5_forbid 23 = .ok (.invokevirtual 90, 3) := by decide +kernel
theorem dX5_forbid_26 : decode cX5_forbid 26 = .ok (.iload_n 3, 1) := by decide +kernel
theorem dX5_forbid_27 : decode cX5_forbid 27 = .ok (.if_icmp .ne 5, 3) := by decide +kernel
theorem dX5_forbid_30 : decode cX5_forbid 30 = .ok (.iconst 0, 1) := by decide +kernel
theorem dX5_forbid_31 : decode cX5_forbid 31 = .ok (.ireturn, 1) := by decide +kernel
theorem dX5_forbid_32 : decode cX5_forbid 32 = .ok (.aload_n 0, 1) := by decide +kernel
theorem dX5_forbid_33 : decode cX5_forbid 33 = .ok (.getfield 13, 3) := by decide +kernel
theorem dX5_forbid_36 : decode cX5_forbid 36 = .ok (.iload_n 1, 1) := by decide +kernel
theorem dX5_forbid_37 : decode cX5_forbid 37 = .ok (.dup2, 1) := by decide +kernel
theorem dX5_forbid_38 : decode cX5_forbid 38 = .ok (.iaload, 1) := by decide +kernel
theorem dX5_forbid_39 : decode cX5_forbid 39 = .ok (.iload_n 3, 1) := by decide +kernel
theorem dX5_forbid_40 : decode cX5_forbid 40 = .ok (.ifCond .eq 9, 3) := by decide +kernel
theorem dX5_forbid_43 : decode cX5_forbid 43 = .ok (.iconst 1, 1) := by decide +kernel
theorem dX5_forbid_44 : decode cX5_forbid 44 = .ok (.iload_n 2, 1) := by decide +kernel
theorem dX5_forbid_45 : decode cX5_forbid 45 = .ok (.ishl, 1) := by decide +kernel
theorem dX5_forbid_46 : decode cX5_forbid 46 = .ok (.goto 7, 3) := by decide +kernel
theorem dX5_forbid_49 : decode cX5_forbid 49 = .ok (.iconst 1, 1) := by decide +kernel
theorem dX5_forbid_50 : decode cX5_forbid 50 = .ok (.iload_n 2, 1) := by decide +kernel
theorem dX5_forbid_51 : decode cX5_forbid 51 = .ok (.ishl, 1) := by decide +kernel
theorem dX5_forbid_52 : decode cX5_forbid 52 = .ok (.ineg, 1) := by decide +kernel
theorem dX5_forbid_53 : decode cX5_forbid 53 = .ok (.iadd, 1) := by decide +kernel
theorem dX5_forbid_54 : decode cX5_forbid 54 = .ok (.iastore, 1) := by decide +kernel
theorem dX5_forbid_55 : decode cX5_forbid 55 = .ok (.iconst 1, 1) := by decide +kernel
theorem dX5_forbid_56 : decode cX5_forbid 56 = .ok (.ireturn, 1) := by decide +kernel
theorem dX5_reached_0 : decode cX5_reached 0 = .ok (.iconst 1, 1) := by decide +kernel
theorem dX5_reached_1 : decode cX5_reached 1 = .ok (.iload_n 1, 1) := by decide +kernel
theorem dX5_reached_2 : decode cX5_reached 2 = .ok (.ishl, 1) := by decide +kernel
theorem dX5_reached_3 : decode cX5_reached 3 = .ok (.istore_n 3, 1) := by decide +kernel
theorem dX5_reached_4 : decode cX5_reached 4 = .ok (.iconst 0, 1) := by decide +kernel
theorem dX5_reached_5 : decode cX5_reached 5 = .ok (.istore 4, 2) := by decide +kernel
theorem dX5_reached_7 : decode cX5_reached 7 = .ok (.iload 4, 2) := by decide +kernel
theorem dX5_reached_9 : decode cX5_reached 9 = .ok (.bipush 12, 2) := by decide +kernel
theorem dX5_reached_11 : decode cX5_reached 11 = .ok (.if_icmp .ge 93, 3) := by decide +kernel
theorem dX5_reached_14 : decode cX5_reached 14 = .ok (.iconst 0, 1) := by decide +kernel
theorem dX5_reached_15 : decode cX5_reached 15 = .ok (.istore 5, 2) := by decide +kernel
theorem dX5_reached_17 : decode cX5_reached 17 = .ok (.iload 5, 2) := by decide +kernel
theorem dX5_reached_19 : decode cX5_reached 19 = .ok (.aload_n 0, 1) := by decide +kernel
theorem dX5_reached_20 : decode cX5_reached 20 = .ok (.getfield 69, 3) := by decide +kernel
theorem dX5_reached_23 : decode cX5_reached 23 = .ok (.if_icmp .ge 75, 3) := by decide +kernel
theorem dX5_reached_26 : decode cX5_reached 26 = .ok (.iconst 0, 1) := by decide +kernel
theorem dX5_reached_27 : decode cX5_reached 27 = .ok (.istore 6, 2) := by decide +kernel
theorem dX5_reached_29 : decode cX5_reached 29 = .ok (.iload 6, 2) := by decide +kernel
theorem dX5_reached_31 : decode cX5_reached 31 = .ok (.aload_n 0, 1) := by decide +kernel
theorem dX5_reached_32 : decode cX5_reached 32 = .ok (.getfield 69, 3) := by decide +kernel
theorem dX5_reached_35 : decode cX5_reached 35 = .ok (.if_icmp .ge 57, 3) := by decide +kernel
theorem dX5_reached_38 : decode cX5_reached 38 = .ok (.iload_n 3, 1) := by decide +kernel
theorem dX5_reached_39 : decode cX5_reached 39 = .ok (.iload 5, 2) := by decide +kernel
theorem dX5_reached_41 : decode cX5_reached 41 = .ok (.ishr, 1) := by decide +kernel
theorem dX5_reached_42 : decode cX5_reached 42 = .ok (.iconst 1, 1) := by decide +kernel
theorem dX5_reached_43 : decode cX5_reached 43 = .ok (.iand, 1) := by decide +kernel
theorem dX5_reached_44 : decode cX5_reached 44 = .ok (.iconst 1, 1) := by decide +kernel
theorem dX5_reached_45 : decode cX5_reached 45 = .ok (.if_icmp .ne 47, 3) := by decide +kernel
theorem dX5_reached_48 : decode cX5_reached 48 = .ok (.aload_n 0, 1) := by decide +kernel
theorem dX5_reached_49 : decode cX5_reached 49 = .ok (.getfield 7, 3) := by decide +kernel
theorem dX5_reached_52 : decode cX5_reached 52 = .ok (.iload 5, 2) := by decide +kernel
theorem dX5_reached_54 : decode cX5_reached 54 = .ok (.iaload, 1) := by decide +kernel
theorem dX5_reached_55 : decode cX5_reached 55 = .ok (.iload 6, 2) := by decide +kernel
theorem dX5_reached_57 : decode cX5_reached 57 = .ok (.ishr, 1) := by decide +kernel
theorem dX5_reached_58 : decode cX5_reached 58 = .ok (.iconst 1, 1) := by decide +kernel
theorem dX5_reached_59 : decode cX5_reached 59 = .ok (.iand, 1) := by decide +kernel
theorem dX5_reached_60 : decode cX5_reached 60 = .ok (.iconst 1, 1) := by decide +kernel
theorem dX5_reached_61 : decode cX5_reached 61 = .ok (.if_icmp .ne 25, 3) := by decide +kernel
theorem dX5_reached_64 : decode cX5_reached 64 = .ok (.iload_n 2, 1) := by decide +kernel
theorem dX5_reached_65 : decode cX5_reached 65 = .ok (.iconst (-1), 1) := by decide +kernel
theorem dX5_reached_66 : decode cX5_reached 66 = .ok (.if_icmp .eq 13, 3) := by decide +kernel
theorem dX5_reached_69 : decode cX5_reached 69 = .ok (.aload_n 0, 1) := by decide +kernel
theorem dX5_reached_70 : decode cX5_reached 70 = .ok (.iload 6, 2) := by decide +kernel
theorem dX5_reached_72 : decode cX5_reached 72 = .ok (.iload_n 2, 1) := by decide +kernel
theorem dX5_reached_73 : decode cX5_reached 73 = .ok (.invokevirtual 94, 3) := by decide +kernel
theorem dX5_reached_76 : decode cX5_reached 76 = .ok (.ifCond .eq 10, 3) := by decide +kernel
theorem dX5_reached_79 : decode cX5_reached 79 = .ok (.iload_n 3, 1) := by decide +kernel
theorem dX5_reached_80 : decode cX5_reached 80 = .ok (.iconst 1, 1) := by decide +kernel
theorem dX5_reached_81 : decode cX5_reached 81 = .ok (.iload 6, 2) := by decide +kernel
theorem dX5_reached_83 : decode cX5_reached 83 = .ok (.ishl, 1) := by decide +kernel
theorem dX5_reached_84 : decode cX5_reached 84 = .ok (.ior, 1) := by decide +kernel
theorem dX5_reached_85 : decode cX5_reached 85 = .ok (.istore_n 3, 1) := by decide +kernel
theorem dX5_reached_86 : decode cX5_reached 86 = .ok (.iinc 6 1, 3) := by decide +kernel
theorem dX5_reached_89 : decode cX5_reached 89 = .ok (.goto (-60), 3) := by decide +kernel
theorem dX5_reached_92 : decode cX5_reached 92 = .ok (.iinc 5 1, 3) := by decide +kernel
theorem dX5_reached_95 : decode cX5_reached 95 = .ok (.goto (-78), 3) := by decide +kernel
theorem dX5_reached_98 : decode cX5_reached 98 = .ok (.iinc 4 1, 3) := by decide +kernel
theorem dX5_reached_101 : decode cX5_reached 101 = .ok (.goto (-94), 3) := by decide +kernel
theorem dX5_reached_104 : decode cX5_reached 104 = .ok (.iload_n 3, 1) := by decide +kernel
theorem dX5_reached_105 : decode cX5_reached 105 = .ok (.ireturn, 1) := by decide +kernel
theorem dX5_bits_0 : decode cX5_bits 0 = .ok (.iconst 0, 1) := by decide +kernel
theorem dX5_bits_1 : decode cX5_bits 1 = .ok (.istore_n 1, 1) := by decide +kernel
theorem dX5_bits_2 : decode cX5_bits 2 = .ok (.iconst 0, 1) := by decide +kernel
theorem dX5_bits_3 : decode cX5_bits 3 = .ok (.istore_n 2, 1) := by decide +kernel
theorem dX5_bits_4 : decode cX5_bits 4 = .ok (.iload_n 2, 1) := by decide +kernel
theorem dX5_bits_5 : decode cX5_bits 5 = .ok (.bipush 12, 2) := by decide +kernel
theorem dX5_bits_7 : decode cX5_bits 7 = .ok (.if_icmp .ge 17, 3) := by decide +kernel
theorem dX5_bits_10 : decode cX5_bits 10 = .ok (.iload_n 1, 1) := by decide +kernel
theorem dX5_bits_11 : decode cX5_bits 11 = .ok (.iload_n 0, 1) := by decide +kernel
theorem dX5_bits_12 : decode cX5_bits 12 = .ok (.iload_n 2, 1) := by decide +kernel
theorem dX5_bits_13 : decode cX5_bits 13 = .ok (.ishr, 1) := by decide +kernel
theorem dX5_bits_14 : decode cX5_bits 14 = .ok (.iconst 1, 1) := by decide +kernel
theorem dX5_bits_15 : decode cX5_bits 15 = .ok (.iand, 1) := by decide +kernel
theorem dX5_bits_16 : decode cX5_bits 16 = .ok (.iadd, 1) := by decide +kernel
theorem dX5_bits_17 : decode cX5_bits 17 = .ok (.istore_n 1, 1) := by decide +kernel
theorem dX5_bits_18 : decode cX5_bits 18 = .ok (.iinc 2 1, 3) := by decide +kernel
theorem dX5_bits_21 : decode cX5_bits 21 = .ok (.goto (-17), 3) := by decide +kernel
theorem dX5_bits_24 : decode cX5_bits 24 = .ok (.iload_n 1, 1) := by decide +kernel
theorem dX5_bits_25 : decode cX5_bits 25 = .ok (.ireturn, 1) := by decide +kernel
theorem dX5_areTwo_0 : decode cX5_areTwo 0 = .ok (.aload_n 0, 1) := by decide +kernel
theorem dX5_areTwo_1 : decode cX5_areTwo 1 = .ok (.iload_n 1, 1) := by decide +kernel
theorem dX5_areTwo_2 : decode cX5_areTwo 2 = .ok (.invokevirtual 77, 3) := by decide +kernel
theorem dX5_areTwo_5 : decode cX5_areTwo 5 = .ok (.ifCond .eq 20, 3) := by decide +kernel
theorem dX5_areTwo_8 : decode cX5_areTwo 8 = .ok (.aload_n 0, 1) := by decide +kernel
theorem dX5_areTwo_9 : decode cX5_areTwo 9 = .ok (.iload_n 2, 1) := by decide +kernel
theorem dX5_areTwo_10 : decode cX5_areTwo 10 = .ok (.invokevirtual 77, 3) := by decide +kernel
theorem dX5_areTwo_13 : decode cX5_areTwo 13 = .ok (.ifCond .eq 12, 3) := by decide +kernel
theorem dX5_areTwo_16 : decode cX5_areTwo 16 = .ok (.iload_n 1, 1) := by decide +kernel
theorem dX5_areTwo_17 : decode cX5_areTwo 17 = .ok (.iload_n 2, 1) := by decide +kernel
theorem dX5_areTwo_18 : decode cX5_areTwo 18 = .ok (.if_icmp .eq 7, 3) := by decide +kernel
theorem dX5_areTwo_21 : decode cX5_areTwo 21 = .ok (.iconst 1, 1) := by decide +kernel
theorem dX5_areTwo_22 : decode cX5_areTwo 22 = .ok (.goto 4, 3) := by decide +kernel
theorem dX5_areTwo_25 : decode cX5_areTwo 25 = .ok (.iconst 0, 1) := by decide +kernel
theorem dX5_areTwo_26 : decode cX5_areTwo 26 = .ok (.ireturn, 1) := by decide +kernel
theorem dX5_group_0 : decode cX5_group 0 = .ok (.aload_n 0, 1) := by decide +kernel
theorem dX5_group_1 : decode cX5_group 1 = .ok (.aload_n 0, 1) := by decide +kernel
theorem dX5_group_2 : decode cX5_group 2 = .ok (.iload_n 1, 1) := by decide +kernel
theorem dX5_group_3 : decode cX5_group 3 = .ok (.iload_n 2, 1) := by decide +kernel
theorem dX5_group_4 : decode cX5_group 4 = .ok (.invokevirtual 97, 3) := by decide +kernel
theorem dX5_group_7 : decode cX5_group 7 = .ok (.ifCond .eq 7, 3) := by decide +kernel
theorem dX5_group_10 : decode cX5_group 10 = .ok (.iconst 0, 1) := by decide +kernel
theorem dX5_group_11 : decode cX5_group 11 = .ok (.goto 4, 3) := by decide +kernel
theorem dX5_group_14 : decode cX5_group 14 = .ok (.iconst 1, 1) := by decide +kernel
theorem dX5_group_15 : decode cX5_group 15 = .ok (.putfield 66, 3) := by decide +kernel
theorem dX5_group_18 : decode cX5_group 18 = .ok (.aload_n 0, 1) := by decide +kernel
theorem dX5_group_19 : decode cX5_group 19 = .ok (.getfield 66, 3) := by decide +kernel
theorem dX5_group_22 : decode cX5_group 22 = .ok (.ifCond .gt 44, 3) := by decide +kernel
theorem dX5_group_25 : decode cX5_group 25 = .ok (.aload_n 0, 1) := by decide +kernel
theorem dX5_group_26 : decode cX5_group 26 = .ok (.getfield 7, 3) := by decide +kernel
theorem dX5_group_29 : decode cX5_group 29 = .ok (.iload_n 1, 1) := by decide +kernel
theorem dX5_group_30 : decode cX5_group 30 = .ok (.iaload, 1) := by decide +kernel
theorem dX5_group_31 : decode cX5_group 31 = .ok (.iload_n 2, 1) := by decide +kernel
theorem dX5_group_32 : decode cX5_group 32 = .ok (.ishr, 1) := by decide +kernel
theorem dX5_group_33 : decode cX5_group 33 = .ok (.iconst 1, 1) := by decide +kernel
theorem dX5_group_34 : decode cX5_group 34 = .ok (.iand, 1) := by decide +kernel
theorem dX5_group_35 : decode cX5_group 35 = .ok (.iconst 1, 1) := by decide +kernel
theorem dX5_group_36 : decode cX5_group 36 = .ok (.if_icmp .eq 30, 3) := by decide +kernel
theorem dX5_group_39 : decode cX5_group 39 = .ok (.aload_n 0, 1) := by decide +kernel
theorem dX5_group_40 : decode cX5_group 40 = .ok (.getfield 7, 3) := by decide +kernel
theorem dX5_group_43 : decode cX5_group 43 = .ok (.iload_n 1, 1) := by decide +kernel
theorem dX5_group_44 : decode cX5_group 44 = .ok (.iaload, 1) := by decide +kernel
theorem dX5_group_45 : decode cX5_group 45 = .ok (.invokestatic 100, 3) := by decide +kernel
theorem dX5_group_48 : decode cX5_group 48 = .ok (.iconst 4, 1) := by decide +kernel
theorem dX5_group_49 : decode cX5_group 49 = .ok (.if_icmp .eq 17, 3) := by decide +kernel
theorem dX5_group_52 : decode cX5_group 52 = .ok (.aload_n 0, 1) := by decide +kernel
theorem dX5_group_53 : decode cX5_group 53 = .ok (.iload_n 2, 1) := by decide +kernel
theorem dX5_group_54 : decode cX5_group 54 = .ok (.iconst (-1), 1) := by decide +kernel
theorem dX5_group_55 : decode cX5_group 55 = .ok (.invokevirtual 104, 3) := by decide +kernel
theorem dX5_group_58 : decode cX5_group 58 = .ok (.iload_n 1, 1) := by decide +kernel
theorem dX5_group_59 : decode cX5_group 59 = .ok (.ishr, 1) := by decide +kernel
theorem dX5_group_60 : decode cX5_group 60 = .ok (.iconst 1, 1) := by decide +kernel
theorem dX5_group_61 : decode cX5_group 61 = .ok (.iand, 1) := by decide +kernel
theorem dX5_group_62 : decode cX5_group 62 = .ok (.iconst 1, 1) := by decide +kernel
theorem dX5_group_63 : decode cX5_group 63 = .ok (.if_icmp .ne 5, 3) := by decide +kernel
theorem dX5_group_66 : decode cX5_group 66 = .ok (.iconst 0, 1) := by decide +kernel
theorem dX5_group_67 : decode cX5_group 67 = .ok (.ireturn, 1) := by decide +kernel
theorem dX5_group_68 : decode cX5_group 68 = .ok (.aload_n 0, 1) := by decide +kernel
theorem dX5_group_69 : decode cX5_group 69 = .ok (.getfield 7, 3) := by decide +kernel
theorem dX5_group_72 : decode cX5_group 72 = .ok (.iload_n 1, 1) := by decide +kernel
theorem dX5_group_73 : decode cX5_group 73 = .ok (.dup2, 1) := by decide +kernel
theorem dX5_group_74 : decode cX5_group 74 = .ok (.iaload, 1) := by decide +kernel
theorem dX5_group_75 : decode cX5_group 75 = .ok (.iconst 1, 1) := by decide +kernel
theorem dX5_group_76 : decode cX5_group 76 = .ok (.iload_n 2, 1) := by decide +kernel
theorem dX5_group_77 : decode cX5_group 77 = .ok (.ishl, 1) := by decide +kernel
theorem dX5_group_78 : decode cX5_group 78 = .ok (.ior, 1) := by decide +kernel
theorem dX5_group_79 : decode cX5_group 79 = .ok (.iastore, 1) := by decide +kernel
theorem dX5_group_80 : decode cX5_group 80 = .ok (.iconst 1, 1) := by decide +kernel
theorem dX5_group_81 : decode cX5_group 81 = .ok (.ireturn, 1) := by decide +kernel
theorem dX5_withDeputy_0 : decode cX5_withDeputy 0 = .ok (.iconst (-1), 1) := by decide +kernel
theorem dX5_withDeputy_1 : decode cX5_withDeputy 1 = .ok (.istore_n 2, 1) := by decide +kernel
theorem dX5_withDeputy_2 : decode cX5_withDeputy 2 = .ok (.iconst 0, 1) := by decide +kernel
theorem dX5_withDeputy_3 : decode cX5_withDeputy 3 = .ok (.istore_n 3, 1) := by decide +kernel
theorem dX5_withDeputy_4 : decode cX5_withDeputy 4 = .ok (.iload_n 3, 1) := by decide +kernel
theorem dX5_withDeputy_5 : decode cX5_withDeputy 5 = .ok (.aload_n 0, 1) := by decide +kernel
theorem dX5_withDeputy_6 : decode cX5_withDeputy 6 = .ok (.getfield 69, 3) := by decide +kernel
theorem dX5_withDeputy_9 : decode cX5_withDeputy 9 = .ok (.if_icmp .ge 25, 3) := by decide +kernel
theorem dX5_withDeputy_12 : decode cX5_withDeputy 12 = .ok (.aload_n 0, 1) := by decide +kernel
theorem dX5_withDeputy_13 : decode cX5_withDeputy 13 = .ok (.getfield 16, 3) := by decide +kernel
theorem dX5_withDeputy_16 : decode cX5_withDeputy 16 = .ok (.iload_n 3, 1) := by decide +kernel
theorem dX5_withDeputy_17 : decode cX5_withDeputy 17 = .ok (.iaload, 1) := by decide +kernel
theorem dX5_withDeputy_18 : decode cX5_withDeputy 18 = .ok (.iload_n 1, 1) := by decide +kernel
theorem dX5_withDeputy_19 : decode cX5_withDeputy 19 = .ok (.if_icmp .ne 7, 3) := by decide +kernel
theorem dX5_withDeputy_22 : decode cX5_withDeputy 22 = .ok (.iload_n 3, 1) := by decide +kernel
theorem dX5_withDeputy_23 : decode cX5_withDeputy 23 = .ok (.goto 4, 3) := by decide +kernel
theorem dX5_withDeputy_26 : decode cX5_withDeputy 26 = .ok (.iload_n 2, 1) := by decide +kernel
theorem dX5_withDeputy_27 : decode cX5_withDeputy 27 = .ok (.istore_n 2, 1) := by decide +kernel
theorem dX5_withDeputy_28 : decode cX5_withDeputy 28 = .ok (.iinc 3 1, 3) := by decide +kernel
theorem dX5_withDeputy_31 : decode cX5_withDeputy 31 = .ok (.goto (-27), 3) := by decide +kernel
theorem dX5_withDeputy_34 : decode cX5_withDeputy 34 = .ok (.iload_n 2, 1) := by decide +kernel
theorem dX5_withDeputy_35 : decode cX5_withDeputy 35 = .ok (.ireturn, 1) := by decide +kernel
theorem dX5_deputy_0 : decode cX5_deputy 0 = .ok (.aload_n 0, 1) := by decide +kernel
theorem dX5_deputy_1 : decode cX5_deputy 1 = .ok (.aload_n 0, 1) := by decide +kernel
theorem dX5_deputy_2 : decode cX5_deputy 2 = .ok (.iload_n 1, 1) := by decide +kernel
theorem dX5_deputy_3 : decode cX5_deputy 3 = .ok (.iload_n 2, 1) := by decide +kernel
theorem dX5_deputy_4 : decode cX5_deputy 4 = .ok (.invokevirtual 97, 3) := by decide +kernel
theorem dX5_deputy_7 : decode cX5_deputy 7 = .ok (.ifCond .eq 7, 3) := by decide +kernel
theorem dX5_deputy_10 : decode cX5_deputy 10 = .ok (.iconst 0, 1) := by decide +kernel
theorem dX5_deputy_11 : decode cX5_deputy 11 = .ok (.goto 4, 3) := by decide +kernel
theorem dX5_deputy_14 : decode cX5_deputy 14 = .ok (.iconst 1, 1) := by decide +kernel
theorem dX5_deputy_15 : decode cX5_deputy 15 = .ok (.putfield 66, 3) := by decide +kernel
theorem dX5_deputy_18 : decode cX5_deputy 18 = .ok (.aload_n 0, 1) := by decide +kernel
theorem dX5_deputy_19 : decode cX5_deputy 19 = .ok (.getfield 66, 3) := by decide +kernel
theorem dX5_deputy_22 : decode cX5_deputy 22 = .ok (.ifCond .gt 37, 3) := by decide +kernel
theorem dX5_deputy_25 : decode cX5_deputy 25 = .ok (.aload_n 0, 1) := by decide +kernel
theorem dX5_deputy_26 : decode cX5_deputy 26 = .ok (.getfield 16, 3) := by decide +kernel
theorem dX5_deputy_29 : decode cX5_deputy 29 = .ok (.iload_n 1, 1) := by decide +kernel
theorem dX5_deputy_30 : decode cX5_deputy 30 = .ok (.iaload, 1) := by decide +kernel
theorem dX5_deputy_31 : decode cX5_deputy 31 = .ok (.ifCond .ge 28, 3) := by decide +kernel
theorem dX5_deputy_34 : decode cX5_deputy 34 = .ok (.aload_n 0, 1) := by decide +kernel
theorem dX5_deputy_35 : decode cX5_deputy 35 = .ok (.getfield 16, 3) := by decide +kernel
theorem dX5_deputy_38 : decode cX5_deputy 38 = .ok (.iload_n 2, 1) := by decide +kernel
theorem dX5_deputy_39 : decode cX5_deputy 39 = .ok (.iaload, 1) := by decide +kernel
theorem dX5_deputy_40 : decode cX5_deputy 40 = .ok (.ifCond .ge 19, 3) := by decide +kernel
theorem dX5_deputy_43 : decode cX5_deputy 43 = .ok (.aload_n 0, 1) := by decide +kernel
theorem dX5_deputy_44 : decode cX5_deputy 44 = .ok (.iload_n 1, 1) := by decide +kernel
theorem dX5_deputy_45 : decode cX5_deputy 45 = .ok (.invokevirtual 108, 3) := by decide +kernel
theorem dX5_deputy_48 : decode cX5_deputy 48 = .ok (.ifCond .ge 11, 3) := by decide +kernel
theorem dX5_deputy_51 : decode cX5_deputy 51 = .ok (.aload_n 0, 1) := by decide +kernel
theorem dX5_deputy_52 : decode cX5_deputy 52 = .ok (.iload_n 2, 1) := by decide +kernel
theorem dX5_deputy_53 : decode cX5_deputy 53 = .ok (.invokevirtual 108, 3) := by decide +kernel
theorem dX5_deputy_56 : decode cX5_deputy 56 = .ok (.ifCond .lt 5, 3) := by decide +kernel
theorem dX5_deputy_59 : decode cX5_deputy 59 = .ok (.iconst 0, 1) := by decide +kernel
theorem dX5_deputy_60 : decode cX5_deputy 60 = .ok (.ireturn, 1) := by decide +kernel
theorem dX5_deputy_61 : decode cX5_deputy 61 = .ok (.aload_n 0, 1) := by decide +kernel
theorem dX5_deputy_62 : decode cX5_deputy 62 = .ok (.getfield 16, 3) := by decide +kernel
theorem dX5_deputy_65 : decode cX5_deputy 65 = .ok (.iload_n 2, 1) := by decide +kernel
theorem dX5_deputy_66 : decode cX5_deputy 66 = .ok (.iload_n 1, 1) := by decide +kernel
theorem dX5_deputy_67 : decode cX5_deputy 67 = .ok (.iastore, 1) := by decide +kernel
theorem dX5_deputy_68 : decode cX5_deputy 68 = .ok (.iconst 1, 1) := by decide +kernel
theorem dX5_deputy_69 : decode cX5_deputy 69 = .ok (.ireturn, 1) := by decide +kernel
theorem dX5_mandate_0 : decode cX5_mandate 0 = .ok (.aload_n 0, 1) := by decide +kernel
theorem dX5_mandate_1 : decode cX5_mandate 1 = .ok (.aload_n 0, 1) := by decide +kernel
theorem dX5_mandate_2 : decode cX5_mandate 2 = .ok (.iload_n 1, 1) := by decide +kernel
theorem dX5_mandate_3 : decode cX5_mandate 3 = .ok (.iload_n 2, 1) := by decide +kernel
theorem dX5_mandate_4 : decode cX5_mandate 4 = .ok (.invokevirtual 97, 3) := by decide +kernel
theorem dX5_mandate_7 : decode cX5_mandate 7 = .ok (.ifCond .eq 11, 3) := by decide +kernel
theorem dX5_mandate_10 : decode cX5_mandate 10 = .ok (.iload 4, 2) := by decide +kernel
theorem dX5_mandate_12 : decode cX5_mandate 12 = .ok (.invokestatic 84, 3) := by decide +kernel
theorem dX5_mandate_15 : decode cX5_mandate 15 = .ok (.ifCond .ne 7, 3) := by decide +kernel
theorem dX5_mandate_18 : decode cX5_mandate 18 = .ok (.iconst 1, 1) := by decide +kernel
theorem dX5_mandate_19 : decode cX5_mandate 19 = .ok (.goto 17, 3) := by decide +kernel
theorem dX5_mandate_22 : decode cX5_mandate 22 = .ok (.aload_n 0, 1) := by decide +kernel
theorem dX5_mandate_23 : decode cX5_mandate 23 = .ok (.getfield 111, 3) := by decide +kernel
theorem dX5_mandate_26 : decode cX5_mandate 26 = .ok (.bipush 60, 2) := by decide +kernel
theorem dX5_mandate_28 : decode cX5_mandate 28 = .ok (.if_icmp .ne 7, 3) := by decide +kernel
theorem dX5_mandate_31 : decode cX5_mandate 31 = .ok (.iconst 2, 1) := by decide +kernel
theorem dX5_mandate_32 : decode cX5_mandate 32 = .ok (.goto 4, 3) := by decide +kernel
theorem dX5_mandate_35 : decode cX5_mandate 35 = .ok (.iconst 0, 1) := by decide +kernel
theorem dX5_mandate_36 : decode cX5_mandate 36 = .ok (.putfield 66, 3) := by decide +kernel
theorem dX5_mandate_39 : decode cX5_mandate 39 = .ok (.aload_n 0, 1) := by decide +kernel
theorem dX5_mandate_40 : decode cX5_mandate 40 = .ok (.getfield 66, 3) := by decide +kernel
theorem dX5_mandate_43 : decode cX5_mandate 43 = .ok (.ifCond .le 5, 3) := by decide +kernel
theorem dX5_mandate_46 : decode cX5_mandate 46 = .ok (.iconst 0, 1) := by decide +kernel
theorem dX5_mandate_47 : decode cX5_mandate 47 = .ok (.ireturn, 1) := by decide +kernel
theorem dX5_mandate_48 : decode cX5_mandate 48 = .ok (.aload_n 0, 1) := by decide +kernel
theorem dX5_mandate_49 : decode cX5_mandate 49 = .ok (.getfield 37, 3) := by decide +kernel
theorem dX5_mandate_52 : decode cX5_mandate 52 = .ok (.aload_n 0, 1) := by decide +kernel
theorem dX5_mandate_53 : decode cX5_mandate 53 = .ok (.getfield 111, 3) := by decide +kernel
theorem dX5_mandate_56 : decode cX5_mandate 56 = .ok (.iload_n 1, 1) := by decide +kernel
theorem dX5_mandate_57 : decode cX5_mandate 57 = .ok (.iastore, 1) := by decide +kernel
theorem dX5_mandate_58 : decode cX5_mandate 58 = .ok (.aload_n 0, 1) := by decide +kernel
theorem dX5_mandate_59 : decode cX5_mandate 59 = .ok (.getfield 40, 3) := by decide +kernel
theorem dX5_mandate_62 : decode cX5_mandate 62 = .ok (.aload_n 0, 1) := by decide +kernel
theorem dX5_mandate_63 : decode cX5_mandate 63 = .ok (.getfield 111, 3) := by decide +kernel
theorem dX5_mandate_66 : decode cX5_mandate 66 = .ok (.iload_n 2, 1) := by decide +kernel
theorem dX5_mandate_67 : decode cX5_mandate 67 = .ok (.iastore, 1) := by decide +kernel
theorem dX5_mandate_68 : decode cX5_mandate 68 = .ok (.aload_n 0, 1) := by decide +kernel
theorem dX5_mandate_69 : decode cX5_mandate 69 = .ok (.getfield 43, 3) := by decide +kernel
theorem dX5_mandate_72 : decode cX5_mandate 72 = .ok (.aload_n 0, 1) := by decide +kernel
theorem dX5_mandate_73 : decode cX5_mandate 73 = .ok (.getfield 111, 3) := by decide +kernel
theorem dX5_mandate_76 : decode cX5_mandate 76 = .ok (.iload_n 3, 1) := by decide +kernel
theorem dX5_mandate_77 : decode cX5_mandate 77 = .ok (.bastore, 1) := by decide +kernel
theorem dX5_mandate_78 : decode cX5_mandate 78 = .ok (.aload_n 0, 1) := by decide +kernel
theorem dX5_mandate_79 : decode cX5_mandate 79 = .ok (.getfield 47, 3) := by decide +kernel
theorem dX5_mandate_82 : decode cX5_mandate 82 = .ok (.aload_n 0, 1) := by decide +kernel
theorem dX5_mandate_83 : decode cX5_mandate 83 = .ok (.getfield 111, 3) := by decide +kernel
theorem dX5_mandate_86 : decode cX5_mandate 86 = .ok (.iload 4, 2) := by decide +kernel
theorem dX5_mandate_88 : decode cX5_mandate 88 = .ok (.iastore, 1) := by decide +kernel
theorem dX5_mandate_89 : decode cX5_mandate 89 = .ok (.aload_n 0, 1) := by decide +kernel
theorem dX5_mandate_90 : decode cX5_mandate 90 = .ok (.dup, 1) := by decide +kernel
theorem dX5_mandate_91 : decode cX5_mandate 91 = .ok (.getfield 111, 3) := by decide +kernel
theorem dX5_mandate_94 : decode cX5_mandate 94 = .ok (.iconst 1, 1) := by decide +kernel
theorem dX5_mandate_95 : decode cX5_mandate 95 = .ok (.iadd, 1) := by decide +kernel
theorem dX5_mandate_96 : decode cX5_mandate 96 = .ok (.putfield 111, 3) := by decide +kernel
theorem dX5_mandate_99 : decode cX5_mandate 99 = .ok (.aload_n 0, 1) := by decide +kernel
theorem dX5_mandate_100 : decode cX5_mandate 100 = .ok (.getfield 111, 3) := by decide +kernel
theorem dX5_mandate_103 : decode cX5_mandate 103 = .ok (.ireturn, 1) := by decide +kernel
theorem dX5_suspend_0 : decode cX5_suspend 0 = .ok (.aload_n 0, 1) := by decide +kernel
theorem dX5_suspend_1 : decode cX5_suspend 1 = .ok (.aload_n 0, 1) := by decide +kernel
theorem dX5_suspend_2 : decode cX5_suspend 2 = .ok (.iload_n 1, 1) := by decide +kernel
theorem dX5_suspend_3 : decode cX5_suspend 3 = .ok (.invokevirtual 77, 3) := by decide +kernel
theorem dX5_suspend_6 : decode cX5_suspend 6 = .ok (.ifCond .eq 10, 3) := by decide +kernel
theorem dX5_suspend_9 : decode cX5_suspend 9 = .ok (.iload_n 2, 1) := by decide +kernel
theorem dX5_suspend_10 : decode cX5_suspend 10 = .ok (.invokestatic 84, 3) := by decide +kernel
theorem dX5_suspend_13 : decode cX5_suspend 13 = .ok (.ifCond .ne 7, 3) := by decide +kernel
theorem dX5_suspend_16 : decode cX5_suspend 16 = .ok (.iconst 1, 1) := by decide +kernel
theorem dX5_suspend_17 : decode cX5_suspend 17 = .ok (.goto 17, 3) := by decide +kernel
theorem dX5_suspend_20 : decode cX5_suspend 20 = .ok (.aload_n 0, 1) := by decide +kernel
theorem dX5_suspend_21 : decode cX5_suspend 21 = .ok (.getfield 114, 3) := by decide +kernel
theorem dX5_suspend_24 : decode cX5_suspend 24 = .ok (.bipush 60, 2) := by decide +kernel
theorem dX5_suspend_26 : decode cX5_suspend 26 = .ok (.if_icmp .ne 7, 3) := by decide +kernel
theorem dX5_suspend_29 : decode cX5_suspend 29 = .ok (.iconst 2, 1) := by decide +kernel
theorem dX5_suspend_30 : decode cX5_suspend 30 = .ok (.goto 4, 3) := by decide +kernel
theorem dX5_suspend_33 : decode cX5_suspend 33 = .ok (.iconst 0, 1) := by decide +kernel
theorem dX5_suspend_34 : decode cX5_suspend 34 = .ok (.putfield 66, 3) := by decide +kernel
theorem dX5_suspend_37 : decode cX5_suspend 37 = .ok (.aload_n 0, 1) := by decide +kernel
theorem dX5_suspend_38 : decode cX5_suspend 38 = .ok (.getfield 66, 3) := by decide +kernel
theorem dX5_suspend_41 : decode cX5_suspend 41 = .ok (.ifCond .le 5, 3) := by decide +kernel
theorem dX5_suspend_44 : decode cX5_suspend 44 = .ok (.iconst 0, 1) := by decide +kernel
theorem dX5_suspend_45 : decode cX5_suspend 45 = .ok (.ireturn, 1) := by decide +kernel
theorem dX5_suspend_46 : decode cX5_suspend 46 = .ok (.aload_n 0, 1) := by decide +kernel
theorem dX5_suspend_47 : decode cX5_suspend 47 = .ok (.getfield 50, 3) := by decide +kernel
theorem dX5_suspend_50 : decode cX5_suspend 50 = .ok (.aload_n 0, 1) := by decide +kernel
theorem dX5_suspend_51 : decode cX5_suspend 51 = .ok (.getfield 114, 3) := by decide +kernel
theorem dX5_suspend_54 : decode cX5_suspend 54 = .ok (.iload_n 1, 1) := by decide +kernel
theorem dX5_suspend_55 : decode cX5_suspend 55 = .ok (.iastore, 1) := by decide +kernel
theorem dX5_suspend_56 : decode cX5_suspend 56 = .ok (.aload_n 0, 1) := by decide +kernel
theorem dX5_suspend_57 : decode cX5_suspend 57 = .ok (.getfield 53, 3) := by decide +kernel
theorem dX5_suspend_60 : decode cX5_suspend 60 = .ok (.aload_n 0, 1) := by decide +kernel
theorem dX5_suspend_61 : decode cX5_suspend 61 = .ok (.getfield 114, 3) := by decide +kernel
theorem dX5_suspend_64 : decode cX5_suspend 64 = .ok (.iload_n 2, 1) := by decide +kernel
theorem dX5_suspend_65 : decode cX5_suspend 65 = .ok (.iastore, 1) := by decide +kernel
theorem dX5_suspend_66 : decode cX5_suspend 66 = .ok (.aload_n 0, 1) := by decide +kernel
theorem dX5_suspend_67 : decode cX5_suspend 67 = .ok (.getfield 56, 3) := by decide +kernel
theorem dX5_suspend_70 : decode cX5_suspend 70 = .ok (.aload_n 0, 1) := by decide +kernel
theorem dX5_suspend_71 : decode cX5_suspend 71 = .ok (.getfield 114, 3) := by decide +kernel
theorem dX5_suspend_74 : decode cX5_suspend 74 = .ok (.iload_n 3, 1) := by decide +kernel
theorem dX5_suspend_75 : decode cX5_suspend 75 = .ok (.bastore, 1) := by decide +kernel
theorem dX5_suspend_76 : decode cX5_suspend 76 = .ok (.aload_n 0, 1) := by decide +kernel
theorem dX5_suspend_77 : decode cX5_suspend 77 = .ok (.dup, 1) := by decide +kernel
theorem dX5_suspend_78 : decode cX5_suspend 78 = .ok (.getfield 114, 3) := by decide +kernel
theorem dX5_suspend_81 : decode cX5_suspend 81 = .ok (.iconst 1, 1) := by decide +kernel
theorem dX5_suspend_82 : decode cX5_suspend 82 = .ok (.iadd, 1) := by decide +kernel
theorem dX5_suspend_83 : decode cX5_suspend 83 = .ok (.putfield 114, 3) := by decide +kernel
theorem dX5_suspend_86 : decode cX5_suspend 86 = .ok (.aload_n 0, 1) := by decide +kernel
theorem dX5_suspend_87 : decode cX5_suspend 87 = .ok (.getfield 114, 3) := by decide +kernel
theorem dX5_suspend_90 : decode cX5_suspend 90 = .ok (.ireturn, 1) := by decide +kernel
theorem dX5_end_0 : decode cX5_end 0 = .ok (.aload_n 0, 1) := by decide +kernel
theorem dX5_end_1 : decode cX5_end 1 = .ok (.iconst 0, 1) := by decide +kernel
theorem dX5_end_2 : decode cX5_end 2 = .ok (.putfield 66, 3) := by decide +kernel
theorem dX5_end_5 : decode cX5_end 5 = .ok (.aload_n 0, 1) := by decide +kernel
theorem dX5_end_6 : decode cX5_end 6 = .ok (.iload_n 1, 1) := by decide +kernel
theorem dX5_end_7 : decode cX5_end 7 = .ok (.invokevirtual 77, 3) := by decide +kernel
theorem dX5_end_10 : decode cX5_end 10 = .ok (.ifCond .eq 19, 3) := by decide +kernel
theorem dX5_end_13 : decode cX5_end 13 = .ok (.iload_n 2, 1) := by decide +kernel
theorem dX5_end_14 : decode cX5_end 14 = .ok (.invokestatic 84, 3) := by decide +kernel
theorem dX5_end_17 : decode cX5_end 17 = .ok (.ifCond .eq 12, 3) := by decide +kernel
theorem dX5_end_20 : decode cX5_end 20 = .ok (.aload_n 0, 1) := by decide +kernel
theorem dX5_end_21 : decode cX5_end 21 = .ok (.getfield 19, 3) := by decide +kernel
theorem dX5_end_24 : decode cX5_end 24 = .ok (.iload_n 1, 1) := by decide +kernel
theorem dX5_end_25 : decode cX5_end 25 = .ok (.iaload, 1) := by decide +kernel
theorem dX5_end_26 : decode cX5_end 26 = .ok (.ifCond .lt 5, 3) := by decide +kernel
theorem dX5_end_29 : decode cX5_end 29 = .ok (.iconst 0, 1) := by decide +kernel
theorem dX5_end_30 : decode cX5_end 30 = .ok (.ireturn, 1) := by decide +kernel
theorem dX5_end_31 : decode cX5_end 31 = .ok (.aload_n 0, 1) := by decide +kernel
theorem dX5_end_32 : decode cX5_end 32 = .ok (.getfield 19, 3) := by decide +kernel
theorem dX5_end_35 : decode cX5_end 35 = .ok (.iload_n 1, 1) := by decide +kernel
theorem dX5_end_36 : decode cX5_end 36 = .ok (.iload_n 2, 1) := by decide +kernel
theorem dX5_end_37 : decode cX5_end 37 = .ok (.iastore, 1) := by decide +kernel
theorem dX5_end_38 : decode cX5_end 38 = .ok (.iconst 1, 1) := by decide +kernel
theorem dX5_end_39 : decode cX5_end 39 = .ok (.ireturn, 1) := by decide +kernel
theorem dX5_isEnded_0 : decode cX5_isEnded 0 = .ok (.aload_n 0, 1) := by decide +kernel
theorem dX5_isEnded_1 : decode cX5_isEnded 1 = .ok (.getfield 19, 3) := by decide +kernel
theorem dX5_isEnded_4 : decode cX5_isEnded 4 = .ok (.iload_n 1, 1) := by decide +kernel
theorem dX5_isEnded_5 : decode cX5_isEnded 5 = .ok (.iaload, 1) := by decide +kernel
theorem dX5_isEnded_6 : decode cX5_isEnded 6 = .ok (.ifCond .lt 17, 3) := by decide +kernel
theorem dX5_isEnded_9 : decode cX5_isEnded 9 = .ok (.aload_n 0, 1) := by decide +kernel
theorem dX5_isEnded_10 : decode cX5_isEnded 10 = .ok (.getfield 19, 3) := by decide +kernel
theorem dX5_isEnded_13 : decode cX5_isEnded 13 = .ok (.iload_n 1, 1) := by decide +kernel
theorem dX5_isEnded_14 : decode cX5_isEnded 14 = .ok (.iaload, 1) := by decide +kernel
theorem dX5_isEnded_15 : decode cX5_isEnded 15 = .ok (.iload_n 2, 1) := by decide +kernel
theorem dX5_isEnded_16 : decode cX5_isEnded 16 = .ok (.if_icmp .gt 7, 3) := by decide +kernel
theorem dX5_isEnded_19 : decode cX5_isEnded 19 = .ok (.iconst 1, 1) := by decide +kernel
theorem dX5_isEnded_20 : decode cX5_isEnded 20 = .ok (.goto 4, 3) := by decide +kernel
theorem dX5_isEnded_23 : decode cX5_isEnded 23 = .ok (.iconst 0, 1) := by decide +kernel
theorem dX5_isEnded_24 : decode cX5_isEnded 24 = .ok (.ireturn, 1) := by decide +kernel
theorem dX5_isSuspended_0 : decode cX5_isSuspended 0 = .ok (.iconst (-1), 1) := by decide +kernel
theorem dX5_isSuspended_1 : decode cX5_isSuspended 1 = .ok (.istore_n 3, 1) := by decide +kernel
theorem dX5_isSuspended_2 : decode cX5_isSuspended 2 = .ok (.iconst 0, 1) := by decide +kernel
theorem dX5_isSuspended_3 : decode cX5_isSuspended 3 = .ok (.istore 4, 2) := by decide +kernel
theorem dX5_isSuspended_5 : decode cX5_isSuspended 5 = .ok (.iconst 0, 1) := by decide +kernel
theorem dX5_isSuspended_6 : decode cX5_isSuspended 6 = .ok (.istore 5, 2) := by decide +kernel
theorem dX5_isSuspended_8 : decode cX5_isSuspended 8 = .ok (.iload 5, 2) := by decide +kernel
theorem dX5_isSuspended_10 : decode cX5_isSuspended 10 = .ok (.aload_n 0, 1) := by decide +kernel
theorem dX5_isSuspended_11 : decode cX5_isSuspended 11 = .ok (.getfield 114, 3) := by decide +kernel
theorem dX5_isSuspended_14 : decode cX5_isSuspended 14 = .ok (.if_icmp .ge 85, 3) := by decide +kernel
theorem dX5_isSuspended_17 : decode cX5_isSuspended 17 = .ok (.aload_n 0, 1) := by decide +kernel
theorem dX5_isSuspended_18 : decode cX5_isSuspended 18 = .ok (.getfield 50, 3) := by decide +kernel
theorem dX5_isSuspended_21 : decode cX5_isSuspended 21 = .ok (.iload 5, 2) := by decide +kernel
theorem dX5_isSuspended_23 : decode cX5_isSuspended 23 = .ok (.iaload, 1) := by decide +kernel
theorem dX5_isSuspended_24 : decode cX5_isSuspended 24 = .ok (.iload_n 1, 1) := by decide +kernel
theorem dX5_isSuspended_25 : decode cX5_isSuspended 25 = .ok (.if_icmp .ne 29, 3) := by decide +kernel
theorem dX5_isSuspended_28 : decode cX5_isSuspended 28 = .ok (.aload_n 0, 1) := by decide +kernel
theorem dX5_isSuspended_29 : decode cX5_isSuspended 29 = .ok (.getfield 53, 3) := by decide +kernel
theorem dX5_isSuspended_32 : decode cX5_isSuspended 32 = .ok (.iload 5, 2) := by decide +kernel
theorem dX5_isSuspended_34 : decode cX5_isSuspended 34 = .ok (.iaload, 1) := by decide +kernel
theorem dX5_isSuspended_35 : decode cX5_isSuspended 35 = .ok (.iload_n 2, 1) := by decide +kernel
theorem dX5_isSuspended_36 : decode cX5_isSuspended 36 = .ok (.if_icmp .gt 18, 3) := by decide +kernel
theorem dX5_isSuspended_39 : decode cX5_isSuspended 39 = .ok (.aload_n 0, 1) := by decide +kernel
theorem dX5_isSuspended_40 : decode cX5_isSuspended 40 = .ok (.getfield 53, 3) := by decide +kernel
theorem dX5_isSuspended_43 : decode cX5_isSuspended 43 = .ok (.iload 5, 2) := by decide +kernel
theorem dX5_isSuspended_45 : decode cX5_isSuspended 45 = .ok (.iaload, 1) := by decide +kernel
theorem dX5_isSuspended_46 : decode cX5_isSuspended 46 = .ok (.iload_n 3, 1) := by decide +kernel
theorem dX5_isSuspended_47 : decode cX5_isSuspended 47 = .ok (.if_icmp .lt 7, 3) := by decide +kernel
theorem dX5_isSuspended_50 : decode cX5_isSuspended 50 = .ok (.iconst 1, 1) := by decide +kernel
theorem dX5_isSuspended_51 : decode cX5_isSuspended 51 = .ok (.goto 4, 3) := by decide +kernel
theorem dX5_isSuspended_54 : decode cX5_isSuspended 54 = .ok (.iconst 0, 1) := by decide +kernel
theorem dX5_isSuspended_55 : decode cX5_isSuspended 55 = .ok (.istore 6, 2) := by decide +kernel
theorem dX5_isSuspended_57 : decode cX5_isSuspended 57 = .ok (.iload 6, 2) := by decide +kernel
theorem dX5_isSuspended_59 : decode cX5_isSuspended 59 = .ok (.ifCond .eq 13, 3) := by decide +kernel
theorem dX5_isSuspended_62 : decode cX5_isSuspended 62 = .ok (.aload_n 0, 1) := by decide +kernel
theorem dX5_isSuspended_63 : decode cX5_isSuspended 63 = .ok (.getfield 53, 3) := by decide +kernel
theorem dX5_isSuspended_66 : decode cX5_isSuspended 66 = .ok (.iload 5, 2) := by decide +kernel
theorem dX5_isSuspended_68 : decode cX5_isSuspended 68 = .ok (.iaload, 1) := by decide +kernel
theorem dX5_isSuspended_69 : decode cX5_isSuspended 69 = .ok (.goto 4, 3) := by decide +kernel
theorem dX5_isSuspended_72 : decode cX5_isSuspended 72 = .ok (.iload_n 3, 1) := by decide +kernel
theorem dX5_isSuspended_73 : decode cX5_isSuspended 73 = .ok (.istore_n 3, 1) := by decide +kernel
theorem dX5_isSuspended_74 : decode cX5_isSuspended 74 = .ok (.iload 6, 2) := by decide +kernel
theorem dX5_isSuspended_76 : decode cX5_isSuspended 76 = .ok (.ifCond .eq 13, 3) := by decide +kernel
theorem dX5_isSuspended_79 : decode cX5_isSuspended 79 = .ok (.aload_n 0, 1) := by decide +kernel
theorem dX5_isSuspended_80 : decode cX5_isSuspended 80 = .ok (.getfield 56, 3) := by decide +kernel
theorem dX5_isSuspended_83 : decode cX5_isSuspended 83 = .ok (.iload 5, 2) := by decide +kernel
theorem dX5_isSuspended_85 : decode cX5_isSuspended 85 = .ok (.baload, 1) := by decide +kernel
theorem dX5_isSuspended_86 : decode cX5_isSuspended 86 = .ok (.goto 5, 3) := by decide +kernel
theorem dX5_isSuspended_89 : decode cX5_isSuspended 89 = .ok (.iload 4, 2) := by decide +kernel
theorem dX5_isSuspended_91 : decode cX5_isSuspended 91 = .ok (.istore 4, 2) := by decide +kernel
theorem dX5_isSuspended_93 : decode cX5_isSuspended 93 = .ok (.iinc 5 1, 3) := by decide +kernel
theorem dX5_isSuspended_96 : decode cX5_isSuspended 96 = .ok (.goto (-88), 3) := by decide +kernel
theorem dX5_isSuspended_99 : decode cX5_isSuspended 99 = .ok (.iload 4, 2) := by decide +kernel
theorem dX5_isSuspended_101 : decode cX5_isSuspended 101 = .ok (.ireturn, 1) := by decide +kernel
theorem dX5_isAlive_0 : decode cX5_isAlive 0 = .ok (.aload_n 0, 1) := by decide +kernel
theorem dX5_isAlive_1 : decode cX5_isAlive 1 = .ok (.iload_n 1, 1) := by decide +kernel
theorem dX5_isAlive_2 : decode cX5_isAlive 2 = .ok (.iload_n 2, 1) := by decide +kernel
theorem dX5_isAlive_3 : decode cX5_isAlive 3 = .ok (.invokevirtual 117, 3) := by decide +kernel
theorem dX5_isAlive_6 : decode cX5_isAlive 6 = .ok (.ifCond .ne 16, 3) := by decide +kernel
theorem dX5_isAlive_9 : decode cX5_isAlive 9 = .ok (.aload_n 0, 1) := by decide +kernel
theorem dX5_isAlive_10 : decode cX5_isAlive 10 = .ok (.iload_n 1, 1) := by decide +kernel
theorem dX5_isAlive_11 : decode cX5_isAlive 11 = .ok (.iload_n 2, 1) := by decide +kernel
theorem dX5_isAlive_12 : decode cX5_isAlive 12 = .ok (.invokevirtual 120, 3) := by decide +kernel
theorem dX5_isAlive_15 : decode cX5_isAlive 15 = .ok (.ifCond .ne 7, 3) := by decide +kernel
theorem dX5_isAlive_18 : decode cX5_isAlive 18 = .ok (.iconst 1, 1) := by decide +kernel
theorem dX5_isAlive_19 : decode cX5_isAlive 19 = .ok (.goto 4, 3) := by decide +kernel
theorem dX5_isAlive_22 : decode cX5_isAlive 22 = .ok (.iconst 0, 1) := by decide +kernel
theorem dX5_isAlive_23 : decode cX5_isAlive 23 = .ok (.ireturn, 1) := by decide +kernel
theorem dX5_has_0 : decode cX5_has 0 = .ok (.aload_n 0, 1) := by decide +kernel
theorem dX5_has_1 : decode cX5_has 1 = .ok (.iload_n 1, 1) := by decide +kernel
theorem dX5_has_2 : decode cX5_has 2 = .ok (.iload 4, 2) := by decide +kernel
theorem dX5_has_4 : decode cX5_has 4 = .ok (.invokevirtual 104, 3) := by decide +kernel
theorem dX5_has_7 : decode cX5_has 7 = .ok (.istore 5, 2) := by decide +kernel
theorem dX5_has_9 : decode cX5_has 9 = .ok (.iconst 0, 1) := by decide +kernel
theorem dX5_has_10 : decode cX5_has 10 = .ok (.istore 6, 2) := by decide +kernel
theorem dX5_has_12 : decode cX5_has 12 = .ok (.iconst 0, 1) := by decide +kernel
theorem dX5_has_13 : decode cX5_has 13 = .ok (.istore 7, 2) := by decide +kernel
theorem dX5_has_15 : decode cX5_has 15 = .ok (.iload 7, 2) := by decide +kernel
theorem dX5_has_17 : decode cX5_has 17 = .ok (.aload_n 0, 1) := by decide +kernel
theorem dX5_has_18 : decode cX5_has 18 = .ok (.getfield 87, 3) := by decide +kernel
theorem dX5_has_21 : decode cX5_has 21 = .ok (.if_icmp .ge 104, 3) := by decide +kernel
theorem dX5_has_24 : decode cX5_has 24 = .ok (.aload_n 0, 1) := by decide +kernel
theorem dX5_has_25 : decode cX5_has 25 = .ok (.getfield 25, 3) := by decide +kernel
theorem dX5_has_28 : decode cX5_has 28 = .ok (.iload 7, 2) := by decide +kernel
theorem dX5_has_30 : decode cX5_has 30 = .ok (.iaload, 1) := by decide +kernel
theorem dX5_has_31 : decode cX5_has 31 = .ok (.iload_n 2, 1) := by decide +kernel
theorem dX5_has_32 : decode cX5_has 32 = .ok (.if_icmp .ne 51, 3) := by decide +kernel
theorem dX5_has_35 : decode cX5_has 35 = .ok (.aload_n 0, 1) := by decide +kernel
theorem dX5_has_36 : decode cX5_has 36 = .ok (.getfield 28, 3) := by decide +kernel
theorem dX5_has_39 : decode cX5_has 39 = .ok (.iload 7, 2) := by decide +kernel
theorem dX5_has_41 : decode cX5_has 41 = .ok (.iaload, 1) := by decide +kernel
theorem dX5_has_42 : decode cX5_has 42 = .ok (.iconst (-1), 1) := by decide +kernel
theorem dX5_has_43 : decode cX5_has 43 = .ok (.if_icmp .eq 14, 3) := by decide +kernel
theorem dX5_has_46 : decode cX5_has 46 = .ok (.aload_n 0, 1) := by decide +kernel
theorem dX5_has_47 : decode cX5_has 47 = .ok (.getfield 28, 3) := by decide +kernel
theorem dX5_has_50 : decode cX5_has 50 = .ok (.iload 7, 2) := by decide +kernel
theorem dX5_has_52 : decode cX5_has 52 = .ok (.iaload, 1) := by decide +kernel
theorem dX5_has_53 : decode cX5_has 53 = .ok (.iload_n 3, 1) := by decide +kernel
theorem dX5_has_54 : decode cX5_has 54 = .ok (.if_icmp .ne 29, 3) := by decide +kernel
theorem dX5_has_57 : decode cX5_has 57 = .ok (.iload 4, 2) := by decide +kernel
theorem dX5_has_59 : decode cX5_has 59 = .ok (.aload_n 0, 1) := by decide +kernel
theorem dX5_has_60 : decode cX5_has 60 = .ok (.getfield 31, 3) := by decide +kernel
theorem dX5_has_63 : decode cX5_has 63 = .ok (.iload 7, 2) := by decide +kernel
theorem dX5_has_65 : decode cX5_has 65 = .ok (.iaload, 1) := by decide +kernel
theorem dX5_has_66 : decode cX5_has 66 = .ok (.aload_n 0, 1) := by decide +kernel
theorem dX5_has_67 : decode cX5_has 67 = .ok (.getfield 34, 3) := by decide +kernel
theorem dX5_has_70 : decode cX5_has 70 = .ok (.iload 7, 2) := by decide +kernel
theorem dX5_has_72 : decode cX5_has 72 = .ok (.iaload, 1) := by decide +kernel
theorem dX5_has_73 : decode cX5_has 73 = .ok (.invokestatic 73, 3) := by decide +kernel
theorem dX5_has_76 : decode cX5_has 76 = .ok (.ifCond .eq 7, 3) := by decide +kernel
theorem dX5_has_79 : decode cX5_has 79 = .ok (.iconst 1, 1) := by decide +kernel
theorem dX5_has_80 : decode cX5_has 80 = .ok (.goto 4, 3) := by decide +kernel
theorem dX5_has_83 : decode cX5_has 83 = .ok (.iconst 0, 1) := by decide +kernel
theorem dX5_has_84 : decode cX5_has 84 = .ok (.istore 8, 2) := by decide +kernel
theorem dX5_has_86 : decode cX5_has 86 = .ok (.iload 6, 2) := by decide +kernel
theorem dX5_has_88 : decode cX5_has 88 = .ok (.ifCond .ne 24, 3) := by decide +kernel
theorem dX5_has_91 : decode cX5_has 91 = .ok (.iload 8, 2) := by decide +kernel
theorem dX5_has_93 : decode cX5_has 93 = .ok (.ifCond .eq 23, 3) := by decide +kernel
theorem dX5_has_96 : decode cX5_has 96 = .ok (.iload 5, 2) := by decide +kernel
theorem dX5_has_98 : decode cX5_has 98 = .ok (.aload_n 0, 1) := by decide +kernel
theorem dX5_has_99 : decode cX5_has 99 = .ok (.getfield 22, 3) := by decide +kernel
theorem dX5_has_102 : decode cX5_has 102 = .ok (.iload 7, 2) := by decide +kernel
theorem dX5_has_104 : decode cX5_has 104 = .ok (.iaload, 1) := by decide +kernel
theorem dX5_has_105 : decode cX5_has 105 = .ok (.ishr, 1) := by decide +kernel
theorem dX5_has_106 : decode cX5_has 106 = .ok (.iconst 1, 1) := by decide +kernel
theorem dX5_has_107 : decode cX5_has 107 = .ok (.iand, 1) := by decide +kernel
theorem dX5_has_108 : decode cX5_has 108 = .ok (.iconst 1, 1) := by decide +kernel
theorem dX5_has_109 : decode cX5_has 109 = .ok (.if_icmp .ne 7, 3) := by decide +kernel
theorem dX5_has_112 : decode cX5_has 112 = .ok (.iconst 1, 1) := by decide +kernel
theorem dX5_has_113 : decode cX5_has 113 = .ok (.goto 4, 3) := by decide +kernel
theorem dX5_has_116 : decode cX5_has 116 = .ok (.iconst 0, 1) := by decide +kernel
theorem dX5_has_117 : decode cX5_has 117 = .ok (.istore 6, 2) := by decide +kernel
theorem dX5_has_119 : decode cX5_has 119 = .ok (.iinc 7 1, 3) := by decide +kernel
theorem dX5_has_122 : decode cX5_has 122 = .ok (.goto (-107), 3) := by decide +kernel
theorem dX5_has_125 : decode cX5_has 125 = .ok (.iload 6, 2) := by decide +kernel
theorem dX5_has_127 : decode cX5_has 127 = .ok (.ifCond .eq 16, 3) := by decide +kernel
theorem dX5_has_130 : decode cX5_has 130 = .ok (.aload_n 0, 1) := by decide +kernel
theorem dX5_has_131 : decode cX5_has 131 = .ok (.iload_n 1, 1) := by decide +kernel
theorem dX5_has_132 : decode cX5_has 132 = .ok (.iload_n 2, 1) := by decide +kernel
theorem dX5_has_133 : decode cX5_has 133 = .ok (.invokevirtual 90, 3) := by decide +kernel
theorem dX5_has_136 : decode cX5_has 136 = .ok (.ifCond .ne 7, 3) := by decide +kernel
theorem dX5_has_139 : decode cX5_has 139 = .ok (.iconst 1, 1) := by decide +kernel
theorem dX5_has_140 : decode cX5_has 140 = .ok (.goto 4, 3) := by decide +kernel
theorem dX5_has_143 : decode cX5_has 143 = .ok (.iconst 0, 1) := by decide +kernel
theorem dX5_has_144 : decode cX5_has 144 = .ok (.ireturn, 1) := by decide +kernel
theorem dX5_through_0 : decode cX5_through 0 = .ok (.aload_n 0, 1) := by decide +kernel
theorem dX5_through_1 : decode cX5_through 1 = .ok (.iload_n 2, 1) := by decide +kernel
theorem dX5_through_2 : decode cX5_through 2 = .ok (.iload 4, 2) := by decide +kernel
theorem dX5_through_4 : decode cX5_through 4 = .ok (.iload 5, 2) := by decide +kernel
theorem dX5_through_6 : decode cX5_through 6 = .ok (.iload 6, 2) := by decide +kernel
theorem dX5_through_8 : decode cX5_through 8 = .ok (.invokevirtual 123, 3) := by decide +kernel
theorem dX5_through_11 : decode cX5_through 11 = .ok (.ifCond .ne 6, 3) := by decide +kernel
theorem dX5_through_14 : decode cX5_through 14 = .ok (.bipush 7, 2) := by decide +kernel
theorem dX5_through_16 : decode cX5_through 16 = .ok (.ireturn, 1) := by decide +kernel
theorem dX5_through_17 : decode cX5_through 17 = .ok (.aload_n 0, 1) := by decide +kernel
theorem dX5_through_18 : decode cX5_through 18 = .ok (.iload_n 2, 1) := by decide +kernel
theorem dX5_through_19 : decode cX5_through 19 = .ok (.iload 6, 2) := by decide +kernel
theorem dX5_through_21 : decode cX5_through 21 = .ok (.invokevirtual 94, 3) := by decide +kernel
theorem dX5_through_24 : decode cX5_through 24 = .ok (.ifCond .ne 6, 3) := by decide +kernel
theorem dX5_through_27 : decode cX5_through 27 = .ok (.bipush 6, 2) := by decide +kernel
theorem dX5_through_29 : decode cX5_through 29 = .ok (.ireturn, 1) := by decide +kernel
theorem dX5_through_30 : decode cX5_through 30 = .ok (.iload_n 3, 1) := by decide +kernel
theorem dX5_through_31 : decode cX5_through 31 = .ok (.ifCond .ne 16, 3) := by decide +kernel
theorem dX5_through_34 : decode cX5_through 34 = .ok (.aload_n 0, 1) := by decide +kernel
theorem dX5_through_35 : decode cX5_through 35 = .ok (.iload_n 1, 1) := by decide +kernel
theorem dX5_through_36 : decode cX5_through 36 = .ok (.iconst 0, 1) := by decide +kernel
theorem dX5_through_37 : decode cX5_through 37 = .ok (.iload 5, 2) := by decide +kernel
theorem dX5_through_39 : decode cX5_through 39 = .ok (.iload 6, 2) := by decide +kernel
theorem dX5_through_41 : decode cX5_through 41 = .ok (.invokevirtual 123, 3) := by decide +kernel
theorem dX5_through_44 : decode cX5_through 44 = .ok (.ifCond .eq 7, 3) := by decide +kernel
theorem dX5_through_47 : decode cX5_through 47 = .ok (.iconst 0, 1) := by decide +kernel
theorem dX5_through_48 : decode cX5_through 48 = .ok (.goto 4, 3) := by decide +kernel
theorem dX5_through_51 : decode cX5_through 51 = .ok (.iconst 5, 1) := by decide +kernel
theorem dX5_through_52 : decode cX5_through 52 = .ok (.ireturn, 1) := by decide +kernel
theorem dX5_answer_0 : decode cX5_answer 0 = .ok (.aload_n 0, 1) := by decide +kernel
theorem dX5_answer_1 : decode cX5_answer 1 = .ok (.iload_n 1, 1) := by decide +kernel
theorem dX5_answer_2 : decode cX5_answer 2 = .ok (.invokevirtual 77, 3) := by decide +kernel
theorem dX5_answer_5 : decode cX5_answer 5 = .ok (.ifCond .eq 25, 3) := by decide +kernel
theorem dX5_answer_8 : decode cX5_answer 8 = .ok (.iload_n 2, 1) := by decide +kernel
theorem dX5_answer_9 : decode cX5_answer 9 = .ok (.invokestatic 81, 3) := by decide +kernel
theorem dX5_answer_12 : decode cX5_answer 12 = .ok (.ifCond .eq 18, 3) := by decide +kernel
theorem dX5_answer_15 : decode cX5_answer 15 = .ok (.iload_n 3, 1) := by decide +kernel
theorem dX5_answer_16 : decode cX5_answer 16 = .ok (.invokestatic 81, 3) := by decide +kernel
theorem dX5_answer_19 : decode cX5_answer 19 = .ok (.ifCond .eq 11, 3) := by decide +kernel
theorem dX5_answer_22 : decode cX5_answer 22 = .ok (.iload 4, 2) := by decide +kernel
theorem dX5_answer_24 : decode cX5_answer 24 = .ok (.invokestatic 84, 3) := by decide +kernel
theorem dX5_answer_27 : decode cX5_answer 27 = .ok (.ifCond .ne 5, 3) := by decide +kernel
theorem dX5_answer_30 : decode cX5_answer 30 = .ok (.iconst 1, 1) := by decide +kernel
theorem dX5_answer_31 : decode cX5_answer 31 = .ok (.ireturn, 1) := by decide +kernel
theorem dX5_answer_32 : decode cX5_answer 32 = .ok (.aload_n 0, 1) := by decide +kernel
theorem dX5_answer_33 : decode cX5_answer 33 = .ok (.iload_n 1, 1) := by decide +kernel
theorem dX5_answer_34 : decode cX5_answer 34 = .ok (.iload 4, 2) := by decide +kernel
theorem dX5_answer_36 : decode cX5_answer 36 = .ok (.invokevirtual 117, 3) := by decide +kernel
theorem dX5_answer_39 : decode cX5_answer 39 = .ok (.ifCond .eq 5, 3) := by decide +kernel
theorem dX5_answer_42 : decode cX5_answer 42 = .ok (.iconst 2, 1) := by decide +kernel
theorem dX5_answer_43 : decode cX5_answer 43 = .ok (.ireturn, 1) := by decide +kernel
theorem dX5_answer_44 : decode cX5_answer 44 = .ok (.aload_n 0, 1) := by decide +kernel
theorem dX5_answer_45 : decode cX5_answer 45 = .ok (.iload_n 1, 1) := by decide +kernel
theorem dX5_answer_46 : decode cX5_answer 46 = .ok (.iload 4, 2) := by decide +kernel
theorem dX5_answer_48 : decode cX5_answer 48 = .ok (.invokevirtual 120, 3) := by decide +kernel
theorem dX5_answer_51 : decode cX5_answer 51 = .ok (.ifCond .eq 5, 3) := by decide +kernel
theorem dX5_answer_54 : decode cX5_answer 54 = .ok (.iconst 3, 1) := by decide +kernel
theorem dX5_answer_55 : decode cX5_answer 55 = .ok (.ireturn, 1) := by decide +kernel
theorem dX5_answer_56 : decode cX5_answer 56 = .ok (.aload_n 0, 1) := by decide +kernel
theorem dX5_answer_57 : decode cX5_answer 57 = .ok (.iload_n 1, 1) := by decide +kernel
theorem dX5_answer_58 : decode cX5_answer 58 = .ok (.iload_n 2, 1) := by decide +kernel
theorem dX5_answer_59 : decode cX5_answer 59 = .ok (.iload_n 3, 1) := by decide +kernel
theorem dX5_answer_60 : decode cX5_answer 60 = .ok (.iload 4, 2) := by decide +kernel
theorem dX5_answer_62 : decode cX5_answer 62 = .ok (.invokevirtual 123, 3) := by decide +kernel
theorem dX5_answer_65 : decode cX5_answer 65 = .ok (.ifCond .eq 5, 3) := by decide +kernel
theorem dX5_answer_68 : decode cX5_answer 68 = .ok (.iconst 0, 1) := by decide +kernel
theorem dX5_answer_69 : decode cX5_answer 69 = .ok (.ireturn, 1) := by decide +kernel
theorem dX5_answer_70 : decode cX5_answer 70 = .ok (.aload_n 0, 1) := by decide +kernel
theorem dX5_answer_71 : decode cX5_answer 71 = .ok (.getfield 16, 3) := by decide +kernel
theorem dX5_answer_74 : decode cX5_answer 74 = .ok (.iload_n 1, 1) := by decide +kernel
theorem dX5_answer_75 : decode cX5_answer 75 = .ok (.iaload, 1) := by decide +kernel
theorem dX5_answer_76 : decode cX5_answer 76 = .ok (.ifCond .lt 22, 3) := by decide +kernel
theorem dX5_answer_79 : decode cX5_answer 79 = .ok (.aload_n 0, 1) := by decide +kernel
theorem dX5_answer_80 : decode cX5_answer 80 = .ok (.iload_n 1, 1) := by decide +kernel
theorem dX5_answer_81 : decode cX5_answer 81 = .ok (.aload_n 0, 1) := by decide +kernel
theorem dX5_answer_82 : decode cX5_answer 82 = .ok (.getfield 16, 3) := by decide +kernel
theorem dX5_answer_85 : decode cX5_answer 85 = .ok (.iload_n 1, 1) := by decide +kernel
theorem dX5_answer_86 : decode cX5_answer 86 = .ok (.iaload, 1) := by decide +kernel
theorem dX5_answer_87 : decode cX5_answer 87 = .ok (.iconst 1, 1) := by decide +kernel
theorem dX5_answer_88 : decode cX5_answer 88 = .ok (.iload_n 2, 1) := by decide +kernel
theorem dX5_answer_89 : decode cX5_answer 89 = .ok (.iload_n 3, 1) := by decide +kernel
theorem dX5_answer_90 : decode cX5_answer 90 = .ok (.iload 4, 2) := by decide +kernel
theorem dX5_answer_92 : decode cX5_answer 92 = .ok (.invokevirtual 127, 3) := by decide +kernel
theorem dX5_answer_95 : decode cX5_answer 95 = .ok (.goto 5, 3) := by decide +kernel
theorem dX5_answer_98 : decode cX5_answer 98 = .ok (.bipush 7, 2) := by decide +kernel
theorem dX5_answer_100 : decode cX5_answer 100 = .ok (.istore 5, 2) := by decide +kernel
theorem dX5_answer_102 : decode cX5_answer 102 = .ok (.iconst 0, 1) := by decide +kernel
theorem dX5_answer_103 : decode cX5_answer 103 = .ok (.istore 6, 2) := by decide +kernel
theorem dX5_answer_105 : decode cX5_answer 105 = .ok (.iload 6, 2) := by decide +kernel
theorem dX5_answer_107 : decode cX5_answer 107 = .ok (.aload_n 0, 1) := by decide +kernel
theorem dX5_answer_108 : decode cX5_answer 108 = .ok (.getfield 111, 3) := by decide +kernel
theorem dX5_answer_111 : decode cX5_answer 111 = .ok (.if_icmp .ge 78, 3) := by decide +kernel
theorem dX5_answer_114 : decode cX5_answer 114 = .ok (.aload_n 0, 1) := by decide +kernel
theorem dX5_answer_115 : decode cX5_answer 115 = .ok (.getfield 40, 3) := by decide +kernel
theorem dX5_answer_118 : decode cX5_answer 118 = .ok (.iload 6, 2) := by decide +kernel
theorem dX5_answer_120 : decode cX5_answer 120 = .ok (.iaload, 1) := by decide +kernel
theorem dX5_answer_121 : decode cX5_answer 121 = .ok (.iload_n 1, 1) := by decide +kernel
theorem dX5_answer_122 : decode cX5_answer 122 = .ok (.if_icmp .ne 41, 3) := by decide +kernel
theorem dX5_answer_125 : decode cX5_answer 125 = .ok (.aload_n 0, 1) := by decide +kernel
theorem dX5_answer_126 : decode cX5_answer 126 = .ok (.getfield 47, 3) := by decide +kernel
theorem dX5_answer_129 : decode cX5_answer 129 = .ok (.iload 6, 2) := by decide +kernel
theorem dX5_answer_131 : decode cX5_answer 131 = .ok (.iaload, 1) := by decide +kernel
theorem dX5_answer_132 : decode cX5_answer 132 = .ok (.iload 4, 2) := by decide +kernel
theorem dX5_answer_134 : decode cX5_answer 134 = .ok (.if_icmp .lt 29, 3) := by decide +kernel
theorem dX5_answer_137 : decode cX5_answer 137 = .ok (.aload_n 0, 1) := by decide +kernel
theorem dX5_answer_138 : decode cX5_answer 138 = .ok (.iload_n 1, 1) := by decide +kernel
theorem dX5_answer_139 : decode cX5_answer 139 = .ok (.aload_n 0, 1) := by decide +kernel
theorem dX5_answer_140 : decode cX5_answer 140 = .ok (.getfield 37, 3) := by decide +kernel
theorem dX5_answer_143 : decode cX5_answer 143 = .ok (.iload 6, 2) := by decide +kernel
theorem dX5_answer_145 : decode cX5_answer 145 = .ok (.iaload, 1) := by decide +kernel
theorem dX5_answer_146 : decode cX5_answer 146 = .ok (.aload_n 0, 1) := by decide +kernel
theorem dX5_answer_147 : decode cX5_answer 147 = .ok (.getfield 43, 3) := by decide +kernel
theorem dX5_answer_150 : decode cX5_answer 150 = .ok (.iload 6, 2) := by decide +kernel
theorem dX5_answer_152 : decode cX5_answer 152 = .ok (.baload, 1) := by decide +kernel
theorem dX5_answer_153 : decode cX5_answer 153 = .ok (.iload_n 2, 1) := by decide +kernel
theorem dX5_answer_154 : decode cX5_answer 154 = .ok (.iload_n 3, 1) := by decide +kernel
theorem dX5_answer_155 : decode cX5_answer 155 = .ok (.iload 4, 2) := by decide +kernel
theorem dX5_answer_157 : decode cX5_answer 157 = .ok (.invokevirtual 127, 3) := by decide +kernel
theorem dX5_answer_160 : decode cX5_answer 160 = .ok (.goto 5, 3) := by decide +kernel
theorem dX5_answer_163 : decode cX5_answer 163 = .ok (.bipush 7, 2) := by decide +kernel
theorem dX5_answer_165 : decode cX5_answer 165 = .ok (.istore 7, 2) := by decide +kernel
theorem dX5_answer_167 : decode cX5_answer 167 = .ok (.iload 7, 2) := by decide +kernel
theorem dX5_answer_169 : decode cX5_answer 169 = .ok (.iload 5, 2) := by decide +kernel
theorem dX5_answer_171 : decode cX5_answer 171 = .ok (.if_icmp .ge 8, 3) := by decide +kernel
theorem dX5_answer_174 : decode cX5_answer 174 = .ok (.iload 7, 2) := by decide +kernel
theorem dX5_answer_176 : decode cX5_answer 176 = .ok (.goto 5, 3) := by decide +kernel
theorem dX5_answer_179 : decode cX5_answer 179 = .ok (.iload 5, 2) := by decide +kernel
theorem dX5_answer_181 : decode cX5_answer 181 = .ok (.istore 5, 2) := by decide +kernel
theorem dX5_answer_183 : decode cX5_answer 183 = .ok (.iinc 6 1, 3) := by decide +kernel
theorem dX5_answer_186 : decode cX5_answer 186 = .ok (.goto (-81), 3) := by decide +kernel
theorem dX5_answer_189 : decode cX5_answer 189 = .ok (.iload 5, 2) := by decide +kernel
theorem dX5_answer_191 : decode cX5_answer 191 = .ok (.iconst 4, 1) := by decide +kernel
theorem dX5_answer_192 : decode cX5_answer 192 = .ok (.if_icmp .le 16, 3) := by decide +kernel
theorem dX5_answer_195 : decode cX5_answer 195 = .ok (.aload_n 0, 1) := by decide +kernel
theorem dX5_answer_196 : decode cX5_answer 196 = .ok (.iload_n 1, 1) := by decide +kernel
theorem dX5_answer_197 : decode cX5_answer 197 = .ok (.iload_n 2, 1) := by decide +kernel
theorem dX5_answer_198 : decode cX5_answer 198 = .ok (.invokevirtual 90, 3) := by decide +kernel
theorem dX5_answer_201 : decode cX5_answer 201 = .ok (.ifCond .eq 7, 3) := by decide +kernel
theorem dX5_answer_204 : decode cX5_answer 204 = .ok (.iconst 4, 1) := by decide +kernel
theorem dX5_answer_205 : decode cX5_answer 205 = .ok (.goto 5, 3) := by decide +kernel
theorem dX5_answer_208 : decode cX5_answer 208 = .ok (.iload 5, 2) := by decide +kernel
theorem dX5_answer_210 : decode cX5_answer 210 = .ok (.ireturn, 1) := by decide +kernel
theorem dX5_may_0 : decode cX5_may 0 = .ok (.aload_n 0, 1) := by decide +kernel
theorem dX5_may_1 : decode cX5_may 1 = .ok (.iconst 0, 1) := by decide +kernel
theorem dX5_may_2 : decode cX5_may 2 = .ok (.putfield 66, 3) := by decide +kernel
theorem dX5_may_5 : decode cX5_may 5 = .ok (.aload_n 0, 1) := by decide +kernel
theorem dX5_may_6 : decode cX5_may 6 = .ok (.iload_n 1, 1) := by decide +kernel
theorem dX5_may_7 : decode cX5_may 7 = .ok (.iload_n 2, 1) := by decide +kernel
theorem dX5_may_8 : decode cX5_may 8 = .ok (.iload_n 3, 1) := by decide +kernel
theorem dX5_may_9 : decode cX5_may 9 = .ok (.iload 4, 2) := by decide +kernel
theorem dX5_may_11 : decode cX5_may 11 = .ok (.invokevirtual 131, 3) := by decide +kernel
theorem dX5_may_14 : decode cX5_may 14 = .ok (.ireturn, 1) := by decide +kernel
theorem dX5_two_0 : decode cX5_two 0 = .ok (.aload_n 0, 1) := by decide +kernel
theorem dX5_two_1 : decode cX5_two 1 = .ok (.iconst 0, 1) := by decide +kernel
theorem dX5_two_2 : decode cX5_two 2 = .ok (.putfield 66, 3) := by decide +kernel
theorem dX5_two_5 : decode cX5_two 5 = .ok (.iload_n 1, 1) := by decide +kernel
theorem dX5_two_6 : decode cX5_two 6 = .ok (.invokestatic 81, 3) := by decide +kernel
theorem dX5_two_9 : decode cX5_two 9 = .ok (.ifCond .eq 24, 3) := by decide +kernel
theorem dX5_two_12 : decode cX5_two 12 = .ok (.aload_n 0, 1) := by decide +kernel
theorem dX5_two_13 : decode cX5_two 13 = .ok (.getfield 135, 3) := by decide +kernel
theorem dX5_two_16 : decode cX5_two 16 = .ok (.iload_n 1, 1) := by decide +kernel
theorem dX5_two_17 : decode cX5_two 17 = .ok (.ishr, 1) := by decide +kernel
theorem dX5_two_18 : decode cX5_two 18 = .ok (.iconst 1, 1) := by decide +kernel
theorem dX5_two_19 : decode cX5_two 19 = .ok (.iand, 1) := by decide +kernel
theorem dX5_two_20 : decode cX5_two 20 = .ok (.iconst 1, 1) := by decide +kernel
theorem dX5_two_21 : decode cX5_two 21 = .ok (.if_icmp .ne 7, 3) := by decide +kernel
theorem dX5_two_24 : decode cX5_two 24 = .ok (.iconst 1, 1) := by decide +kernel
theorem dX5_two_25 : decode cX5_two 25 = .ok (.goto 4, 3) := by decide +kernel
theorem dX5_two_28 : decode cX5_two 28 = .ok (.iconst 0, 1) := by decide +kernel
theorem dX5_two_29 : decode cX5_two 29 = .ok (.iload_n 2, 1) := by decide +kernel
theorem dX5_two_30 : decode cX5_two 30 = .ok (.if_icmp .ne 5, 3) := by decide +kernel
theorem dX5_two_33 : decode cX5_two 33 = .ok (.iconst 0, 1) := by decide +kernel
theorem dX5_two_34 : decode cX5_two 34 = .ok (.ireturn, 1) := by decide +kernel
theorem dX5_two_35 : decode cX5_two 35 = .ok (.aload_n 0, 1) := by decide +kernel
theorem dX5_two_36 : decode cX5_two 36 = .ok (.dup, 1) := by decide +kernel
theorem dX5_two_37 : decode cX5_two 37 = .ok (.getfield 135, 3) := by decide +kernel
theorem dX5_two_40 : decode cX5_two 40 = .ok (.iload_n 2, 1) := by decide +kernel
theorem dX5_two_41 : decode cX5_two 41 = .ok (.ifCond .eq 9, 3) := by decide +kernel
theorem dX5_two_44 : decode cX5_two 44 = .ok (.iconst 1, 1) := by decide +kernel
theorem dX5_two_45 : decode cX5_two 45 = .ok (.iload_n 1, 1) := by decide +kernel
theorem dX5_two_46 : decode cX5_two 46 = .ok (.ishl, 1) := by decide +kernel
theorem dX5_two_47 : decode cX5_two 47 = .ok (.goto 7, 3) := by decide +kernel
theorem dX5_two_50 : decode cX5_two 50 = .ok (.iconst 1, 1) := by decide +kernel
theorem dX5_two_51 : decode cX5_two 51 = .ok (.iload_n 1, 1) := by decide +kernel
theorem dX5_two_52 : decode cX5_two 52 = .ok (.ishl, 1) := by decide +kernel
theorem dX5_two_53 : decode cX5_two 53 = .ok (.ineg, 1) := by decide +kernel
theorem dX5_two_54 : decode cX5_two 54 = .ok (.iadd, 1) := by decide +kernel
theorem dX5_two_55 : decode cX5_two 55 = .ok (.putfield 135, 3) := by decide +kernel
theorem dX5_two_58 : decode cX5_two 58 = .ok (.iconst 1, 1) := by decide +kernel
theorem dX5_two_59 : decode cX5_two 59 = .ok (.ireturn, 1) := by decide +kernel
theorem dX5_done_0 : decode cX5_done 0 = .ok (.aload_n 0, 1) := by decide +kernel
theorem dX5_done_1 : decode cX5_done 1 = .ok (.iconst 0, 1) := by decide +kernel
theorem dX5_done_2 : decode cX5_done 2 = .ok (.putfield 66, 3) := by decide +kernel
theorem dX5_done_5 : decode cX5_done 5 = .ok (.aload_n 0, 1) := by decide +kernel
theorem dX5_done_6 : decode cX5_done 6 = .ok (.iload 4, 2) := by decide +kernel
theorem dX5_done_8 : decode cX5_done 8 = .ok (.iload_n 1, 1) := by decide +kernel
theorem dX5_done_9 : decode cX5_done 9 = .ok (.iload_n 2, 1) := by decide +kernel
theorem dX5_done_10 : decode cX5_done 10 = .ok (.iload_n 3, 1) := by decide +kernel
theorem dX5_done_11 : decode cX5_done 11 = .ok (.invokevirtual 131, 3) := by decide +kernel
theorem dX5_done_14 : decode cX5_done 14 = .ok (.ifCond .le 5, 3) := by decide +kernel
theorem dX5_done_17 : decode cX5_done 17 = .ok (.iconst 1, 1) := by decide +kernel
theorem dX5_done_18 : decode cX5_done 18 = .ok (.ireturn, 1) := by decide +kernel
theorem dX5_done_19 : decode cX5_done 19 = .ok (.aload_n 0, 1) := by decide +kernel
theorem dX5_done_20 : decode cX5_done 20 = .ok (.getfield 135, 3) := by decide +kernel
theorem dX5_done_23 : decode cX5_done 23 = .ok (.iload_n 1, 1) := by decide +kernel
theorem dX5_done_24 : decode cX5_done 24 = .ok (.ishr, 1) := by decide +kernel
theorem dX5_done_25 : decode cX5_done 25 = .ok (.iconst 1, 1) := by decide +kernel
theorem dX5_done_26 : decode cX5_done 26 = .ok (.iand, 1) := by decide +kernel
theorem dX5_done_27 : decode cX5_done 27 = .ok (.ifCond .ne 5, 3) := by decide +kernel
theorem dX5_done_30 : decode cX5_done 30 = .ok (.iconst 0, 1) := by decide +kernel
theorem dX5_done_31 : decode cX5_done 31 = .ok (.ireturn, 1) := by decide +kernel
theorem dX5_done_32 : decode cX5_done 32 = .ok (.aload_n 0, 1) := by decide +kernel
theorem dX5_done_33 : decode cX5_done 33 = .ok (.iload 5, 2) := by decide +kernel
theorem dX5_done_35 : decode cX5_done 35 = .ok (.iload_n 1, 1) := by decide +kernel
theorem dX5_done_36 : decode cX5_done 36 = .ok (.iload_n 2, 1) := by decide +kernel
theorem dX5_done_37 : decode cX5_done 37 = .ok (.iload_n 3, 1) := by decide +kernel
theorem dX5_done_38 : decode cX5_done 38 = .ok (.invokevirtual 131, 3) := by decide +kernel
theorem dX5_done_41 : decode cX5_done 41 = .ok (.ifCond .le 5, 3) := by decide +kernel
theorem dX5_done_44 : decode cX5_done 44 = .ok (.iconst 2, 1) := by decide +kernel
theorem dX5_done_45 : decode cX5_done 45 = .ok (.ireturn, 1) := by decide +kernel
theorem dX5_done_46 : decode cX5_done 46 = .ok (.iload 4, 2) := by decide +kernel
theorem dX5_done_48 : decode cX5_done 48 = .ok (.iload 5, 2) := by decide +kernel
theorem dX5_done_50 : decode cX5_done 50 = .ok (.if_icmp .eq 27, 3) := by decide +kernel
theorem dX5_done_53 : decode cX5_done 53 = .ok (.aload_n 0, 1) := by decide +kernel
theorem dX5_done_54 : decode cX5_done 54 = .ok (.getfield 16, 3) := by decide +kernel
theorem dX5_done_57 : decode cX5_done 57 = .ok (.iload 4, 2) := by decide +kernel
theorem dX5_done_59 : decode cX5_done 59 = .ok (.iaload, 1) := by decide +kernel
theorem dX5_done_60 : decode cX5_done 60 = .ok (.iload 5, 2) := by decide +kernel
theorem dX5_done_62 : decode cX5_done 62 = .ok (.if_icmp .eq 15, 3) := by decide +kernel
theorem dX5_done_65 : decode cX5_done 65 = .ok (.aload_n 0, 1) := by decide +kernel
theorem dX5_done_66 : decode cX5_done 66 = .ok (.getfield 16, 3) := by decide +kernel
theorem dX5_done_69 : decode cX5_done 69 = .ok (.iload 5, 2) := by decide +kernel
theorem dX5_done_71 : decode cX5_done 71 = .ok (.iaload, 1) := by decide +kernel
theorem dX5_done_72 : decode cX5_done 72 = .ok (.iload 4, 2) := by decide +kernel
theorem dX5_done_74 : decode cX5_done 74 = .ok (.if_icmp .ne 7, 3) := by decide +kernel
theorem dX5_done_77 : decode cX5_done 77 = .ok (.iconst 3, 1) := by decide +kernel
theorem dX5_done_78 : decode cX5_done 78 = .ok (.goto 4, 3) := by decide +kernel
theorem dX5_done_81 : decode cX5_done 81 = .ok (.iconst 0, 1) := by decide +kernel
theorem dX5_done_82 : decode cX5_done 82 = .ok (.ireturn, 1) := by decide +kernel
theorem dX5_power_0 : decode cX5_power 0 = .ok (.iconst 1, 1) := by decide +kernel
theorem dX5_power_1 : decode cX5_power 1 = .ok (.istore_n 1, 1) := by decide +kernel
theorem dX5_power_2 : decode cX5_power 2 = .ok (.iconst 0, 1) := by decide +kernel
theorem dX5_power_3 : decode cX5_power 3 = .ok (.istore_n 2, 1) := by decide +kernel
theorem dX5_power_4 : decode cX5_power 4 = .ok (.iload_n 2, 1) := by decide +kernel
theorem dX5_power_5 : decode cX5_power 5 = .ok (.iload_n 0, 1) := by decide +kernel
theorem dX5_power_6 : decode cX5_power 6 = .ok (.if_icmp .ge 14, 3) := by decide +kernel
theorem dX5_power_9 : decode cX5_power 9 = .ok (.iload_n 1, 1) := by decide +kernel
theorem dX5_power_10 : decode cX5_power 10 = .ok (.bipush 26, 2) := by decide +kernel
theorem dX5_power_12 : decode cX5_power 12 = .ok (.imul, 1) := by decide +kernel
theorem dX5_power_13 : decode cX5_power 13 = .ok (.istore_n 1, 1) := by decide +kernel
theorem dX5_power_14 : decode cX5_power 14 = .ok (.iinc 2 1, 3) := by decide +kernel
theorem dX5_power_17 : decode cX5_power 17 = .ok (.goto (-13), 3) := by decide +kernel
theorem dX5_power_20 : decode cX5_power 20 = .ok (.iload_n 1, 1) := by decide +kernel
theorem dX5_power_21 : decode cX5_power 21 = .ok (.ireturn, 1) := by decide +kernel
theorem dX5_digit_0 : decode cX5_digit 0 = .ok (.iload_n 0, 1) := by decide +kernel
theorem dX5_digit_1 : decode cX5_digit 1 = .ok (.iconst 5, 1) := by decide +kernel
theorem dX5_digit_2 : decode cX5_digit 2 = .ok (.iload_n 1, 1) := by decide +kernel
theorem dX5_digit_3 : decode cX5_digit 3 = .ok (.isub, 1) := by decide +kernel
theorem dX5_digit_4 : decode cX5_digit 4 = .ok (.invokestatic 138, 3) := by decide +kernel
theorem dX5_digit_7 : decode cX5_digit 7 = .ok (.idiv, 1) := by decide +kernel
theorem dX5_digit_8 : decode cX5_digit 8 = .ok (.bipush 26, 2) := by decide +kernel
theorem dX5_digit_10 : decode cX5_digit 10 = .ok (.irem, 1) := by decide +kernel
theorem dX5_digit_11 : decode cX5_digit 11 = .ok (.ireturn, 1) := by decide +kernel
theorem dX5_letter_0 : decode cX5_letter 0 = .ok (.aload_n 0, 1) := by decide +kernel
theorem dX5_letter_1 : decode cX5_letter 1 = .ok (.iload_n 1, 1) := by decide +kernel
theorem dX5_letter_2 : decode cX5_letter 2 = .ok (.iconst 0, 1) := by decide +kernel
theorem dX5_letter_3 : decode cX5_letter 3 = .ok (.ldc 141, 2) := by decide +kernel
theorem dX5_letter_5 : decode cX5_letter 5 = .ok (.invokestatic 73, 3) := by decide +kernel
theorem dX5_letter_8 : decode cX5_letter 8 = .ok (.ifCond .ne 7, 3) := by decide +kernel
theorem dX5_letter_11 : decode cX5_letter 11 = .ok (.iconst 1, 1) := by decide +kernel
theorem dX5_letter_12 : decode cX5_letter 12 = .ok (.goto 18, 3) := by decide +kernel
theorem dX5_letter_15 : decode cX5_letter 15 = .ok (.iload_n 2, 1) := by decide +kernel
theorem dX5_letter_16 : decode cX5_letter 16 = .ok (.iconst 0, 1) := by decide +kernel
theorem dX5_letter_17 : decode cX5_letter 17 = .ok (.bipush 6, 2) := by decide +kernel
theorem dX5_letter_19 : decode cX5_letter 19 = .ok (.invokestatic 73, 3) := by decide +kernel
theorem dX5_letter_22 : decode cX5_letter 22 = .ok (.ifCond .ne 7, 3) := by decide +kernel
theorem dX5_letter_25 : decode cX5_letter 25 = .ok (.iconst 2, 1) := by decide +kernel
theorem dX5_letter_26 : decode cX5_letter 26 = .ok (.goto 4, 3) := by decide +kernel
theorem dX5_letter_29 : decode cX5_letter 29 = .ok (.iconst 0, 1) := by decide +kernel
theorem dX5_letter_30 : decode cX5_letter 30 = .ok (.putfield 66, 3) := by decide +kernel
theorem dX5_letter_33 : decode cX5_letter 33 = .ok (.aload_n 0, 1) := by decide +kernel
theorem dX5_letter_34 : decode cX5_letter 34 = .ok (.getfield 66, 3) := by decide +kernel
theorem dX5_letter_37 : decode cX5_letter 37 = .ok (.ifCond .le 5, 3) := by decide +kernel
theorem dX5_letter_40 : decode cX5_letter 40 = .ok (.iconst 0, 1) := by decide +kernel
theorem dX5_letter_41 : decode cX5_letter 41 = .ok (.ireturn, 1) := by decide +kernel
theorem dX5_letter_42 : decode cX5_letter 42 = .ok (.iconst 0, 1) := by decide +kernel
theorem dX5_letter_43 : decode cX5_letter 43 = .ok (.istore_n 3, 1) := by decide +kernel
theorem dX5_letter_44 : decode cX5_letter 44 = .ok (.iconst 0, 1) := by decide +kernel
theorem dX5_letter_45 : decode cX5_letter 45 = .ok (.istore 4, 2) := by decide +kernel
theorem dX5_letter_47 : decode cX5_letter 47 = .ok (.iload 4, 2) := by decide +kernel
theorem dX5_letter_49 : decode cX5_letter 49 = .ok (.bipush 6, 2) := by decide +kernel
theorem dX5_letter_51 : decode cX5_letter 51 = .ok (.if_icmp .ge 23, 3) := by decide +kernel
theorem dX5_letter_54 : decode cX5_letter 54 = .ok (.iload_n 3, 1) := by decide +kernel
theorem dX5_letter_55 : decode cX5_letter 55 = .ok (.iload 4, 2) := by decide +kernel
theorem dX5_letter_57 : decode cX5_letter 57 = .ok (.iconst 1, 1) := by decide +kernel
theorem dX5_letter_58 : decode cX5_letter 58 = .ok (.iadd, 1) := by decide +kernel
theorem dX5_letter_59 : decode cX5_letter 59 = .ok (.iload_n 1, 1) := by decide +kernel
theorem dX5_letter_60 : decode cX5_letter 60 = .ok (.iload 4, 2) := by decide +kernel
theorem dX5_letter_62 : decode cX5_letter 62 = .ok (.invokestatic 142, 3) := by decide +kernel
theorem dX5_letter_65 : decode cX5_letter 65 = .ok (.imul, 1) := by decide +kernel
theorem dX5_letter_66 : decode cX5_letter 66 = .ok (.iadd, 1) := by decide +kernel
theorem dX5_letter_67 : decode cX5_letter 67 = .ok (.istore_n 3, 1) := by decide +kernel
theorem dX5_letter_68 : decode cX5_letter 68 = .ok (.iinc 4 1, 3) := by decide +kernel
theorem dX5_letter_71 : decode cX5_letter 71 = .ok (.goto (-24), 3) := by decide +kernel
theorem dX5_letter_74 : decode cX5_letter 74 = .ok (.bipush 65, 2) := by decide +kernel
theorem dX5_letter_76 : decode cX5_letter 76 = .ok (.iload_n 2, 1) := by decide +kernel
theorem dX5_letter_77 : decode cX5_letter 77 = .ok (.bipush 6, 2) := by decide +kernel
theorem dX5_letter_79 : decode cX5_letter 79 = .ok (.if_icmp .ne 10, 3) := by decide +kernel
theorem dX5_letter_82 : decode cX5_letter 82 = .ok (.iload_n 3, 1) := by decide +kernel
theorem dX5_letter_83 : decode cX5_letter 83 = .ok (.bipush 23, 2) := by decide +kernel
theorem dX5_letter_85 : decode cX5_letter 85 = .ok (.irem, 1) := by decide +kernel
theorem dX5_letter_86 : decode cX5_letter 86 = .ok (.goto 8, 3) := by decide +kernel
theorem dX5_letter_89 : decode cX5_letter 89 = .ok (.iload_n 1, 1) := by decide +kernel
theorem dX5_letter_90 : decode cX5_letter 90 = .ok (.iload_n 2, 1) := by decide +kernel
theorem dX5_letter_91 : decode cX5_letter 91 = .ok (.invokestatic 142, 3) := by decide +kernel
theorem dX5_letter_94 : decode cX5_letter 94 = .ok (.iadd, 1) := by decide +kernel
theorem dX5_letter_95 : decode cX5_letter 95 = .ok (.ireturn, 1) := by decide +kernel
theorem dX5_check_0 : decode cX5_check 0 = .ok (.aload_n 0, 1) := by decide +kernel
theorem dX5_check_1 : decode cX5_check 1 = .ok (.iconst 0, 1) := by decide +kernel
theorem dX5_check_2 : decode cX5_check 2 = .ok (.putfield 66, 3) := by decide +kernel
theorem dX5_check_5 : decode cX5_check 5 = .ok (.iload_n 1, 1) := by decide +kernel
theorem dX5_check_6 : decode cX5_check 6 = .ok (.bipush 65, 2) := by decide +kernel
theorem dX5_check_8 : decode cX5_check 8 = .ok (.bipush 90, 2) := by decide +kernel
theorem dX5_check_10 : decode cX5_check 10 = .ok (.invokestatic 73, 3) := by decide +kernel
theorem dX5_check_13 : decode cX5_check 13 = .ok (.ifCond .ne 10, 3) := by decide +kernel
theorem dX5_check_16 : decode cX5_check 16 = .ok (.aload_n 0, 1) := by decide +kernel
theorem dX5_check_17 : decode cX5_check 17 = .ok (.iconst 0, 1) := by decide +kernel
theorem dX5_check_18 : decode cX5_check 18 = .ok (.putfield 145, 3) := by decide +kernel
theorem dX5_check_21 : decode cX5_check 21 = .ok (.iconst (-1), 1) := by decide +kernel
theorem dX5_check_22 : decode cX5_check 22 = .ok (.ireturn, 1) := by decide +kernel
theorem dX5_check_23 : decode cX5_check 23 = .ok (.aload_n 0, 1) := by decide +kernel
theorem dX5_check_24 : decode cX5_check 24 = .ok (.getfield 59, 3) := by decide +kernel
theorem dX5_check_27 : decode cX5_check 27 = .ok (.aload_n 0, 1) := by decide +kernel
theorem dX5_check_28 : decode cX5_check 28 = .ok (.getfield 145, 3) := by decide +kernel
theorem dX5_check_31 : decode cX5_check 31 = .ok (.iload_n 1, 1) := by decide +kernel
theorem dX5_check_32 : decode cX5_check 32 = .ok (.bipush 65, 2) := by decide +kernel
theorem dX5_check_34 : decode cX5_check 34 = .ok (.isub, 1) := by decide +kernel
theorem dX5_check_35 : decode cX5_check 35 = .ok (.iastore, 1) := by decide +kernel
theorem dX5_check_36 : decode cX5_check 36 = .ok (.aload_n 0, 1) := by decide +kernel
theorem dX5_check_37 : decode cX5_check 37 = .ok (.dup, 1) := by decide +kernel
theorem dX5_check_38 : decode cX5_check 38 = .ok (.getfield 145, 3) := by decide +kernel
theorem dX5_check_41 : decode cX5_check 41 = .ok (.iconst 1, 1) := by decide +kernel
theorem dX5_check_42 : decode cX5_check 42 = .ok (.iadd, 1) := by decide +kernel
theorem dX5_check_43 : decode cX5_check 43 = .ok (.putfield 145, 3) := by decide +kernel
theorem dX5_check_46 : decode cX5_check 46 = .ok (.aload_n 0, 1) := by decide +kernel
theorem dX5_check_47 : decode cX5_check 47 = .ok (.getfield 145, 3) := by decide +kernel
theorem dX5_check_50 : decode cX5_check 50 = .ok (.bipush 7, 2) := by decide +kernel
theorem dX5_check_52 : decode cX5_check 52 = .ok (.if_icmp .ge 5, 3) := by decide +kernel
theorem dX5_check_55 : decode cX5_check 55 = .ok (.iconst 0, 1) := by decide +kernel
theorem dX5_check_56 : decode cX5_check 56 = .ok (.ireturn, 1) := by decide +kernel
theorem dX5_check_57 : decode cX5_check 57 = .ok (.aload_n 0, 1) := by decide +kernel
theorem dX5_check_58 : decode cX5_check 58 = .ok (.iconst 0, 1) := by decide +kernel
theorem dX5_check_59 : decode cX5_check 59 = .ok (.putfield 145, 3) := by decide +kernel
theorem dX5_check_62 : decode cX5_check 62 = .ok (.iconst 0, 1) := by decide +kernel
theorem dX5_check_63 : decode cX5_check 63 = .ok (.istore_n 2, 1) := by decide +kernel
theorem dX5_check_64 : decode cX5_check 64 = .ok (.iconst 0, 1) := by decide +kernel
theorem dX5_check_65 : decode cX5_check 65 = .ok (.istore_n 3, 1) := by decide +kernel
theorem dX5_check_66 : decode cX5_check 66 = .ok (.iconst 0, 1) := by decide +kernel
theorem dX5_check_67 : decode cX5_check 67 = .ok (.istore 4, 2) := by decide +kernel
theorem dX5_check_69 : decode cX5_check 69 = .ok (.iload 4, 2) := by decide +kernel
theorem dX5_check_71 : decode cX5_check 71 = .ok (.bipush 6, 2) := by decide +kernel
theorem dX5_check_73 : decode cX5_check 73 = .ok (.if_icmp .ge 42, 3) := by decide +kernel
theorem dX5_check_76 : decode cX5_check 76 = .ok (.iload_n 2, 1) := by decide +kernel
theorem dX5_check_77 : decode cX5_check 77 = .ok (.aload_n 0, 1) := by decide +kernel
theorem dX5_check_78 : decode cX5_check 78 = .ok (.getfield 59, 3) := by decide +kernel
theorem dX5_check_81 : decode cX5_check 81 = .ok (.iload 4, 2) := by decide +kernel
theorem dX5_check_83 : decode cX5_check 83 = .ok (.iaload, 1) := by decide +kernel
theorem dX5_check_84 : decode cX5_check 84 = .ok (.iconst 5, 1) := by decide +kernel
theorem dX5_check_85 : decode cX5_check 85 = .ok (.iload 4, 2) := by decide +kernel
theorem dX5_check_87 : decode cX5_check 87 = .ok (.isub, 1) := by decide +kernel
theorem dX5_check_88 : decode cX5_check 88 = .ok (.invokestatic 138, 3) := by decide +kernel
theorem dX5_check_91 : decode cX5_check 91 = .ok (.imul, 1) := by decide +kernel
theorem dX5_check_92 : decode cX5_check 92 = .ok (.iadd, 1) := by decide +kernel
theorem dX5_check_93 : decode cX5_check 93 = .ok (.istore_n 2, 1) := by decide +kernel
theorem dX5_check_94 : decode cX5_check 94 = .ok (.iload_n 3, 1) := by decide +kernel
theorem dX5_check_95 : decode cX5_check 95 = .ok (.iload 4, 2) := by decide +kernel
theorem dX5_check_97 : decode cX5_check 97 = .ok (.iconst 1, 1) := by decide +kernel
theorem dX5_check_98 : decode cX5_check 98 = .ok (.iadd, 1) := by decide +kernel
theorem dX5_check_99 : decode cX5_check 99 = .ok (.aload_n 0, 1) := by decide +kernel
theorem dX5_check_100 : decode cX5_check 100 = .ok (.getfield 59, 3) := by decide +kernel
theorem dX5_check_103 : decode cX5_check 103 = .ok (.iload 4, 2) := by decide +kernel
theorem dX5_check_105 : decode cX5_check 105 = .ok (.iaload, 1) := by decide +kernel
theorem dX5_check_106 : decode cX5_check 106 = .ok (.imul, 1) := by decide +kernel
theorem dX5_check_107 : decode cX5_check 107 = .ok (.iadd, 1) := by decide +kernel
theorem dX5_check_108 : decode cX5_check 108 = .ok (.istore_n 3, 1) := by decide +kernel
theorem dX5_check_109 : decode cX5_check 109 = .ok (.iinc 4 1, 3) := by decide +kernel
theorem dX5_check_112 : decode cX5_check 112 = .ok (.goto (-43), 3) := by decide +kernel
theorem dX5_check_115 : decode cX5_check 115 = .ok (.iload_n 2, 1) := by decide +kernel
theorem dX5_check_116 : decode cX5_check 116 = .ok (.ldc 148, 2) := by decide +kernel
theorem dX5_check_118 : decode cX5_check 118 = .ok (.if_icmp .ge 21, 3) := by decide +kernel
theorem dX5_check_121 : decode cX5_check 121 = .ok (.aload_n 0, 1) := by decide +kernel
theorem dX5_check_122 : decode cX5_check 122 = .ok (.getfield 59, 3) := by decide +kernel
theorem dX5_check_125 : decode cX5_check 125 = .ok (.bipush 6, 2) := by decide +kernel
theorem dX5_check_127 : decode cX5_check 127 = .ok (.iaload, 1) := by decide +kernel
theorem dX5_check_128 : decode cX5_check 128 = .ok (.iload_n 3, 1) := by decide +kernel
theorem dX5_check_129 : decode cX5_check 129 = .ok (.bipush 23, 2) := by decide +kernel
theorem dX5_check_131 : decode cX5_check 131 = .ok (.irem, 1) := by decide +kernel
theorem dX5_check_132 : decode cX5_check 132 = .ok (.if_icmp .ne 7, 3) := by decide +kernel
theorem dX5_check_135 : decode cX5_check 135 = .ok (.iconst 1, 1) := by decide +kernel
theorem dX5_check_136 : decode cX5_check 136 = .ok (.goto 4, 3) := by decide +kernel
theorem dX5_check_139 : decode cX5_check 139 = .ok (.iconst 0, 1) := by decide +kernel
theorem dX5_check_140 : decode cX5_check 140 = .ok (.istore 4, 2) := by decide +kernel
theorem dX5_check_142 : decode cX5_check 142 = .ok (.aload_n 0, 1) := by decide +kernel
theorem dX5_check_143 : decode cX5_check 143 = .ok (.iload 4, 2) := by decide +kernel
theorem dX5_check_145 : decode cX5_check 145 = .ok (.ifCond .eq 7, 3) := by decide +kernel
theorem dX5_check_148 : decode cX5_check 148 = .ok (.iload_n 2, 1) := by decide +kernel
theorem dX5_check_149 : decode cX5_check 149 = .ok (.goto 7, 3) := by decide +kernel
theorem dX5_check_152 : decode cX5_check 152 = .ok (.aload_n 0, 1) := by decide +kernel
theorem dX5_check_153 : decode cX5_check 153 = .ok (.getfield 62, 3) := by decide +kernel
theorem dX5_check_156 : decode cX5_check 156 = .ok (.putfield 62, 3) := by decide +kernel
theorem dX5_check_159 : decode cX5_check 159 = .ok (.iload 4, 2) := by decide +kernel
theorem dX5_check_161 : decode cX5_check 161 = .ok (.ifCond .eq 7, 3) := by decide +kernel
theorem dX5_check_164 : decode cX5_check 164 = .ok (.iconst 1, 1) := by decide +kernel
theorem dX5_check_165 : decode cX5_check 165 = .ok (.goto 4, 3) := by decide +kernel
theorem dX5_check_168 : decode cX5_check 168 = .ok (.iconst (-1), 1) := by decide +kernel
theorem dX5_check_169 : decode cX5_check 169 = .ok (.ireturn, 1) := by decide +kernel
theorem dX5_certified_0 : decode cX5_certified 0 = .ok (.aload_n 0, 1) := by decide +kernel
theorem dX5_certified_1 : decode cX5_certified 1 = .ok (.iconst 0, 1) := by decide +kernel
theorem dX5_certified_2 : decode cX5_certified 2 = .ok (.putfield 66, 3) := by decide +kernel
theorem dX5_certified_5 : decode cX5_certified 5 = .ok (.aload_n 0, 1) := by decide +kernel
theorem dX5_certified_6 : decode cX5_certified 6 = .ok (.getfield 62, 3) := by decide +kernel
theorem dX5_certified_9 : decode cX5_certified 9 = .ok (.ireturn, 1) := by decide +kernel
theorem dX5_acts_0 : decode cX5_acts 0 = .ok (.iconst 0, 1) := by decide +kernel
theorem dX5_acts_1 : decode cX5_acts 1 = .ok (.istore_n 3, 1) := by decide +kernel
theorem dX5_acts_2 : decode cX5_acts 2 = .ok (.iconst 0, 1) := by decide +kernel
theorem dX5_acts_3 : decode cX5_acts 3 = .ok (.istore 4, 2) := by decide +kernel
theorem dX5_acts_5 : decode cX5_acts 5 = .ok (.iload 4, 2) := by decide +kernel
theorem dX5_acts_7 : decode cX5_acts 7 = .ok (.bipush 8, 2) := by decide +kernel
theorem dX5_acts_9 : decode cX5_acts 9 = .ok (.if_icmp .ge 66, 3) := by decide +kernel
theorem dX5_acts_12 : decode cX5_acts 12 = .ok (.iconst 0, 1) := by decide +kernel
theorem dX5_acts_13 : decode cX5_acts 13 = .ok (.istore 5, 2) := by decide +kernel
theorem dX5_acts_15 : decode cX5_acts 15 = .ok (.iconst 0, 1) := by decide +kernel
theorem dX5_acts_16 : decode cX5_acts 16 = .ok (.istore 6, 2) := by decide +kernel
theorem dX5_acts_18 : decode cX5_acts 18 = .ok (.iload 6, 2) := by decide +kernel
theorem dX5_acts_20 : decode cX5_acts 20 = .ok (.bipush 8, 2) := by decide +kernel
theorem dX5_acts_22 : decode cX5_acts 22 = .ok (.if_icmp .ge 34, 3) := by decide +kernel
theorem dX5_acts_25 : decode cX5_acts 25 = .ok (.iload 5, 2) := by decide +kernel
theorem dX5_acts_27 : decode cX5_acts 27 = .ok (.ifCond .ne 16, 3) := by decide +kernel
theorem dX5_acts_30 : decode cX5_acts 30 = .ok (.aload_n 0, 1) := by decide +kernel
theorem dX5_acts_31 : decode cX5_acts 31 = .ok (.iload_n 1, 1) := by decide +kernel
theorem dX5_acts_32 : decode cX5_acts 32 = .ok (.iload 4, 2) := by decide +kernel
theorem dX5_acts_34 : decode cX5_acts 34 = .ok (.iload 6, 2) := by decide +kernel
theorem dX5_acts_36 : decode cX5_acts 36 = .ok (.iload_n 2, 1) := by decide +kernel
theorem dX5_acts_37 : decode cX5_acts 37 = .ok (.invokevirtual 123, 3) := by decide +kernel
theorem dX5_acts_40 : decode cX5_acts 40 = .ok (.ifCond .eq 7, 3) := by decide +kernel
theorem dX5_acts_43 : decode cX5_acts 43 = .ok (.iconst 1, 1) := by decide +kernel
theorem dX5_acts_44 : decode cX5_acts 44 = .ok (.goto 4, 3) := by decide +kernel
theorem dX5_acts_47 : decode cX5_acts 47 = .ok (.iconst 0, 1) := by decide +kernel
theorem dX5_acts_48 : decode cX5_acts 48 = .ok (.istore 5, 2) := by decide +kernel
theorem dX5_acts_50 : decode cX5_acts 50 = .ok (.iinc 6 1, 3) := by decide +kernel
theorem dX5_acts_53 : decode cX5_acts 53 = .ok (.goto (-35), 3) := by decide +kernel
theorem dX5_acts_56 : decode cX5_acts 56 = .ok (.iload_n 3, 1) := by decide +kernel
theorem dX5_acts_57 : decode cX5_acts 57 = .ok (.iload 5, 2) := by decide +kernel
theorem dX5_acts_59 : decode cX5_acts 59 = .ok (.ifCond .eq 7, 3) := by decide +kernel
theorem dX5_acts_62 : decode cX5_acts 62 = .ok (.iconst 1, 1) := by decide +kernel
theorem dX5_acts_63 : decode cX5_acts 63 = .ok (.goto 4, 3) := by decide +kernel
theorem dX5_acts_66 : decode cX5_acts 66 = .ok (.iconst 0, 1) := by decide +kernel
theorem dX5_acts_67 : decode cX5_acts 67 = .ok (.iadd, 1) := by decide +kernel
theorem dX5_acts_68 : decode cX5_acts 68 = .ok (.istore_n 3, 1) := by decide +kernel
theorem dX5_acts_69 : decode cX5_acts 69 = .ok (.iinc 4 1, 3) := by decide +kernel
theorem dX5_acts_72 : decode cX5_acts 72 = .ok (.goto (-67), 3) := by decide +kernel
theorem dX5_acts_75 : decode cX5_acts 75 = .ok (.iload_n 3, 1) := by decide +kernel
theorem dX5_acts_76 : decode cX5_acts 76 = .ok (.ireturn, 1) := by decide +kernel
theorem dX5_standing_0 : decode cX5_standing 0 = .ok (.iconst 0, 1) := by decide +kernel
theorem dX5_standing_1 : decode cX5_standing 1 = .ok (.istore_n 3, 1) := by decide +kernel
theorem dX5_standing_2 : decode cX5_standing 2 = .ok (.iconst 0, 1) := by decide +kernel
theorem dX5_standing_3 : decode cX5_standing 3 = .ok (.istore 4, 2) := by decide +kernel
theorem dX5_standing_5 : decode cX5_standing 5 = .ok (.iload 4, 2) := by decide +kernel
theorem dX5_standing_7 : decode cX5_standing 7 = .ok (.aload_n 0, 1) := by decide +kernel
theorem dX5_standing_8 : decode cX5_standing 8 = .ok (.getfield 111, 3) := by decide +kernel
theorem dX5_standing_11 : decode cX5_standing 11 = .ok (.if_icmp .ge 39, 3) := by decide +kernel
theorem dX5_standing_14 : decode cX5_standing 14 = .ok (.iload_n 3, 1) := by decide +kernel
theorem dX5_standing_15 : decode cX5_standing 15 = .ok (.aload_n 0, 1) := by decide +kernel
theorem dX5_standing_16 : decode cX5_standing 16 = .ok (.getfield 40, 3) := by decide +kernel
theorem dX5_standing_19 : decode cX5_standing 19 = .ok (.iload 4, 2) := by decide +kernel
theorem dX5_standing_21 : decode cX5_standing 21 = .ok (.iaload, 1) := by decide +kernel
theorem dX5_standing_22 : decode cX5_standing 22 = .ok (.iload_n 1, 1) := by decide +kernel
theorem dX5_standing_23 : decode cX5_standing 23 = .ok (.if_icmp .ne 18, 3) := by decide +kernel
theorem dX5_standing_26 : decode cX5_standing 26 = .ok (.aload_n 0, 1) := by decide +kernel
theorem dX5_standing_27 : decode cX5_standing 27 = .ok (.getfield 47, 3) := by decide +kernel
theorem dX5_standing_30 : decode cX5_standing 30 = .ok (.iload 4, 2) := by decide +kernel
theorem dX5_standing_32 : decode cX5_standing 32 = .ok (.iaload, 1) := by decide +kernel
theorem dX5_standing_33 : decode cX5_standing 33 = .ok (.iload_n 2, 1) := by decide +kernel
theorem dX5_standing_34 : decode cX5_standing 34 = .ok (.if_icmp .lt 7, 3) := by decide +kernel
theorem dX5_standing_37 : decode cX5_standing 37 = .ok (.iconst 1, 1) := by decide +kernel
theorem dX5_standing_38 : decode cX5_standing 38 = .ok (.goto 4, 3) := by decide +kernel
theorem dX5_standing_41 : decode cX5_standing 41 = .ok (.iconst 0, 1) := by decide +kernel
theorem dX5_standing_42 : decode cX5_standing 42 = .ok (.iadd, 1) := by decide +kernel
theorem dX5_standing_43 : decode cX5_standing 43 = .ok (.istore_n 3, 1) := by decide +kernel
theorem dX5_standing_44 : decode cX5_standing 44 = .ok (.iinc 4 1, 3) := by decide +kernel
theorem dX5_standing_47 : decode cX5_standing 47 = .ok (.goto (-42), 3) := by decide +kernel
theorem dX5_standing_50 : decode cX5_standing 50 = .ok (.iload_n 3, 1) := by decide +kernel
theorem dX5_standing_51 : decode cX5_standing 51 = .ok (.ireturn, 1) := by decide +kernel
theorem dX5_look_0 : decode cX5_look 0 = .ok (.aload_n 0, 1) := by decide +kernel
theorem dX5_look_1 : decode cX5_look 1 = .ok (.aload_n 0, 1) := by decide +kernel
theorem dX5_look_2 : decode cX5_look 2 = .ok (.iload_n 1, 1) := by decide +kernel
theorem dX5_look_3 : decode cX5_look 3 = .ok (.invokevirtual 77, 3) := by decide +kernel
theorem dX5_look_6 : decode cX5_look 6 = .ok (.ifCond .eq 13, 3) := by decide +kernel
theorem dX5_look_9 : decode cX5_look 9 = .ok (.iload_n 3, 1) := by decide +kernel
theorem dX5_look_10 : decode cX5_look 10 = .ok (.iconst 0, 1) := by decide +kernel
theorem dX5_look_11 : decode cX5_look 11 = .ok (.bipush 6, 2) := by decide +kernel
theorem dX5_look_13 : decode cX5_look 13 = .ok (.invokestatic 73, 3) := by decide +kernel
theorem dX5_look_16 : decode cX5_look 16 = .ok (.ifCond .ne 7, 3) := by decide +kernel
theorem dX5_look_19 : decode cX5_look 19 = .ok (.iconst 1, 1) := by decide +kernel
theorem dX5_look_20 : decode cX5_look 20 = .ok (.goto 15, 3) := by decide +kernel
theorem dX5_look_23 : decode cX5_look 23 = .ok (.iload_n 2, 1) := by decide +kernel
theorem dX5_look_24 : decode cX5_look 24 = .ok (.invokestatic 84, 3) := by decide +kernel
theorem dX5_look_27 : decode cX5_look 27 = .ok (.ifCond .ne 7, 3) := by decide +kernel
theorem dX5_look_30 : decode cX5_look 30 = .ok (.iconst 2, 1) := by decide +kernel
theorem dX5_look_31 : decode cX5_look 31 = .ok (.goto 4, 3) := by decide +kernel
theorem dX5_look_34 : decode cX5_look 34 = .ok (.iconst 0, 1) := by decide +kernel
theorem dX5_look_35 : decode cX5_look 35 = .ok (.putfield 66, 3) := by decide +kernel
theorem dX5_look_38 : decode cX5_look 38 = .ok (.aload_n 0, 1) := by decide +kernel
theorem dX5_look_39 : decode cX5_look 39 = .ok (.getfield 66, 3) := by decide +kernel
theorem dX5_look_42 : decode cX5_look 42 = .ok (.ifCond .le 5, 3) := by decide +kernel
theorem dX5_look_45 : decode cX5_look 45 = .ok (.iconst 0, 1) := by decide +kernel
theorem dX5_look_46 : decode cX5_look 46 = .ok (.ireturn, 1) := by decide +kernel
theorem dX5_look_47 : decode cX5_look 47 = .ok (.iload_n 3, 1) := by decide +kernel
theorem dX5_look_48 : decode cX5_look 48 = .ok (.tableswitch 102 0 5 #[40, 55, 70, 82, 89, 95], 40) := by decide +kernel
theorem dX5_look_88 : decode cX5_look 88 = .ok (.aload_n 0, 1) := by decide +kernel
theorem dX5_look_89 : decode cX5_look 89 = .ok (.iload_n 1, 1) := by decide +kernel
theorem dX5_look_90 : decode cX5_look 90 = .ok (.iload_n 2, 1) := by decide +kernel
theorem dX5_look_91 : decode cX5_look 91 = .ok (.invokevirtual 117, 3) := by decide +kernel
theorem dX5_look_94 : decode cX5_look 94 = .ok (.ifCond .eq 7, 3) := by decide +kernel
theorem dX5_look_97 : decode cX5_look 97 = .ok (.iconst 1, 1) := by decide +kernel
theorem dX5_look_98 : decode cX5_look 98 = .ok (.goto 4, 3) := by decide +kernel
theorem dX5_look_101 : decode cX5_look 101 = .ok (.iconst 0, 1) := by decide +kernel
theorem dX5_look_102 : decode cX5_look 102 = .ok (.ireturn, 1) := by decide +kernel
theorem dX5_look_103 : decode cX5_look 103 = .ok (.aload_n 0, 1) := by decide +kernel
theorem dX5_look_104 : decode cX5_look 104 = .ok (.iload_n 1, 1) := by decide +kernel
theorem dX5_look_105 : decode cX5_look 105 = .ok (.iload_n 2, 1) := by decide +kernel
theorem dX5_look_106 : decode cX5_look 106 = .ok (.invokevirtual 120, 3) := by decide +kernel
theorem dX5_look_109 : decode cX5_look 109 = .ok (.ifCond .eq 7, 3) := by decide +kernel
theorem dX5_look_112 : decode cX5_look 112 = .ok (.iconst 1, 1) := by decide +kernel
theorem dX5_look_113 : decode cX5_look 113 = .ok (.goto 4, 3) := by decide +kernel
theorem dX5_look_116 : decode cX5_look 116 = .ok (.iconst 0, 1) := by decide +kernel
theorem dX5_look_117 : decode cX5_look 117 = .ok (.ireturn, 1) := by decide +kernel
theorem dX5_look_118 : decode cX5_look 118 = .ok (.aload_n 0, 1) := by decide +kernel
theorem dX5_look_119 : decode cX5_look 119 = .ok (.iload_n 1, 1) := by decide +kernel
theorem dX5_look_120 : decode cX5_look 120 = .ok (.iload_n 2, 1) := by decide +kernel
theorem dX5_look_121 : decode cX5_look 121 = .ok (.invokevirtual 104, 3) := by decide +kernel
theorem dX5_look_124 : decode cX5_look 124 = .ok (.invokestatic 100, 3) := by decide +kernel
theorem dX5_look_127 : decode cX5_look 127 = .ok (.iconst 1, 1) := by decide +kernel
theorem dX5_look_128 : decode cX5_look 128 = .ok (.isub, 1) := by decide +kernel
theorem dX5_look_129 : decode cX5_look 129 = .ok (.ireturn, 1) := by decide +kernel
theorem dX5_look_130 : decode cX5_look 130 = .ok (.aload_n 0, 1) := by decide +kernel
theorem dX5_look_131 : decode cX5_look 131 = .ok (.iload_n 1, 1) := by decide +kernel
theorem dX5_look_132 : decode cX5_look 132 = .ok (.iload_n 2, 1) := by decide +kernel
theorem dX5_look_133 : decode cX5_look 133 = .ok (.invokevirtual 149, 3) := by decide +kernel
theorem dX5_look_136 : decode cX5_look 136 = .ok (.ireturn, 1) := by decide +kernel
theorem dX5_look_137 : decode cX5_look 137 = .ok (.aload_n 0, 1) := by decide +kernel
theorem dX5_look_138 : decode cX5_look 138 = .ok (.iload_n 1, 1) := by decide +kernel
theorem dX5_look_139 : decode cX5_look 139 = .ok (.invokevirtual 108, 3) := by decide +kernel
theorem dX5_look_142 : decode cX5_look 142 = .ok (.ireturn, 1) := by decide +kernel
theorem dX5_look_143 : decode cX5_look 143 = .ok (.aload_n 0, 1) := by decide +kernel
theorem dX5_look_144 : decode cX5_look 144 = .ok (.getfield 16, 3) := by decide +kernel
theorem dX5_look_147 : decode cX5_look 147 = .ok (.iload_n 1, 1) := by decide +kernel
theorem dX5_look_148 : decode cX5_look 148 = .ok (.iaload, 1) := by decide +kernel
theorem dX5_look_149 : decode cX5_look 149 = .ok (.ireturn, 1) := by decide +kernel
theorem dX5_look_150 : decode cX5_look 150 = .ok (.aload_n 0, 1) := by decide +kernel
theorem dX5_look_151 : decode cX5_look 151 = .ok (.iload_n 1, 1) := by decide +kernel
theorem dX5_look_152 : decode cX5_look 152 = .ok (.iload_n 2, 1) := by decide +kernel
theorem dX5_look_153 : decode cX5_look 153 = .ok (.invokevirtual 152, 3) := by decide +kernel
theorem dX5_look_156 : decode cX5_look 156 = .ok (.ireturn, 1) := by decide +kernel
theorem dX5_count_0 : decode cX5_count 0 = .ok (.aload_n 0, 1) := by decide +kernel
theorem dX5_count_1 : decode cX5_count 1 = .ok (.iconst 0, 1) := by decide +kernel
theorem dX5_count_2 : decode cX5_count 2 = .ok (.putfield 66, 3) := by decide +kernel
theorem dX5_count_5 : decode cX5_count 5 = .ok (.iload_n 1, 1) := by decide +kernel
theorem dX5_count_6 : decode cX5_count 6 = .ok (.tableswitch 68 0 5 #[38, 43, 48, 53, 58, 63], 38) := by decide +kernel
theorem dX5_count_44 : decode cX5_count 44 = .ok (.aload_n 0, 1) := by decide +kernel
theorem dX5_count_45 : decode cX5_count 45 = .ok (.getfield 69, 3) := by decide +kernel
theorem dX5_count_48 : decode cX5_count 48 = .ok (.ireturn, 1) := by decide +kernel
theorem dX5_count_49 : decode cX5_count 49 = .ok (.aload_n 0, 1) := by decide +kernel
theorem dX5_count_50 : decode cX5_count 50 = .ok (.getfield 87, 3) := by decide +kernel
theorem dX5_count_53 : decode cX5_count 53 = .ok (.ireturn, 1) := by decide +kernel
theorem dX5_count_54 : decode cX5_count 54 = .ok (.aload_n 0, 1) := by decide +kernel
theorem dX5_count_55 : decode cX5_count 55 = .ok (.getfield 111, 3) := by decide +kernel
theorem dX5_count_58 : decode cX5_count 58 = .ok (.ireturn, 1) := by decide +kernel
theorem dX5_count_59 : decode cX5_count 59 = .ok (.aload_n 0, 1) := by decide +kernel
theorem dX5_count_60 : decode cX5_count 60 = .ok (.getfield 114, 3) := by decide +kernel
theorem dX5_count_63 : decode cX5_count 63 = .ok (.ireturn, 1) := by decide +kernel
theorem dX5_count_64 : decode cX5_count 64 = .ok (.aload_n 0, 1) := by decide +kernel
theorem dX5_count_65 : decode cX5_count 65 = .ok (.getfield 135, 3) := by decide +kernel
theorem dX5_count_68 : decode cX5_count 68 = .ok (.ireturn, 1) := by decide +kernel
theorem dX5_count_69 : decode cX5_count 69 = .ok (.aload_n 0, 1) := by decide +kernel
theorem dX5_count_70 : decode cX5_count 70 = .ok (.getfield 145, 3) := by decide +kernel
theorem dX5_count_73 : decode cX5_count 73 = .ok (.ireturn, 1) := by decide +kernel
theorem dX5_count_74 : decode cX5_count 74 = .ok (.iconst (-1), 1) := by decide +kernel
theorem dX5_count_75 : decode cX5_count 75 = .ok (.ireturn, 1) := by decide +kernel
theorem dJ6_bitCount_0f7a4_0 : decode cJ6_bitCount_0f7a4 0 = .ok (.iload_n 0, 1) := by decide +kernel
theorem dJ6_bitCount_0f7a4_1 : decode cJ6_bitCount_0f7a4 1 = .ok (.iload_n 0, 1) := by decide +kernel
theorem dJ6_bitCount_0f7a4_2 : decode cJ6_bitCount_0f7a4 2 = .ok (.iconst 1, 1) := by decide +kernel
theorem dJ6_bitCount_0f7a4_3 : decode cJ6_bitCount_0f7a4 3 = .ok (.iushr, 1) := by decide +kernel
theorem dJ6_bitCount_0f7a4_4 : decode cJ6_bitCount_0f7a4 4 = .ok (.ldc_w 265, 3) := by decide +kernel
theorem dJ6_bitCount_0f7a4_7 : decode cJ6_bitCount_0f7a4 7 = .ok (.iand, 1) := by decide +kernel
theorem dJ6_bitCount_0f7a4_8 : decode cJ6_bitCount_0f7a4 8 = .ok (.isub, 1) := by decide +kernel
theorem dJ6_bitCount_0f7a4_9 : decode cJ6_bitCount_0f7a4 9 = .ok (.istore_n 0, 1) := by decide +kernel
theorem dJ6_bitCount_0f7a4_10 : decode cJ6_bitCount_0f7a4 10 = .ok (.iload_n 0, 1) := by decide +kernel
theorem dJ6_bitCount_0f7a4_11 : decode cJ6_bitCount_0f7a4 11 = .ok (.ldc_w 266, 3) := by decide +kernel
theorem dJ6_bitCount_0f7a4_14 : decode cJ6_bitCount_0f7a4 14 = .ok (.iand, 1) := by decide +kernel
theorem dJ6_bitCount_0f7a4_15 : decode cJ6_bitCount_0f7a4 15 = .ok (.iload_n 0, 1) := by decide +kernel
theorem dJ6_bitCount_0f7a4_16 : decode cJ6_bitCount_0f7a4 16 = .ok (.iconst 2, 1) := by decide +kernel
theorem dJ6_bitCount_0f7a4_17 : decode cJ6_bitCount_0f7a4 17 = .ok (.iushr, 1) := by decide +kernel
theorem dJ6_bitCount_0f7a4_18 : decode cJ6_bitCount_0f7a4 18 = .ok (.ldc_w 266, 3) := by decide +kernel
theorem dJ6_bitCount_0f7a4_21 : decode cJ6_bitCount_0f7a4 21 = .ok (.iand, 1) := by decide +kernel
theorem dJ6_bitCount_0f7a4_22 : decode cJ6_bitCount_0f7a4 22 = .ok (.iadd, 1) := by decide +kernel
theorem dJ6_bitCount_0f7a4_23 : decode cJ6_bitCount_0f7a4 23 = .ok (.istore_n 0, 1) := by decide +kernel
theorem dJ6_bitCount_0f7a4_24 : decode cJ6_bitCount_0f7a4 24 = .ok (.iload_n 0, 1) := by decide +kernel
theorem dJ6_bitCount_0f7a4_25 : decode cJ6_bitCount_0f7a4 25 = .ok (.iload_n 0, 1) := by decide +kernel
theorem dJ6_bitCount_0f7a4_26 : decode cJ6_bitCount_0f7a4 26 = .ok (.iconst 4, 1) := by decide +kernel
theorem dJ6_bitCount_0f7a4_27 : decode cJ6_bitCount_0f7a4 27 = .ok (.iushr, 1) := by decide +kernel
theorem dJ6_bitCount_0f7a4_28 : decode cJ6_bitCount_0f7a4 28 = .ok (.iadd, 1) := by decide +kernel
theorem dJ6_bitCount_0f7a4_29 : decode cJ6_bitCount_0f7a4 29 = .ok (.ldc_w 267, 3) := by decide +kernel
theorem dJ6_bitCount_0f7a4_32 : decode cJ6_bitCount_0f7a4 32 = .ok (.iand, 1) := by decide +kernel
theorem dJ6_bitCount_0f7a4_33 : decode cJ6_bitCount_0f7a4 33 = .ok (.istore_n 0, 1) := by decide +kernel
theorem dJ6_bitCount_0f7a4_34 : decode cJ6_bitCount_0f7a4 34 = .ok (.iload_n 0, 1) := by decide +kernel
theorem dJ6_bitCount_0f7a4_35 : decode cJ6_bitCount_0f7a4 35 = .ok (.iload_n 0, 1) := by decide +kernel
theorem dJ6_bitCount_0f7a4_36 : decode cJ6_bitCount_0f7a4 36 = .ok (.bipush 8, 2) := by decide +kernel
theorem dJ6_bitCount_0f7a4_38 : decode cJ6_bitCount_0f7a4 38 = .ok (.iushr, 1) := by decide +kernel
theorem dJ6_bitCount_0f7a4_39 : decode cJ6_bitCount_0f7a4 39 = .ok (.iadd, 1) := by decide +kernel
theorem dJ6_bitCount_0f7a4_40 : decode cJ6_bitCount_0f7a4 40 = .ok (.istore_n 0, 1) := by decide +kernel
theorem dJ6_bitCount_0f7a4_41 : decode cJ6_bitCount_0f7a4 41 = .ok (.iload_n 0, 1) := by decide +kernel
theorem dJ6_bitCount_0f7a4_42 : decode cJ6_bitCount_0f7a4 42 = .ok (.iload_n 0, 1) := by decide +kernel
theorem dJ6_bitCount_0f7a4_43 : decode cJ6_bitCount_0f7a4 43 = .ok (.bipush 16, 2) := by decide +kernel
theorem dJ6_bitCount_0f7a4_45 : decode cJ6_bitCount_0f7a4 45 = .ok (.iushr, 1) := by decide +kernel
theorem dJ6_bitCount_0f7a4_46 : decode cJ6_bitCount_0f7a4 46 = .ok (.iadd, 1) := by decide +kernel
theorem dJ6_bitCount_0f7a4_47 : decode cJ6_bitCount_0f7a4 47 = .ok (.istore_n 0, 1) := by decide +kernel
theorem dJ6_bitCount_0f7a4_48 : decode cJ6_bitCount_0f7a4 48 = .ok (.iload_n 0, 1) := by decide +kernel
theorem dJ6_bitCount_0f7a4_49 : decode cJ6_bitCount_0f7a4 49 = .ok (.bipush 63, 2) := by decide +kernel
theorem dJ6_bitCount_0f7a4_51 : decode cJ6_bitCount_0f7a4 51 = .ok (.iand, 1) := by decide +kernel
theorem dJ6_bitCount_0f7a4_52 : decode cJ6_bitCount_0f7a4 52 = .ok (.ireturn, 1) := by decide +kernel
theorem dJ7_fill_53178_0 : decode cJ7_fill_53178 0 = .ok (.iconst 0, 1) := by decide +kernel
theorem dJ7_fill_53178_1 : decode cJ7_fill_53178 1 = .ok (.istore_n 2, 1) := by decide +kernel
theorem dJ7_fill_53178_2 : decode cJ7_fill_53178 2 = .ok (.aload_n 0, 1) := by decide +kernel
theorem dJ7_fill_53178_3 : decode cJ7_fill_53178 3 = .ok (.arraylength, 1) := by decide +kernel
theorem dJ7_fill_53178_4 : decode cJ7_fill_53178 4 = .ok (.istore_n 3, 1) := by decide +kernel
theorem dJ7_fill_53178_5 : decode cJ7_fill_53178 5 = .ok (.iload_n 2, 1) := by decide +kernel
theorem dJ7_fill_53178_6 : decode cJ7_fill_53178 6 = .ok (.iload_n 3, 1) := by decide +kernel
theorem dJ7_fill_53178_7 : decode cJ7_fill_53178 7 = .ok (.if_icmp .ge 13, 3) := by decide +kernel
theorem dJ7_fill_53178_10 : decode cJ7_fill_53178 10 = .ok (.aload_n 0, 1) := by decide +kernel
theorem dJ7_fill_53178_11 : decode cJ7_fill_53178 11 = .ok (.iload_n 2, 1) := by decide +kernel
theorem dJ7_fill_53178_12 : decode cJ7_fill_53178 12 = .ok (.iload_n 1, 1) := by decide +kernel
theorem dJ7_fill_53178_13 : decode cJ7_fill_53178 13 = .ok (.iastore, 1) := by decide +kernel
theorem dJ7_fill_53178_14 : decode cJ7_fill_53178 14 = .ok (.iinc 2 1, 3) := by decide +kernel
theorem dJ7_fill_53178_17 : decode cJ7_fill_53178 17 = .ok (.goto (-12), 3) := by decide +kernel
theorem dJ7_fill_53178_20 : decode cJ7_fill_53178 20 = .ok (.return_, 1) := by decide +kernel
theorem dL_trader_0 : decode cL_trader 0 = .ok (.aload_n 1, 1) := by decide +kernel
theorem dL_trader_1 : decode cL_trader 1 = .ok (.iconst 0, 1) := by decide +kernel
theorem dL_trader_2 : decode cL_trader 2 = .ok (.aload_n 0, 1) := by decide +kernel
theorem dL_trader_3 : decode cL_trader 3 = .ok (.invokevirtual 7, 3) := by decide +kernel
theorem dL_trader_6 : decode cL_trader 6 = .ok (.i2l, 1) := by decide +kernel
theorem dL_trader_7 : decode cL_trader 7 = .ok (.lastore, 1) := by decide +kernel
theorem dL_trader_8 : decode cL_trader 8 = .ok (.goto 6, 3) := by decide +kernel
theorem dL_trader_11 : decode cL_trader 11 = .ok (.astore_n 2, 1) := by decide +kernel
theorem dL_trader_12 : decode cL_trader 12 = .ok (.iconst 1, 1) := by decide +kernel
theorem dL_trader_13 : decode cL_trader 13 = .ok (.ireturn, 1) := by decide +kernel
theorem dL_trader_14 : decode cL_trader 14 = .ok (.iconst 0, 1) := by decide +kernel
theorem dL_trader_15 : decode cL_trader 15 = .ok (.ireturn, 1) := by decide +kernel
theorem dL_right_0 : decode cL_right 0 = .ok (.aload 6, 2) := by decide +kernel
theorem dL_right_2 : decode cL_right 2 = .ok (.iconst 0, 1) := by decide +kernel
theorem dL_right_3 : decode cL_right 3 = .ok (.aload_n 0, 1) := by decide +kernel
theorem dL_right_4 : decode cL_right 4 = .ok (.iload_n 1, 1) := by decide +kernel
theorem dL_right_5 : decode cL_right 5 = .ok (.iload_n 2, 1) := by decide +kernel
theorem dL_right_6 : decode cL_right 6 = .ok (.iload_n 3, 1) := by decide +kernel
theorem dL_right_7 : decode cL_right 7 = .ok (.iload 4, 2) := by decide +kernel
theorem dL_right_9 : decode cL_right 9 = .ok (.iload 5, 2) := by decide +kernel
theorem dL_right_11 : decode cL_right 11 = .ok (.invokevirtual 15, 3) := by decide +kernel
theorem dL_right_14 : decode cL_right 14 = .ok (.i2l, 1) := by decide +kernel
theorem dL_right_15 : decode cL_right 15 = .ok (.lastore, 1) := by decide +kernel
theorem dL_right_16 : decode cL_right 16 = .ok (.goto 11, 3) := by decide +kernel
theorem dL_right_19 : decode cL_right 19 = .ok (.astore 7, 2) := by decide +kernel
theorem dL_right_21 : decode cL_right 21 = .ok (.iconst 1, 1) := by decide +kernel
theorem dL_right_22 : decode cL_right 22 = .ok (.ireturn, 1) := by decide +kernel
theorem dL_right_23 : decode cL_right 23 = .ok (.astore 7, 2) := by decide +kernel
theorem dL_right_25 : decode cL_right 25 = .ok (.iconst 2, 1) := by decide +kernel
theorem dL_right_26 : decode cL_right 26 = .ok (.ireturn, 1) := by decide +kernel
theorem dL_right_27 : decode cL_right 27 = .ok (.iconst 0, 1) := by decide +kernel
theorem dL_right_28 : decode cL_right 28 = .ok (.ireturn, 1) := by decide +kernel
theorem dL_group_0 : decode cL_group 0 = .ok (.aload_n 3, 1) := by decide +kernel
theorem dL_group_1 : decode cL_group 1 = .ok (.iconst 0, 1) := by decide +kernel
theorem dL_group_2 : decode cL_group 2 = .ok (.aload_n 0, 1) := by decide +kernel
theorem dL_group_3 : decode cL_group 3 = .ok (.iload_n 1, 1) := by decide +kernel
theorem dL_group_4 : decode cL_group 4 = .ok (.iload_n 2, 1) := by decide +kernel
theorem dL_group_5 : decode cL_group 5 = .ok (.invokevirtual 21, 3) := by decide +kernel
theorem dL_group_8 : decode cL_group 8 = .ok (.i2l, 1) := by decide +kernel
theorem dL_group_9 : decode cL_group 9 = .ok (.lastore, 1) := by decide +kernel
theorem dL_group_10 : decode cL_group 10 = .ok (.goto 7, 3) := by decide +kernel
theorem dL_group_13 : decode cL_group 13 = .ok (.astore 4, 2) := by decide +kernel
theorem dL_group_15 : decode cL_group 15 = .ok (.iconst 1, 1) := by decide +kernel
theorem dL_group_16 : decode cL_group 16 = .ok (.ireturn, 1) := by decide +kernel
theorem dL_group_17 : decode cL_group 17 = .ok (.iconst 0, 1) := by decide +kernel
theorem dL_group_18 : decode cL_group 18 = .ok (.ireturn, 1) := by decide +kernel
theorem dL_deputy_0 : decode cL_deputy 0 = .ok (.aload_n 3, 1) := by decide +kernel
theorem dL_deputy_1 : decode cL_deputy 1 = .ok (.iconst 0, 1) := by decide +kernel
theorem dL_deputy_2 : decode cL_deputy 2 = .ok (.aload_n 0, 1) := by decide +kernel
theorem dL_deputy_3 : decode cL_deputy 3 = .ok (.iload_n 1, 1) := by decide +kernel
theorem dL_deputy_4 : decode cL_deputy 4 = .ok (.iload_n 2, 1) := by decide +kernel
theorem dL_deputy_5 : decode cL_deputy 5 = .ok (.invokevirtual 25, 3) := by decide +kernel
theorem dL_deputy_8 : decode cL_deputy 8 = .ok (.i2l, 1) := by decide +kernel
theorem dL_deputy_9 : decode cL_deputy 9 = .ok (.lastore, 1) := by decide +kernel
theorem dL_deputy_10 : decode cL_deputy 10 = .ok (.goto 7, 3) := by decide +kernel
theorem dL_deputy_13 : decode cL_deputy 13 = .ok (.astore 4, 2) := by decide +kernel
theorem dL_deputy_15 : decode cL_deputy 15 = .ok (.iconst 1, 1) := by decide +kernel
theorem dL_deputy_16 : decode cL_deputy 16 = .ok (.ireturn, 1) := by decide +kernel
theorem dL_deputy_17 : decode cL_deputy 17 = .ok (.iconst 0, 1) := by decide +kernel
theorem dL_deputy_18 : decode cL_deputy 18 = .ok (.ireturn, 1) := by decide +kernel
theorem dL_mandate_0 : decode cL_mandate 0 = .ok (.aload 5, 2) := by decide +kernel
theorem dL_mandate_2 : decode cL_mandate 2 = .ok (.iconst 0, 1) := by decide +kernel
theorem dL_mandate_3 : decode cL_mandate 3 = .ok (.aload_n 0, 1) := by decide +kernel
theorem dL_mandate_4 : decode cL_mandate 4 = .ok (.iload_n 1, 1) := by decide +kernel
theorem dL_mandate_5 : decode cL_mandate 5 = .ok (.iload_n 2, 1) := by decide +kernel
theorem dL_mandate_6 : decode cL_mandate 6 = .ok (.iload_n 3, 1) := by decide +kernel
theorem dL_mandate_7 : decode cL_mandate 7 = .ok (.iload 4, 2) := by decide +kernel
theorem dL_mandate_9 : decode cL_mandate 9 = .ok (.invokevirtual 28, 3) := by decide +kernel
theorem dL_mandate_12 : decode cL_mandate 12 = .ok (.i2l, 1) := by decide +kernel
theorem dL_mandate_13 : decode cL_mandate 13 = .ok (.lastore, 1) := by decide +kernel
theorem dL_mandate_14 : decode cL_mandate 14 = .ok (.goto 11, 3) := by decide +kernel
theorem dL_mandate_17 : decode cL_mandate 17 = .ok (.astore 6, 2) := by decide +kernel
theorem dL_mandate_19 : decode cL_mandate 19 = .ok (.iconst 1, 1) := by decide +kernel
theorem dL_mandate_20 : decode cL_mandate 20 = .ok (.ireturn, 1) := by decide +kernel
theorem dL_mandate_21 : decode cL_mandate 21 = .ok (.astore 6, 2) := by decide +kernel
theorem dL_mandate_23 : decode cL_mandate 23 = .ok (.iconst 2, 1) := by decide +kernel
theorem dL_mandate_24 : decode cL_mandate 24 = .ok (.ireturn, 1) := by decide +kernel
theorem dL_mandate_25 : decode cL_mandate 25 = .ok (.iconst 0, 1) := by decide +kernel
theorem dL_mandate_26 : decode cL_mandate 26 = .ok (.ireturn, 1) := by decide +kernel
theorem dL_suspend_0 : decode cL_suspend 0 = .ok (.aload 4, 2) := by decide +kernel
theorem dL_suspend_2 : decode cL_suspend 2 = .ok (.iconst 0, 1) := by decide +kernel
theorem dL_suspend_3 : decode cL_suspend 3 = .ok (.aload_n 0, 1) := by decide +kernel
theorem dL_suspend_4 : decode cL_suspend 4 = .ok (.iload_n 1, 1) := by decide +kernel
theorem dL_suspend_5 : decode cL_suspend 5 = .ok (.iload_n 2, 1) := by decide +kernel
theorem dL_suspend_6 : decode cL_suspend 6 = .ok (.iload_n 3, 1) := by decide +kernel
theorem dL_suspend_7 : decode cL_suspend 7 = .ok (.invokevirtual 32, 3) := by decide +kernel
theorem dL_suspend_10 : decode cL_suspend 10 = .ok (.i2l, 1) := by decide +kernel
theorem dL_suspend_11 : decode cL_suspend 11 = .ok (.lastore, 1) := by decide +kernel
theorem dL_suspend_12 : decode cL_suspend 12 = .ok (.goto 11, 3) := by decide +kernel
theorem dL_suspend_15 : decode cL_suspend 15 = .ok (.astore 5, 2) := by decide +kernel
theorem dL_suspend_17 : decode cL_suspend 17 = .ok (.iconst 1, 1) := by decide +kernel
theorem dL_suspend_18 : decode cL_suspend 18 = .ok (.ireturn, 1) := by decide +kernel
theorem dL_suspend_19 : decode cL_suspend 19 = .ok (.astore 5, 2) := by decide +kernel
theorem dL_suspend_21 : decode cL_suspend 21 = .ok (.iconst 2, 1) := by decide +kernel
theorem dL_suspend_22 : decode cL_suspend 22 = .ok (.ireturn, 1) := by decide +kernel
theorem dL_suspend_23 : decode cL_suspend 23 = .ok (.iconst 0, 1) := by decide +kernel
theorem dL_suspend_24 : decode cL_suspend 24 = .ok (.ireturn, 1) := by decide +kernel
theorem dL_letter_0 : decode cL_letter 0 = .ok (.aload_n 3, 1) := by decide +kernel
theorem dL_letter_1 : decode cL_letter 1 = .ok (.iconst 0, 1) := by decide +kernel
theorem dL_letter_2 : decode cL_letter 2 = .ok (.aload_n 0, 1) := by decide +kernel
theorem dL_letter_3 : decode cL_letter 3 = .ok (.iload_n 1, 1) := by decide +kernel
theorem dL_letter_4 : decode cL_letter 4 = .ok (.iload_n 2, 1) := by decide +kernel
theorem dL_letter_5 : decode cL_letter 5 = .ok (.invokevirtual 36, 3) := by decide +kernel
theorem dL_letter_8 : decode cL_letter 8 = .ok (.i2l, 1) := by decide +kernel
theorem dL_letter_9 : decode cL_letter 9 = .ok (.lastore, 1) := by decide +kernel
theorem dL_letter_10 : decode cL_letter 10 = .ok (.goto 11, 3) := by decide +kernel
theorem dL_letter_13 : decode cL_letter 13 = .ok (.astore 4, 2) := by decide +kernel
theorem dL_letter_15 : decode cL_letter 15 = .ok (.iconst 1, 1) := by decide +kernel
theorem dL_letter_16 : decode cL_letter 16 = .ok (.ireturn, 1) := by decide +kernel
theorem dL_letter_17 : decode cL_letter 17 = .ok (.astore 4, 2) := by decide +kernel
theorem dL_letter_19 : decode cL_letter 19 = .ok (.iconst 2, 1) := by decide +kernel
theorem dL_letter_20 : decode cL_letter 20 = .ok (.ireturn, 1) := by decide +kernel
theorem dL_letter_21 : decode cL_letter 21 = .ok (.iconst 0, 1) := by decide +kernel
theorem dL_letter_22 : decode cL_letter 22 = .ok (.ireturn, 1) := by decide +kernel
theorem dL_look_0 : decode cL_look 0 = .ok (.aload 4, 2) := by decide +kernel
theorem dL_look_2 : decode cL_look 2 = .ok (.iconst 0, 1) := by decide +kernel
theorem dL_look_3 : decode cL_look 3 = .ok (.aload_n 0, 1) := by decide +kernel
theorem dL_look_4 : decode cL_look 4 = .ok (.iload_n 1, 1) := by decide +kernel
theorem dL_look_5 : decode cL_look 5 = .ok (.iload_n 2, 1) := by decide +kernel
theorem dL_look_6 : decode cL_look 6 = .ok (.iload_n 3, 1) := by decide +kernel
theorem dL_look_7 : decode cL_look 7 = .ok (.invokevirtual 41, 3) := by decide +kernel
theorem dL_look_10 : decode cL_look 10 = .ok (.i2l, 1) := by decide +kernel
theorem dL_look_11 : decode cL_look 11 = .ok (.lastore, 1) := by decide +kernel
theorem dL_look_12 : decode cL_look 12 = .ok (.goto 11, 3) := by decide +kernel
theorem dL_look_15 : decode cL_look 15 = .ok (.astore 5, 2) := by decide +kernel
theorem dL_look_17 : decode cL_look 17 = .ok (.iconst 1, 1) := by decide +kernel
theorem dL_look_18 : decode cL_look 18 = .ok (.ireturn, 1) := by decide +kernel
theorem dL_look_19 : decode cL_look 19 = .ok (.astore 5, 2) := by decide +kernel
theorem dL_look_21 : decode cL_look 21 = .ok (.iconst 2, 1) := by decide +kernel
theorem dL_look_22 : decode cL_look 22 = .ok (.ireturn, 1) := by decide +kernel
theorem dL_look_23 : decode cL_look 23 = .ok (.iconst 0, 1) := by decide +kernel
theorem dL_look_24 : decode cL_look 24 = .ok (.ireturn, 1) := by decide +kernel
