theorem dX0_init_0 : decode cX0_init 0 = .ok (.aload_n 0, 1) := by decide +kernel
theorem dX0_init_1 : decode cX0_init 1 = .ok (.invokespecial 3, 3) := by decide +kernel
theorem dX0_init_4 : decode cX0_init 4 = .ok (.aload_n 0, 1) := by decide +kernel
theorem dX0_init_5 : decode cX0_init 5 = .ok (.sipush 600, 3) := by decide +kernel
theorem dX0_init_8 : decode cX0_init 8 = .ok (.newarray .int, 2) := by decide +kernel
theorem dX0_init_10 : decode cX0_init 10 = .ok (.putfield 9, 3) := by decide +kernel
theorem dX0_init_13 : decode cX0_init 13 = .ok (.aload_n 0, 1) := by decide +kernel
theorem dX0_init_14 : decode cX0_init 14 = .ok (.iconst 0, 1) := by decide +kernel
theorem dX0_init_15 : decode cX0_init 15 = .ok (.putfield 15, 3) := by decide +kernel
theorem dX0_init_18 : decode cX0_init 18 = .ok (.aload_n 0, 1) := by decide +kernel
theorem dX0_init_19 : decode cX0_init 19 = .ok (.iconst 0, 1) := by decide +kernel
theorem dX0_init_20 : decode cX0_init 20 = .ok (.putfield 19, 3) := by decide +kernel
theorem dX0_init_23 : decode cX0_init 23 = .ok (.aload_n 0, 1) := by decide +kernel
theorem dX0_init_24 : decode cX0_init 24 = .ok (.iconst 1, 1) := by decide +kernel
theorem dX0_init_25 : decode cX0_init 25 = .ok (.putfield 22, 3) := by decide +kernel
theorem dX0_init_28 : decode cX0_init 28 = .ok (.return_, 1) := by decide +kernel
theorem dX0_append_0 : decode cX0_append 0 = .ok (.aload_n 0, 1) := by decide +kernel
theorem dX0_append_1 : decode cX0_append 1 = .ok (.getfield 15, 3) := by decide +kernel
theorem dX0_append_4 : decode cX0_append 4 = .ok (.sipush 600, 3) := by decide +kernel
theorem dX0_append_7 : decode cX0_append 7 = .ok (.if_icmp .ge 23, 3) := by decide +kernel
theorem dX0_append_10 : decode cX0_append 10 = .ok (.aload_n 0, 1) := by decide +kernel
theorem dX0_append_11 : decode cX0_append 11 = .ok (.getfield 9, 3) := by decide +kernel
theorem dX0_append_14 : decode cX0_append 14 = .ok (.aload_n 0, 1) := by decide +kernel
theorem dX0_append_15 : decode cX0_append 15 = .ok (.getfield 15, 3) := by decide +kernel
theorem dX0_append_18 : decode cX0_append 18 = .ok (.iload_n 1, 1) := by decide +kernel
theorem dX0_append_19 : decode cX0_append 19 = .ok (.iastore, 1) := by decide +kernel
theorem dX0_append_20 : decode cX0_append 20 = .ok (.aload_n 0, 1) := by decide +kernel
theorem dX0_append_21 : decode cX0_append 21 = .ok (.dup, 1) := by decide +kernel
theorem dX0_append_22 : decode cX0_append 22 = .ok (.getfield 15, 3) := by decide +kernel
theorem dX0_append_25 : decode cX0_append 25 = .ok (.iconst 1, 1) := by decide +kernel
theorem dX0_append_26 : decode cX0_append 26 = .ok (.iadd, 1) := by decide +kernel
theorem dX0_append_27 : decode cX0_append 27 = .ok (.putfield 15, 3) := by decide +kernel
theorem dX0_append_30 : decode cX0_append 30 = .ok (.return_, 1) := by decide +kernel
theorem dX0_packFrom_0 : decode cX0_packFrom 0 = .ok (.aload_n 0, 1) := by decide +kernel
theorem dX0_packFrom_1 : decode cX0_packFrom 1 = .ok (.iconst 0, 1) := by decide +kernel
theorem dX0_packFrom_2 : decode cX0_packFrom 2 = .ok (.putfield 15, 3) := by decide +kernel
theorem dX0_packFrom_5 : decode cX0_packFrom 5 = .ok (.iconst 0, 1) := by decide +kernel
theorem dX0_packFrom_6 : decode cX0_packFrom 6 = .ok (.istore_n 2, 1) := by decide +kernel
theorem dX0_packFrom_7 : decode cX0_packFrom 7 = .ok (.iconst 0, 1) := by decide +kernel
theorem dX0_packFrom_8 : decode cX0_packFrom 8 = .ok (.istore_n 3, 1) := by decide +kernel
theorem dX0_packFrom_9 : decode cX0_packFrom 9 = .ok (.iconst 0, 1) := by decide +kernel
theorem dX0_packFrom_10 : decode cX0_packFrom 10 = .ok (.istore 4, 2) := by decide +kernel
theorem dX0_packFrom_12 : decode cX0_packFrom 12 = .ok (.iconst 0, 1) := by decide +kernel
theorem dX0_packFrom_13 : decode cX0_packFrom 13 = .ok (.istore 5, 2) := by decide +kernel
theorem dX0_packFrom_15 : decode cX0_packFrom 15 = .ok (.iload 5, 2) := by decide +kernel
theorem dX0_packFrom_17 : decode cX0_packFrom 17 = .ok (.aload_n 1, 1) := by decide +kernel
theorem dX0_packFrom_18 : decode cX0_packFrom 18 = .ok (.getfield 26, 3) := by decide +kernel
theorem dX0_packFrom_21 : decode cX0_packFrom 21 = .ok (.if_icmp .ge 74, 3) := by decide +kernel
theorem dX0_packFrom_24 : decode cX0_packFrom 24 = .ok (.aload_n 0, 1) := by decide +kernel
theorem dX0_packFrom_25 : decode cX0_packFrom 25 = .ok (.aload_n 1, 1) := by decide +kernel
theorem dX0_packFrom_26 : decode cX0_packFrom 26 = .ok (.getfield 29, 3) := by decide +kernel
theorem dX0_packFrom_29 : decode cX0_packFrom 29 = .ok (.iload 5, 2) := by decide +kernel
theorem dX0_packFrom_31 : decode cX0_packFrom 31 = .ok (.iaload, 1) := by decide +kernel
theorem dX0_packFrom_32 : decode cX0_packFrom 32 = .ok (.iload_n 2, 1) := by decide +kernel
theorem dX0_packFrom_33 : decode cX0_packFrom 33 = .ok (.isub, 1) := by decide +kernel
theorem dX0_packFrom_34 : decode cX0_packFrom 34 = .ok (.invokevirtual 32, 3) := by decide +kernel
theorem dX0_packFrom_37 : decode cX0_packFrom 37 = .ok (.aload_n 0, 1) := by decide +kernel
theorem dX0_packFrom_38 : decode cX0_packFrom 38 = .ok (.aload_n 1, 1) := by decide +kernel
theorem dX0_packFrom_39 : decode cX0_packFrom 39 = .ok (.getfield 36, 3) := by decide +kernel
theorem dX0_packFrom_42 : decode cX0_packFrom 42 = .ok (.iload 5, 2) := by decide +kernel
theorem dX0_packFrom_44 : decode cX0_packFrom 44 = .ok (.iaload, 1) := by decide +kernel
theorem dX0_packFrom_45 : decode cX0_packFrom 45 = .ok (.iload_n 3, 1) := by decide +kernel
theorem dX0_packFrom_46 : decode cX0_packFrom 46 = .ok (.isub, 1) := by decide +kernel
theorem dX0_packFrom_47 : decode cX0_packFrom 47 = .ok (.invokevirtual 32, 3) := by decide +kernel
theorem dX0_packFrom_50 : decode cX0_packFrom 50 = .ok (.aload_n 0, 1) := by decide +kernel
theorem dX0_packFrom_51 : decode cX0_packFrom 51 = .ok (.aload_n 1, 1) := by decide +kernel
theorem dX0_packFrom_52 : decode cX0_packFrom 52 = .ok (.getfield 39, 3) := by decide +kernel
theorem dX0_packFrom_55 : decode cX0_packFrom 55 = .ok (.iload 5, 2) := by decide +kernel
theorem dX0_packFrom_57 : decode cX0_packFrom 57 = .ok (.iaload, 1) := by decide +kernel
theorem dX0_packFrom_58 : decode cX0_packFrom 58 = .ok (.iload 4, 2) := by decide +kernel
theorem dX0_packFrom_60 : decode cX0_packFrom 60 = .ok (.isub, 1) := by decide +kernel
theorem dX0_packFrom_61 : decode cX0_packFrom 61 = .ok (.invokevirtual 32, 3) := by decide +kernel
theorem dX0_packFrom_64 : decode cX0_packFrom 64 = .ok (.aload_n 1, 1) := by decide +kernel
theorem dX0_packFrom_65 : decode cX0_packFrom 65 = .ok (.getfield 29, 3) := by decide +kernel
theorem dX0_packFrom_68 : decode cX0_packFrom 68 = .ok (.iload 5, 2) := by decide +kernel
theorem dX0_packFrom_70 : decode cX0_packFrom 70 = .ok (.iaload, 1) := by decide +kernel
theorem dX0_packFrom_71 : decode cX0_packFrom 71 = .ok (.istore_n 2, 1) := by decide +kernel
theorem dX0_packFrom_72 : decode cX0_packFrom 72 = .ok (.aload_n 1, 1) := by decide +kernel
theorem dX0_packFrom_73 : decode cX0_packFrom 73 = .ok (.getfield 36, 3) := by decide +kernel
theorem dX0_packFrom_76 : decode cX0_packFrom 76 = .ok (.iload 5, 2) := by decide +kernel
theorem dX0_packFrom_78 : decode cX0_packFrom 78 = .ok (.iaload, 1) := by decide +kernel
theorem dX0_packFrom_79 : decode cX0_packFrom 79 = .ok (.istore_n 3, 1) := by decide +kernel
theorem dX0_packFrom_80 : decode cX0_packFrom 80 = .ok (.aload_n 1, 1) := by decide +kernel
theorem dX0_packFrom_81 : decode cX0_packFrom 81 = .ok (.getfield 39, 3) := by decide +kernel
theorem dX0_packFrom_84 : decode cX0_packFrom 84 = .ok (.iload 5, 2) := by decide +kernel
theorem dX0_packFrom_86 : decode cX0_packFrom 86 = .ok (.iaload, 1) := by decide +kernel
theorem dX0_packFrom_87 : decode cX0_packFrom 87 = .ok (.istore 4, 2) := by decide +kernel
theorem dX0_packFrom_89 : decode cX0_packFrom 89 = .ok (.iinc 5 1, 3) := by decide +kernel
theorem dX0_packFrom_92 : decode cX0_packFrom 92 = .ok (.goto (-77), 3) := by decide +kernel
theorem dX0_packFrom_95 : decode cX0_packFrom 95 = .ok (.return_, 1) := by decide +kernel
theorem dX0_appendDifference_0 : decode cX0_appendDifference 0 = .ok (.iload_n 1, 1) := by decide +kernel
theorem dX0_appendDifference_1 : decode cX0_appendDifference 1 = .ok (.ifCond .lt 9, 3) := by decide +kernel
theorem dX0_appendDifference_4 : decode cX0_appendDifference 4 = .ok (.iconst 2, 1) := by decide +kernel
theorem dX0_appendDifference_5 : decode cX0_appendDifference 5 = .ok (.iload_n 1, 1) := by decide +kernel
theorem dX0_appendDifference_6 : decode cX0_appendDifference 6 = .ok (.imul, 1) := by decide +kernel
theorem dX0_appendDifference_7 : decode cX0_appendDifference 7 = .ok (.goto 9, 3) := by decide +kernel
theorem dX0_appendDifference_10 : decode cX0_appendDifference 10 = .ok (.bipush (-2), 2) := by decide +kernel
theorem dX0_appendDifference_12 : decode cX0_appendDifference 12 = .ok (.iload_n 1, 1) := by decide +kernel
theorem dX0_appendDifference_13 : decode cX0_appendDifference 13 = .ok (.imul, 1) := by decide +kernel
theorem dX0_appendDifference_14 : decode cX0_appendDifference 14 = .ok (.iconst 1, 1) := by decide +kernel
theorem dX0_appendDifference_15 : decode cX0_appendDifference 15 = .ok (.isub, 1) := by decide +kernel
theorem dX0_appendDifference_16 : decode cX0_appendDifference 16 = .ok (.istore_n 2, 1) := by decide +kernel
theorem dX0_appendDifference_17 : decode cX0_appendDifference 17 = .ok (.iload_n 2, 1) := by decide +kernel
theorem dX0_appendDifference_18 : decode cX0_appendDifference 18 = .ok (.bipush 127, 2) := by decide +kernel
theorem dX0_appendDifference_20 : decode cX0_appendDifference 20 = .ok (.if_icmp .le 23, 3) := by decide +kernel
theorem dX0_appendDifference_23 : decode cX0_appendDifference 23 = .ok (.aload_n 0, 1) := by decide +kernel
theorem dX0_appendDifference_24 : decode cX0_appendDifference 24 = .ok (.sipush 128, 3) := by decide +kernel
theorem dX0_appendDifference_27 : decode cX0_appendDifference 27 = .ok (.iload_n 2, 1) := by decide +kernel
theorem dX0_appendDifference_28 : decode cX0_appendDifference 28 = .ok (.bipush 127, 2) := by decide +kernel
theorem dX0_appendDifference_30 : decode cX0_appendDifference 30 = .ok (.iand, 1) := by decide +kernel
theorem dX0_appendDifference_31 : decode cX0_appendDifference 31 = .ok (.iadd, 1) := by decide +kernel
theorem dX0_appendDifference_32 : decode cX0_appendDifference 32 = .ok (.invokevirtual 42, 3) := by decide +kernel
theorem dX0_appendDifference_35 : decode cX0_appendDifference 35 = .ok (.iload_n 2, 1) := by decide +kernel
theorem dX0_appendDifference_36 : decode cX0_appendDifference 36 = .ok (.bipush 7, 2) := by decide +kernel
theorem dX0_appendDifference_38 : decode cX0_appendDifference 38 = .ok (.ishr, 1) := by decide +kernel
theorem dX0_appendDifference_39 : decode cX0_appendDifference 39 = .ok (.istore_n 2, 1) := by decide +kernel
theorem dX0_appendDifference_40 : decode cX0_appendDifference 40 = .ok (.goto (-23), 3) := by decide +kernel
theorem dX0_appendDifference_43 : decode cX0_appendDifference 43 = .ok (.aload_n 0, 1) := by decide +kernel
theorem dX0_appendDifference_44 : decode cX0_appendDifference 44 = .ok (.iload_n 2, 1) := by decide +kernel
theorem dX0_appendDifference_45 : decode cX0_appendDifference 45 = .ok (.invokevirtual 42, 3) := by decide +kernel
theorem dX0_appendDifference_48 : decode cX0_appendDifference 48 = .ok (.return_, 1) := by decide +kernel
theorem dX0_unpackTo_0 : decode cX0_unpackTo 0 = .ok (.aload_n 1, 1) := by decide +kernel
theorem dX0_unpackTo_1 : decode cX0_unpackTo 1 = .ok (.iconst 0, 1) := by decide +kernel
theorem dX0_unpackTo_2 : decode cX0_unpackTo 2 = .ok (.putfield 26, 3) := by decide +kernel
theorem dX0_unpackTo_5 : decode cX0_unpackTo 5 = .ok (.aload_n 0, 1) := by decide +kernel
theorem dX0_unpackTo_6 : decode cX0_unpackTo 6 = .ok (.iconst 0, 1) := by decide +kernel
theorem dX0_unpackTo_7 : decode cX0_unpackTo 7 = .ok (.putfield 19, 3) := by decide +kernel
theorem dX0_unpackTo_10 : decode cX0_unpackTo 10 = .ok (.aload_n 0, 1) := by decide +kernel
theorem dX0_unpackTo_11 : decode cX0_unpackTo 11 = .ok (.iconst 1, 1) := by decide +kernel
theorem dX0_unpackTo_12 : decode cX0_unpackTo 12 = .ok (.putfield 22, 3) := by decide +kernel
theorem dX0_unpackTo_15 : decode cX0_unpackTo 15 = .ok (.iconst 0, 1) := by decide +kernel
theorem dX0_unpackTo_16 : decode cX0_unpackTo 16 = .ok (.istore_n 2, 1) := by decide +kernel
theorem dX0_unpackTo_17 : decode cX0_unpackTo 17 = .ok (.iconst 0, 1) := by decide +kernel
theorem dX0_unpackTo_18 : decode cX0_unpackTo 18 = .ok (.istore_n 3, 1) := by decide +kernel
theorem dX0_unpackTo_19 : decode cX0_unpackTo 19 = .ok (.iconst 0, 1) := by decide +kernel
theorem dX0_unpackTo_20 : decode cX0_unpackTo 20 = .ok (.istore 4, 2) := by decide +kernel
theorem dX0_unpackTo_22 : decode cX0_unpackTo 22 = .ok (.iconst 0, 1) := by decide +kernel
theorem dX0_unpackTo_23 : decode cX0_unpackTo 23 = .ok (.istore 5, 2) := by decide +kernel
theorem dX0_unpackTo_25 : decode cX0_unpackTo 25 = .ok (.iload 5, 2) := by decide +kernel
theorem dX0_unpackTo_27 : decode cX0_unpackTo 27 = .ok (.bipush 60, 2) := by decide +kernel
theorem dX0_unpackTo_29 : decode cX0_unpackTo 29 = .ok (.if_icmp .ge 73, 3) := by decide +kernel
theorem dX0_unpackTo_32 : decode cX0_unpackTo 32 = .ok (.aload_n 0, 1) := by decide +kernel
theorem dX0_unpackTo_33 : decode cX0_unpackTo 33 = .ok (.getfield 19, 3) := by decide +kernel
theorem dX0_unpackTo_36 : decode cX0_unpackTo 36 = .ok (.aload_n 0, 1) := by decide +kernel
theorem dX0_unpackTo_37 : decode cX0_unpackTo 37 = .ok (.getfield 15, 3) := by decide +kernel
theorem dX0_unpackTo_40 : decode cX0_unpackTo 40 = .ok (.if_icmp .ge 62, 3) := by decide +kernel
theorem dX0_unpackTo_43 : decode cX0_unpackTo 43 = .ok (.iload_n 2, 1) := by decide +kernel
theorem dX0_unpackTo_44 : decode cX0_unpackTo 44 = .ok (.aload_n 0, 1) := by decide +kernel
theorem dX0_unpackTo_45 : decode cX0_unpackTo 45 = .ok (.invokevirtual 45, 3) := by decide +kernel
theorem dX0_unpackTo_48 : decode cX0_unpackTo 48 = .ok (.iadd, 1) := by decide +kernel
theorem dX0_unpackTo_49 : decode cX0_unpackTo 49 = .ok (.istore_n 2, 1) := by decide +kernel
theorem dX0_unpackTo_50 : decode cX0_unpackTo 50 = .ok (.iload_n 3, 1) := by decide +kernel
theorem dX0_unpackTo_51 : decode cX0_unpackTo 51 = .ok (.aload_n 0, 1) := by decide +kernel
theorem dX0_unpackTo_52 : decode cX0_unpackTo 52 = .ok (.invokevirtual 45, 3) := by decide +kernel
theorem dX0_unpackTo_55 : decode cX0_unpackTo 55 = .ok (.iadd, 1) := by decide +kernel
theorem dX0_unpackTo_56 : decode cX0_unpackTo 56 = .ok (.istore_n 3, 1) := by decide +kernel
theorem dX0_unpackTo_57 : decode cX0_unpackTo 57 = .ok (.iload 4, 2) := by decide +kernel
theorem dX0_unpackTo_59 : decode cX0_unpackTo 59 = .ok (.aload_n 0, 1) := by decide +kernel
theorem dX0_unpackTo_60 : decode cX0_unpackTo 60 = .ok (.invokevirtual 45, 3) := by decide +kernel
theorem dX0_unpackTo_63 : decode cX0_unpackTo 63 = .ok (.iadd, 1) := by decide +kernel
theorem dX0_unpackTo_64 : decode cX0_unpackTo 64 = .ok (.istore 4, 2) := by decide +kernel
theorem dX0_unpackTo_66 : decode cX0_unpackTo 66 = .ok (.aload_n 0, 1) := by decide +kernel
theorem dX0_unpackTo_67 : decode cX0_unpackTo 67 = .ok (.getfield 22, 3) := by decide +kernel
theorem dX0_unpackTo_70 : decode cX0_unpackTo 70 = .ok (.ifCond .eq 14, 3) := by decide +kernel
theorem dX0_unpackTo_73 : decode cX0_unpackTo 73 = .ok (.aload_n 1, 1) := by decide +kernel
theorem dX0_unpackTo_74 : decode cX0_unpackTo 74 = .ok (.iload_n 2, 1) := by decide +kernel
theorem dX0_unpackTo_75 : decode cX0_unpackTo 75 = .ok (.iload_n 3, 1) := by decide +kernel
theorem dX0_unpackTo_76 : decode cX0_unpackTo 76 = .ok (.iload 4, 2) := by decide +kernel
theorem dX0_unpackTo_78 : decode cX0_unpackTo 78 = .ok (.invokevirtual 49, 3) := by decide +kernel
theorem dX0_unpackTo_81 : decode cX0_unpackTo 81 = .ok (.ifCond .ne 5, 3) := by decide +kernel
theorem dX0_unpackTo_84 : decode cX0_unpackTo 84 = .ok (.iconst 0, 1) := by decide +kernel
theorem dX0_unpackTo_85 : decode cX0_unpackTo 85 = .ok (.ireturn, 1) := by decide +kernel
theorem dX0_unpackTo_86 : decode cX0_unpackTo 86 = .ok (.aload_n 1, 1) := by decide +kernel
theorem dX0_unpackTo_87 : decode cX0_unpackTo 87 = .ok (.iload 5, 2) := by decide +kernel
theorem dX0_unpackTo_89 : decode cX0_unpackTo 89 = .ok (.iload_n 2, 1) := by decide +kernel
theorem dX0_unpackTo_90 : decode cX0_unpackTo 90 = .ok (.iload_n 3, 1) := by decide +kernel
theorem dX0_unpackTo_91 : decode cX0_unpackTo 91 = .ok (.iload 4, 2) := by decide +kernel
theorem dX0_unpackTo_93 : decode cX0_unpackTo 93 = .ok (.invokevirtual 53, 3) := by decide +kernel
theorem dX0_unpackTo_96 : decode cX0_unpackTo 96 = .ok (.iinc 5 1, 3) := by decide +kernel
theorem dX0_unpackTo_99 : decode cX0_unpackTo 99 = .ok (.goto (-74), 3) := by decide +kernel
theorem dX0_unpackTo_102 : decode cX0_unpackTo 102 = .ok (.aload_n 0, 1) := by decide +kernel
theorem dX0_unpackTo_103 : decode cX0_unpackTo 103 = .ok (.getfield 19, 3) := by decide +kernel
theorem dX0_unpackTo_106 : decode cX0_unpackTo 106 = .ok (.aload_n 0, 1) := by decide +kernel
theorem dX0_unpackTo_107 : decode cX0_unpackTo 107 = .ok (.getfield 15, 3) := by decide +kernel
theorem dX0_unpackTo_110 : decode cX0_unpackTo 110 = .ok (.if_icmp .ne 7, 3) := by decide +kernel
theorem dX0_unpackTo_113 : decode cX0_unpackTo 113 = .ok (.iconst 1, 1) := by decide +kernel
theorem dX0_unpackTo_114 : decode cX0_unpackTo 114 = .ok (.goto 4, 3) := by decide +kernel
theorem dX0_unpackTo_117 : decode cX0_unpackTo 117 = .ok (.iconst 0, 1) := by decide +kernel
theorem dX0_unpackTo_118 : decode cX0_unpackTo 118 = .ok (.ireturn, 1) := by decide +kernel
theorem dX0_nextDifference_0 : decode cX0_nextDifference 0 = .ok (.iconst 0, 1) := by decide +kernel
theorem dX0_nextDifference_1 : decode cX0_nextDifference 1 = .ok (.istore_n 1, 1) := by decide +kernel
theorem dX0_nextDifference_2 : decode cX0_nextDifference 2 = .ok (.iconst 0, 1) := by decide +kernel
theorem dX0_nextDifference_3 : decode cX0_nextDifference 3 = .ok (.istore_n 2, 1) := by decide +kernel
theorem dX0_nextDifference_4 : decode cX0_nextDifference 4 = .ok (.iload_n 2, 1) := by decide +kernel
theorem dX0_nextDifference_5 : decode cX0_nextDifference 5 = .ok (.iconst 3, 1) := by decide +kernel
theorem dX0_nextDifference_6 : decode cX0_nextDifference 6 = .ok (.if_icmp .ge 102, 3) := by decide +kernel
theorem dX0_nextDifference_9 : decode cX0_nextDifference 9 = .ok (.aload_n 0, 1) := by decide +kernel
theorem dX0_nextDifference_10 : decode cX0_nextDifference 10 = .ok (.getfield 19, 3) := by decide +kernel
theorem dX0_nextDifference_13 : decode cX0_nextDifference 13 = .ok (.aload_n 0, 1) := by decide +kernel
theorem dX0_nextDifference_14 : decode cX0_nextDifference 14 = .ok (.getfield 15, 3) := by decide +kernel
theorem dX0_nextDifference_17 : decode cX0_nextDifference 17 = .ok (.if_icmp .ge 91, 3) := by decide +kernel
theorem dX0_nextDifference_20 : decode cX0_nextDifference 20 = .ok (.aload_n 0, 1) := by decide +kernel
theorem dX0_nextDifference_21 : decode cX0_nextDifference 21 = .ok (.getfield 9, 3) := by decide +kernel
theorem dX0_nextDifference_24 : decode cX0_nextDifference 24 = .ok (.aload_n 0, 1) := by decide +kernel
theorem dX0_nextDifference_25 : decode cX0_nextDifference 25 = .ok (.getfield 19, 3) := by decide +kernel
theorem dX0_nextDifference_28 : decode cX0_nextDifference 28 = .ok (.iaload, 1) := by decide +kernel
theorem dX0_nextDifference_29 : decode cX0_nextDifference 29 = .ok (.istore_n 3, 1) := by decide +kernel
theorem dX0_nextDifference_30 : decode cX0_nextDifference 30 = .ok (.aload_n 0, 1) := by decide +kernel
theorem dX0_nextDifference_31 : decode cX0_nextDifference 31 = .ok (.dup, 1) := by decide +kernel
theorem dX0_nextDifference_32 : decode cX0_nextDifference 32 = .ok (.getfield 19, 3) := by decide +kernel
theorem dX0_nextDifference_35 : decode cX0_nextDifference 35 = .ok (.iconst 1, 1) := by decide +kernel
theorem dX0_nextDifference_36 : decode cX0_nextDifference 36 = .ok (.iadd, 1) := by decide +kernel
theorem dX0_nextDifference_37 : decode cX0_nextDifference 37 = .ok (.putfield 19, 3) := by decide +kernel
theorem dX0_nextDifference_40 : decode cX0_nextDifference 40 = .ok (.iload_n 1, 1) := by decide +kernel
theorem dX0_nextDifference_41 : decode cX0_nextDifference 41 = .ok (.iload_n 3, 1) := by decide +kernel
theorem dX0_nextDifference_42 : decode cX0_nextDifference 42 = .ok (.bipush 127, 2) := by decide +kernel
theorem dX0_nextDifference_44 : decode cX0_nextDifference 44 = .ok (.iand, 1) := by decide +kernel
theorem dX0_nextDifference_45 : decode cX0_nextDifference 45 = .ok (.bipush 7, 2) := by decide +kernel
theorem dX0_nextDifference_47 : decode cX0_nextDifference 47 = .ok (.iload_n 2, 1) := by decide +kernel
theorem dX0_nextDifference_48 : decode cX0_nextDifference 48 = .ok (.imul, 1) := by decide +kernel
theorem dX0_nextDifference_49 : decode cX0_nextDifference 49 = .ok (.ishl, 1) := by decide +kernel
theorem dX0_nextDifference_50 : decode cX0_nextDifference 50 = .ok (.iadd, 1) := by decide +kernel
theorem dX0_nextDifference_51 : decode cX0_nextDifference 51 = .ok (.istore_n 1, 1) := by decide +kernel
theorem dX0_nextDifference_52 : decode cX0_nextDifference 52 = .ok (.iload_n 3, 1) := by decide +kernel
theorem dX0_nextDifference_53 : decode cX0_nextDifference 53 = .ok (.sipush 128, 3) := by decide +kernel
theorem dX0_nextDifference_56 : decode cX0_nextDifference 56 = .ok (.if_icmp .ge 46, 3) := by decide +kernel
theorem dX0_nextDifference_59 : decode cX0_nextDifference 59 = .ok (.aload_n 0, 1) := by decide +kernel
theorem dX0_nextDifference_60 : decode cX0_nextDifference 60 = .ok (.aload_n 0, 1) := by decide +kernel
theorem dX0_nextDifference_61 : decode cX0_nextDifference 61 = .ok (.getfield 22, 3) := by decide +kernel
theorem dX0_nextDifference_64 : decode cX0_nextDifference 64 = .ok (.ifCond .eq 15, 3) := by decide +kernel
theorem dX0_nextDifference_67 : decode cX0_nextDifference 67 = .ok (.iload_n 3, 1) := by decide +kernel
theorem dX0_nextDifference_68 : decode cX0_nextDifference 68 = .ok (.ifCond .gt 7, 3) := by decide +kernel
theorem dX0_nextDifference_71 : decode cX0_nextDifference 71 = .ok (.iload_n 2, 1) := by decide +kernel
theorem dX0_nextDifference_72 : decode cX0_nextDifference 72 = .ok (.ifCond .ne 7, 3) := by decide +kernel
theorem dX0_nextDifference_75 : decode cX0_nextDifference 75 = .ok (.iconst 1, 1) := by decide +kernel
theorem dX0_nextDifference_76 : decode cX0_nextDifference 76 = .ok (.goto 4, 3) := by decide +kernel
theorem dX0_nextDifference_79 : decode cX0_nextDifference 79 = .ok (.iconst 0, 1) := by decide +kernel
theorem dX0_nextDifference_80 : decode cX0_nextDifference 80 = .ok (.putfield 22, 3) := by decide +kernel
theorem dX0_nextDifference_83 : decode cX0_nextDifference 83 = .ok (.iload_n 1, 1) := by decide +kernel
theorem dX0_nextDifference_84 : decode cX0_nextDifference 84 = .ok (.iconst 1, 1) := by decide +kernel
theorem dX0_nextDifference_85 : decode cX0_nextDifference 85 = .ok (.iand, 1) := by decide +kernel
theorem dX0_nextDifference_86 : decode cX0_nextDifference 86 = .ok (.ifCond .ne 9, 3) := by decide +kernel
theorem dX0_nextDifference_89 : decode cX0_nextDifference 89 = .ok (.iload_n 1, 1) := by decide +kernel
theorem dX0_nextDifference_90 : decode cX0_nextDifference 90 = .ok (.iconst 1, 1) := by decide +kernel
theorem dX0_nextDifference_91 : decode cX0_nextDifference 91 = .ok (.ishr, 1) := by decide +kernel
theorem dX0_nextDifference_92 : decode cX0_nextDifference 92 = .ok (.goto 9, 3) := by decide +kernel
theorem dX0_nextDifference_95 : decode cX0_nextDifference 95 = .ok (.iload_n 1, 1) := by decide +kernel
theorem dX0_nextDifference_96 : decode cX0_nextDifference 96 = .ok (.iconst 1, 1) := by decide +kernel
theorem dX0_nextDifference_97 : decode cX0_nextDifference 97 = .ok (.ishr, 1) := by decide +kernel
theorem dX0_nextDifference_98 : decode cX0_nextDifference 98 = .ok (.ineg, 1) := by decide +kernel
theorem dX0_nextDifference_99 : decode cX0_nextDifference 99 = .ok (.iconst 1, 1) := by decide +kernel
theorem dX0_nextDifference_100 : decode cX0_nextDifference 100 = .ok (.isub, 1) := by decide +kernel
theorem dX0_nextDifference_101 : decode cX0_nextDifference 101 = .ok (.ireturn, 1) := by decide +kernel
theorem dX0_nextDifference_102 : decode cX0_nextDifference 102 = .ok (.iinc 2 1, 3) := by decide +kernel
theorem dX0_nextDifference_105 : decode cX0_nextDifference 105 = .ok (.goto (-101), 3) := by decide +kernel
theorem dX0_nextDifference_108 : decode cX0_nextDifference 108 = .ok (.aload_n 0, 1) := by decide +kernel
theorem dX0_nextDifference_109 : decode cX0_nextDifference 109 = .ok (.iconst 0, 1) := by decide +kernel
theorem dX0_nextDifference_110 : decode cX0_nextDifference 110 = .ok (.putfield 22, 3) := by decide +kernel
theorem dX0_nextDifference_113 : decode cX0_nextDifference 113 = .ok (.iconst 0, 1) := by decide +kernel
theorem dX0_nextDifference_114 : decode cX0_nextDifference 114 = .ok (.ireturn, 1) := by decide +kernel
theorem dX1_init_0 : decode cX1_init 0 = .ok (.aload_n 0, 1) := by decide +kernel
theorem dX1_init_1 : decode cX1_init 1 = .ok (.invokespecial 3, 3) := by decide +kernel
theorem dX1_init_4 : decode cX1_init 4 = .ok (.aload_n 0, 1) := by decide +kernel
theorem dX1_init_5 : decode cX1_init 5 = .ok (.bipush 8, 2) := by decide +kernel
theorem dX1_init_7 : decode cX1_init 7 = .ok (.newarray .int, 2) := by decide +kernel
theorem dX1_init_9 : decode cX1_init 9 = .ok (.putfield 9, 3) := by decide +kernel
theorem dX1_init_12 : decode cX1_init 12 = .ok (.aload_n 0, 1) := by decide +kernel
theorem dX1_init_13 : decode cX1_init 13 = .ok (.bipush 8, 2) := by decide +kernel
theorem dX1_init_15 : decode cX1_init 15 = .ok (.newarray .int, 2) := by decide +kernel
theorem dX1_init_17 : decode cX1_init 17 = .ok (.putfield 15, 3) := by decide +kernel
theorem dX1_init_20 : decode cX1_init 20 = .ok (.aload_n 0, 1) := by decide +kernel
theorem dX1_init_21 : decode cX1_init 21 = .ok (.iconst 0, 1) := by decide +kernel
theorem dX1_init_22 : decode cX1_init 22 = .ok (.putfield 18, 3) := by decide +kernel
theorem dX1_init_25 : decode cX1_init 25 = .ok (.return_, 1) := by decide +kernel
theorem dX1_numberFor_0 : decode cX1_numberFor 0 = .ok (.iconst 0, 1) := by decide +kernel
theorem dX1_numberFor_1 : decode cX1_numberFor 1 = .ok (.istore_n 2, 1) := by decide +kernel
theorem dX1_numberFor_2 : decode cX1_numberFor 2 = .ok (.iload_n 2, 1) := by decide +kernel
theorem dX1_numberFor_3 : decode cX1_numberFor 3 = .ok (.aload_n 0, 1) := by decide +kernel
theorem dX1_numberFor_4 : decode cX1_numberFor 4 = .ok (.getfield 18, 3) := by decide +kernel
theorem dX1_numberFor_7 : decode cX1_numberFor 7 = .ok (.if_icmp .ge 19, 3) := by decide +kernel
theorem dX1_numberFor_10 : decode cX1_numberFor 10 = .ok (.aload_n 0, 1) := by decide +kernel
theorem dX1_numberFor_11 : decode cX1_numberFor 11 = .ok (.getfield 9, 3) := by decide +kernel
theorem dX1_numberFor_14 : decode cX1_numberFor 14 = .ok (.iload_n 2, 1) := by decide +kernel
theorem dX1_numberFor_15 : decode cX1_numberFor 15 = .ok (.iaload, 1) := by decide +kernel
theorem dX1_numberFor_16 : decode cX1_numberFor 16 = .ok (.iload_n 1, 1) := by decide +kernel
theorem dX1_numberFor_17 : decode cX1_numberFor 17 = .ok (.if_icmp .ge 9, 3) := by decide +kernel
theorem dX1_numberFor_20 : decode cX1_numberFor 20 = .ok (.iinc 2 1, 3) := by decide +kernel
theorem dX1_numberFor_23 : decode cX1_numberFor 23 = .ok (.goto (-21), 3) := by decide +kernel
theorem dX1_numberFor_26 : decode cX1_numberFor 26 = .ok (.iload_n 2, 1) := by decide +kernel
theorem dX1_numberFor_27 : decode cX1_numberFor 27 = .ok (.ireturn, 1) := by decide +kernel
theorem dX1_fits_0 : decode cX1_fits 0 = .ok (.iload_n 1, 1) := by decide +kernel
theorem dX1_fits_1 : decode cX1_fits 1 = .ok (.ifCond .eq 15, 3) := by decide +kernel
theorem dX1_fits_4 : decode cX1_fits 4 = .ok (.aload_n 0, 1) := by decide +kernel
theorem dX1_fits_5 : decode cX1_fits 5 = .ok (.getfield 15, 3) := by decide +kernel
theorem dX1_fits_8 : decode cX1_fits 8 = .ok (.iload_n 1, 1) := by decide +kernel
theorem dX1_fits_9 : decode cX1_fits 9 = .ok (.iconst 1, 1) := by decide +kernel
theorem dX1_fits_10 : decode cX1_fits 10 = .ok (.isub, 1) := by decide +kernel
theorem dX1_fits_11 : decode cX1_fits 11 = .ok (.iaload, 1) := by decide +kernel
theorem dX1_fits_12 : decode cX1_fits 12 = .ok (.iload_n 3, 1) := by decide +kernel
theorem dX1_fits_13 : decode cX1_fits 13 = .ok (.if_icmp .ge 7, 3) := by decide +kernel
theorem dX1_fits_16 : decode cX1_fits 16 = .ok (.iconst 1, 1) := by decide +kernel
theorem dX1_fits_17 : decode cX1_fits 17 = .ok (.goto 4, 3) := by decide +kernel
theorem dX1_fits_20 : decode cX1_fits 20 = .ok (.iconst 0, 1) := by decide +kernel
theorem dX1_fits_21 : decode cX1_fits 21 = .ok (.istore 4, 2) := by decide +kernel
theorem dX1_fits_23 : decode cX1_fits 23 = .ok (.iload_n 1, 1) := by decide +kernel
theorem dX1_fits_24 : decode cX1_fits 24 = .ok (.aload_n 0, 1) := by decide +kernel
theorem dX1_fits_25 : decode cX1_fits 25 = .ok (.getfield 18, 3) := by decide +kernel
theorem dX1_fits_28 : decode cX1_fits 28 = .ok (.if_icmp .ge 23, 3) := by decide +kernel
theorem dX1_fits_31 : decode cX1_fits 31 = .ok (.aload_n 0, 1) := by decide +kernel
theorem dX1_fits_32 : decode cX1_fits 32 = .ok (.getfield 9, 3) := by decide +kernel
theorem dX1_fits_35 : decode cX1_fits 35 = .ok (.iload_n 1, 1) := by decide +kernel
theorem dX1_fits_36 : decode cX1_fits 36 = .ok (.iaload, 1) := by decide +kernel
theorem dX1_fits_37 : decode cX1_fits 37 = .ok (.iload_n 2, 1) := by decide +kernel
theorem dX1_fits_38 : decode cX1_fits 38 = .ok (.if_icmp .le 17, 3) := by decide +kernel
theorem dX1_fits_41 : decode cX1_fits 41 = .ok (.aload_n 0, 1) := by decide +kernel
theorem dX1_fits_42 : decode cX1_fits 42 = .ok (.getfield 15, 3) := by decide +kernel
theorem dX1_fits_45 : decode cX1_fits 45 = .ok (.iload_n 1, 1) := by decide +kernel
theorem dX1_fits_46 : decode cX1_fits 46 = .ok (.iaload, 1) := by decide +kernel
theorem dX1_fits_47 : decode cX1_fits 47 = .ok (.iload_n 3, 1) := by decide +kernel
theorem dX1_fits_48 : decode cX1_fits 48 = .ok (.if_icmp .le 7, 3) := by decide +kernel
theorem dX1_fits_51 : decode cX1_fits 51 = .ok (.iconst 1, 1) := by decide +kernel
theorem dX1_fits_52 : decode cX1_fits 52 = .ok (.goto 4, 3) := by decide +kernel
theorem dX1_fits_55 : decode cX1_fits 55 = .ok (.iconst 0, 1) := by decide +kernel
theorem dX1_fits_56 : decode cX1_fits 56 = .ok (.istore 5, 2) := by decide +kernel
theorem dX1_fits_58 : decode cX1_fits 58 = .ok (.iload 4, 2) := by decide +kernel
theorem dX1_fits_60 : decode cX1_fits 60 = .ok (.ifCond .eq 12, 3) := by decide +kernel
theorem dX1_fits_63 : decode cX1_fits 63 = .ok (.iload 5, 2) := by decide +kernel
theorem dX1_fits_65 : decode cX1_fits 65 = .ok (.ifCond .eq 7, 3) := by decide +kernel
theorem dX1_fits_68 : decode cX1_fits 68 = .ok (.iconst 1, 1) := by decide +kernel
theorem dX1_fits_69 : decode cX1_fits 69 = .ok (.goto 4, 3) := by decide +kernel
theorem dX1_fits_72 : decode cX1_fits 72 = .ok (.iconst 0, 1) := by decide +kernel
theorem dX1_fits_73 : decode cX1_fits 73 = .ok (.ireturn, 1) := by decide +kernel
theorem dX1_insert_0 : decode cX1_insert 0 = .ok (.aload_n 0, 1) := by decide +kernel
theorem dX1_insert_1 : decode cX1_insert 1 = .ok (.getfield 18, 3) := by decide +kernel
theorem dX1_insert_4 : decode cX1_insert 4 = .ok (.bipush 8, 2) := by decide +kernel
theorem dX1_insert_6 : decode cX1_insert 6 = .ok (.if_icmp .lt 4, 3) := by decide +kernel
theorem dX1_insert_9 : decode cX1_insert 9 = .ok (.return_, 1) := by decide +kernel
theorem dX1_insert_10 : decode cX1_insert 10 = .ok (.aload_n 0, 1) := by decide +kernel
theorem dX1_insert_11 : decode cX1_insert 11 = .ok (.getfield 18, 3) := by decide +kernel
theorem dX1_insert_14 : decode cX1_insert 14 = .ok (.istore 4, 2) := by decide +kernel
theorem dX1_insert_16 : decode cX1_insert 16 = .ok (.iload 4, 2) := by decide +kernel
theorem dX1_insert_18 : decode cX1_insert 18 = .ok (.iload_n 1, 1) := by decide +kernel
theorem dX1_insert_19 : decode cX1_insert 19 = .ok (.if_icmp .le 41, 3) := by decide +kernel
theorem dX1_insert_22 : decode cX1_insert 22 = .ok (.aload_n 0, 1) := by decide +kernel
theorem dX1_insert_23 : decode cX1_insert 23 = .ok (.getfield 9, 3) := by decide +kernel
theorem dX1_insert_26 : decode cX1_insert 26 = .ok (.iload 4, 2) := by decide +kernel
theorem dX1_insert_28 : decode cX1_insert 28 = .ok (.aload_n 0, 1) := by decide +kernel
theorem dX1_insert_29 : decode cX1_insert 29 = .ok (.getfield 9, 3) := by decide +kernel
theorem dX1_insert_32 : decode cX1_insert 32 = .ok (.iload 4, 2) := by decide +kernel
theorem dX1_insert_34 : decode cX1_insert 34 = .ok (.iconst 1, 1) := by decide +kernel
theorem dX1_insert_35 : decode cX1_insert 35 = .ok (.isub, 1) := by decide +kernel
theorem dX1_insert_36 : decode cX1_insert 36 = .ok (.iaload, 1) := by decide +kernel
theorem dX1_insert_37 : decode cX1_insert 37 = .ok (.iastore, 1) := by decide +kernel
theorem dX1_insert_38 : decode cX1_insert 38 = .ok (.aload_n 0, 1) := by decide +kernel
theorem dX1_insert_39 : decode cX1_insert 39 = .ok (.getfield 15, 3) := by decide +kernel
theorem dX1_insert_42 : decode cX1_insert 42 = .ok (.iload 4, 2) := by decide +kernel
theorem dX1_insert_44 : decode cX1_insert 44 = .ok (.aload_n 0, 1) := by decide +kernel
theorem dX1_insert_45 : decode cX1_insert 45 = .ok (.getfield 15, 3) := by decide +kernel
theorem dX1_insert_48 : decode cX1_insert 48 = .ok (.iload 4, 2) := by decide +kernel
theorem dX1_insert_50 : decode cX1_insert 50 = .ok (.iconst 1, 1) := by decide +kernel
theorem dX1_insert_51 : decode cX1_insert 51 = .ok (.isub, 1) := by decide +kernel
theorem dX1_insert_52 : decode cX1_insert 52 = .ok (.iaload, 1) := by decide +kernel
theorem dX1_insert_53 : decode cX1_insert 53 = .ok (.iastore, 1) := by decide +kernel
theorem dX1_insert_54 : decode cX1_insert 54 = .ok (.iinc 4 (-1), 3) := by decide +kernel
theorem dX1_insert_57 : decode cX1_insert 57 = .ok (.goto (-41), 3) := by decide +kernel
theorem dX1_insert_60 : decode cX1_insert 60 = .ok (.aload_n 0, 1) := by decide +kernel
theorem dX1_insert_61 : decode cX1_insert 61 = .ok (.getfield 9, 3) := by decide +kernel
theorem dX1_insert_64 : decode cX1_insert 64 = .ok (.iload_n 1, 1) := by decide +kernel
theorem dX1_insert_65 : decode cX1_insert 65 = .ok (.iload_n 2, 1) := by decide +kernel
theorem dX1_insert_66 : decode cX1_insert 66 = .ok (.iastore, 1) := by decide +kernel
theorem dX1_insert_67 : decode cX1_insert 67 = .ok (.aload_n 0, 1) := by decide +kernel
theorem dX1_insert_68 : decode cX1_insert 68 = .ok (.getfield 15, 3) := by decide +kernel
theorem dX1_insert_71 : decode cX1_insert 71 = .ok (.iload_n 1, 1) := by decide +kernel
theorem dX1_insert_72 : decode cX1_insert 72 = .ok (.iload_n 3, 1) := by decide +kernel
theorem dX1_insert_73 : decode cX1_insert 73 = .ok (.iastore, 1) := by decide +kernel
theorem dX1_insert_74 : decode cX1_insert 74 = .ok (.aload_n 0, 1) := by decide +kernel
theorem dX1_insert_75 : decode cX1_insert 75 = .ok (.dup, 1) := by decide +kernel
theorem dX1_insert_76 : decode cX1_insert 76 = .ok (.getfield 18, 3) := by decide +kernel
theorem dX1_insert_79 : decode cX1_insert 79 = .ok (.iconst 1, 1) := by decide +kernel
theorem dX1_insert_80 : decode cX1_insert 80 = .ok (.iadd, 1) := by decide +kernel
theorem dX1_insert_81 : decode cX1_insert 81 = .ok (.putfield 18, 3) := by decide +kernel
theorem dX1_insert_84 : decode cX1_insert 84 = .ok (.return_, 1) := by decide +kernel
theorem dX1_trueTime_0 : decode cX1_trueTime 0 = .ok (.aload_n 0, 1) := by decide +kernel
theorem dX1_trueTime_1 : decode cX1_trueTime 1 = .ok (.getfield 18, 3) := by decide +kernel
theorem dX1_trueTime_4 : decode cX1_trueTime 4 = .ok (.ifCond .ne 5, 3) := by decide +kernel
theorem dX1_trueTime_7 : decode cX1_trueTime 7 = .ok (.iload_n 1, 1) := by decide +kernel
theorem dX1_trueTime_8 : decode cX1_trueTime 8 = .ok (.ireturn, 1) := by decide +kernel
theorem dX1_trueTime_9 : decode cX1_trueTime 9 = .ok (.aload_n 0, 1) := by decide +kernel
theorem dX1_trueTime_10 : decode cX1_trueTime 10 = .ok (.iload_n 1, 1) := by decide +kernel
theorem dX1_trueTime_11 : decode cX1_trueTime 11 = .ok (.invokevirtual 22, 3) := by decide +kernel
theorem dX1_trueTime_14 : decode cX1_trueTime 14 = .ok (.istore_n 2, 1) := by decide +kernel
theorem dX1_trueTime_15 : decode cX1_trueTime 15 = .ok (.iload_n 2, 1) := by decide +kernel
theorem dX1_trueTime_16 : decode cX1_trueTime 16 = .ok (.ifCond .ne 19, 3) := by decide +kernel
theorem dX1_trueTime_19 : decode cX1_trueTime 19 = .ok (.aload_n 0, 1) := by decide +kernel
theorem dX1_trueTime_20 : decode cX1_trueTime 20 = .ok (.getfield 15, 3) := by decide +kernel
theorem dX1_trueTime_23 : decode cX1_trueTime 23 = .ok (.iconst 0, 1) := by decide +kernel
theorem dX1_trueTime_24 : decode cX1_trueTime 24 = .ok (.iaload, 1) := by decide +kernel
theorem dX1_trueTime_25 : decode cX1_trueTime 25 = .ok (.iload_n 1, 1) := by decide +kernel
theorem dX1_trueTime_26 : decode cX1_trueTime 26 = .ok (.iadd, 1) := by decide +kernel
theorem dX1_trueTime_27 : decode cX1_trueTime 27 = .ok (.aload_n 0, 1) := by decide +kernel
theorem dX1_trueTime_28 : decode cX1_trueTime 28 = .ok (.getfield 9, 3) := by decide +kernel
theorem dX1_trueTime_31 : decode cX1_trueTime 31 = .ok (.iconst 0, 1) := by decide +kernel
theorem dX1_trueTime_32 : decode cX1_trueTime 32 = .ok (.iaload, 1) := by decide +kernel
theorem dX1_trueTime_33 : decode cX1_trueTime 33 = .ok (.isub, 1) := by decide +kernel
theorem dX1_trueTime_34 : decode cX1_trueTime 34 = .ok (.ireturn, 1) := by decide +kernel
theorem dX1_trueTime_35 : decode cX1_trueTime 35 = .ok (.iload_n 2, 1) := by decide +kernel
theorem dX1_trueTime_36 : decode cX1_trueTime 36 = .ok (.aload_n 0, 1) := by decide +kernel
theorem dX1_trueTime_37 : decode cX1_trueTime 37 = .ok (.getfield 18, 3) := by decide +kernel
theorem dX1_trueTime_40 : decode cX1_trueTime 40 = .ok (.if_icmp .ne 29, 3) := by decide +kernel
theorem dX1_trueTime_43 : decode cX1_trueTime 43 = .ok (.aload_n 0, 1) := by decide +kernel
theorem dX1_trueTime_44 : decode cX1_trueTime 44 = .ok (.getfield 15, 3) := by decide +kernel
theorem dX1_trueTime_47 : decode cX1_trueTime 47 = .ok (.aload_n 0, 1) := by decide +kernel
theorem dX1_trueTime_48 : decode cX1_trueTime 48 = .ok (.getfield 18, 3) := by decide +kernel
theorem dX1_trueTime_51 : decode cX1_trueTime 51 = .ok (.iconst 1, 1) := by decide +kernel
theorem dX1_trueTime_52 : decode cX1_trueTime 52 = .ok (.isub, 1) := by decide +kernel
theorem dX1_trueTime_53 : decode cX1_trueTime 53 = .ok (.iaload, 1) := by decide +kernel
theorem dX1_trueTime_54 : decode cX1_trueTime 54 = .ok (.iload_n 1, 1) := by decide +kernel
theorem dX1_trueTime_55 : decode cX1_trueTime 55 = .ok (.iadd, 1) := by decide +kernel
theorem dX1_trueTime_56 : decode cX1_trueTime 56 = .ok (.aload_n 0, 1) := by decide +kernel
theorem dX1_trueTime_57 : decode cX1_trueTime 57 = .ok (.getfield 9, 3) := by decide +kernel
theorem dX1_trueTime_60 : decode cX1_trueTime 60 = .ok (.aload_n 0, 1) := by decide +kernel
theorem dX1_trueTime_61 : decode cX1_trueTime 61 = .ok (.getfield 18, 3) := by decide +kernel
theorem dX1_trueTime_64 : decode cX1_trueTime 64 = .ok (.iconst 1, 1) := by decide +kernel
theorem dX1_trueTime_65 : decode cX1_trueTime 65 = .ok (.isub, 1) := by decide +kernel
theorem dX1_trueTime_66 : decode cX1_trueTime 66 = .ok (.iaload, 1) := by decide +kernel
theorem dX1_trueTime_67 : decode cX1_trueTime 67 = .ok (.isub, 1) := by decide +kernel
theorem dX1_trueTime_68 : decode cX1_trueTime 68 = .ok (.ireturn, 1) := by decide +kernel
theorem dX1_trueTime_69 : decode cX1_trueTime 69 = .ok (.aload_n 0, 1) := by decide +kernel
theorem dX1_trueTime_70 : decode cX1_trueTime 70 = .ok (.iload_n 2, 1) := by decide +kernel
theorem dX1_trueTime_71 : decode cX1_trueTime 71 = .ok (.iconst 1, 1) := by decide +kernel
theorem dX1_trueTime_72 : decode cX1_trueTime 72 = .ok (.isub, 1) := by decide +kernel
theorem dX1_trueTime_73 : decode cX1_trueTime 73 = .ok (.iload_n 2, 1) := by decide +kernel
theorem dX1_trueTime_74 : decode cX1_trueTime 74 = .ok (.iload_n 1, 1) := by decide +kernel
theorem dX1_trueTime_75 : decode cX1_trueTime 75 = .ok (.invokevirtual 26, 3) := by decide +kernel
theorem dX1_trueTime_78 : decode cX1_trueTime 78 = .ok (.ireturn, 1) := by decide +kernel
theorem dX1_between_0 : decode cX1_between 0 = .ok (.aload_n 0, 1) := by decide +kernel
theorem dX1_between_1 : decode cX1_between 1 = .ok (.getfield 9, 3) := by decide +kernel
theorem dX1_between_4 : decode cX1_between 4 = .ok (.iload_n 2, 1) := by decide +kernel
theorem dX1_between_5 : decode cX1_between 5 = .ok (.iaload, 1) := by decide +kernel
theorem dX1_between_6 : decode cX1_between 6 = .ok (.aload_n 0, 1) := by decide +kernel
theorem dX1_between_7 : decode cX1_between 7 = .ok (.getfield 9, 3) := by decide +kernel
theorem dX1_between_10 : decode cX1_between 10 = .ok (.iload_n 1, 1) := by decide +kernel
theorem dX1_between_11 : decode cX1_between 11 = .ok (.iaload, 1) := by decide +kernel
theorem dX1_between_12 : decode cX1_between 12 = .ok (.isub, 1) := by decide +kernel
theorem dX1_between_13 : decode cX1_between 13 = .ok (.istore 4, 2) := by decide +kernel
theorem dX1_between_15 : decode cX1_between 15 = .ok (.iload 4, 2) := by decide +kernel
theorem dX1_between_17 : decode cX1_between 17 = .ok (.ifCond .gt 10, 3) := by decide +kernel
theorem dX1_between_20 : decode cX1_between 20 = .ok (.aload_n 0, 1) := by decide +kernel
theorem dX1_between_21 : decode cX1_between 21 = .ok (.getfield 15, 3) := by decide +kernel
theorem dX1_between_24 : decode cX1_between 24 = .ok (.iload_n 1, 1) := by decide +kernel
theorem dX1_between_25 : decode cX1_between 25 = .ok (.iaload, 1) := by decide +kernel
theorem dX1_between_26 : decode cX1_between 26 = .ok (.ireturn, 1) := by decide +kernel
theorem dX1_between_27 : decode cX1_between 27 = .ok (.aload_n 0, 1) := by decide +kernel
theorem dX1_between_28 : decode cX1_between 28 = .ok (.getfield 15, 3) := by decide +kernel
theorem dX1_between_31 : decode cX1_between 31 = .ok (.iload_n 2, 1) := by decide +kernel
theorem dX1_between_32 : decode cX1_between 32 = .ok (.iaload, 1) := by decide +kernel
theorem dX1_between_33 : decode cX1_between 33 = .ok (.aload_n 0, 1) := by decide +kernel
theorem dX1_between_34 : decode cX1_between 34 = .ok (.getfield 15, 3) := by decide +kernel
theorem dX1_between_37 : decode cX1_between 37 = .ok (.iload_n 1, 1) := by decide +kernel
theorem dX1_between_38 : decode cX1_between 38 = .ok (.iaload, 1) := by decide +kernel
theorem dX1_between_39 : decode cX1_between 39 = .ok (.isub, 1) := by decide +kernel
theorem dX1_between_40 : decode cX1_between 40 = .ok (.i2l, 1) := by decide +kernel
theorem dX1_between_41 : decode cX1_between 41 = .ok (.lstore 5, 2) := by decide +kernel
theorem dX1_between_43 : decode cX1_between 43 = .ok (.aload_n 0, 1) := by decide +kernel
theorem dX1_between_44 : decode cX1_between 44 = .ok (.getfield 15, 3) := by decide +kernel
theorem dX1_between_47 : decode cX1_between 47 = .ok (.iload_n 1, 1) := by decide +kernel
theorem dX1_between_48 : decode cX1_between 48 = .ok (.iaload, 1) := by decide +kernel
theorem dX1_between_49 : decode cX1_between 49 = .ok (.iload_n 3, 1) := by decide +kernel
theorem dX1_between_50 : decode cX1_between 50 = .ok (.aload_n 0, 1) := by decide +kernel
theorem dX1_between_51 : decode cX1_between 51 = .ok (.getfield 9, 3) := by decide +kernel
theorem dX1_between_54 : decode cX1_between 54 = .ok (.iload_n 1, 1) := by decide +kernel
theorem dX1_between_55 : decode cX1_between 55 = .ok (.iaload, 1) := by decide +kernel
theorem dX1_between_56 : decode cX1_between 56 = .ok (.isub, 1) := by decide +kernel
theorem dX1_between_57 : decode cX1_between 57 = .ok (.i2l, 1) := by decide +kernel
theorem dX1_between_58 : decode cX1_between 58 = .ok (.lload 5, 2) := by decide +kernel
theorem dX1_between_60 : decode cX1_between 60 = .ok (.lmul, 1) := by decide +kernel
theorem dX1_between_61 : decode cX1_between 61 = .ok (.iload 4, 2) := by decide +kernel
theorem dX1_between_63 : decode cX1_between 63 = .ok (.i2l, 1) := by decide +kernel
theorem dX1_between_64 : decode cX1_between 64 = .ok (.ldiv, 1) := by decide +kernel
theorem dX1_between_65 : decode cX1_between 65 = .ok (.l2i, 1) := by decide +kernel
theorem dX1_between_66 : decode cX1_between 66 = .ok (.iadd, 1) := by decide +kernel
theorem dX1_between_67 : decode cX1_between 67 = .ok (.ireturn, 1) := by decide +kernel
theorem dX2_init_0 : decode cX2_init 0 = .ok (.aload_n 0, 1) := by decide +kernel
theorem dX2_init_1 : decode cX2_init 1 = .ok (.invokespecial 3, 3) := by decide +kernel
theorem dX2_init_4 : decode cX2_init 4 = .ok (.aload_n 0, 1) := by decide +kernel
theorem dX2_init_5 : decode cX2_init 5 = .ok (.new 9, 3) := by decide +kernel
theorem dX2_init_8 : decode cX2_init 8 = .ok (.dup, 1) := by decide +kernel
theorem dX2_init_9 : decode cX2_init 9 = .ok (.bipush 60, 2) := by decide +kernel
theorem dX2_init_11 : decode cX2_init 11 = .ok (.invokespecial 11, 3) := by decide +kernel
theorem dX2_init_14 : decode cX2_init 14 = .ok (.putfield 14, 3) := by decide +kernel
theorem dX2_init_17 : decode cX2_init 17 = .ok (.aload_n 0, 1) := by decide +kernel
theorem dX2_init_18 : decode cX2_init 18 = .ok (.new 20, 3) := by decide +kernel
theorem dX2_init_21 : decode cX2_init 21 = .ok (.dup, 1) := by decide +kernel
theorem dX2_init_22 : decode cX2_init 22 = .ok (.invokespecial 22, 3) := by decide +kernel
theorem dX2_init_25 : decode cX2_init 25 = .ok (.putfield 23, 3) := by decide +kernel
theorem dX2_init_28 : decode cX2_init 28 = .ok (.aload_n 0, 1) := by decide +kernel
theorem dX2_init_29 : decode cX2_init 29 = .ok (.iconst 0, 1) := by decide +kernel
theorem dX2_init_30 : decode cX2_init 30 = .ok (.putfield 27, 3) := by decide +kernel
theorem dX2_init_33 : decode cX2_init 33 = .ok (.return_, 1) := by decide +kernel
theorem dX2_trueTimeOf_0 : decode cX2_trueTimeOf 0 = .ok (.aload_n 0, 1) := by decide +kernel
theorem dX2_trueTimeOf_1 : decode cX2_trueTimeOf 1 = .ok (.getfield 23, 3) := by decide +kernel
theorem dX2_trueTimeOf_4 : decode cX2_trueTimeOf 4 = .ok (.aload_n 0, 1) := by decide +kernel
theorem dX2_trueTimeOf_5 : decode cX2_trueTimeOf 5 = .ok (.getfield 14, 3) := by decide +kernel
theorem dX2_trueTimeOf_8 : decode cX2_trueTimeOf 8 = .ok (.getfield 31, 3) := by decide +kernel
theorem dX2_trueTimeOf_11 : decode cX2_trueTimeOf 11 = .ok (.iload_n 1, 1) := by decide +kernel
theorem dX2_trueTimeOf_12 : decode cX2_trueTimeOf 12 = .ok (.iaload, 1) := by decide +kernel
theorem dX2_trueTimeOf_13 : decode cX2_trueTimeOf 13 = .ok (.invokevirtual 35, 3) := by decide +kernel
theorem dX2_trueTimeOf_16 : decode cX2_trueTimeOf 16 = .ok (.ireturn, 1) := by decide +kernel
theorem dX2_trueTimeBefore_0 : decode cX2_trueTimeBefore 0 = .ok (.aload_n 0, 1) := by decide +kernel
theorem dX2_trueTimeBefore_1 : decode cX2_trueTimeBefore 1 = .ok (.iload_n 1, 1) := by decide +kernel
theorem dX2_trueTimeBefore_2 : decode cX2_trueTimeBefore 2 = .ok (.invokevirtual 39, 3) := by decide +kernel
theorem dX2_trueTimeBefore_5 : decode cX2_trueTimeBefore 5 = .ok (.aload_n 0, 1) := by decide +kernel
theorem dX2_trueTimeBefore_6 : decode cX2_trueTimeBefore 6 = .ok (.iload_n 1, 1) := by decide +kernel
theorem dX2_trueTimeBefore_7 : decode cX2_trueTimeBefore 7 = .ok (.iconst 1, 1) := by decide +kernel
theorem dX2_trueTimeBefore_8 : decode cX2_trueTimeBefore 8 = .ok (.isub, 1) := by decide +kernel
theorem dX2_trueTimeBefore_9 : decode cX2_trueTimeBefore 9 = .ok (.invokevirtual 39, 3) := by decide +kernel
theorem dX2_trueTimeBefore_12 : decode cX2_trueTimeBefore 12 = .ok (.isub, 1) := by decide +kernel
theorem dX2_trueTimeBefore_13 : decode cX2_trueTimeBefore 13 = .ok (.ireturn, 1) := by decide +kernel
theorem dX2_isJump_0 : decode cX2_isJump 0 = .ok (.iload_n 2, 1) := by decide +kernel
theorem dX2_isJump_1 : decode cX2_isJump 1 = .ok (.i2l, 1) := by decide +kernel
theorem dX2_isJump_2 : decode cX2_isJump 2 = .ok (.aload_n 0, 1) := by decide +kernel
theorem dX2_isJump_3 : decode cX2_isJump 3 = .ok (.iload_n 1, 1) := by decide +kernel
theorem dX2_isJump_4 : decode cX2_isJump 4 = .ok (.invokevirtual 42, 3) := by decide +kernel
theorem dX2_isJump_7 : decode cX2_isJump 7 = .ok (.i2l, 1) := by decide +kernel
theorem dX2_isJump_8 : decode cX2_isJump 8 = .ok (.lmul, 1) := by decide +kernel
theorem dX2_isJump_9 : decode cX2_isJump 9 = .ok (.lstore_n 3, 1) := by decide +kernel
theorem dX2_isJump_10 : decode cX2_isJump 10 = .ok (.aload_n 0, 1) := by decide +kernel
theorem dX2_isJump_11 : decode cX2_isJump 11 = .ok (.getfield 14, 3) := by decide +kernel
theorem dX2_isJump_14 : decode cX2_isJump 14 = .ok (.iload_n 1, 1) := by decide +kernel
theorem dX2_isJump_15 : decode cX2_isJump 15 = .ok (.aload_n 0, 1) := by decide +kernel
theorem dX2_isJump_16 : decode cX2_isJump 16 = .ok (.getfield 14, 3) := by decide +kernel
theorem dX2_isJump_19 : decode cX2_isJump 19 = .ok (.getfield 45, 3) := by decide +kernel
theorem dX2_isJump_22 : decode cX2_isJump 22 = .ok (.iload_n 1, 1) := by decide +kernel
theorem dX2_isJump_23 : decode cX2_isJump 23 = .ok (.iconst 1, 1) := by decide +kernel
theorem dX2_isJump_24 : decode cX2_isJump 24 = .ok (.isub, 1) := by decide +kernel
theorem dX2_isJump_25 : decode cX2_isJump 25 = .ok (.iaload, 1) := by decide +kernel
theorem dX2_isJump_26 : decode cX2_isJump 26 = .ok (.aload_n 0, 1) := by decide +kernel
theorem dX2_isJump_27 : decode cX2_isJump 27 = .ok (.getfield 14, 3) := by decide +kernel
theorem dX2_isJump_30 : decode cX2_isJump 30 = .ok (.getfield 48, 3) := by decide +kernel
theorem dX2_isJump_33 : decode cX2_isJump 33 = .ok (.iload_n 1, 1) := by decide +kernel
theorem dX2_isJump_34 : decode cX2_isJump 34 = .ok (.iconst 1, 1) := by decide +kernel
theorem dX2_isJump_35 : decode cX2_isJump 35 = .ok (.isub, 1) := by decide +kernel
theorem dX2_isJump_36 : decode cX2_isJump 36 = .ok (.iaload, 1) := by decide +kernel
theorem dX2_isJump_37 : decode cX2_isJump 37 = .ok (.invokevirtual 51, 3) := by decide +kernel
theorem dX2_isJump_40 : decode cX2_isJump 40 = .ok (.lload_n 3, 1) := by decide +kernel
theorem dX2_isJump_41 : decode cX2_isJump 41 = .ok (.lload_n 3, 1) := by decide +kernel
theorem dX2_isJump_42 : decode cX2_isJump 42 = .ok (.lmul, 1) := by decide +kernel
theorem dX2_isJump_43 : decode cX2_isJump 43 = .ok (.lcmp, 1) := by decide +kernel
theorem dX2_isJump_44 : decode cX2_isJump 44 = .ok (.ifCond .le 7, 3) := by decide +kernel
theorem dX2_isJump_47 : decode cX2_isJump 47 = .ok (.iconst 1, 1) := by decide +kernel
theorem dX2_isJump_48 : decode cX2_isJump 48 = .ok (.goto 4, 3) := by decide +kernel
theorem dX2_isJump_51 : decode cX2_isJump 51 = .ok (.iconst 0, 1) := by decide +kernel
theorem dX2_isJump_52 : decode cX2_isJump 52 = .ok (.ireturn, 1) := by decide +kernel
theorem dX2_isBehindGap_0 : decode cX2_isBehindGap 0 = .ok (.aload_n 0, 1) := by decide +kernel
theorem dX2_isBehindGap_1 : decode cX2_isBehindGap 1 = .ok (.iload_n 1, 1) := by decide +kernel
theorem dX2_isBehindGap_2 : decode cX2_isBehindGap 2 = .ok (.invokevirtual 42, 3) := by decide +kernel
theorem dX2_isBehindGap_5 : decode cX2_isBehindGap 5 = .ok (.iload_n 2, 1) := by decide +kernel
theorem dX2_isBehindGap_6 : decode cX2_isBehindGap 6 = .ok (.if_icmp .le 7, 3) := by decide +kernel
theorem dX2_isBehindGap_9 : decode cX2_isBehindGap 9 = .ok (.iconst 1, 1) := by decide +kernel
theorem dX2_isBehindGap_10 : decode cX2_isBehindGap 10 = .ok (.goto 4, 3) := by decide +kernel
theorem dX2_isBehindGap_13 : decode cX2_isBehindGap 13 = .ok (.iconst 0, 1) := by decide +kernel
theorem dX2_isBehindGap_14 : decode cX2_isBehindGap 14 = .ok (.ireturn, 1) := by decide +kernel
theorem dX2_jumps_0 : decode cX2_jumps 0 = .ok (.iconst 0, 1) := by decide +kernel
theorem dX2_jumps_1 : decode cX2_jumps 1 = .ok (.istore_n 2, 1) := by decide +kernel
theorem dX2_jumps_2 : decode cX2_jumps 2 = .ok (.iconst 1, 1) := by decide +kernel
theorem dX2_jumps_3 : decode cX2_jumps 3 = .ok (.istore_n 3, 1) := by decide +kernel
theorem dX2_jumps_4 : decode cX2_jumps 4 = .ok (.iload_n 3, 1) := by decide +kernel
theorem dX2_jumps_5 : decode cX2_jumps 5 = .ok (.aload_n 0, 1) := by decide +kernel
theorem dX2_jumps_6 : decode cX2_jumps 6 = .ok (.getfield 14, 3) := by decide +kernel
theorem dX2_jumps_9 : decode cX2_jumps 9 = .ok (.getfield 55, 3) := by decide +kernel
theorem dX2_jumps_12 : decode cX2_jumps 12 = .ok (.if_icmp .ge 21, 3) := by decide +kernel
theorem dX2_jumps_15 : decode cX2_jumps 15 = .ok (.aload_n 0, 1) := by decide +kernel
theorem dX2_jumps_16 : decode cX2_jumps 16 = .ok (.iload_n 3, 1) := by decide +kernel
theorem dX2_jumps_17 : decode cX2_jumps 17 = .ok (.iload_n 1, 1) := by decide +kernel
theorem dX2_jumps_18 : decode cX2_jumps 18 = .ok (.invokevirtual 58, 3) := by decide +kernel
theorem dX2_jumps_21 : decode cX2_jumps 21 = .ok (.ifCond .eq 6, 3) := by decide +kernel
theorem dX2_jumps_24 : decode cX2_jumps 24 = .ok (.iinc 2 1, 3) := by decide +kernel
theorem dX2_jumps_27 : decode cX2_jumps 27 = .ok (.iinc 3 1, 3) := by decide +kernel
theorem dX2_jumps_30 : decode cX2_jumps 30 = .ok (.goto (-26), 3) := by decide +kernel
theorem dX2_jumps_33 : decode cX2_jumps 33 = .ok (.iload_n 2, 1) := by decide +kernel
theorem dX2_jumps_34 : decode cX2_jumps 34 = .ok (.ireturn, 1) := by decide +kernel
theorem dX2_gaps_0 : decode cX2_gaps 0 = .ok (.iconst 0, 1) := by decide +kernel
theorem dX2_gaps_1 : decode cX2_gaps 1 = .ok (.istore_n 2, 1) := by decide +kernel
theorem dX2_gaps_2 : decode cX2_gaps 2 = .ok (.iconst 1, 1) := by decide +kernel
theorem dX2_gaps_3 : decode cX2_gaps 3 = .ok (.istore_n 3, 1) := by decide +kernel
theorem dX2_gaps_4 : decode cX2_gaps 4 = .ok (.iload_n 3, 1) := by decide +kernel
theorem dX2_gaps_5 : decode cX2_gaps 5 = .ok (.aload_n 0, 1) := by decide +kernel
theorem dX2_gaps_6 : decode cX2_gaps 6 = .ok (.getfield 14, 3) := by decide +kernel
theorem dX2_gaps_9 : decode cX2_gaps 9 = .ok (.getfield 55, 3) := by decide +kernel
theorem dX2_gaps_12 : decode cX2_gaps 12 = .ok (.if_icmp .ge 21, 3) := by decide +kernel
theorem dX2_gaps_15 : decode cX2_gaps 15 = .ok (.aload_n 0, 1) := by decide +kernel
theorem dX2_gaps_16 : decode cX2_gaps 16 = .ok (.iload_n 3, 1) := by decide +kernel
theorem dX2_gaps_17 : decode cX2_gaps 17 = .ok (.iload_n 1, 1) := by decide +kernel
theorem dX2_gaps_18 : decode cX2_gaps 18 = .ok (.invokevirtual 62, 3) := by decide +kernel
theorem dX2_gaps_21 : decode cX2_gaps 21 = .ok (.ifCond .eq 6, 3) := by decide +kernel
theorem dX2_gaps_24 : decode cX2_gaps 24 = .ok (.iinc 2 1, 3) := by decide +kernel
theorem dX2_gaps_27 : decode cX2_gaps 27 = .ok (.iinc 3 1, 3) := by decide +kernel
theorem dX2_gaps_30 : decode cX2_gaps 30 = .ok (.goto (-26), 3) := by decide +kernel
theorem dX2_gaps_33 : decode cX2_gaps 33 = .ok (.iload_n 2, 1) := by decide +kernel
theorem dX2_gaps_34 : decode cX2_gaps 34 = .ok (.ireturn, 1) := by decide +kernel
theorem dX2_placeOfJump_0 : decode cX2_placeOfJump 0 = .ok (.iconst 0, 1) := by decide +kernel
theorem dX2_placeOfJump_1 : decode cX2_placeOfJump 1 = .ok (.istore_n 3, 1) := by decide +kernel
theorem dX2_placeOfJump_2 : decode cX2_placeOfJump 2 = .ok (.iconst 1, 1) := by decide +kernel
theorem dX2_placeOfJump_3 : decode cX2_placeOfJump 3 = .ok (.istore 4, 2) := by decide +kernel
theorem dX2_placeOfJump_5 : decode cX2_placeOfJump 5 = .ok (.iload 4, 2) := by decide +kernel
theorem dX2_placeOfJump_7 : decode cX2_placeOfJump 7 = .ok (.aload_n 0, 1) := by decide +kernel
theorem dX2_placeOfJump_8 : decode cX2_placeOfJump 8 = .ok (.getfield 14, 3) := by decide +kernel
theorem dX2_placeOfJump_11 : decode cX2_placeOfJump 11 = .ok (.getfield 55, 3) := by decide +kernel
theorem dX2_placeOfJump_14 : decode cX2_placeOfJump 14 = .ok (.if_icmp .ge 30, 3) := by decide +kernel
theorem dX2_placeOfJump_17 : decode cX2_placeOfJump 17 = .ok (.aload_n 0, 1) := by decide +kernel
theorem dX2_placeOfJump_18 : decode cX2_placeOfJump 18 = .ok (.iload 4, 2) := by decide +kernel
theorem dX2_placeOfJump_20 : decode cX2_placeOfJump 20 = .ok (.iload_n 2, 1) := by decide +kernel
theorem dX2_placeOfJump_21 : decode cX2_placeOfJump 21 = .ok (.invokevirtual 58, 3) := by decide +kernel
theorem dX2_placeOfJump_24 : decode cX2_placeOfJump 24 = .ok (.ifCond .eq 14, 3) := by decide +kernel
theorem dX2_placeOfJump_27 : decode cX2_placeOfJump 27 = .ok (.iload_n 3, 1) := by decide +kernel
theorem dX2_placeOfJump_28 : decode cX2_placeOfJump 28 = .ok (.iinc 3 1, 3) := by decide +kernel
theorem dX2_placeOfJump_31 : decode cX2_placeOfJump 31 = .ok (.iload_n 1, 1) := by decide +kernel
theorem dX2_placeOfJump_32 : decode cX2_placeOfJump 32 = .ok (.if_icmp .ne 6, 3) := by decide +kernel
theorem dX2_placeOfJump_35 : decode cX2_placeOfJump 35 = .ok (.iload 4, 2) := by decide +kernel
theorem dX2_placeOfJump_37 : decode cX2_placeOfJump 37 = .ok (.ireturn, 1) := by decide +kernel
theorem dX2_placeOfJump_38 : decode cX2_placeOfJump 38 = .ok (.iinc 4 1, 3) := by decide +kernel
theorem dX2_placeOfJump_41 : decode cX2_placeOfJump 41 = .ok (.goto (-36), 3) := by decide +kernel
theorem dX2_placeOfJump_44 : decode cX2_placeOfJump 44 = .ok (.iconst (-1), 1) := by decide +kernel
theorem dX2_placeOfJump_45 : decode cX2_placeOfJump 45 = .ok (.ireturn, 1) := by decide +kernel
theorem dX2_placeBehindGap_0 : decode cX2_placeBehindGap 0 = .ok (.iconst 0, 1) := by decide +kernel
theorem dX2_placeBehindGap_1 : decode cX2_placeBehindGap 1 = .ok (.istore_n 3, 1) := by decide +kernel
theorem dX2_placeBehindGap_2 : decode cX2_placeBehindGap 2 = .ok (.iconst 1, 1) := by decide +kernel
theorem dX2_placeBehindGap_3 : decode cX2_placeBehindGap 3 = .ok (.istore 4, 2) := by decide +kernel
theorem dX2_placeBehindGap_5 : decode cX2_placeBehindGap 5 = .ok (.iload 4, 2) := by decide +kernel
theorem dX2_placeBehindGap_7 : decode cX2_placeBehindGap 7 = .ok (.aload_n 0, 1) := by decide +kernel
theorem dX2_placeBehindGap_8 : decode cX2_placeBehindGap 8 = .ok (.getfield 14, 3) := by decide +kernel
theorem dX2_placeBehindGap_11 : decode cX2_placeBehindGap 11 = .ok (.getfield 55, 3) := by decide +kernel
theorem dX2_placeBehindGap_14 : decode cX2_placeBehindGap 14 = .ok (.if_icmp .ge 30, 3) := by decide +kernel
theorem dX2_placeBehindGap_17 : decode cX2_placeBehindGap 17 = .ok (.aload_n 0, 1) := by decide +kernel
theorem dX2_placeBehindGap_18 : decode cX2_placeBehindGap 18 = .ok (.iload 4, 2) := by decide +kernel
theorem dX2_placeBehindGap_20 : decode cX2_placeBehindGap 20 = .ok (.iload_n 2, 1) := by decide +kernel
theorem dX2_placeBehindGap_21 : decode cX2_placeBehindGap 21 = .ok (.invokevirtual 62, 3) := by decide +kernel
theorem dX2_placeBehindGap_24 : decode cX2_placeBehindGap 24 = .ok (.ifCond .eq 14, 3) := by decide +kernel
theorem dX2_placeBehindGap_27 : decode cX2_placeBehindGap 27 = .ok (.iload_n 3, 1) := by decide +kernel
theorem dX2_placeBehindGap_28 : decode cX2_placeBehindGap 28 = .ok (.iinc 3 1, 3) := by decide +kernel
theorem dX2_placeBehindGap_31 : decode cX2_placeBehindGap 31 = .ok (.iload_n 1, 1) := by decide +kernel
theorem dX2_placeBehindGap_32 : decode cX2_placeBehindGap 32 = .ok (.if_icmp .ne 6, 3) := by decide +kernel
theorem dX2_placeBehindGap_35 : decode cX2_placeBehindGap 35 = .ok (.iload 4, 2) := by decide +kernel
theorem dX2_placeBehindGap_37 : decode cX2_placeBehindGap 37 = .ok (.ireturn, 1) := by decide +kernel
theorem dX2_placeBehindGap_38 : decode cX2_placeBehindGap 38 = .ok (.iinc 4 1, 3) := by decide +kernel
theorem dX2_placeBehindGap_41 : decode cX2_placeBehindGap 41 = .ok (.goto (-36), 3) := by decide +kernel
theorem dX2_placeBehindGap_44 : decode cX2_placeBehindGap 44 = .ok (.iconst (-1), 1) := by decide +kernel
theorem dX2_placeBehindGap_45 : decode cX2_placeBehindGap 45 = .ok (.ireturn, 1) := by decide +kernel
theorem dX2_placeNearestTo_0 : decode cX2_placeNearestTo 0 = .ok (.iconst (-1), 1) := by decide +kernel
theorem dX2_placeNearestTo_1 : decode cX2_placeNearestTo 1 = .ok (.istore_n 2, 1) := by decide +kernel
theorem dX2_placeNearestTo_2 : decode cX2_placeNearestTo 2 = .ok (.iconst 0, 1) := by decide +kernel
theorem dX2_placeNearestTo_3 : decode cX2_placeNearestTo 3 = .ok (.istore_n 3, 1) := by decide +kernel
theorem dX2_placeNearestTo_4 : decode cX2_placeNearestTo 4 = .ok (.iconst 0, 1) := by decide +kernel
theorem dX2_placeNearestTo_5 : decode cX2_placeNearestTo 5 = .ok (.istore 4, 2) := by decide +kernel
theorem dX2_placeNearestTo_7 : decode cX2_placeNearestTo 7 = .ok (.iload 4, 2) := by decide +kernel
theorem dX2_placeNearestTo_9 : decode cX2_placeNearestTo 9 = .ok (.aload_n 0, 1) := by decide +kernel
theorem dX2_placeNearestTo_10 : decode cX2_placeNearestTo 10 = .ok (.getfield 14, 3) := by decide +kernel
theorem dX2_placeNearestTo_13 : decode cX2_placeNearestTo 13 = .ok (.getfield 55, 3) := by decide +kernel
theorem dX2_placeNearestTo_16 : decode cX2_placeNearestTo 16 = .ok (.if_icmp .ge 39, 3) := by decide +kernel
theorem dX2_placeNearestTo_19 : decode cX2_placeNearestTo 19 = .ok (.aload_n 0, 1) := by decide +kernel
theorem dX2_placeNearestTo_20 : decode cX2_placeNearestTo 20 = .ok (.iload 4, 2) := by decide +kernel
theorem dX2_placeNearestTo_22 : decode cX2_placeNearestTo 22 = .ok (.invokevirtual 39, 3) := by decide +kernel
theorem dX2_placeNearestTo_25 : decode cX2_placeNearestTo 25 = .ok (.iload_n 1, 1) := by decide +kernel
theorem dX2_placeNearestTo_26 : decode cX2_placeNearestTo 26 = .ok (.isub, 1) := by decide +kernel
theorem dX2_placeNearestTo_27 : decode cX2_placeNearestTo 27 = .ok (.invokestatic 65, 3) := by decide +kernel
theorem dX2_placeNearestTo_30 : decode cX2_placeNearestTo 30 = .ok (.istore 5, 2) := by decide +kernel
theorem dX2_placeNearestTo_32 : decode cX2_placeNearestTo 32 = .ok (.iload_n 2, 1) := by decide +kernel
theorem dX2_placeNearestTo_33 : decode cX2_placeNearestTo 33 = .ok (.iconst (-1), 1) := by decide +kernel
theorem dX2_placeNearestTo_34 : decode cX2_placeNearestTo 34 = .ok (.if_icmp .eq 9, 3) := by decide +kernel
theorem dX2_placeNearestTo_37 : decode cX2_placeNearestTo 37 = .ok (.iload 5, 2) := by decide +kernel
theorem dX2_placeNearestTo_39 : decode cX2_placeNearestTo 39 = .ok (.iload_n 3, 1) := by decide +kernel
theorem dX2_placeNearestTo_40 : decode cX2_placeNearestTo 40 = .ok (.if_icmp .ge 9, 3) := by decide +kernel
theorem dX2_placeNearestTo_43 : decode cX2_placeNearestTo 43 = .ok (.iload 4, 2) := by decide +kernel
theorem dX2_placeNearestTo_45 : decode cX2_placeNearestTo 45 = .ok (.istore_n 2, 1) := by decide +kernel
theorem dX2_placeNearestTo_46 : decode cX2_placeNearestTo 46 = .ok (.iload 5, 2) := by decide +kernel
theorem dX2_placeNearestTo_48 : decode cX2_placeNearestTo 48 = .ok (.istore_n 3, 1) := by decide +kernel
theorem dX2_placeNearestTo_49 : decode cX2_placeNearestTo 49 = .ok (.iinc 4 1, 3) := by decide +kernel
theorem dX2_placeNearestTo_52 : decode cX2_placeNearestTo 52 = .ok (.goto (-45), 3) := by decide +kernel
theorem dX2_placeNearestTo_55 : decode cX2_placeNearestTo 55 = .ok (.iload_n 2, 1) := by decide +kernel
theorem dX2_placeNearestTo_56 : decode cX2_placeNearestTo 56 = .ok (.ireturn, 1) := by decide +kernel
theorem dX3_init_0 : decode cX3_init 0 = .ok (.aload_n 0, 1) := by decide +kernel
theorem dX3_init_1 : decode cX3_init 1 = .ok (.invokespecial 3, 3) := by decide +kernel
theorem dX3_init_4 : decode cX3_init 4 = .ok (.aload_n 0, 1) := by decide +kernel
theorem dX3_init_5 : decode cX3_init 5 = .ok (.bipush 8, 2) := by decide +kernel
theorem dX3_init_7 : decode cX3_init 7 = .ok (.newarray .int, 2) := by decide +kernel
theorem dX3_init_9 : decode cX3_init 9 = .ok (.putfield 9, 3) := by decide +kernel
theorem dX3_init_12 : decode cX3_init 12 = .ok (.aload_n 0, 1) := by decide +kernel
theorem dX3_init_13 : decode cX3_init 13 = .ok (.bipush 8, 2) := by decide +kernel
theorem dX3_init_15 : decode cX3_init 15 = .ok (.newarray .int, 2) := by decide +kernel
theorem dX3_init_17 : decode cX3_init 17 = .ok (.putfield 15, 3) := by decide +kernel
theorem dX3_init_20 : decode cX3_init 20 = .ok (.aload_n 0, 1) := by decide +kernel
theorem dX3_init_21 : decode cX3_init 21 = .ok (.iconst 0, 1) := by decide +kernel
theorem dX3_init_22 : decode cX3_init 22 = .ok (.putfield 18, 3) := by decide +kernel
theorem dX3_init_25 : decode cX3_init 25 = .ok (.return_, 1) := by decide +kernel
theorem dX3_append_0 : decode cX3_append 0 = .ok (.aload_n 0, 1) := by decide +kernel
theorem dX3_append_1 : decode cX3_append 1 = .ok (.getfield 18, 3) := by decide +kernel
theorem dX3_append_4 : decode cX3_append 4 = .ok (.bipush 8, 2) := by decide +kernel
theorem dX3_append_6 : decode cX3_append 6 = .ok (.if_icmp .lt 4, 3) := by decide +kernel
theorem dX3_append_9 : decode cX3_append 9 = .ok (.return_, 1) := by decide +kernel
theorem dX3_append_10 : decode cX3_append 10 = .ok (.aload_n 0, 1) := by decide +kernel
theorem dX3_append_11 : decode cX3_append 11 = .ok (.getfield 9, 3) := by decide +kernel
theorem dX3_append_14 : decode cX3_append 14 = .ok (.aload_n 0, 1) := by decide +kernel
theorem dX3_append_15 : decode cX3_append 15 = .ok (.getfield 18, 3) := by decide +kernel
theorem dX3_append_18 : decode cX3_append 18 = .ok (.iload_n 1, 1) := by decide +kernel
theorem dX3_append_19 : decode cX3_append 19 = .ok (.iastore, 1) := by decide +kernel
theorem dX3_append_20 : decode cX3_append 20 = .ok (.aload_n 0, 1) := by decide +kernel
theorem dX3_append_21 : decode cX3_append 21 = .ok (.getfield 15, 3) := by decide +kernel
theorem dX3_append_24 : decode cX3_append 24 = .ok (.aload_n 0, 1) := by decide +kernel
theorem dX3_append_25 : decode cX3_append 25 = .ok (.getfield 18, 3) := by decide +kernel
theorem dX3_append_28 : decode cX3_append 28 = .ok (.iload_n 2, 1) := by decide +kernel
theorem dX3_append_29 : decode cX3_append 29 = .ok (.iastore, 1) := by decide +kernel
theorem dX3_append_30 : decode cX3_append 30 = .ok (.aload_n 0, 1) := by decide +kernel
theorem dX3_append_31 : decode cX3_append 31 = .ok (.dup, 1) := by decide +kernel
theorem dX3_append_32 : decode cX3_append 32 = .ok (.getfield 18, 3) := by decide +kernel
theorem dX3_append_35 : decode cX3_append 35 = .ok (.iconst 1, 1) := by decide +kernel
theorem dX3_append_36 : decode cX3_append 36 = .ok (.iadd, 1) := by decide +kernel
theorem dX3_append_37 : decode cX3_append 37 = .ok (.putfield 18, 3) := by decide +kernel
theorem dX3_append_40 : decode cX3_append 40 = .ok (.return_, 1) := by decide +kernel
theorem dX3_holds_0 : decode cX3_holds 0 = .ok (.aload_n 0, 1) := by decide +kernel
theorem dX3_holds_1 : decode cX3_holds 1 = .ok (.getfield 18, 3) := by decide +kernel
theorem dX3_holds_4 : decode cX3_holds 4 = .ok (.iconst 3, 1) := by decide +kernel
theorem dX3_holds_5 : decode cX3_holds 5 = .ok (.if_icmp .ge 5, 3) := by decide +kernel
theorem dX3_holds_8 : decode cX3_holds 8 = .ok (.iconst 0, 1) := by decide +kernel
theorem dX3_holds_9 : decode cX3_holds 9 = .ok (.ireturn, 1) := by decide +kernel
theorem dX3_holds_10 : decode cX3_holds 10 = .ok (.iconst 0, 1) := by decide +kernel
theorem dX3_holds_11 : decode cX3_holds 11 = .ok (.istore_n 3, 1) := by decide +kernel
theorem dX3_holds_12 : decode cX3_holds 12 = .ok (.iconst 0, 1) := by decide +kernel
theorem dX3_holds_13 : decode cX3_holds 13 = .ok (.istore 4, 2) := by decide +kernel
theorem dX3_holds_15 : decode cX3_holds 15 = .ok (.iload 4, 2) := by decide +kernel
theorem dX3_holds_17 : decode cX3_holds 17 = .ok (.aload_n 0, 1) := by decide +kernel
theorem dX3_holds_18 : decode cX3_holds 18 = .ok (.getfield 18, 3) := by decide +kernel
theorem dX3_holds_21 : decode cX3_holds 21 = .ok (.if_icmp .ge 134, 3) := by decide +kernel
theorem dX3_holds_24 : decode cX3_holds 24 = .ok (.iload 4, 2) := by decide +kernel
theorem dX3_holds_26 : decode cX3_holds 26 = .ok (.iconst 1, 1) := by decide +kernel
theorem dX3_holds_27 : decode cX3_holds 27 = .ok (.iadd, 1) := by decide +kernel
theorem dX3_holds_28 : decode cX3_holds 28 = .ok (.aload_n 0, 1) := by decide +kernel
theorem dX3_holds_29 : decode cX3_holds 29 = .ok (.getfield 18, 3) := by decide +kernel
theorem dX3_holds_32 : decode cX3_holds 32 = .ok (.if_icmp .ge 10, 3) := by decide +kernel
theorem dX3_holds_35 : decode cX3_holds 35 = .ok (.iload 4, 2) := by decide +kernel
theorem dX3_holds_37 : decode cX3_holds 37 = .ok (.iconst 1, 1) := by decide +kernel
theorem dX3_holds_38 : decode cX3_holds 38 = .ok (.iadd, 1) := by decide +kernel
theorem dX3_holds_39 : decode cX3_holds 39 = .ok (.goto 4, 3) := by decide +kernel
theorem dX3_holds_42 : decode cX3_holds 42 = .ok (.iconst 0, 1) := by decide +kernel
theorem dX3_holds_43 : decode cX3_holds 43 = .ok (.istore 5, 2) := by decide +kernel
theorem dX3_holds_45 : decode cX3_holds 45 = .ok (.aload_n 0, 1) := by decide +kernel
theorem dX3_holds_46 : decode cX3_holds 46 = .ok (.iload 4, 2) := by decide +kernel
theorem dX3_holds_48 : decode cX3_holds 48 = .ok (.iload 5, 2) := by decide +kernel
theorem dX3_holds_50 : decode cX3_holds 50 = .ok (.iload_n 1, 1) := by decide +kernel
theorem dX3_holds_51 : decode cX3_holds 51 = .ok (.iload_n 2, 1) := by decide +kernel
theorem dX3_holds_52 : decode cX3_holds 52 = .ok (.invokevirtual 22, 3) := by decide +kernel
theorem dX3_holds_55 : decode cX3_holds 55 = .ok (.lstore 6, 2) := by decide +kernel
theorem dX3_holds_57 : decode cX3_holds 57 = .ok (.lload 6, 2) := by decide +kernel
theorem dX3_holds_59 : decode cX3_holds 59 = .ok (.lconst 0, 1) := by decide +kernel
theorem dX3_holds_60 : decode cX3_holds 60 = .ok (.lcmp, 1) := by decide +kernel
theorem dX3_holds_61 : decode cX3_holds 61 = .ok (.ifCond .ne 18, 3) := by decide +kernel
theorem dX3_holds_64 : decode cX3_holds 64 = .ok (.aload_n 0, 1) := by decide +kernel
theorem dX3_holds_65 : decode cX3_holds 65 = .ok (.iload 4, 2) := by decide +kernel
theorem dX3_holds_67 : decode cX3_holds 67 = .ok (.iload 5, 2) := by decide +kernel
theorem dX3_holds_69 : decode cX3_holds 69 = .ok (.iload_n 1, 1) := by decide +kernel
theorem dX3_holds_70 : decode cX3_holds 70 = .ok (.iload_n 2, 1) := by decide +kernel
theorem dX3_holds_71 : decode cX3_holds 71 = .ok (.invokevirtual 26, 3) := by decide +kernel
theorem dX3_holds_74 : decode cX3_holds 74 = .ok (.ifCond .eq 5, 3) := by decide +kernel
theorem dX3_holds_77 : decode cX3_holds 77 = .ok (.iconst 1, 1) := by decide +kernel
theorem dX3_holds_78 : decode cX3_holds 78 = .ok (.ireturn, 1) := by decide +kernel
theorem dX3_holds_79 : decode cX3_holds 79 = .ok (.aload_n 0, 1) := by decide +kernel
theorem dX3_holds_80 : decode cX3_holds 80 = .ok (.getfield 15, 3) := by decide +kernel
theorem dX3_holds_83 : decode cX3_holds 83 = .ok (.iload 4, 2) := by decide +kernel
theorem dX3_holds_85 : decode cX3_holds 85 = .ok (.iaload, 1) := by decide +kernel
theorem dX3_holds_86 : decode cX3_holds 86 = .ok (.iload_n 2, 1) := by decide +kernel
theorem dX3_holds_87 : decode cX3_holds 87 = .ok (.if_icmp .le 7, 3) := by decide +kernel
theorem dX3_holds_90 : decode cX3_holds 90 = .ok (.iconst 1, 1) := by decide +kernel
theorem dX3_holds_91 : decode cX3_holds 91 = .ok (.goto 4, 3) := by decide +kernel
theorem dX3_holds_94 : decode cX3_holds 94 = .ok (.iconst 0, 1) := by decide +kernel
theorem dX3_holds_95 : decode cX3_holds 95 = .ok (.istore 8, 2) := by decide +kernel
theorem dX3_holds_97 : decode cX3_holds 97 = .ok (.aload_n 0, 1) := by decide +kernel
theorem dX3_holds_98 : decode cX3_holds 98 = .ok (.getfield 15, 3) := by decide +kernel
theorem dX3_holds_101 : decode cX3_holds 101 = .ok (.iload 5, 2) := by decide +kernel
theorem dX3_holds_103 : decode cX3_holds 103 = .ok (.iaload, 1) := by decide +kernel
theorem dX3_holds_104 : decode cX3_holds 104 = .ok (.iload_n 2, 1) := by decide +kernel
theorem dX3_holds_105 : decode cX3_holds 105 = .ok (.if_icmp .le 7, 3) := by decide +kernel
theorem dX3_holds_108 : decode cX3_holds 108 = .ok (.iconst 1, 1) := by decide +kernel
theorem dX3_holds_109 : decode cX3_holds 109 = .ok (.goto 4, 3) := by decide +kernel
theorem dX3_holds_112 : decode cX3_holds 112 = .ok (.iconst 0, 1) := by decide +kernel
theorem dX3_holds_113 : decode cX3_holds 113 = .ok (.istore 9, 2) := by decide +kernel
theorem dX3_holds_115 : decode cX3_holds 115 = .ok (.iload 8, 2) := by decide +kernel
theorem dX3_holds_117 : decode cX3_holds 117 = .ok (.iload 9, 2) := by decide +kernel
theorem dX3_holds_119 : decode cX3_holds 119 = .ok (.if_icmp .eq 30, 3) := by decide +kernel
theorem dX3_holds_122 : decode cX3_holds 122 = .ok (.iload 9, 2) := by decide +kernel
theorem dX3_holds_124 : decode cX3_holds 124 = .ok (.lload 6, 2) := by decide +kernel
theorem dX3_holds_126 : decode cX3_holds 126 = .ok (.lconst 0, 1) := by decide +kernel
theorem dX3_holds_127 : decode cX3_holds 127 = .ok (.lcmp, 1) := by decide +kernel
theorem dX3_holds_128 : decode cX3_holds 128 = .ok (.ifCond .le 7, 3) := by decide +kernel
theorem dX3_holds_131 : decode cX3_holds 131 = .ok (.iconst 1, 1) := by decide +kernel
theorem dX3_holds_132 : decode cX3_holds 132 = .ok (.goto 4, 3) := by decide +kernel
theorem dX3_holds_135 : decode cX3_holds 135 = .ok (.iconst 0, 1) := by decide +kernel
theorem dX3_holds_136 : decode cX3_holds 136 = .ok (.if_icmp .ne 13, 3) := by decide +kernel
theorem dX3_holds_139 : decode cX3_holds 139 = .ok (.iload_n 3, 1) := by decide +kernel
theorem dX3_holds_140 : decode cX3_holds 140 = .ok (.ifCond .ne 7, 3) := by decide +kernel
theorem dX3_holds_143 : decode cX3_holds 143 = .ok (.iconst 1, 1) := by decide +kernel
theorem dX3_holds_144 : decode cX3_holds 144 = .ok (.goto 4, 3) := by decide +kernel
theorem dX3_holds_147 : decode cX3_holds 147 = .ok (.iconst 0, 1) := by decide +kernel
theorem dX3_holds_148 : decode cX3_holds 148 = .ok (.istore_n 3, 1) := by decide +kernel
theorem dX3_holds_149 : decode cX3_holds 149 = .ok (.iinc 4 1, 3) := by decide +kernel
theorem dX3_holds_152 : decode cX3_holds 152 = .ok (.goto (-137), 3) := by decide +kernel
theorem dX3_holds_155 : decode cX3_holds 155 = .ok (.iload_n 3, 1) := by decide +kernel
theorem dX3_holds_156 : decode cX3_holds 156 = .ok (.ireturn, 1) := by decide +kernel
theorem dX3_turn_0 : decode cX3_turn 0 = .ok (.aload_n 0, 1) := by decide +kernel
theorem dX3_turn_1 : decode cX3_turn 1 = .ok (.getfield 9, 3) := by decide +kernel
theorem dX3_turn_4 : decode cX3_turn 4 = .ok (.iload_n 2, 1) := by decide +kernel
theorem dX3_turn_5 : decode cX3_turn 5 = .ok (.iaload, 1) := by decide +kernel
theorem dX3_turn_6 : decode cX3_turn 6 = .ok (.aload_n 0, 1) := by decide +kernel
theorem dX3_turn_7 : decode cX3_turn 7 = .ok (.getfield 9, 3) := by decide +kernel
theorem dX3_turn_10 : decode cX3_turn 10 = .ok (.iload_n 1, 1) := by decide +kernel
theorem dX3_turn_11 : decode cX3_turn 11 = .ok (.iaload, 1) := by decide +kernel
theorem dX3_turn_12 : decode cX3_turn 12 = .ok (.isub, 1) := by decide +kernel
theorem dX3_turn_13 : decode cX3_turn 13 = .ok (.i2l, 1) := by decide +kernel
theorem dX3_turn_14 : decode cX3_turn 14 = .ok (.lstore 5, 2) := by decide +kernel
theorem dX3_turn_16 : decode cX3_turn 16 = .ok (.aload_n 0, 1) := by decide +kernel
theorem dX3_turn_17 : decode cX3_turn 17 = .ok (.getfield 15, 3) := by decide +kernel
theorem dX3_turn_20 : decode cX3_turn 20 = .ok (.iload_n 2, 1) := by decide +kernel
theorem dX3_turn_21 : decode cX3_turn 21 = .ok (.iaload, 1) := by decide +kernel
theorem dX3_turn_22 : decode cX3_turn 22 = .ok (.aload_n 0, 1) := by decide +kernel
theorem dX3_turn_23 : decode cX3_turn 23 = .ok (.getfield 15, 3) := by decide +kernel
theorem dX3_turn_26 : decode cX3_turn 26 = .ok (.iload_n 1, 1) := by decide +kernel
theorem dX3_turn_27 : decode cX3_turn 27 = .ok (.iaload, 1) := by decide +kernel
theorem dX3_turn_28 : decode cX3_turn 28 = .ok (.isub, 1) := by decide +kernel
theorem dX3_turn_29 : decode cX3_turn 29 = .ok (.i2l, 1) := by decide +kernel
theorem dX3_turn_30 : decode cX3_turn 30 = .ok (.lstore 7, 2) := by decide +kernel
theorem dX3_turn_32 : decode cX3_turn 32 = .ok (.lload 5, 2) := by decide +kernel
theorem dX3_turn_34 : decode cX3_turn 34 = .ok (.iload 4, 2) := by decide +kernel
theorem dX3_turn_36 : decode cX3_turn 36 = .ok (.aload_n 0, 1) := by decide +kernel
theorem dX3_turn_37 : decode cX3_turn 37 = .ok (.getfield 15, 3) := by decide +kernel
theorem dX3_turn_40 : decode cX3_turn 40 = .ok (.iload_n 1, 1) := by decide +kernel
theorem dX3_turn_41 : decode cX3_turn 41 = .ok (.iaload, 1) := by decide +kernel
theorem dX3_turn_42 : decode cX3_turn 42 = .ok (.isub, 1) := by decide +kernel
theorem dX3_turn_43 : decode cX3_turn 43 = .ok (.i2l, 1) := by decide +kernel
theorem dX3_turn_44 : decode cX3_turn 44 = .ok (.lmul, 1) := by decide +kernel
theorem dX3_turn_45 : decode cX3_turn 45 = .ok (.lload 7, 2) := by decide +kernel
theorem dX3_turn_47 : decode cX3_turn 47 = .ok (.iload_n 3, 1) := by decide +kernel
theorem dX3_turn_48 : decode cX3_turn 48 = .ok (.aload_n 0, 1) := by decide +kernel
theorem dX3_turn_49 : decode cX3_turn 49 = .ok (.getfield 9, 3) := by decide +kernel
theorem dX3_turn_52 : decode cX3_turn 52 = .ok (.iload_n 1, 1) := by decide +kernel
theorem dX3_turn_53 : decode cX3_turn 53 = .ok (.iaload, 1) := by decide +kernel
theorem dX3_turn_54 : decode cX3_turn 54 = .ok (.isub, 1) := by decide +kernel
theorem dX3_turn_55 : decode cX3_turn 55 = .ok (.i2l, 1) := by decide +kernel
theorem dX3_turn_56 : decode cX3_turn 56 = .ok (.lmul, 1) := by decide +kernel
theorem dX3_turn_57 : decode cX3_turn 57 = .ok (.lsub, 1) := by decide +kernel
theorem dX3_turn_58 : decode cX3_turn 58 = .ok (.lreturn, 1) := by decide +kernel
theorem dX3_isBeside_0 : decode cX3_isBeside 0 = .ok (.iload_n 3, 1) := by decide +kernel
theorem dX3_isBeside_1 : decode cX3_isBeside 1 = .ok (.aload_n 0, 1) := by decide +kernel
theorem dX3_isBeside_2 : decode cX3_isBeside 2 = .ok (.getfield 9, 3) := by decide +kernel
theorem dX3_isBeside_5 : decode cX3_isBeside 5 = .ok (.iload_n 1, 1) := by decide +kernel
theorem dX3_isBeside_6 : decode cX3_isBeside 6 = .ok (.iaload, 1) := by decide +kernel
theorem dX3_isBeside_7 : decode cX3_isBeside 7 = .ok (.aload_n 0, 1) := by decide +kernel
theorem dX3_isBeside_8 : decode cX3_isBeside 8 = .ok (.getfield 9, 3) := by decide +kernel
theorem dX3_isBeside_11 : decode cX3_isBeside 11 = .ok (.iload_n 2, 1) := by decide +kernel
theorem dX3_isBeside_12 : decode cX3_isBeside 12 = .ok (.iaload, 1) := by decide +kernel
theorem dX3_isBeside_13 : decode cX3_isBeside 13 = .ok (.invokestatic 30, 3) := by decide +kernel
theorem dX3_isBeside_16 : decode cX3_isBeside 16 = .ok (.if_icmp .lt 66, 3) := by decide +kernel
theorem dX3_isBeside_19 : decode cX3_isBeside 19 = .ok (.iload_n 3, 1) := by decide +kernel
theorem dX3_isBeside_20 : decode cX3_isBeside 20 = .ok (.aload_n 0, 1) := by decide +kernel
theorem dX3_isBeside_21 : decode cX3_isBeside 21 = .ok (.getfield 9, 3) := by decide +kernel
theorem dX3_isBeside_24 : decode cX3_isBeside 24 = .ok (.iload_n 1, 1) := by decide +kernel
theorem dX3_isBeside_25 : decode cX3_isBeside 25 = .ok (.iaload, 1) := by decide +kernel
theorem dX3_isBeside_26 : decode cX3_isBeside 26 = .ok (.aload_n 0, 1) := by decide +kernel
theorem dX3_isBeside_27 : decode cX3_isBeside 27 = .ok (.getfield 9, 3) := by decide +kernel
theorem dX3_isBeside_30 : decode cX3_isBeside 30 = .ok (.iload_n 2, 1) := by decide +kernel
theorem dX3_isBeside_31 : decode cX3_isBeside 31 = .ok (.iaload, 1) := by decide +kernel
theorem dX3_isBeside_32 : decode cX3_isBeside 32 = .ok (.invokestatic 36, 3) := by decide +kernel
theorem dX3_isBeside_35 : decode cX3_isBeside 35 = .ok (.if_icmp .gt 47, 3) := by decide +kernel
theorem dX3_isBeside_38 : decode cX3_isBeside 38 = .ok (.iload 4, 2) := by decide +kernel
theorem dX3_isBeside_40 : decode cX3_isBeside 40 = .ok (.aload_n 0, 1) := by decide +kernel
theorem dX3_isBeside_41 : decode cX3_isBeside 41 = .ok (.getfield 15, 3) := by decide +kernel
theorem dX3_isBeside_44 : decode cX3_isBeside 44 = .ok (.iload_n 1, 1) := by decide +kernel
theorem dX3_isBeside_45 : decode cX3_isBeside 45 = .ok (.iaload, 1) := by decide +kernel
theorem dX3_isBeside_46 : decode cX3_isBeside 46 = .ok (.aload_n 0, 1) := by decide +kernel
theorem dX3_isBeside_47 : decode cX3_isBeside 47 = .ok (.getfield 15, 3) := by decide +kernel
theorem dX3_isBeside_50 : decode cX3_isBeside 50 = .ok (.iload_n 2, 1) := by decide +kernel
theorem dX3_isBeside_51 : decode cX3_isBeside 51 = .ok (.iaload, 1) := by decide +kernel
theorem dX3_isBeside_52 : decode cX3_isBeside 52 = .ok (.invokestatic 30, 3) := by decide +kernel
theorem dX3_isBeside_55 : decode cX3_isBeside 55 = .ok (.if_icmp .lt 27, 3) := by decide +kernel
theorem dX3_isBeside_58 : decode cX3_isBeside 58 = .ok (.iload 4, 2) := by decide +kernel
theorem dX3_isBeside_60 : decode cX3_isBeside 60 = .ok (.aload_n 0, 1) := by decide +kernel
theorem dX3_isBeside_61 : decode cX3_isBeside 61 = .ok (.getfield 15, 3) := by decide +kernel
theorem dX3_isBeside_64 : decode cX3_isBeside 64 = .ok (.iload_n 1, 1) := by decide +kernel
theorem dX3_isBeside_65 : decode cX3_isBeside 65 = .ok (.iaload, 1) := by decide +kernel
theorem dX3_isBeside_66 : decode cX3_isBeside 66 = .ok (.aload_n 0, 1) := by decide +kernel
theorem dX3_isBeside_67 : decode cX3_isBeside 67 = .ok (.getfield 15, 3) := by decide +kernel
theorem dX3_isBeside_70 : decode cX3_isBeside 70 = .ok (.iload_n 2, 1) := by decide +kernel
theorem dX3_isBeside_71 : decode cX3_isBeside 71 = .ok (.iaload, 1) := by decide +kernel
theorem dX3_isBeside_72 : decode cX3_isBeside 72 = .ok (.invokestatic 36, 3) := by decide +kernel
theorem dX3_isBeside_75 : decode cX3_isBeside 75 = .ok (.if_icmp .gt 7, 3) := by decide +kernel
theorem dX3_isBeside_78 : decode cX3_isBeside 78 = .ok (.iconst 1, 1) := by decide +kernel
theorem dX3_isBeside_79 : decode cX3_isBeside 79 = .ok (.goto 4, 3) := by decide +kernel
theorem dX3_isBeside_82 : decode cX3_isBeside 82 = .ok (.iconst 0, 1) := by decide +kernel
theorem dX3_isBeside_83 : decode cX3_isBeside 83 = .ok (.ireturn, 1) := by decide +kernel
theorem dX4_init_0 : decode cX4_init 0 = .ok (.aload_n 0, 1) := by decide +kernel
theorem dX4_init_1 : decode cX4_init 1 = .ok (.invokespecial 3, 3) := by decide +kernel
theorem dX4_init_4 : decode cX4_init 4 = .ok (.aload_n 0, 1) := by decide +kernel
theorem dX4_init_5 : decode cX4_init 5 = .ok (.iconst 5, 1) := by decide +kernel
theorem dX4_init_6 : decode cX4_init 6 = .ok (.iconst 5, 1) := by decide +kernel
theorem dX4_init_7 : decode cX4_init 7 = .ok (.multianewarray 9 2, 4) := by decide +kernel
theorem dX4_init_11 : decode cX4_init 11 = .ok (.putfield 11, 3) := by decide +kernel
theorem dX4_init_14 : decode cX4_init 14 = .ok (.aload_n 0, 1) := by decide +kernel
theorem dX4_init_15 : decode cX4_init 15 = .ok (.bipush 6, 2) := by decide +kernel
theorem dX4_init_17 : decode cX4_init 17 = .ok (.bipush 32, 2) := by decide +kernel
theorem dX4_init_19 : decode cX4_init 19 = .ok (.multianewarray 9 2, 4) := by decide +kernel
theorem dX4_init_23 : decode cX4_init 23 = .ok (.putfield 16, 3) := by decide +kernel
theorem dX4_init_26 : decode cX4_init 26 = .ok (.aload_n 0, 1) := by decide +kernel
theorem dX4_init_27 : decode cX4_init 27 = .ok (.iconst 5, 1) := by decide +kernel
theorem dX4_init_28 : decode cX4_init 28 = .ok (.newarray .int, 2) := by decide +kernel
theorem dX4_init_30 : decode cX4_init 30 = .ok (.putfield 19, 3) := by decide +kernel
theorem dX4_init_33 : decode cX4_init 33 = .ok (.aload_n 0, 1) := by decide +kernel
theorem dX4_init_34 : decode cX4_init 34 = .ok (.iconst 0, 1) := by decide +kernel
theorem dX4_init_35 : decode cX4_init 35 = .ok (.putfield 23, 3) := by decide +kernel
theorem dX4_init_38 : decode cX4_init 38 = .ok (.aload_n 0, 1) := by decide +kernel
theorem dX4_init_39 : decode cX4_init 39 = .ok (.iconst 0, 1) := by decide +kernel
theorem dX4_init_40 : decode cX4_init 40 = .ok (.putfield 27, 3) := by decide +kernel
theorem dX4_init_43 : decode cX4_init 43 = .ok (.return_, 1) := by decide +kernel
theorem dX4_choose_0 : decode cX4_choose 0 = .ok (.aload_n 0, 1) := by decide +kernel
theorem dX4_choose_1 : decode cX4_choose 1 = .ok (.iload_n 1, 1) := by decide +kernel
theorem dX4_choose_2 : decode cX4_choose 2 = .ok (.iconst 5, 1) := by decide +kernel
theorem dX4_choose_3 : decode cX4_choose 3 = .ok (.invokestatic 30, 3) := by decide +kernel
theorem dX4_choose_6 : decode cX4_choose 6 = .ok (.putfield 23, 3) := by decide +kernel
theorem dX4_choose_9 : decode cX4_choose 9 = .ok (.aload_n 0, 1) := by decide +kernel
theorem dX4_choose_10 : decode cX4_choose 10 = .ok (.iload_n 2, 1) := by decide +kernel
theorem dX4_choose_11 : decode cX4_choose 11 = .ok (.iconst 5, 1) := by decide +kernel
theorem dX4_choose_12 : decode cX4_choose 12 = .ok (.invokestatic 30, 3) := by decide +kernel
theorem dX4_choose_15 : decode cX4_choose 15 = .ok (.putfield 27, 3) := by decide +kernel
theorem dX4_choose_18 : decode cX4_choose 18 = .ok (.aload_n 0, 1) := by decide +kernel
theorem dX4_choose_19 : decode cX4_choose 19 = .ok (.invokevirtual 36, 3) := by decide +kernel
theorem dX4_choose_22 : decode cX4_choose 22 = .ok (.iconst 0, 1) := by decide +kernel
theorem dX4_choose_23 : decode cX4_choose 23 = .ok (.istore_n 3, 1) := by decide +kernel
theorem dX4_choose_24 : decode cX4_choose 24 = .ok (.iconst 0, 1) := by decide +kernel
theorem dX4_choose_25 : decode cX4_choose 25 = .ok (.istore 4, 2) := by decide +kernel
theorem dX4_choose_27 : decode cX4_choose 27 = .ok (.iload 4, 2) := by decide +kernel
theorem dX4_choose_29 : decode cX4_choose 29 = .ok (.aload_n 0, 1) := by decide +kernel
theorem dX4_choose_30 : decode cX4_choose 30 = .ok (.getfield 23, 3) := by decide +kernel
theorem dX4_choose_33 : decode cX4_choose 33 = .ok (.if_icmp .ge 50, 3) := by decide +kernel
theorem dX4_choose_36 : decode cX4_choose 36 = .ok (.aload_n 0, 1) := by decide +kernel
theorem dX4_choose_37 : decode cX4_choose 37 = .ok (.getfield 19, 3) := by decide +kernel
theorem dX4_choose_40 : decode cX4_choose 40 = .ok (.iload 4, 2) := by decide +kernel
theorem dX4_choose_42 : decode cX4_choose 42 = .ok (.aload_n 0, 1) := by decide +kernel
theorem dX4_choose_43 : decode cX4_choose 43 = .ok (.iload 4, 2) := by decide +kernel
theorem dX4_choose_45 : decode cX4_choose 45 = .ok (.iload_n 3, 1) := by decide +kernel
theorem dX4_choose_46 : decode cX4_choose 46 = .ok (.invokevirtual 39, 3) := by decide +kernel
theorem dX4_choose_49 : decode cX4_choose 49 = .ok (.iastore, 1) := by decide +kernel
theorem dX4_choose_50 : decode cX4_choose 50 = .ok (.iload_n 3, 1) := by decide +kernel
theorem dX4_choose_51 : decode cX4_choose 51 = .ok (.aload_n 0, 1) := by decide +kernel
theorem dX4_choose_52 : decode cX4_choose 52 = .ok (.getfield 19, 3) := by decide +kernel
theorem dX4_choose_55 : decode cX4_choose 55 = .ok (.iload 4, 2) := by decide +kernel
theorem dX4_choose_57 : decode cX4_choose 57 = .ok (.iaload, 1) := by decide +kernel
theorem dX4_choose_58 : decode cX4_choose 58 = .ok (.iconst (-1), 1) := by decide +kernel
theorem dX4_choose_59 : decode cX4_choose 59 = .ok (.if_icmp .ne 7, 3) := by decide +kernel
theorem dX4_choose_62 : decode cX4_choose 62 = .ok (.iconst 0, 1) := by decide +kernel
theorem dX4_choose_63 : decode cX4_choose 63 = .ok (.goto 12, 3) := by decide +kernel
theorem dX4_choose_66 : decode cX4_choose 66 = .ok (.iconst 1, 1) := by decide +kernel
theorem dX4_choose_67 : decode cX4_choose 67 = .ok (.aload_n 0, 1) := by decide +kernel
theorem dX4_choose_68 : decode cX4_choose 68 = .ok (.getfield 19, 3) := by decide +kernel
theorem dX4_choose_71 : decode cX4_choose 71 = .ok (.iload 4, 2) := by decide +kernel
theorem dX4_choose_73 : decode cX4_choose 73 = .ok (.iaload, 1) := by decide +kernel
theorem dX4_choose_74 : decode cX4_choose 74 = .ok (.ishl, 1) := by decide +kernel
theorem dX4_choose_75 : decode cX4_choose 75 = .ok (.ior, 1) := by decide +kernel
theorem dX4_choose_76 : decode cX4_choose 76 = .ok (.istore_n 3, 1) := by decide +kernel
theorem dX4_choose_77 : decode cX4_choose 77 = .ok (.iinc 4 1, 3) := by decide +kernel
theorem dX4_choose_80 : decode cX4_choose 80 = .ok (.goto (-53), 3) := by decide +kernel
theorem dX4_choose_83 : decode cX4_choose 83 = .ok (.return_, 1) := by decide +kernel
theorem dX4_sum_0 : decode cX4_sum 0 = .ok (.lconst 0, 1) := by decide +kernel
theorem dX4_sum_1 : decode cX4_sum 1 = .ok (.lstore_n 1, 1) := by decide +kernel
theorem dX4_sum_2 : decode cX4_sum 2 = .ok (.iconst 0, 1) := by decide +kernel
theorem dX4_sum_3 : decode cX4_sum 3 = .ok (.istore_n 3, 1) := by decide +kernel
theorem dX4_sum_4 : decode cX4_sum 4 = .ok (.iload_n 3, 1) := by decide +kernel
theorem dX4_sum_5 : decode cX4_sum 5 = .ok (.aload_n 0, 1) := by decide +kernel
theorem dX4_sum_6 : decode cX4_sum 6 = .ok (.getfield 23, 3) := by decide +kernel
theorem dX4_sum_9 : decode cX4_sum 9 = .ok (.if_icmp .ge 39, 3) := by decide +kernel
theorem dX4_sum_12 : decode cX4_sum 12 = .ok (.lload_n 1, 1) := by decide +kernel
theorem dX4_sum_13 : decode cX4_sum 13 = .ok (.aload_n 0, 1) := by decide +kernel
theorem dX4_sum_14 : decode cX4_sum 14 = .ok (.getfield 19, 3) := by decide +kernel
theorem dX4_sum_17 : decode cX4_sum 17 = .ok (.iload_n 3, 1) := by decide +kernel
theorem dX4_sum_18 : decode cX4_sum 18 = .ok (.iaload, 1) := by decide +kernel
theorem dX4_sum_19 : decode cX4_sum 19 = .ok (.iconst (-1), 1) := by decide +kernel
theorem dX4_sum_20 : decode cX4_sum 20 = .ok (.if_icmp .ne 7, 3) := by decide +kernel
theorem dX4_sum_23 : decode cX4_sum 23 = .ok (.lconst 0, 1) := by decide +kernel
theorem dX4_sum_24 : decode cX4_sum 24 = .ok (.goto 16, 3) := by decide +kernel
theorem dX4_sum_27 : decode cX4_sum 27 = .ok (.aload_n 0, 1) := by decide +kernel
theorem dX4_sum_28 : decode cX4_sum 28 = .ok (.getfield 11, 3) := by decide +kernel
theorem dX4_sum_31 : decode cX4_sum 31 = .ok (.iload_n 3, 1) := by decide +kernel
theorem dX4_sum_32 : decode cX4_sum 32 = .ok (.aaload, 1) := by decide +kernel
theorem dX4_sum_33 : decode cX4_sum 33 = .ok (.aload_n 0, 1) := by decide +kernel
theorem dX4_sum_34 : decode cX4_sum 34 = .ok (.getfield 19, 3) := by decide +kernel
theorem dX4_sum_37 : decode cX4_sum 37 = .ok (.iload_n 3, 1) := by decide +kernel
theorem dX4_sum_38 : decode cX4_sum 38 = .ok (.iaload, 1) := by decide +kernel
theorem dX4_sum_39 : decode cX4_sum 39 = .ok (.laload, 1) := by decide +kernel
theorem dX4_sum_40 : decode cX4_sum 40 = .ok (.ladd, 1) := by decide +kernel
theorem dX4_sum_41 : decode cX4_sum 41 = .ok (.lstore_n 1, 1) := by decide +kernel
theorem dX4_sum_42 : decode cX4_sum 42 = .ok (.iinc 3 1, 3) := by decide +kernel
theorem dX4_sum_45 : decode cX4_sum 45 = .ok (.goto (-41), 3) := by decide +kernel
theorem dX4_sum_48 : decode cX4_sum 48 = .ok (.lload_n 1, 1) := by decide +kernel
theorem dX4_sum_49 : decode cX4_sum 49 = .ok (.lreturn, 1) := by decide +kernel
theorem dX4_sumUp_0 : decode cX4_sumUp 0 = .ok (.iconst 1, 1) := by decide +kernel
theorem dX4_sumUp_1 : decode cX4_sumUp 1 = .ok (.aload_n 0, 1) := by decide +kernel
theorem dX4_sumUp_2 : decode cX4_sumUp 2 = .ok (.getfield 27, 3) := by decide +kernel
theorem dX4_sumUp_5 : decode cX4_sumUp 5 = .ok (.ishl, 1) := by decide +kernel
theorem dX4_sumUp_6 : decode cX4_sumUp 6 = .ok (.istore_n 1, 1) := by decide +kernel
theorem dX4_sumUp_7 : decode cX4_sumUp 7 = .ok (.iconst 0, 1) := by decide +kernel
theorem dX4_sumUp_8 : decode cX4_sumUp 8 = .ok (.istore_n 2, 1) := by decide +kernel
theorem dX4_sumUp_9 : decode cX4_sumUp 9 = .ok (.iload_n 2, 1) := by decide +kernel
theorem dX4_sumUp_10 : decode cX4_sumUp 10 = .ok (.iload_n 1, 1) := by decide +kernel
theorem dX4_sumUp_11 : decode cX4_sumUp 11 = .ok (.if_icmp .ge 21, 3) := by decide +kernel
theorem dX4_sumUp_14 : decode cX4_sumUp 14 = .ok (.aload_n 0, 1) := by decide +kernel
theorem dX4_sumUp_15 : decode cX4_sumUp 15 = .ok (.getfield 16, 3) := by decide +kernel
theorem dX4_sumUp_18 : decode cX4_sumUp 18 = .ok (.aload_n 0, 1) := by decide +kernel
theorem dX4_sumUp_19 : decode cX4_sumUp 19 = .ok (.getfield 23, 3) := by decide +kernel
theorem dX4_sumUp_22 : decode cX4_sumUp 22 = .ok (.aaload, 1) := by decide +kernel
theorem dX4_sumUp_23 : decode cX4_sumUp 23 = .ok (.iload_n 2, 1) := by decide +kernel
theorem dX4_sumUp_24 : decode cX4_sumUp 24 = .ok (.lconst 0, 1) := by decide +kernel
theorem dX4_sumUp_25 : decode cX4_sumUp 25 = .ok (.lastore, 1) := by decide +kernel
theorem dX4_sumUp_26 : decode cX4_sumUp 26 = .ok (.iinc 2 1, 3) := by decide +kernel
theorem dX4_sumUp_29 : decode cX4_sumUp 29 = .ok (.goto (-20), 3) := by decide +kernel
theorem dX4_sumUp_32 : decode cX4_sumUp 32 = .ok (.aload_n 0, 1) := by decide +kernel
theorem dX4_sumUp_33 : decode cX4_sumUp 33 = .ok (.getfield 23, 3) := by decide +kernel
theorem dX4_sumUp_36 : decode cX4_sumUp 36 = .ok (.iconst 1, 1) := by decide +kernel
theorem dX4_sumUp_37 : decode cX4_sumUp 37 = .ok (.isub, 1) := by decide +kernel
theorem dX4_sumUp_38 : decode cX4_sumUp 38 = .ok (.istore_n 2, 1) := by decide +kernel
theorem dX4_sumUp_39 : decode cX4_sumUp 39 = .ok (.iload_n 2, 1) := by decide +kernel
theorem dX4_sumUp_40 : decode cX4_sumUp 40 = .ok (.ifCond .lt 42, 3) := by decide +kernel
theorem dX4_sumUp_43 : decode cX4_sumUp 43 = .ok (.iconst 0, 1) := by decide +kernel
theorem dX4_sumUp_44 : decode cX4_sumUp 44 = .ok (.istore_n 3, 1) := by decide +kernel
theorem dX4_sumUp_45 : decode cX4_sumUp 45 = .ok (.iload_n 3, 1) := by decide +kernel
theorem dX4_sumUp_46 : decode cX4_sumUp 46 = .ok (.iload_n 1, 1) := by decide +kernel
theorem dX4_sumUp_47 : decode cX4_sumUp 47 = .ok (.if_icmp .ge 29, 3) := by decide +kernel
theorem dX4_sumUp_50 : decode cX4_sumUp 50 = .ok (.aload_n 0, 1) := by decide +kernel
theorem dX4_sumUp_51 : decode cX4_sumUp 51 = .ok (.getfield 16, 3) := by decide +kernel
theorem dX4_sumUp_54 : decode cX4_sumUp 54 = .ok (.iload_n 2, 1) := by decide +kernel
theorem dX4_sumUp_55 : decode cX4_sumUp 55 = .ok (.aaload, 1) := by decide +kernel
theorem dX4_sumUp_56 : decode cX4_sumUp 56 = .ok (.iload_n 3, 1) := by decide +kernel
theorem dX4_sumUp_57 : decode cX4_sumUp 57 = .ok (.aload_n 0, 1) := by decide +kernel
theorem dX4_sumUp_58 : decode cX4_sumUp 58 = .ok (.iload_n 2, 1) := by decide +kernel
theorem dX4_sumUp_59 : decode cX4_sumUp 59 = .ok (.iload_n 3, 1) := by decide +kernel
theorem dX4_sumUp_60 : decode cX4_sumUp 60 = .ok (.aload_n 0, 1) := by decide +kernel
theorem dX4_sumUp_61 : decode cX4_sumUp 61 = .ok (.iload_n 2, 1) := by decide +kernel
theorem dX4_sumUp_62 : decode cX4_sumUp 62 = .ok (.iload_n 3, 1) := by decide +kernel
theorem dX4_sumUp_63 : decode cX4_sumUp 63 = .ok (.invokevirtual 39, 3) := by decide +kernel
theorem dX4_sumUp_66 : decode cX4_sumUp 66 = .ok (.invokevirtual 42, 3) := by decide +kernel
theorem dX4_sumUp_69 : decode cX4_sumUp 69 = .ok (.lastore, 1) := by decide +kernel
theorem dX4_sumUp_70 : decode cX4_sumUp 70 = .ok (.iinc 3 1, 3) := by decide +kernel
theorem dX4_sumUp_73 : decode cX4_sumUp 73 = .ok (.goto (-28), 3) := by decide +kernel
theorem dX4_sumUp_76 : decode cX4_sumUp 76 = .ok (.iinc 2 (-1), 3) := by decide +kernel
theorem dX4_sumUp_79 : decode cX4_sumUp 79 = .ok (.goto (-40), 3) := by decide +kernel
theorem dX4_sumUp_82 : decode cX4_sumUp 82 = .ok (.return_, 1) := by decide +kernel
theorem dX4_firstBest_0 : decode cX4_firstBest 0 = .ok (.iconst (-1), 1) := by decide +kernel
theorem dX4_firstBest_1 : decode cX4_firstBest 1 = .ok (.istore_n 3, 1) := by decide +kernel
theorem dX4_firstBest_2 : decode cX4_firstBest 2 = .ok (.aload_n 0, 1) := by decide +kernel
theorem dX4_firstBest_3 : decode cX4_firstBest 3 = .ok (.iload_n 1, 1) := by decide +kernel
theorem dX4_firstBest_4 : decode cX4_firstBest 4 = .ok (.iload_n 2, 1) := by decide +kernel
theorem dX4_firstBest_5 : decode cX4_firstBest 5 = .ok (.iconst (-1), 1) := by decide +kernel
theorem dX4_firstBest_6 : decode cX4_firstBest 6 = .ok (.invokevirtual 42, 3) := by decide +kernel
theorem dX4_firstBest_9 : decode cX4_firstBest 9 = .ok (.lstore 4, 2) := by decide +kernel
theorem dX4_firstBest_11 : decode cX4_firstBest 11 = .ok (.aload_n 0, 1) := by decide +kernel
theorem dX4_firstBest_12 : decode cX4_firstBest 12 = .ok (.getfield 27, 3) := by decide +kernel
theorem dX4_firstBest_15 : decode cX4_firstBest 15 = .ok (.iconst 1, 1) := by decide +kernel
theorem dX4_firstBest_16 : decode cX4_firstBest 16 = .ok (.isub, 1) := by decide +kernel
theorem dX4_firstBest_17 : decode cX4_firstBest 17 = .ok (.istore 6, 2) := by decide +kernel
theorem dX4_firstBest_19 : decode cX4_firstBest 19 = .ok (.iload 6, 2) := by decide +kernel
theorem dX4_firstBest_21 : decode cX4_firstBest 21 = .ok (.ifCond .lt 61, 3) := by decide +kernel
theorem dX4_firstBest_24 : decode cX4_firstBest 24 = .ok (.iload_n 2, 1) := by decide +kernel
theorem dX4_firstBest_25 : decode cX4_firstBest 25 = .ok (.iconst 1, 1) := by decide +kernel
theorem dX4_firstBest_26 : decode cX4_firstBest 26 = .ok (.iload 6, 2) := by decide +kernel
theorem dX4_firstBest_28 : decode cX4_firstBest 28 = .ok (.ishl, 1) := by decide +kernel
theorem dX4_firstBest_29 : decode cX4_firstBest 29 = .ok (.iand, 1) := by decide +kernel
theorem dX4_firstBest_30 : decode cX4_firstBest 30 = .ok (.ifCond .ne 46, 3) := by decide +kernel
theorem dX4_firstBest_33 : decode cX4_firstBest 33 = .ok (.aload_n 0, 1) := by decide +kernel
theorem dX4_firstBest_34 : decode cX4_firstBest 34 = .ok (.getfield 11, 3) := by decide +kernel
theorem dX4_firstBest_37 : decode cX4_firstBest 37 = .ok (.iload_n 1, 1) := by decide +kernel
theorem dX4_firstBest_38 : decode cX4_firstBest 38 = .ok (.aaload, 1) := by decide +kernel
theorem dX4_firstBest_39 : decode cX4_firstBest 39 = .ok (.iload 6, 2) := by decide +kernel
theorem dX4_firstBest_41 : decode cX4_firstBest 41 = .ok (.laload, 1) := by decide +kernel
theorem dX4_firstBest_42 : decode cX4_firstBest 42 = .ok (.ldc2_w 46, 3) := by decide +kernel
theorem dX4_firstBest_45 : decode cX4_firstBest 45 = .ok (.lcmp, 1) := by decide +kernel
theorem dX4_firstBest_46 : decode cX4_firstBest 46 = .ok (.ifCond .eq 30, 3) := by decide +kernel
theorem dX4_firstBest_49 : decode cX4_firstBest 49 = .ok (.aload_n 0, 1) := by decide +kernel
theorem dX4_firstBest_50 : decode cX4_firstBest 50 = .ok (.iload_n 1, 1) := by decide +kernel
theorem dX4_firstBest_51 : decode cX4_firstBest 51 = .ok (.iload_n 2, 1) := by decide +kernel
theorem dX4_firstBest_52 : decode cX4_firstBest 52 = .ok (.iload 6, 2) := by decide +kernel
theorem dX4_firstBest_54 : decode cX4_firstBest 54 = .ok (.invokevirtual 42, 3) := by decide +kernel
theorem dX4_firstBest_57 : decode cX4_firstBest 57 = .ok (.lload 4, 2) := by decide +kernel
theorem dX4_firstBest_59 : decode cX4_firstBest 59 = .ok (.lcmp, 1) := by decide +kernel
theorem dX4_firstBest_60 : decode cX4_firstBest 60 = .ok (.ifCond .gt 16, 3) := by decide +kernel
theorem dX4_firstBest_63 : decode cX4_firstBest 63 = .ok (.iload 6, 2) := by decide +kernel
theorem dX4_firstBest_65 : decode cX4_firstBest 65 = .ok (.istore_n 3, 1) := by decide +kernel
theorem dX4_firstBest_66 : decode cX4_firstBest 66 = .ok (.aload_n 0, 1) := by decide +kernel
theorem dX4_firstBest_67 : decode cX4_firstBest 67 = .ok (.iload_n 1, 1) := by decide +kernel
theorem dX4_firstBest_68 : decode cX4_firstBest 68 = .ok (.iload_n 2, 1) := by decide +kernel
theorem dX4_firstBest_69 : decode cX4_firstBest 69 = .ok (.iload 6, 2) := by decide +kernel
theorem dX4_firstBest_71 : decode cX4_firstBest 71 = .ok (.invokevirtual 42, 3) := by decide +kernel
theorem dX4_firstBest_74 : decode cX4_firstBest 74 = .ok (.lstore 4, 2) := by decide +kernel
theorem dX4_firstBest_76 : decode cX4_firstBest 76 = .ok (.iinc 6 (-1), 3) := by decide +kernel
theorem dX4_firstBest_79 : decode cX4_firstBest 79 = .ok (.goto (-60), 3) := by decide +kernel
theorem dX4_firstBest_82 : decode cX4_firstBest 82 = .ok (.iload_n 3, 1) := by decide +kernel
theorem dX4_firstBest_83 : decode cX4_firstBest 83 = .ok (.ireturn, 1) := by decide +kernel
theorem dX4_sumWith_0 : decode cX4_sumWith 0 = .ok (.iload_n 3, 1) := by decide +kernel
theorem dX4_sumWith_1 : decode cX4_sumWith 1 = .ok (.iconst (-1), 1) := by decide +kernel
theorem dX4_sumWith_2 : decode cX4_sumWith 2 = .ok (.if_icmp .ne 20, 3) := by decide +kernel
theorem dX4_sumWith_5 : decode cX4_sumWith 5 = .ok (.ldc2_w 48, 3) := by decide +kernel
theorem dX4_sumWith_8 : decode cX4_sumWith 8 = .ok (.aload_n 0, 1) := by decide +kernel
theorem dX4_sumWith_9 : decode cX4_sumWith 9 = .ok (.getfield 16, 3) := by decide +kernel
theorem dX4_sumWith_12 : decode cX4_sumWith 12 = .ok (.iload_n 1, 1) := by decide +kernel
theorem dX4_sumWith_13 : decode cX4_sumWith 13 = .ok (.iconst 1, 1) := by decide +kernel
theorem dX4_sumWith_14 : decode cX4_sumWith 14 = .ok (.iadd, 1) := by decide +kernel
theorem dX4_sumWith_15 : decode cX4_sumWith 15 = .ok (.aaload, 1) := by decide +kernel
theorem dX4_sumWith_16 : decode cX4_sumWith 16 = .ok (.iload_n 2, 1) := by decide +kernel
theorem dX4_sumWith_17 : decode cX4_sumWith 17 = .ok (.laload, 1) := by decide +kernel
theorem dX4_sumWith_18 : decode cX4_sumWith 18 = .ok (.ladd, 1) := by decide +kernel
theorem dX4_sumWith_19 : decode cX4_sumWith 19 = .ok (.goto 26, 3) := by decide +kernel
theorem dX4_sumWith_22 : decode cX4_sumWith 22 = .ok (.aload_n 0, 1) := by decide +kernel
theorem dX4_sumWith_23 : decode cX4_sumWith 23 = .ok (.getfield 11, 3) := by decide +kernel
theorem dX4_sumWith_26 : decode cX4_sumWith 26 = .ok (.iload_n 1, 1) := by decide +kernel
theorem dX4_sumWith_27 : decode cX4_sumWith 27 = .ok (.aaload, 1) := by decide +kernel
theorem dX4_sumWith_28 : decode cX4_sumWith 28 = .ok (.iload_n 3, 1) := by decide +kernel
theorem dX4_sumWith_29 : decode cX4_sumWith 29 = .ok (.laload, 1) := by decide +kernel
theorem dX4_sumWith_30 : decode cX4_sumWith 30 = .ok (.aload_n 0, 1) := by decide +kernel
theorem dX4_sumWith_31 : decode cX4_sumWith 31 = .ok (.getfield 16, 3) := by decide +kernel
theorem dX4_sumWith_34 : decode cX4_sumWith 34 = .ok (.iload_n 1, 1) := by decide +kernel
theorem dX4_sumWith_35 : decode cX4_sumWith 35 = .ok (.iconst 1, 1) := by decide +kernel
theorem dX4_sumWith_36 : decode cX4_sumWith 36 = .ok (.iadd, 1) := by decide +kernel
theorem dX4_sumWith_37 : decode cX4_sumWith 37 = .ok (.aaload, 1) := by decide +kernel
theorem dX4_sumWith_38 : decode cX4_sumWith 38 = .ok (.iload_n 2, 1) := by decide +kernel
theorem dX4_sumWith_39 : decode cX4_sumWith 39 = .ok (.iconst 1, 1) := by decide +kernel
theorem dX4_sumWith_40 : decode cX4_sumWith 40 = .ok (.iload_n 3, 1) := by decide +kernel
theorem dX4_sumWith_41 : decode cX4_sumWith 41 = .ok (.ishl, 1) := by decide +kernel
theorem dX4_sumWith_42 : decode cX4_sumWith 42 = .ok (.ior, 1) := by decide +kernel
theorem dX4_sumWith_43 : decode cX4_sumWith 43 = .ok (.laload, 1) := by decide +kernel
theorem dX4_sumWith_44 : decode cX4_sumWith 44 = .ok (.ladd, 1) := by decide +kernel
theorem dX4_sumWith_45 : decode cX4_sumWith 45 = .ok (.lreturn, 1) := by decide +kernel
theorem dX5_init_0 : decode cX5_init 0 = .ok (.aload_n 0, 1) := by decide +kernel
theorem dX5_init_1 : decode cX5_init 1 = .ok (.invokespecial 3, 3) := by decide +kernel
theorem dX5_init_4 : decode cX5_init 4 = .ok (.aload_n 0, 1) := by decide +kernel
theorem dX5_init_5 : decode cX5_init 5 = .ok (.iconst 0, 1) := by decide +kernel
theorem dX5_init_6 : decode cX5_init 6 = .ok (.putfield 9, 3) := by decide +kernel
theorem dX5_init_9 : decode cX5_init 9 = .ok (.aload_n 0, 1) := by decide +kernel
theorem dX5_init_10 : decode cX5_init 10 = .ok (.iload_n 1, 1) := by decide +kernel
theorem dX5_init_11 : decode cX5_init 11 = .ok (.putfield 15, 3) := by decide +kernel
theorem dX5_init_14 : decode cX5_init 14 = .ok (.aload_n 0, 1) := by decide +kernel
theorem dX5_init_15 : decode cX5_init 15 = .ok (.iload_n 1, 1) := by decide +kernel
theorem dX5_init_16 : decode cX5_init 16 = .ok (.newarray .int, 2) := by decide +kernel
theorem dX5_init_18 : decode cX5_init 18 = .ok (.putfield 18, 3) := by decide +kernel
theorem dX5_init_21 : decode cX5_init 21 = .ok (.aload_n 0, 1) := by decide +kernel
theorem dX5_init_22 : decode cX5_init 22 = .ok (.iload_n 1, 1) := by decide +kernel
theorem dX5_init_23 : decode cX5_init 23 = .ok (.newarray .int, 2) := by decide +kernel
theorem dX5_init_25 : decode cX5_init 25 = .ok (.putfield 22, 3) := by decide +kernel
theorem dX5_init_28 : decode cX5_init 28 = .ok (.aload_n 0, 1) := by decide +kernel
theorem dX5_init_29 : decode cX5_init 29 = .ok (.iload_n 1, 1) := by decide +kernel
theorem dX5_init_30 : decode cX5_init 30 = .ok (.newarray .int, 2) := by decide +kernel
theorem dX5_init_32 : decode cX5_init 32 = .ok (.putfield 25, 3) := by decide +kernel
theorem dX5_init_35 : decode cX5_init 35 = .ok (.return_, 1) := by decide +kernel
theorem dX5_numberFor_0 : decode cX5_numberFor 0 = .ok (.iconst 0, 1) := by decide +kernel
theorem dX5_numberFor_1 : decode cX5_numberFor 1 = .ok (.istore_n 2, 1) := by decide +kernel
theorem dX5_numberFor_2 : decode cX5_numberFor 2 = .ok (.iload_n 2, 1) := by decide +kernel
theorem dX5_numberFor_3 : decode cX5_numberFor 3 = .ok (.aload_n 0, 1) := by decide +kernel
theorem dX5_numberFor_4 : decode cX5_numberFor 4 = .ok (.getfield 9, 3) := by decide +kernel
theorem dX5_numberFor_7 : decode cX5_numberFor 7 = .ok (.if_icmp .ge 19, 3) := by decide +kernel
theorem dX5_numberFor_10 : decode cX5_numberFor 10 = .ok (.aload_n 0, 1) := by decide +kernel
theorem dX5_numberFor_11 : decode cX5_numberFor 11 = .ok (.getfield 18, 3) := by decide +kernel
theorem dX5_numberFor_14 : decode cX5_numberFor 14 = .ok (.iload_n 2, 1) := by decide +kernel
theorem dX5_numberFor_15 : decode cX5_numberFor 15 = .ok (.iaload, 1) := by decide +kernel
theorem dX5_numberFor_16 : decode cX5_numberFor 16 = .ok (.iload_n 1, 1) := by decide +kernel
theorem dX5_numberFor_17 : decode cX5_numberFor 17 = .ok (.if_icmp .ge 9, 3) := by decide +kernel
theorem dX5_numberFor_20 : decode cX5_numberFor 20 = .ok (.iinc 2 1, 3) := by decide +kernel
theorem dX5_numberFor_23 : decode cX5_numberFor 23 = .ok (.goto (-21), 3) := by decide +kernel
theorem dX5_numberFor_26 : decode cX5_numberFor 26 = .ok (.iload_n 2, 1) := by decide +kernel
theorem dX5_numberFor_27 : decode cX5_numberFor 27 = .ok (.ireturn, 1) := by decide +kernel
theorem dX5_hasSecond_0 : decode cX5_hasSecond 0 = .ok (.iload_n 1, 1) := by decide +kernel
theorem dX5_hasSecond_1 : decode cX5_hasSecond 1 = .ok (.aload_n 0, 1) := by decide +kernel
theorem dX5_hasSecond_2 : decode cX5_hasSecond 2 = .ok (.getfield 9, 3) := by decide +kernel
theorem dX5_hasSecond_5 : decode cX5_hasSecond 5 = .ok (.if_icmp .ge 17, 3) := by decide +kernel
theorem dX5_hasSecond_8 : decode cX5_hasSecond 8 = .ok (.aload_n 0, 1) := by decide +kernel
theorem dX5_hasSecond_9 : decode cX5_hasSecond 9 = .ok (.getfield 18, 3) := by decide +kernel
theorem dX5_hasSecond_12 : decode cX5_hasSecond 12 = .ok (.iload_n 1, 1) := by decide +kernel
theorem dX5_hasSecond_13 : decode cX5_hasSecond 13 = .ok (.iaload, 1) := by decide +kernel
theorem dX5_hasSecond_14 : decode cX5_hasSecond 14 = .ok (.iload_n 2, 1) := by decide +kernel
theorem dX5_hasSecond_15 : decode cX5_hasSecond 15 = .ok (.if_icmp .ne 7, 3) := by decide +kernel
theorem dX5_hasSecond_18 : decode cX5_hasSecond 18 = .ok (.iconst 1, 1) := by decide +kernel
theorem dX5_hasSecond_19 : decode cX5_hasSecond 19 = .ok (.goto 4, 3) := by decide +kernel
theorem dX5_hasSecond_22 : decode cX5_hasSecond 22 = .ok (.iconst 0, 1) := by decide +kernel
theorem dX5_hasSecond_23 : decode cX5_hasSecond 23 = .ok (.ireturn, 1) := by decide +kernel
theorem dX5_isAt_0 : decode cX5_isAt 0 = .ok (.aload_n 0, 1) := by decide +kernel
theorem dX5_isAt_1 : decode cX5_isAt 1 = .ok (.getfield 22, 3) := by decide +kernel
theorem dX5_isAt_4 : decode cX5_isAt 4 = .ok (.iload_n 1, 1) := by decide +kernel
theorem dX5_isAt_5 : decode cX5_isAt 5 = .ok (.iaload, 1) := by decide +kernel
theorem dX5_isAt_6 : decode cX5_isAt 6 = .ok (.iload_n 2, 1) := by decide +kernel
theorem dX5_isAt_7 : decode cX5_isAt 7 = .ok (.if_icmp .ne 17, 3) := by decide +kernel
theorem dX5_isAt_10 : decode cX5_isAt 10 = .ok (.aload_n 0, 1) := by decide +kernel
theorem dX5_isAt_11 : decode cX5_isAt 11 = .ok (.getfield 25, 3) := by decide +kernel
theorem dX5_isAt_14 : decode cX5_isAt 14 = .ok (.iload_n 1, 1) := by decide +kernel
theorem dX5_isAt_15 : decode cX5_isAt 15 = .ok (.iaload, 1) := by decide +kernel
theorem dX5_isAt_16 : decode cX5_isAt 16 = .ok (.iload_n 3, 1) := by decide +kernel
theorem dX5_isAt_17 : decode cX5_isAt 17 = .ok (.if_icmp .ne 7, 3) := by decide +kernel
theorem dX5_isAt_20 : decode cX5_isAt 20 = .ok (.iconst 1, 1) := by decide +kernel
theorem dX5_isAt_21 : decode cX5_isAt 21 = .ok (.goto 4, 3) := by decide +kernel
theorem dX5_isAt_24 : decode cX5_isAt 24 = .ok (.iconst 0, 1) := by decide +kernel
theorem dX5_isAt_25 : decode cX5_isAt 25 = .ok (.ireturn, 1) := by decide +kernel
theorem dX5_insert_0 : decode cX5_insert 0 = .ok (.aload_n 0, 1) := by decide +kernel
theorem dX5_insert_1 : decode cX5_insert 1 = .ok (.getfield 9, 3) := by decide +kernel
theorem dX5_insert_4 : decode cX5_insert 4 = .ok (.aload_n 0, 1) := by decide +kernel
theorem dX5_insert_5 : decode cX5_insert 5 = .ok (.getfield 15, 3) := by decide +kernel
theorem dX5_insert_8 : decode cX5_insert 8 = .ok (.if_icmp .lt 4, 3) := by decide +kernel
theorem dX5_insert_11 : decode cX5_insert 11 = .ok (.return_, 1) := by decide +kernel
theorem dX5_insert_12 : decode cX5_insert 12 = .ok (.aload_n 0, 1) := by decide +kernel
theorem dX5_insert_13 : decode cX5_insert 13 = .ok (.getfield 9, 3) := by decide +kernel
theorem dX5_insert_16 : decode cX5_insert 16 = .ok (.istore 5, 2) := by decide +kernel
theorem dX5_insert_18 : decode cX5_insert 18 = .ok (.iload 5, 2) := by decide +kernel
theorem dX5_insert_20 : decode cX5_insert 20 = .ok (.iload_n 1, 1) := by decide +kernel
theorem dX5_insert_21 : decode cX5_insert 21 = .ok (.if_icmp .le 57, 3) := by decide +kernel
theorem dX5_insert_24 : decode cX5_insert 24 = .ok (.aload_n 0, 1) := by decide +kernel
theorem dX5_insert_25 : decode cX5_insert 25 = .ok (.getfield 18, 3) := by decide +kernel
theorem dX5_insert_28 : decode cX5_insert 28 = .ok (.iload 5, 2) := by decide +kernel
theorem dX5_insert_30 : decode cX5_insert 30 = .ok (.aload_n 0, 1) := by decide +kernel
theorem dX5_insert_31 : decode cX5_insert 31 = .ok (.getfield 18, 3) := by decide +kernel
theorem dX5_insert_34 : decode cX5_insert 34 = .ok (.iload 5, 2) := by decide +kernel
theorem dX5_insert_36 : decode cX5_insert 36 = .ok (.iconst 1, 1) := by decide +kernel
theorem dX5_insert_37 : decode cX5_insert 37 = .ok (.isub, 1) := by decide +kernel
theorem dX5_insert_38 : decode cX5_insert 38 = .ok (.iaload, 1) := by decide +kernel
theorem dX5_insert_39 : decode cX5_insert 39 = .ok (.iastore, 1) := by decide +kernel
theorem dX5_insert_40 : decode cX5_insert 40 = .ok (.aload_n 0, 1) := by decide +kernel
theorem dX5_insert_41 : decode cX5_insert 41 = .ok (.getfield 22, 3) := by decide +kernel
theorem dX5_insert_44 : decode cX5_insert 44 = .ok (.iload 5, 2) := by decide +kernel
theorem dX5_insert_46 : decode cX5_insert 46 = .ok (.aload_n 0, 1) := by decide +kernel
theorem dX5_insert_47 : decode cX5_insert 47 = .ok (.getfield 22, 3) := by decide +kernel
theorem dX5_insert_50 : decode cX5_insert 50 = .ok (.iload 5, 2) := by decide +kernel
theorem dX5_insert_52 : decode cX5_insert 52 = .ok (.iconst 1, 1) := by decide +kernel
theorem dX5_insert_53 : decode cX5_insert 53 = .ok (.isub, 1) := by decide +kernel
theorem dX5_insert_54 : decode cX5_insert 54 = .ok (.iaload, 1) := by decide +kernel
theorem dX5_insert_55 : decode cX5_insert 55 = .ok (.iastore, 1) := by decide +kernel
theorem dX5_insert_56 : decode cX5_insert 56 = .ok (.aload_n 0, 1) := by decide +kernel
theorem dX5_insert_57 : decode cX5_insert 57 = .ok (.getfield 25, 3) := by decide +kernel
theorem dX5_insert_60 : decode cX5_insert 60 = .ok (.iload 5, 2) := by decide +kernel
theorem dX5_insert_62 : decode cX5_insert 62 = .ok (.aload_n 0, 1) := by decide +kernel
theorem dX5_insert_63 : decode cX5_insert 63 = .ok (.getfield 25, 3) := by decide +kernel
theorem dX5_insert_66 : decode cX5_insert 66 = .ok (.iload 5, 2) := by decide +kernel
theorem dX5_insert_68 : decode cX5_insert 68 = .ok (.iconst 1, 1) := by decide +kernel
theorem dX5_insert_69 : decode cX5_insert 69 = .ok (.isub, 1) := by decide +kernel
theorem dX5_insert_70 : decode cX5_insert 70 = .ok (.iaload, 1) := by decide +kernel
theorem dX5_insert_71 : decode cX5_insert 71 = .ok (.iastore, 1) := by decide +kernel
theorem dX5_insert_72 : decode cX5_insert 72 = .ok (.iinc 5 (-1), 3) := by decide +kernel
theorem dX5_insert_75 : decode cX5_insert 75 = .ok (.goto (-57), 3) := by decide +kernel
theorem dX5_insert_78 : decode cX5_insert 78 = .ok (.aload_n 0, 1) := by decide +kernel
theorem dX5_insert_79 : decode cX5_insert 79 = .ok (.getfield 18, 3) := by decide +kernel
theorem dX5_insert_82 : decode cX5_insert 82 = .ok (.iload_n 1, 1) := by decide +kernel
theorem dX5_insert_83 : decode cX5_insert 83 = .ok (.iload_n 2, 1) := by decide +kernel
theorem dX5_insert_84 : decode cX5_insert 84 = .ok (.iastore, 1) := by decide +kernel
theorem dX5_insert_85 : decode cX5_insert 85 = .ok (.aload_n 0, 1) := by decide +kernel
theorem dX5_insert_86 : decode cX5_insert 86 = .ok (.getfield 22, 3) := by decide +kernel
theorem dX5_insert_89 : decode cX5_insert 89 = .ok (.iload_n 1, 1) := by decide +kernel
theorem dX5_insert_90 : decode cX5_insert 90 = .ok (.iload_n 3, 1) := by decide +kernel
theorem dX5_insert_91 : decode cX5_insert 91 = .ok (.iastore, 1) := by decide +kernel
theorem dX5_insert_92 : decode cX5_insert 92 = .ok (.aload_n 0, 1) := by decide +kernel
theorem dX5_insert_93 : decode cX5_insert 93 = .ok (.getfield 25, 3) := by decide +kernel
theorem dX5_insert_96 : decode cX5_insert 96 = .ok (.iload_n 1, 1) := by decide +kernel
theorem dX5_insert_97 : decode cX5_insert 97 = .ok (.iload 4, 2) := by decide +kernel
theorem dX5_insert_99 : decode cX5_insert 99 = .ok (.iastore, 1) := by decide +kernel
theorem dX5_insert_100 : decode cX5_insert 100 = .ok (.aload_n 0, 1) := by decide +kernel
theorem dX5_insert_101 : decode cX5_insert 101 = .ok (.dup, 1) := by decide +kernel
theorem dX5_insert_102 : decode cX5_insert 102 = .ok (.getfield 9, 3) := by decide +kernel
theorem dX5_insert_105 : decode cX5_insert 105 = .ok (.iconst 1, 1) := by decide +kernel
theorem dX5_insert_106 : decode cX5_insert 106 = .ok (.iadd, 1) := by decide +kernel
theorem dX5_insert_107 : decode cX5_insert 107 = .ok (.putfield 9, 3) := by decide +kernel
theorem dX5_insert_110 : decode cX5_insert 110 = .ok (.return_, 1) := by decide +kernel
theorem dX5_mayFollow_0 : decode cX5_mayFollow 0 = .ok (.aload_n 0, 1) := by decide +kernel
theorem dX5_mayFollow_1 : decode cX5_mayFollow 1 = .ok (.getfield 9, 3) := by decide +kernel
theorem dX5_mayFollow_4 : decode cX5_mayFollow 4 = .ok (.ifCond .eq 18, 3) := by decide +kernel
theorem dX5_mayFollow_7 : decode cX5_mayFollow 7 = .ok (.iload_n 1, 1) := by decide +kernel
theorem dX5_mayFollow_8 : decode cX5_mayFollow 8 = .ok (.aload_n 0, 1) := by decide +kernel
theorem dX5_mayFollow_9 : decode cX5_mayFollow 9 = .ok (.getfield 18, 3) := by decide +kernel
theorem dX5_mayFollow_12 : decode cX5_mayFollow 12 = .ok (.aload_n 0, 1) := by decide +kernel
theorem dX5_mayFollow_13 : decode cX5_mayFollow 13 = .ok (.getfield 9, 3) := by decide +kernel
theorem dX5_mayFollow_16 : decode cX5_mayFollow 16 = .ok (.iconst 1, 1) := by decide +kernel
theorem dX5_mayFollow_17 : decode cX5_mayFollow 17 = .ok (.isub, 1) := by decide +kernel
theorem dX5_mayFollow_18 : decode cX5_mayFollow 18 = .ok (.iaload, 1) := by decide +kernel
theorem dX5_mayFollow_19 : decode cX5_mayFollow 19 = .ok (.if_icmp .le 7, 3) := by decide +kernel
theorem dX5_mayFollow_22 : decode cX5_mayFollow 22 = .ok (.iconst 1, 1) := by decide +kernel
theorem dX5_mayFollow_23 : decode cX5_mayFollow 23 = .ok (.goto 4, 3) := by decide +kernel
theorem dX5_mayFollow_26 : decode cX5_mayFollow 26 = .ok (.iconst 0, 1) := by decide +kernel
theorem dX5_mayFollow_27 : decode cX5_mayFollow 27 = .ok (.istore 4, 2) := by decide +kernel
theorem dX5_mayFollow_29 : decode cX5_mayFollow 29 = .ok (.iload 4, 2) := by decide +kernel
theorem dX5_mayFollow_31 : decode cX5_mayFollow 31 = .ok (.ifCond .eq 16, 3) := by decide +kernel
theorem dX5_mayFollow_34 : decode cX5_mayFollow 34 = .ok (.iload_n 1, 1) := by decide +kernel
theorem dX5_mayFollow_35 : decode cX5_mayFollow 35 = .ok (.iload_n 2, 1) := by decide +kernel
theorem dX5_mayFollow_36 : decode cX5_mayFollow 36 = .ok (.iload_n 3, 1) := by decide +kernel
theorem dX5_mayFollow_37 : decode cX5_mayFollow 37 = .ok (.invokestatic 28, 3) := by decide +kernel
theorem dX5_mayFollow_40 : decode cX5_mayFollow 40 = .ok (.ifCond .eq 7, 3) := by decide +kernel
theorem dX5_mayFollow_43 : decode cX5_mayFollow 43 = .ok (.iconst 1, 1) := by decide +kernel
theorem dX5_mayFollow_44 : decode cX5_mayFollow 44 = .ok (.goto 4, 3) := by decide +kernel
theorem dX5_mayFollow_47 : decode cX5_mayFollow 47 = .ok (.iconst 0, 1) := by decide +kernel
theorem dX5_mayFollow_48 : decode cX5_mayFollow 48 = .ok (.ireturn, 1) := by decide +kernel
theorem dX5_becomeAs_0 : decode cX5_becomeAs 0 = .ok (.aload_n 0, 1) := by decide +kernel
theorem dX5_becomeAs_1 : decode cX5_becomeAs 1 = .ok (.iconst 0, 1) := by decide +kernel
theorem dX5_becomeAs_2 : decode cX5_becomeAs 2 = .ok (.putfield 9, 3) := by decide +kernel
theorem dX5_becomeAs_5 : decode cX5_becomeAs 5 = .ok (.iconst 0, 1) := by decide +kernel
theorem dX5_becomeAs_6 : decode cX5_becomeAs 6 = .ok (.istore_n 2, 1) := by decide +kernel
theorem dX5_becomeAs_7 : decode cX5_becomeAs 7 = .ok (.iload_n 2, 1) := by decide +kernel
theorem dX5_becomeAs_8 : decode cX5_becomeAs 8 = .ok (.aload_n 1, 1) := by decide +kernel
theorem dX5_becomeAs_9 : decode cX5_becomeAs 9 = .ok (.getfield 9, 3) := by decide +kernel
theorem dX5_becomeAs_12 : decode cX5_becomeAs 12 = .ok (.if_icmp .ge 32, 3) := by decide +kernel
theorem dX5_becomeAs_15 : decode cX5_becomeAs 15 = .ok (.aload_n 0, 1) := by decide +kernel
theorem dX5_becomeAs_16 : decode cX5_becomeAs 16 = .ok (.iload_n 2, 1) := by decide +kernel
theorem dX5_becomeAs_17 : decode cX5_becomeAs 17 = .ok (.aload_n 1, 1) := by decide +kernel
theorem dX5_becomeAs_18 : decode cX5_becomeAs 18 = .ok (.getfield 18, 3) := by decide +kernel
theorem dX5_becomeAs_21 : decode cX5_becomeAs 21 = .ok (.iload_n 2, 1) := by decide +kernel
theorem dX5_becomeAs_22 : decode cX5_becomeAs 22 = .ok (.iaload, 1) := by decide +kernel
theorem dX5_becomeAs_23 : decode cX5_becomeAs 23 = .ok (.aload_n 1, 1) := by decide +kernel
theorem dX5_becomeAs_24 : decode cX5_becomeAs 24 = .ok (.getfield 22, 3) := by decide +kernel
theorem dX5_becomeAs_27 : decode cX5_becomeAs 27 = .ok (.iload_n 2, 1) := by decide +kernel
theorem dX5_becomeAs_28 : decode cX5_becomeAs 28 = .ok (.iaload, 1) := by decide +kernel
theorem dX5_becomeAs_29 : decode cX5_becomeAs 29 = .ok (.aload_n 1, 1) := by decide +kernel
theorem dX5_becomeAs_30 : decode cX5_becomeAs 30 = .ok (.getfield 25, 3) := by decide +kernel
theorem dX5_becomeAs_33 : decode cX5_becomeAs 33 = .ok (.iload_n 2, 1) := by decide +kernel
theorem dX5_becomeAs_34 : decode cX5_becomeAs 34 = .ok (.iaload, 1) := by decide +kernel
theorem dX5_becomeAs_35 : decode cX5_becomeAs 35 = .ok (.invokevirtual 32, 3) := by decide +kernel
theorem dX5_becomeAs_38 : decode cX5_becomeAs 38 = .ok (.iinc 2 1, 3) := by decide +kernel
theorem dX5_becomeAs_41 : decode cX5_becomeAs 41 = .ok (.goto (-34), 3) := by decide +kernel
theorem dX5_becomeAs_44 : decode cX5_becomeAs 44 = .ok (.return_, 1) := by decide +kernel
theorem dX5_squareTo_0 : decode cX5_squareTo 0 = .ok (.iload_n 2, 1) := by decide +kernel
theorem dX5_squareTo_1 : decode cX5_squareTo 1 = .ok (.i2l, 1) := by decide +kernel
theorem dX5_squareTo_2 : decode cX5_squareTo 2 = .ok (.aload_n 0, 1) := by decide +kernel
theorem dX5_squareTo_3 : decode cX5_squareTo 3 = .ok (.getfield 22, 3) := by decide +kernel
theorem dX5_squareTo_6 : decode cX5_squareTo 6 = .ok (.iload_n 1, 1) := by decide +kernel
theorem dX5_squareTo_7 : decode cX5_squareTo 7 = .ok (.iaload, 1) := by decide +kernel
theorem dX5_squareTo_8 : decode cX5_squareTo 8 = .ok (.i2l, 1) := by decide +kernel
theorem dX5_squareTo_9 : decode cX5_squareTo 9 = .ok (.lsub, 1) := by decide +kernel
theorem dX5_squareTo_10 : decode cX5_squareTo 10 = .ok (.lstore 4, 2) := by decide +kernel
theorem dX5_squareTo_12 : decode cX5_squareTo 12 = .ok (.iload_n 3, 1) := by decide +kernel
theorem dX5_squareTo_13 : decode cX5_squareTo 13 = .ok (.i2l, 1) := by decide +kernel
theorem dX5_squareTo_14 : decode cX5_squareTo 14 = .ok (.aload_n 0, 1) := by decide +kernel
theorem dX5_squareTo_15 : decode cX5_squareTo 15 = .ok (.getfield 25, 3) := by decide +kernel
theorem dX5_squareTo_18 : decode cX5_squareTo 18 = .ok (.iload_n 1, 1) := by decide +kernel
theorem dX5_squareTo_19 : decode cX5_squareTo 19 = .ok (.iaload, 1) := by decide +kernel
theorem dX5_squareTo_20 : decode cX5_squareTo 20 = .ok (.i2l, 1) := by decide +kernel
theorem dX5_squareTo_21 : decode cX5_squareTo 21 = .ok (.lsub, 1) := by decide +kernel
theorem dX5_squareTo_22 : decode cX5_squareTo 22 = .ok (.lstore 6, 2) := by decide +kernel
theorem dX5_squareTo_24 : decode cX5_squareTo 24 = .ok (.lload 4, 2) := by decide +kernel
theorem dX5_squareTo_26 : decode cX5_squareTo 26 = .ok (.lload 4, 2) := by decide +kernel
theorem dX5_squareTo_28 : decode cX5_squareTo 28 = .ok (.lmul, 1) := by decide +kernel
theorem dX5_squareTo_29 : decode cX5_squareTo 29 = .ok (.lload 6, 2) := by decide +kernel
theorem dX5_squareTo_31 : decode cX5_squareTo 31 = .ok (.lload 6, 2) := by decide +kernel
theorem dX5_squareTo_33 : decode cX5_squareTo 33 = .ok (.lmul, 1) := by decide +kernel
theorem dX5_squareTo_34 : decode cX5_squareTo 34 = .ok (.ladd, 1) := by decide +kernel
theorem dX5_squareTo_35 : decode cX5_squareTo 35 = .ok (.lreturn, 1) := by decide +kernel
theorem dX5_squareToCell_0 : decode cX5_squareToCell 0 = .ok (.aload_n 0, 1) := by decide +kernel
theorem dX5_squareToCell_1 : decode cX5_squareToCell 1 = .ok (.iload_n 1, 1) := by decide +kernel
theorem dX5_squareToCell_2 : decode cX5_squareToCell 2 = .ok (.aload_n 0, 1) := by decide +kernel
theorem dX5_squareToCell_3 : decode cX5_squareToCell 3 = .ok (.getfield 22, 3) := by decide +kernel
theorem dX5_squareToCell_6 : decode cX5_squareToCell 6 = .ok (.iload_n 1, 1) := by decide +kernel
theorem dX5_squareToCell_7 : decode cX5_squareToCell 7 = .ok (.iaload, 1) := by decide +kernel
theorem dX5_squareToCell_8 : decode cX5_squareToCell 8 = .ok (.iload_n 2, 1) := by decide +kernel
theorem dX5_squareToCell_9 : decode cX5_squareToCell 9 = .ok (.invokestatic 36, 3) := by decide +kernel
theorem dX5_squareToCell_12 : decode cX5_squareToCell 12 = .ok (.aload_n 0, 1) := by decide +kernel
theorem dX5_squareToCell_13 : decode cX5_squareToCell 13 = .ok (.getfield 25, 3) := by decide +kernel
theorem dX5_squareToCell_16 : decode cX5_squareToCell 16 = .ok (.iload_n 1, 1) := by decide +kernel
theorem dX5_squareToCell_17 : decode cX5_squareToCell 17 = .ok (.iaload, 1) := by decide +kernel
theorem dX5_squareToCell_18 : decode cX5_squareToCell 18 = .ok (.iload_n 3, 1) := by decide +kernel
theorem dX5_squareToCell_19 : decode cX5_squareToCell 19 = .ok (.invokestatic 36, 3) := by decide +kernel
theorem dX5_squareToCell_22 : decode cX5_squareToCell 22 = .ok (.invokevirtual 40, 3) := by decide +kernel
theorem dX5_squareToCell_25 : decode cX5_squareToCell 25 = .ok (.lreturn, 1) := by decide +kernel
theorem dX5_nearestInCell_0 : decode cX5_nearestInCell 0 = .ok (.sipush 1000, 3) := by decide +kernel
theorem dX5_nearestInCell_3 : decode cX5_nearestInCell 3 = .ok (.iload_n 1, 1) := by decide +kernel
theorem dX5_nearestInCell_4 : decode cX5_nearestInCell 4 = .ok (.imul, 1) := by decide +kernel
theorem dX5_nearestInCell_5 : decode cX5_nearestInCell 5 = .ok (.istore_n 2, 1) := by decide +kernel
theorem dX5_nearestInCell_6 : decode cX5_nearestInCell 6 = .ok (.iload_n 2, 1) := by decide +kernel
theorem dX5_nearestInCell_7 : decode cX5_nearestInCell 7 = .ok (.iload_n 0, 1) := by decide +kernel
theorem dX5_nearestInCell_8 : decode cX5_nearestInCell 8 = .ok (.iload_n 2, 1) := by decide +kernel
theorem dX5_nearestInCell_9 : decode cX5_nearestInCell 9 = .ok (.sipush 1000, 3) := by decide +kernel
theorem dX5_nearestInCell_12 : decode cX5_nearestInCell 12 = .ok (.iadd, 1) := by decide +kernel
theorem dX5_nearestInCell_13 : decode cX5_nearestInCell 13 = .ok (.iconst 1, 1) := by decide +kernel
theorem dX5_nearestInCell_14 : decode cX5_nearestInCell 14 = .ok (.isub, 1) := by decide +kernel
theorem dX5_nearestInCell_15 : decode cX5_nearestInCell 15 = .ok (.invokestatic 44, 3) := by decide +kernel
theorem dX5_nearestInCell_18 : decode cX5_nearestInCell 18 = .ok (.invokestatic 49, 3) := by decide +kernel
theorem dX5_nearestInCell_21 : decode cX5_nearestInCell 21 = .ok (.ireturn, 1) := by decide +kernel
theorem dX5_firstRepeat_0 : decode cX5_firstRepeat 0 = .ok (.iload_n 1, 1) := by decide +kernel
theorem dX5_firstRepeat_1 : decode cX5_firstRepeat 1 = .ok (.istore_n 2, 1) := by decide +kernel
theorem dX5_firstRepeat_2 : decode cX5_firstRepeat 2 = .ok (.iload_n 2, 1) := by decide +kernel
theorem dX5_firstRepeat_3 : decode cX5_firstRepeat 3 = .ok (.iload_n 1, 1) := by decide +kernel
theorem dX5_firstRepeat_4 : decode cX5_firstRepeat 4 = .ok (.iadd, 1) := by decide +kernel
theorem dX5_firstRepeat_5 : decode cX5_firstRepeat 5 = .ok (.aload_n 0, 1) := by decide +kernel
theorem dX5_firstRepeat_6 : decode cX5_firstRepeat 6 = .ok (.getfield 9, 3) := by decide +kernel
theorem dX5_firstRepeat_9 : decode cX5_firstRepeat 9 = .ok (.if_icmp .ge 36, 3) := by decide +kernel
theorem dX5_firstRepeat_12 : decode cX5_firstRepeat 12 = .ok (.iconst 0, 1) := by decide +kernel
theorem dX5_firstRepeat_13 : decode cX5_firstRepeat 13 = .ok (.istore_n 3, 1) := by decide +kernel
theorem dX5_firstRepeat_14 : decode cX5_firstRepeat 14 = .ok (.iload_n 3, 1) := by decide +kernel
theorem dX5_firstRepeat_15 : decode cX5_firstRepeat 15 = .ok (.iload_n 1, 1) := by decide +kernel
theorem dX5_firstRepeat_16 : decode cX5_firstRepeat 16 = .ok (.iadd, 1) := by decide +kernel
theorem dX5_firstRepeat_17 : decode cX5_firstRepeat 17 = .ok (.iload_n 2, 1) := by decide +kernel
theorem dX5_firstRepeat_18 : decode cX5_firstRepeat 18 = .ok (.if_icmp .gt 21, 3) := by decide +kernel
theorem dX5_firstRepeat_21 : decode cX5_firstRepeat 21 = .ok (.aload_n 0, 1) := by decide +kernel
theorem dX5_firstRepeat_22 : decode cX5_firstRepeat 22 = .ok (.iload_n 3, 1) := by decide +kernel
theorem dX5_firstRepeat_23 : decode cX5_firstRepeat 23 = .ok (.iload_n 2, 1) := by decide +kernel
theorem dX5_firstRepeat_24 : decode cX5_firstRepeat 24 = .ok (.iload_n 1, 1) := by decide +kernel
theorem dX5_firstRepeat_25 : decode cX5_firstRepeat 25 = .ok (.invokevirtual 52, 3) := by decide +kernel
theorem dX5_firstRepeat_28 : decode cX5_firstRepeat 28 = .ok (.ifCond .eq 5, 3) := by decide +kernel
theorem dX5_firstRepeat_31 : decode cX5_firstRepeat 31 = .ok (.iload_n 2, 1) := by decide +kernel
theorem dX5_firstRepeat_32 : decode cX5_firstRepeat 32 = .ok (.ireturn, 1) := by decide +kernel
theorem dX5_firstRepeat_33 : decode cX5_firstRepeat 33 = .ok (.iinc 3 1, 3) := by decide +kernel
theorem dX5_firstRepeat_36 : decode cX5_firstRepeat 36 = .ok (.goto (-22), 3) := by decide +kernel
theorem dX5_firstRepeat_39 : decode cX5_firstRepeat 39 = .ok (.iinc 2 1, 3) := by decide +kernel
theorem dX5_firstRepeat_42 : decode cX5_firstRepeat 42 = .ok (.goto (-40), 3) := by decide +kernel
theorem dX5_firstRepeat_45 : decode cX5_firstRepeat 45 = .ok (.iconst (-1), 1) := by decide +kernel
theorem dX5_firstRepeat_46 : decode cX5_firstRepeat 46 = .ok (.ireturn, 1) := by decide +kernel
theorem dX5_sameSteps_0 : decode cX5_sameSteps 0 = .ok (.iconst 0, 1) := by decide +kernel
theorem dX5_sameSteps_1 : decode cX5_sameSteps 1 = .ok (.istore 4, 2) := by decide +kernel
theorem dX5_sameSteps_3 : decode cX5_sameSteps 3 = .ok (.iload 4, 2) := by decide +kernel
theorem dX5_sameSteps_5 : decode cX5_sameSteps 5 = .ok (.iload_n 3, 1) := by decide +kernel
theorem dX5_sameSteps_6 : decode cX5_sameSteps 6 = .ok (.if_icmp .ge 26, 3) := by decide +kernel
theorem dX5_sameSteps_9 : decode cX5_sameSteps 9 = .ok (.aload_n 0, 1) := by decide +kernel
theorem dX5_sameSteps_10 : decode cX5_sameSteps 10 = .ok (.iload_n 1, 1) := by decide +kernel
theorem dX5_sameSteps_11 : decode cX5_sameSteps 11 = .ok (.iload 4, 2) := by decide +kernel
theorem dX5_sameSteps_13 : decode cX5_sameSteps 13 = .ok (.iadd, 1) := by decide +kernel
theorem dX5_sameSteps_14 : decode cX5_sameSteps 14 = .ok (.iload_n 2, 1) := by decide +kernel
theorem dX5_sameSteps_15 : decode cX5_sameSteps 15 = .ok (.iload 4, 2) := by decide +kernel
theorem dX5_sameSteps_17 : decode cX5_sameSteps 17 = .ok (.iadd, 1) := by decide +kernel
theorem dX5_sameSteps_18 : decode cX5_sameSteps 18 = .ok (.invokevirtual 55, 3) := by decide +kernel
theorem dX5_sameSteps_21 : decode cX5_sameSteps 21 = .ok (.ifCond .ne 5, 3) := by decide +kernel
theorem dX5_sameSteps_24 : decode cX5_sameSteps 24 = .ok (.iconst 0, 1) := by decide +kernel
theorem dX5_sameSteps_25 : decode cX5_sameSteps 25 = .ok (.ireturn, 1) := by decide +kernel
theorem dX5_sameSteps_26 : decode cX5_sameSteps 26 = .ok (.iinc 4 1, 3) := by decide +kernel
theorem dX5_sameSteps_29 : decode cX5_sameSteps 29 = .ok (.goto (-26), 3) := by decide +kernel
theorem dX5_sameSteps_32 : decode cX5_sameSteps 32 = .ok (.iconst 1, 1) := by decide +kernel
theorem dX5_sameSteps_33 : decode cX5_sameSteps 33 = .ok (.ireturn, 1) := by decide +kernel
theorem dX5_sameStep_0 : decode cX5_sameStep 0 = .ok (.aload_n 0, 1) := by decide +kernel
theorem dX5_sameStep_1 : decode cX5_sameStep 1 = .ok (.getfield 18, 3) := by decide +kernel
theorem dX5_sameStep_4 : decode cX5_sameStep 4 = .ok (.iload_n 1, 1) := by decide +kernel
theorem dX5_sameStep_5 : decode cX5_sameStep 5 = .ok (.iconst 1, 1) := by decide +kernel
theorem dX5_sameStep_6 : decode cX5_sameStep 6 = .ok (.iadd, 1) := by decide +kernel
theorem dX5_sameStep_7 : decode cX5_sameStep 7 = .ok (.iaload, 1) := by decide +kernel
theorem dX5_sameStep_8 : decode cX5_sameStep 8 = .ok (.aload_n 0, 1) := by decide +kernel
theorem dX5_sameStep_9 : decode cX5_sameStep 9 = .ok (.getfield 18, 3) := by decide +kernel
theorem dX5_sameStep_12 : decode cX5_sameStep 12 = .ok (.iload_n 1, 1) := by decide +kernel
theorem dX5_sameStep_13 : decode cX5_sameStep 13 = .ok (.iaload, 1) := by decide +kernel
theorem dX5_sameStep_14 : decode cX5_sameStep 14 = .ok (.isub, 1) := by decide +kernel
theorem dX5_sameStep_15 : decode cX5_sameStep 15 = .ok (.aload_n 0, 1) := by decide +kernel
theorem dX5_sameStep_16 : decode cX5_sameStep 16 = .ok (.getfield 18, 3) := by decide +kernel
theorem dX5_sameStep_19 : decode cX5_sameStep 19 = .ok (.iload_n 2, 1) := by decide +kernel
theorem dX5_sameStep_20 : decode cX5_sameStep 20 = .ok (.iconst 1, 1) := by decide +kernel
theorem dX5_sameStep_21 : decode cX5_sameStep 21 = .ok (.iadd, 1) := by decide +kernel
theorem dX5_sameStep_22 : decode cX5_sameStep 22 = .ok (.iaload, 1) := by decide +kernel
theorem dX5_sameStep_23 : decode cX5_sameStep 23 = .ok (.aload_n 0, 1) := by decide +kernel
theorem dX5_sameStep_24 : decode cX5_sameStep 24 = .ok (.getfield 18, 3) := by decide +kernel
theorem dX5_sameStep_27 : decode cX5_sameStep 27 = .ok (.iload_n 2, 1) := by decide +kernel
theorem dX5_sameStep_28 : decode cX5_sameStep 28 = .ok (.iaload, 1) := by decide +kernel
theorem dX5_sameStep_29 : decode cX5_sameStep 29 = .ok (.isub, 1) := by decide +kernel
theorem dX5_sameStep_30 : decode cX5_sameStep 30 = .ok (.if_icmp .ne 73, 3) := by decide +kernel
theorem dX5_sameStep_33 : decode cX5_sameStep 33 = .ok (.aload_n 0, 1) := by decide +kernel
theorem dX5_sameStep_34 : decode cX5_sameStep 34 = .ok (.getfield 22, 3) := by decide +kernel
theorem dX5_sameStep_37 : decode cX5_sameStep 37 = .ok (.iload_n 1, 1) := by decide +kernel
theorem dX5_sameStep_38 : decode cX5_sameStep 38 = .ok (.iconst 1, 1) := by decide +kernel
theorem dX5_sameStep_39 : decode cX5_sameStep 39 = .ok (.iadd, 1) := by decide +kernel
theorem dX5_sameStep_40 : decode cX5_sameStep 40 = .ok (.iaload, 1) := by decide +kernel
theorem dX5_sameStep_41 : decode cX5_sameStep 41 = .ok (.aload_n 0, 1) := by decide +kernel
theorem dX5_sameStep_42 : decode cX5_sameStep 42 = .ok (.getfield 22, 3) := by decide +kernel
theorem dX5_sameStep_45 : decode cX5_sameStep 45 = .ok (.iload_n 1, 1) := by decide +kernel
theorem dX5_sameStep_46 : decode cX5_sameStep 46 = .ok (.iaload, 1) := by decide +kernel
theorem dX5_sameStep_47 : decode cX5_sameStep 47 = .ok (.isub, 1) := by decide +kernel
theorem dX5_sameStep_48 : decode cX5_sameStep 48 = .ok (.aload_n 0, 1) := by decide +kernel
theorem dX5_sameStep_49 : decode cX5_sameStep 49 = .ok (.getfield 22, 3) := by decide +kernel
theorem dX5_sameStep_52 : decode cX5_sameStep 52 = .ok (.iload_n 2, 1) := by decide +kernel
theorem dX5_sameStep_53 : decode cX5_sameStep 53 = .ok (.iconst 1, 1) := by decide +kernel
theorem dX5_sameStep_54 : decode cX5_sameStep 54 = .ok (.iadd, 1) := by decide +kernel
theorem dX5_sameStep_55 : decode cX5_sameStep 55 = .ok (.iaload, 1) := by decide +kernel
theorem dX5_sameStep_56 : decode cX5_sameStep 56 = .ok (.aload_n 0, 1) := by decide +kernel
theorem dX5_sameStep_57 : decode cX5_sameStep 57 = .ok (.getfield 22, 3) := by decide +kernel
theorem dX5_sameStep_60 : decode cX5_sameStep 60 = .ok (.iload_n 2, 1) := by decide +kernel
theorem dX5_sameStep_61 : decode cX5_sameStep 61 = .ok (.iaload, 1) := by decide +kernel
theorem dX5_sameStep_62 : decode cX5_sameStep 62 = .ok (.isub, 1) := by decide +kernel
theorem dX5_sameStep_63 : decode cX5_sameStep 63 = .ok (.if_icmp .ne 40, 3) := by decide +kernel
theorem dX5_sameStep_66 : decode cX5_sameStep 66 = .ok (.aload_n 0, 1) := by decide +kernel
theorem dX5_sameStep_67 : decode cX5_sameStep 67 = .ok (.getfield 25, 3) := by decide +kernel
theorem dX5_sameStep_70 : decode cX5_sameStep 70 = .ok (.iload_n 1, 1) := by decide +kernel
theorem dX5_sameStep_71 : decode cX5_sameStep 71 = .ok (.iconst 1, 1) := by decide +kernel
theorem dX5_sameStep_72 : decode cX5_sameStep 72 = .ok (.iadd, 1) := by decide +kernel
theorem dX5_sameStep_73 : decode cX5_sameStep 73 = .ok (.iaload, 1) := by decide +kernel
theorem dX5_sameStep_74 : decode cX5_sameStep 74 = .ok (.aload_n 0, 1) := by decide +kernel
theorem dX5_sameStep_75 : decode cX5_sameStep 75 = .ok (.getfield 25, 3) := by decide +kernel
theorem dX5_sameStep_78 : decode cX5_sameStep 78 = .ok (.iload_n 1, 1) := by decide +kernel
theorem dX5_sameStep_79 : decode cX5_sameStep 79 = .ok (.iaload, 1) := by decide +kernel
theorem dX5_sameStep_80 : decode cX5_sameStep 80 = .ok (.isub, 1) := by decide +kernel
theorem dX5_sameStep_81 : decode cX5_sameStep 81 = .ok (.aload_n 0, 1) := by decide +kernel
theorem dX5_sameStep_82 : decode cX5_sameStep 82 = .ok (.getfield 25, 3) := by decide +kernel
theorem dX5_sameStep_85 : decode cX5_sameStep 85 = .ok (.iload_n 2, 1) := by decide +kernel
theorem dX5_sameStep_86 : decode cX5_sameStep 86 = .ok (.iconst 1, 1) := by decide +kernel
theorem dX5_sameStep_87 : decode cX5_sameStep 87 = .ok (.iadd, 1) := by decide +kernel
theorem dX5_sameStep_88 : decode cX5_sameStep 88 = .ok (.iaload, 1) := by decide +kernel
theorem dX5_sameStep_89 : decode cX5_sameStep 89 = .ok (.aload_n 0, 1) := by decide +kernel
theorem dX5_sameStep_90 : decode cX5_sameStep 90 = .ok (.getfield 25, 3) := by decide +kernel
theorem dX5_sameStep_93 : decode cX5_sameStep 93 = .ok (.iload_n 2, 1) := by decide +kernel
theorem dX5_sameStep_94 : decode cX5_sameStep 94 = .ok (.iaload, 1) := by decide +kernel
theorem dX5_sameStep_95 : decode cX5_sameStep 95 = .ok (.isub, 1) := by decide +kernel
theorem dX5_sameStep_96 : decode cX5_sameStep 96 = .ok (.if_icmp .ne 7, 3) := by decide +kernel
theorem dX5_sameStep_99 : decode cX5_sameStep 99 = .ok (.iconst 1, 1) := by decide +kernel
theorem dX5_sameStep_100 : decode cX5_sameStep 100 = .ok (.goto 4, 3) := by decide +kernel
theorem dX5_sameStep_103 : decode cX5_sameStep 103 = .ok (.iconst 0, 1) := by decide +kernel
theorem dX5_sameStep_104 : decode cX5_sameStep 104 = .ok (.ireturn, 1) := by decide +kernel
theorem dX6_init_0 : decode cX6_init 0 = .ok (.aload_n 0, 1) := by decide +kernel
theorem dX6_init_1 : decode cX6_init 1 = .ok (.invokespecial 1, 3) := by decide +kernel
theorem dX6_init_4 : decode cX6_init 4 = .ok (.aload_n 0, 1) := by decide +kernel
theorem dX6_init_5 : decode cX6_init 5 = .ok (.iconst 5, 1) := by decide +kernel
theorem dX6_init_6 : decode cX6_init 6 = .ok (.anewarray 9, 3) := by decide +kernel
theorem dX6_init_9 : decode cX6_init 9 = .ok (.putfield 11, 3) := by decide +kernel
theorem dX6_init_12 : decode cX6_init 12 = .ok (.aload_n 0, 1) := by decide +kernel
theorem dX6_init_13 : decode cX6_init 13 = .ok (.iconst 4, 1) := by decide +kernel
theorem dX6_init_14 : decode cX6_init 14 = .ok (.anewarray 15, 3) := by decide +kernel
theorem dX6_init_17 : decode cX6_init 17 = .ok (.putfield 17, 3) := by decide +kernel
theorem dX6_init_20 : decode cX6_init 20 = .ok (.aload_n 0, 1) := by decide +kernel
theorem dX6_init_21 : decode cX6_init 21 = .ok (.new 21, 3) := by decide +kernel
theorem dX6_init_24 : decode cX6_init 24 = .ok (.dup, 1) := by decide +kernel
theorem dX6_init_25 : decode cX6_init 25 = .ok (.iconst 5, 1) := by decide +kernel
theorem dX6_init_26 : decode cX6_init 26 = .ok (.invokespecial 23, 3) := by decide +kernel
theorem dX6_init_29 : decode cX6_init 29 = .ok (.putfield 26, 3) := by decide +kernel
theorem dX6_init_32 : decode cX6_init 32 = .ok (.aload_n 0, 1) := by decide +kernel
theorem dX6_init_33 : decode cX6_init 33 = .ok (.new 30, 3) := by decide +kernel
theorem dX6_init_36 : decode cX6_init 36 = .ok (.dup, 1) := by decide +kernel
theorem dX6_init_37 : decode cX6_init 37 = .ok (.invokespecial 32, 3) := by decide +kernel
theorem dX6_init_40 : decode cX6_init 40 = .ok (.putfield 33, 3) := by decide +kernel
theorem dX6_init_43 : decode cX6_init 43 = .ok (.aload_n 0, 1) := by decide +kernel
theorem dX6_init_44 : decode cX6_init 44 = .ok (.new 37, 3) := by decide +kernel
theorem dX6_init_47 : decode cX6_init 47 = .ok (.dup, 1) := by decide +kernel
theorem dX6_init_48 : decode cX6_init 48 = .ok (.invokespecial 39, 3) := by decide +kernel
theorem dX6_init_51 : decode cX6_init 51 = .ok (.putfield 40, 3) := by decide +kernel
theorem dX6_init_54 : decode cX6_init 54 = .ok (.aload_n 0, 1) := by decide +kernel
theorem dX6_init_55 : decode cX6_init 55 = .ok (.new 37, 3) := by decide +kernel
theorem dX6_init_58 : decode cX6_init 58 = .ok (.dup, 1) := by decide +kernel
theorem dX6_init_59 : decode cX6_init 59 = .ok (.invokespecial 39, 3) := by decide +kernel
theorem dX6_init_62 : decode cX6_init 62 = .ok (.putfield 44, 3) := by decide +kernel
theorem dX6_init_65 : decode cX6_init 65 = .ok (.aload_n 0, 1) := by decide +kernel
theorem dX6_init_66 : decode cX6_init 66 = .ok (.new 21, 3) := by decide +kernel
theorem dX6_init_69 : decode cX6_init 69 = .ok (.dup, 1) := by decide +kernel
theorem dX6_init_70 : decode cX6_init 70 = .ok (.bipush 60, 2) := by decide +kernel
theorem dX6_init_72 : decode cX6_init 72 = .ok (.invokespecial 23, 3) := by decide +kernel
theorem dX6_init_75 : decode cX6_init 75 = .ok (.putfield 47, 3) := by decide +kernel
theorem dX6_init_78 : decode cX6_init 78 = .ok (.aload_n 0, 1) := by decide +kernel
theorem dX6_init_79 : decode cX6_init 79 = .ok (.iconst 0, 1) := by decide +kernel
theorem dX6_init_80 : decode cX6_init 80 = .ok (.putfield 50, 3) := by decide +kernel
theorem dX6_init_83 : decode cX6_init 83 = .ok (.aload_n 0, 1) := by decide +kernel
theorem dX6_init_84 : decode cX6_init 84 = .ok (.iconst 0, 1) := by decide +kernel
theorem dX6_init_85 : decode cX6_init 85 = .ok (.putfield 54, 3) := by decide +kernel
theorem dX6_init_88 : decode cX6_init 88 = .ok (.aload_n 0, 1) := by decide +kernel
theorem dX6_init_89 : decode cX6_init 89 = .ok (.bipush 10, 2) := by decide +kernel
theorem dX6_init_91 : decode cX6_init 91 = .ok (.putfield 57, 3) := by decide +kernel
theorem dX6_init_94 : decode cX6_init 94 = .ok (.aload_n 0, 1) := by decide +kernel
theorem dX6_init_95 : decode cX6_init 95 = .ok (.sipush 600, 3) := by decide +kernel
theorem dX6_init_98 : decode cX6_init 98 = .ok (.putfield 60, 3) := by decide +kernel
theorem dX6_init_101 : decode cX6_init 101 = .ok (.iconst 0, 1) := by decide +kernel
theorem dX6_init_102 : decode cX6_init 102 = .ok (.istore_n 1, 1) := by decide +kernel
theorem dX6_init_103 : decode cX6_init 103 = .ok (.iload_n 1, 1) := by decide +kernel
theorem dX6_init_104 : decode cX6_init 104 = .ok (.iconst 5, 1) := by decide +kernel
theorem dX6_init_105 : decode cX6_init 105 = .ok (.if_icmp .ge 22, 3) := by decide +kernel
theorem dX6_init_108 : decode cX6_init 108 = .ok (.aload_n 0, 1) := by decide +kernel
theorem dX6_init_109 : decode cX6_init 109 = .ok (.getfield 11, 3) := by decide +kernel
theorem dX6_init_112 : decode cX6_init 112 = .ok (.iload_n 1, 1) := by decide +kernel
theorem dX6_init_113 : decode cX6_init 113 = .ok (.new 9, 3) := by decide +kernel
theorem dX6_init_116 : decode cX6_init 116 = .ok (.dup, 1) := by decide +kernel
theorem dX6_init_117 : decode cX6_init 117 = .ok (.invokespecial 63, 3) := by decide +kernel
theorem dX6_init_120 : decode cX6_init 120 = .ok (.aastore, 1) := by decide +kernel
theorem dX6_init_121 : decode cX6_init 121 = .ok (.iinc 1 1, 3) := by decide +kernel
theorem dX6_init_124 : decode cX6_init 124 = .ok (.goto (-21), 3) := by decide +kernel
theorem dX6_init_127 : decode cX6_init 127 = .ok (.iconst 0, 1) := by decide +kernel
theorem dX6_init_128 : decode cX6_init 128 = .ok (.istore_n 1, 1) := by decide +kernel
theorem dX6_init_129 : decode cX6_init 129 = .ok (.iload_n 1, 1) := by decide +kernel
theorem dX6_init_130 : decode cX6_init 130 = .ok (.iconst 4, 1) := by decide +kernel
theorem dX6_init_131 : decode cX6_init 131 = .ok (.if_icmp .ge 22, 3) := by decide +kernel
theorem dX6_init_134 : decode cX6_init 134 = .ok (.aload_n 0, 1) := by decide +kernel
theorem dX6_init_135 : decode cX6_init 135 = .ok (.getfield 17, 3) := by decide +kernel
theorem dX6_init_138 : decode cX6_init 138 = .ok (.iload_n 1, 1) := by decide +kernel
theorem dX6_init_139 : decode cX6_init 139 = .ok (.new 15, 3) := by decide +kernel
theorem dX6_init_142 : decode cX6_init 142 = .ok (.dup, 1) := by decide +kernel
theorem dX6_init_143 : decode cX6_init 143 = .ok (.invokespecial 64, 3) := by decide +kernel
theorem dX6_init_146 : decode cX6_init 146 = .ok (.aastore, 1) := by decide +kernel
theorem dX6_init_147 : decode cX6_init 147 = .ok (.iinc 1 1, 3) := by decide +kernel
theorem dX6_init_150 : decode cX6_init 150 = .ok (.goto (-21), 3) := by decide +kernel
theorem dX6_init_153 : decode cX6_init 153 = .ok (.return_, 1) := by decide +kernel
theorem dX6_device_0 : decode cX6_device 0 = .ok (.aload_n 0, 1) := by decide +kernel
theorem dX6_device_1 : decode cX6_device 1 = .ok (.getfield 50, 3) := by decide +kernel
theorem dX6_device_4 : decode cX6_device 4 = .ok (.iconst 5, 1) := by decide +kernel
theorem dX6_device_5 : decode cX6_device 5 = .ok (.invokestatic 65, 3) := by decide +kernel
theorem dX6_device_8 : decode cX6_device 8 = .ok (.aload_n 0, 1) := by decide +kernel
theorem dX6_device_9 : decode cX6_device 9 = .ok (.dup, 1) := by decide +kernel
theorem dX6_device_10 : decode cX6_device 10 = .ok (.getfield 50, 3) := by decide +kernel
theorem dX6_device_13 : decode cX6_device 13 = .ok (.dup_x1, 1) := by decide +kernel
theorem dX6_device_14 : decode cX6_device 14 = .ok (.iconst 1, 1) := by decide +kernel
theorem dX6_device_15 : decode cX6_device 15 = .ok (.iadd, 1) := by decide +kernel
theorem dX6_device_16 : decode cX6_device 16 = .ok (.putfield 50, 3) := by decide +kernel
theorem dX6_device_19 : decode cX6_device 19 = .ok (.ireturn, 1) := by decide +kernel
theorem dX6_place_0 : decode cX6_place 0 = .ok (.aload_n 0, 1) := by decide +kernel
theorem dX6_place_1 : decode cX6_place 1 = .ok (.iload_n 1, 1) := by decide +kernel
theorem dX6_place_2 : decode cX6_place 2 = .ok (.invokevirtual 69, 3) := by decide +kernel
theorem dX6_place_5 : decode cX6_place 5 = .ok (.astore 5, 2) := by decide +kernel
theorem dX6_place_7 : decode cX6_place 7 = .ok (.aload 5, 2) := by decide +kernel
theorem dX6_place_9 : decode cX6_place 9 = .ok (.getfield 73, 3) := by decide +kernel
theorem dX6_place_12 : decode cX6_place 12 = .ok (.astore 6, 2) := by decide +kernel
theorem dX6_place_14 : decode cX6_place 14 = .ok (.iload_n 2, 1) := by decide +kernel
theorem dX6_place_15 : decode cX6_place 15 = .ok (.iload_n 3, 1) := by decide +kernel
theorem dX6_place_16 : decode cX6_place 16 = .ok (.iload 4, 2) := by decide +kernel
theorem dX6_place_18 : decode cX6_place 18 = .ok (.invokestatic 76, 3) := by decide +kernel
theorem dX6_place_21 : decode cX6_place 21 = .ok (.aload 6, 2) := by decide +kernel
theorem dX6_place_23 : decode cX6_place 23 = .ok (.iload_n 2, 1) := by decide +kernel
theorem dX6_place_24 : decode cX6_place 24 = .ok (.invokevirtual 80, 3) := by decide +kernel
theorem dX6_place_27 : decode cX6_place 27 = .ok (.istore 7, 2) := by decide +kernel
theorem dX6_place_29 : decode cX6_place 29 = .ok (.aload 6, 2) := by decide +kernel
theorem dX6_place_31 : decode cX6_place 31 = .ok (.iload 7, 2) := by decide +kernel
theorem dX6_place_33 : decode cX6_place 33 = .ok (.iload_n 2, 1) := by decide +kernel
theorem dX6_place_34 : decode cX6_place 34 = .ok (.invokevirtual 84, 3) := by decide +kernel
theorem dX6_place_37 : decode cX6_place 37 = .ok (.ifCond .eq 30, 3) := by decide +kernel
theorem dX6_place_40 : decode cX6_place 40 = .ok (.aload 6, 2) := by decide +kernel
theorem dX6_place_42 : decode cX6_place 42 = .ok (.iload 7, 2) := by decide +kernel
theorem dX6_place_44 : decode cX6_place 44 = .ok (.iload_n 3, 1) := by decide +kernel
theorem dX6_place_45 : decode cX6_place 45 = .ok (.iload 4, 2) := by decide +kernel
theorem dX6_place_47 : decode cX6_place 47 = .ok (.invokevirtual 88, 3) := by decide +kernel
theorem dX6_place_50 : decode cX6_place 50 = .ok (.invokestatic 92, 3) := by decide +kernel
theorem dX6_place_53 : decode cX6_place 53 = .ok (.aload 5, 2) := by decide +kernel
theorem dX6_place_55 : decode cX6_place 55 = .ok (.dup, 1) := by decide +kernel
theorem dX6_place_56 : decode cX6_place 56 = .ok (.getfield 96, 3) := by decide +kernel
theorem dX6_place_59 : decode cX6_place 59 = .ok (.iconst 1, 1) := by decide +kernel
theorem dX6_place_60 : decode cX6_place 60 = .ok (.iadd, 1) := by decide +kernel
theorem dX6_place_61 : decode cX6_place 61 = .ok (.putfield 96, 3) := by decide +kernel
theorem dX6_place_64 : decode cX6_place 64 = .ok (.bipush (-2), 2) := by decide +kernel
theorem dX6_place_66 : decode cX6_place 66 = .ok (.ireturn, 1) := by decide +kernel
theorem dX6_place_67 : decode cX6_place 67 = .ok (.aload 6, 2) := by decide +kernel
theorem dX6_place_69 : decode cX6_place 69 = .ok (.getfield 99, 3) := by decide +kernel
theorem dX6_place_72 : decode cX6_place 72 = .ok (.bipush 60, 2) := by decide +kernel
theorem dX6_place_74 : decode cX6_place 74 = .ok (.invokestatic 65, 3) := by decide +kernel
theorem dX6_place_77 : decode cX6_place 77 = .ok (.aload 6, 2) := by decide +kernel
theorem dX6_place_79 : decode cX6_place 79 = .ok (.iload 7, 2) := by decide +kernel
theorem dX6_place_81 : decode cX6_place 81 = .ok (.iload_n 2, 1) := by decide +kernel
theorem dX6_place_82 : decode cX6_place 82 = .ok (.iload_n 3, 1) := by decide +kernel
theorem dX6_place_83 : decode cX6_place 83 = .ok (.iload 4, 2) := by decide +kernel
theorem dX6_place_85 : decode cX6_place 85 = .ok (.invokevirtual 102, 3) := by decide +kernel
theorem dX6_place_88 : decode cX6_place 88 = .ok (.iload 7, 2) := by decide +kernel
theorem dX6_place_90 : decode cX6_place 90 = .ok (.ireturn, 1) := by decide +kernel
theorem dX6_has_0 : decode cX6_has 0 = .ok (.aload_n 0, 1) := by decide +kernel
theorem dX6_has_1 : decode cX6_has 1 = .ok (.iload_n 1, 1) := by decide +kernel
theorem dX6_has_2 : decode cX6_has 2 = .ok (.invokevirtual 69, 3) := by decide +kernel
theorem dX6_has_5 : decode cX6_has 5 = .ok (.astore_n 3, 1) := by decide +kernel
theorem dX6_has_6 : decode cX6_has 6 = .ok (.iload_n 2, 1) := by decide +kernel
theorem dX6_has_7 : decode cX6_has 7 = .ok (.tableswitch 72 0 4 #[33, 41, 46, 54, 63], 33) := by decide +kernel
theorem dX6_has_40 : decode cX6_has 40 = .ok (.aload_n 3, 1) := by decide +kernel
theorem dX6_has_41 : decode cX6_has 41 = .ok (.getfield 73, 3) := by decide +kernel
theorem dX6_has_44 : decode cX6_has 44 = .ok (.getfield 99, 3) := by decide +kernel
theorem dX6_has_47 : decode cX6_has 47 = .ok (.ireturn, 1) := by decide +kernel
theorem dX6_has_48 : decode cX6_has 48 = .ok (.aload_n 3, 1) := by decide +kernel
theorem dX6_has_49 : decode cX6_has 49 = .ok (.getfield 96, 3) := by decide +kernel
theorem dX6_has_52 : decode cX6_has 52 = .ok (.ireturn, 1) := by decide +kernel
theorem dX6_has_53 : decode cX6_has 53 = .ok (.aload_n 3, 1) := by decide +kernel
theorem dX6_has_54 : decode cX6_has 54 = .ok (.getfield 106, 3) := by decide +kernel
theorem dX6_has_57 : decode cX6_has 57 = .ok (.getfield 110, 3) := by decide +kernel
theorem dX6_has_60 : decode cX6_has 60 = .ok (.ireturn, 1) := by decide +kernel
theorem dX6_has_61 : decode cX6_has 61 = .ok (.aload_n 3, 1) := by decide +kernel
theorem dX6_has_62 : decode cX6_has 62 = .ok (.aload_n 0, 1) := by decide +kernel
theorem dX6_has_63 : decode cX6_has 63 = .ok (.getfield 57, 3) := by decide +kernel
theorem dX6_has_66 : decode cX6_has 66 = .ok (.invokevirtual 113, 3) := by decide +kernel
theorem dX6_has_69 : decode cX6_has 69 = .ok (.ireturn, 1) := by decide +kernel
theorem dX6_has_70 : decode cX6_has 70 = .ok (.aload_n 3, 1) := by decide +kernel
theorem dX6_has_71 : decode cX6_has 71 = .ok (.aload_n 0, 1) := by decide +kernel
theorem dX6_has_72 : decode cX6_has 72 = .ok (.getfield 60, 3) := by decide +kernel
theorem dX6_has_75 : decode cX6_has 75 = .ok (.invokevirtual 116, 3) := by decide +kernel
theorem dX6_has_78 : decode cX6_has 78 = .ok (.ireturn, 1) := by decide +kernel
theorem dX6_has_79 : decode cX6_has 79 = .ok (.new 119, 3) := by decide +kernel
theorem dX6_has_82 : decode cX6_has 82 = .ok (.dup, 1) := by decide +kernel
theorem dX6_has_83 : decode cX6_has 83 = .ok (.invokespecial 121, 3) := by decide +kernel
theorem dX6_has_86 : decode cX6_has 86 = .ok (.athrow, 1) := by decide +kernel
theorem dX6_at_0 : decode cX6_at 0 = .ok (.aload_n 0, 1) := by decide +kernel
theorem dX6_at_1 : decode cX6_at 1 = .ok (.iload_n 1, 1) := by decide +kernel
theorem dX6_at_2 : decode cX6_at 2 = .ok (.iload_n 2, 1) := by decide +kernel
theorem dX6_at_3 : decode cX6_at 3 = .ok (.invokevirtual 122, 3) := by decide +kernel
theorem dX6_at_6 : decode cX6_at 6 = .ok (.astore 4, 2) := by decide +kernel
theorem dX6_at_8 : decode cX6_at 8 = .ok (.iload_n 3, 1) := by decide +kernel
theorem dX6_at_9 : decode cX6_at 9 = .ok (.tableswitch 71 0 3 #[31, 42, 53, 64], 31) := by decide +kernel
theorem dX6_at_40 : decode cX6_at 40 = .ok (.aload 4, 2) := by decide +kernel
theorem dX6_at_42 : decode cX6_at 42 = .ok (.getfield 73, 3) := by decide +kernel
theorem dX6_at_45 : decode cX6_at 45 = .ok (.getfield 126, 3) := by decide +kernel
theorem dX6_at_48 : decode cX6_at 48 = .ok (.iload_n 2, 1) := by decide +kernel
theorem dX6_at_49 : decode cX6_at 49 = .ok (.iaload, 1) := by decide +kernel
theorem dX6_at_50 : decode cX6_at 50 = .ok (.ireturn, 1) := by decide +kernel
theorem dX6_at_51 : decode cX6_at 51 = .ok (.aload 4, 2) := by decide +kernel
theorem dX6_at_53 : decode cX6_at 53 = .ok (.getfield 73, 3) := by decide +kernel
theorem dX6_at_56 : decode cX6_at 56 = .ok (.getfield 130, 3) := by decide +kernel
theorem dX6_at_59 : decode cX6_at 59 = .ok (.iload_n 2, 1) := by decide +kernel
theorem dX6_at_60 : decode cX6_at 60 = .ok (.iaload, 1) := by decide +kernel
theorem dX6_at_61 : decode cX6_at 61 = .ok (.ireturn, 1) := by decide +kernel
theorem dX6_at_62 : decode cX6_at 62 = .ok (.aload 4, 2) := by decide +kernel
theorem dX6_at_64 : decode cX6_at 64 = .ok (.getfield 73, 3) := by decide +kernel
theorem dX6_at_67 : decode cX6_at 67 = .ok (.getfield 133, 3) := by decide +kernel
theorem dX6_at_70 : decode cX6_at 70 = .ok (.iload_n 2, 1) := by decide +kernel
theorem dX6_at_71 : decode cX6_at 71 = .ok (.iaload, 1) := by decide +kernel
theorem dX6_at_72 : decode cX6_at 72 = .ok (.ireturn, 1) := by decide +kernel
theorem dX6_at_73 : decode cX6_at 73 = .ok (.aload 4, 2) := by decide +kernel
theorem dX6_at_75 : decode cX6_at 75 = .ok (.iload_n 2, 1) := by decide +kernel
theorem dX6_at_76 : decode cX6_at 76 = .ok (.invokevirtual 136, 3) := by decide +kernel
theorem dX6_at_79 : decode cX6_at 79 = .ok (.ireturn, 1) := by decide +kernel
theorem dX6_at_80 : decode cX6_at 80 = .ok (.new 119, 3) := by decide +kernel
theorem dX6_at_83 : decode cX6_at 83 = .ok (.dup, 1) := by decide +kernel
theorem dX6_at_84 : decode cX6_at 84 = .ok (.invokespecial 121, 3) := by decide +kernel
theorem dX6_at_87 : decode cX6_at 87 = .ok (.athrow, 1) := by decide +kernel
theorem dX6_mark_0 : decode cX6_mark 0 = .ok (.aload_n 0, 1) := by decide +kernel
theorem dX6_mark_1 : decode cX6_mark 1 = .ok (.iload_n 1, 1) := by decide +kernel
theorem dX6_mark_2 : decode cX6_mark 2 = .ok (.invokevirtual 69, 3) := by decide +kernel
theorem dX6_mark_5 : decode cX6_mark 5 = .ok (.getfield 106, 3) := by decide +kernel
theorem dX6_mark_8 : decode cX6_mark 8 = .ok (.astore 4, 2) := by decide +kernel
theorem dX6_mark_10 : decode cX6_mark 10 = .ok (.iload_n 2, 1) := by decide +kernel
theorem dX6_mark_11 : decode cX6_mark 11 = .ok (.iconst 0, 1) := by decide +kernel
theorem dX6_mark_12 : decode cX6_mark 12 = .ok (.ldc 139, 2) := by decide +kernel
theorem dX6_mark_14 : decode cX6_mark 14 = .ok (.invokestatic 140, 3) := by decide +kernel
theorem dX6_mark_17 : decode cX6_mark 17 = .ok (.iload_n 3, 1) := by decide +kernel
theorem dX6_mark_18 : decode cX6_mark 18 = .ok (.iconst 0, 1) := by decide +kernel
theorem dX6_mark_19 : decode cX6_mark 19 = .ok (.ldc 139, 2) := by decide +kernel
theorem dX6_mark_21 : decode cX6_mark 21 = .ok (.invokestatic 140, 3) := by decide +kernel
theorem dX6_mark_24 : decode cX6_mark 24 = .ok (.aload 4, 2) := by decide +kernel
theorem dX6_mark_26 : decode cX6_mark 26 = .ok (.iload_n 2, 1) := by decide +kernel
theorem dX6_mark_27 : decode cX6_mark 27 = .ok (.invokevirtual 143, 3) := by decide +kernel
theorem dX6_mark_30 : decode cX6_mark 30 = .ok (.istore 5, 2) := by decide +kernel
theorem dX6_mark_32 : decode cX6_mark 32 = .ok (.aload 4, 2) := by decide +kernel
theorem dX6_mark_34 : decode cX6_mark 34 = .ok (.iload 5, 2) := by decide +kernel
theorem dX6_mark_36 : decode cX6_mark 36 = .ok (.iload_n 2, 1) := by decide +kernel
theorem dX6_mark_37 : decode cX6_mark 37 = .ok (.iload_n 3, 1) := by decide +kernel
theorem dX6_mark_38 : decode cX6_mark 38 = .ok (.invokevirtual 144, 3) := by decide +kernel
theorem dX6_mark_41 : decode cX6_mark 41 = .ok (.invokestatic 92, 3) := by decide +kernel
theorem dX6_mark_44 : decode cX6_mark 44 = .ok (.aload 4, 2) := by decide +kernel
theorem dX6_mark_46 : decode cX6_mark 46 = .ok (.getfield 110, 3) := by decide +kernel
theorem dX6_mark_49 : decode cX6_mark 49 = .ok (.bipush 8, 2) := by decide +kernel
theorem dX6_mark_51 : decode cX6_mark 51 = .ok (.invokestatic 65, 3) := by decide +kernel
theorem dX6_mark_54 : decode cX6_mark 54 = .ok (.aload 4, 2) := by decide +kernel
theorem dX6_mark_56 : decode cX6_mark 56 = .ok (.iload 5, 2) := by decide +kernel
theorem dX6_mark_58 : decode cX6_mark 58 = .ok (.iload_n 2, 1) := by decide +kernel
theorem dX6_mark_59 : decode cX6_mark 59 = .ok (.iload_n 3, 1) := by decide +kernel
theorem dX6_mark_60 : decode cX6_mark 60 = .ok (.invokevirtual 147, 3) := by decide +kernel
theorem dX6_mark_63 : decode cX6_mark 63 = .ok (.aload 4, 2) := by decide +kernel
theorem dX6_mark_65 : decode cX6_mark 65 = .ok (.getfield 110, 3) := by decide +kernel
theorem dX6_mark_68 : decode cX6_mark 68 = .ok (.ireturn, 1) := by decide +kernel
theorem dX6_time_0 : decode cX6_time 0 = .ok (.aload_n 0, 1) := by decide +kernel
theorem dX6_time_1 : decode cX6_time 1 = .ok (.iload_n 1, 1) := by decide +kernel
theorem dX6_time_2 : decode cX6_time 2 = .ok (.invokevirtual 69, 3) := by decide +kernel
theorem dX6_time_5 : decode cX6_time 5 = .ok (.getfield 106, 3) := by decide +kernel
theorem dX6_time_8 : decode cX6_time 8 = .ok (.astore_n 3, 1) := by decide +kernel
theorem dX6_time_9 : decode cX6_time 9 = .ok (.iload_n 2, 1) := by decide +kernel
theorem dX6_time_10 : decode cX6_time 10 = .ok (.iconst 0, 1) := by decide +kernel
theorem dX6_time_11 : decode cX6_time 11 = .ok (.ldc 139, 2) := by decide +kernel
theorem dX6_time_13 : decode cX6_time 13 = .ok (.invokestatic 140, 3) := by decide +kernel
theorem dX6_time_16 : decode cX6_time 16 = .ok (.aload_n 3, 1) := by decide +kernel
theorem dX6_time_17 : decode cX6_time 17 = .ok (.iload_n 2, 1) := by decide +kernel
theorem dX6_time_18 : decode cX6_time 18 = .ok (.invokevirtual 149, 3) := by decide +kernel
theorem dX6_time_21 : decode cX6_time 21 = .ok (.ireturn, 1) := by decide +kernel
theorem dX6_speed_0 : decode cX6_speed 0 = .ok (.iload_n 1, 1) := by decide +kernel
theorem dX6_speed_1 : decode cX6_speed 1 = .ok (.iconst 1, 1) := by decide +kernel
theorem dX6_speed_2 : decode cX6_speed 2 = .ok (.bipush 100, 2) := by decide +kernel
theorem dX6_speed_4 : decode cX6_speed 4 = .ok (.invokestatic 140, 3) := by decide +kernel
theorem dX6_speed_7 : decode cX6_speed 7 = .ok (.aload_n 0, 1) := by decide +kernel
theorem dX6_speed_8 : decode cX6_speed 8 = .ok (.getfield 57, 3) := by decide +kernel
theorem dX6_speed_11 : decode cX6_speed 11 = .ok (.istore_n 2, 1) := by decide +kernel
theorem dX6_speed_12 : decode cX6_speed 12 = .ok (.aload_n 0, 1) := by decide +kernel
theorem dX6_speed_13 : decode cX6_speed 13 = .ok (.iload_n 1, 1) := by decide +kernel
theorem dX6_speed_14 : decode cX6_speed 14 = .ok (.putfield 57, 3) := by decide +kernel
theorem dX6_speed_17 : decode cX6_speed 17 = .ok (.iload_n 2, 1) := by decide +kernel
theorem dX6_speed_18 : decode cX6_speed 18 = .ok (.ireturn, 1) := by decide +kernel
theorem dX6_limit_0 : decode cX6_limit 0 = .ok (.iload_n 1, 1) := by decide +kernel
theorem dX6_limit_1 : decode cX6_limit 1 = .ok (.iconst 1, 1) := by decide +kernel
theorem dX6_limit_2 : decode cX6_limit 2 = .ok (.ldc 152, 2) := by decide +kernel
theorem dX6_limit_4 : decode cX6_limit 4 = .ok (.invokestatic 140, 3) := by decide +kernel
theorem dX6_limit_7 : decode cX6_limit 7 = .ok (.aload_n 0, 1) := by decide +kernel
theorem dX6_limit_8 : decode cX6_limit 8 = .ok (.getfield 60, 3) := by decide +kernel
theorem dX6_limit_11 : decode cX6_limit 11 = .ok (.istore_n 2, 1) := by decide +kernel
theorem dX6_limit_12 : decode cX6_limit 12 = .ok (.aload_n 0, 1) := by decide +kernel
theorem dX6_limit_13 : decode cX6_limit 13 = .ok (.iload_n 1, 1) := by decide +kernel
theorem dX6_limit_14 : decode cX6_limit 14 = .ok (.putfield 60, 3) := by decide +kernel
theorem dX6_limit_17 : decode cX6_limit 17 = .ok (.iload_n 2, 1) := by decide +kernel
theorem dX6_limit_18 : decode cX6_limit 18 = .ok (.ireturn, 1) := by decide +kernel
theorem dX6_jump_0 : decode cX6_jump 0 = .ok (.aload_n 0, 1) := by decide +kernel
theorem dX6_jump_1 : decode cX6_jump 1 = .ok (.iload_n 1, 1) := by decide +kernel
theorem dX6_jump_2 : decode cX6_jump 2 = .ok (.invokevirtual 69, 3) := by decide +kernel
theorem dX6_jump_5 : decode cX6_jump 5 = .ok (.iload_n 2, 1) := by decide +kernel
theorem dX6_jump_6 : decode cX6_jump 6 = .ok (.aload_n 0, 1) := by decide +kernel
theorem dX6_jump_7 : decode cX6_jump 7 = .ok (.getfield 57, 3) := by decide +kernel
theorem dX6_jump_10 : decode cX6_jump 10 = .ok (.invokevirtual 153, 3) := by decide +kernel
theorem dX6_jump_13 : decode cX6_jump 13 = .ok (.ireturn, 1) := by decide +kernel
theorem dX6_gap_0 : decode cX6_gap 0 = .ok (.aload_n 0, 1) := by decide +kernel
theorem dX6_gap_1 : decode cX6_gap 1 = .ok (.iload_n 1, 1) := by decide +kernel
theorem dX6_gap_2 : decode cX6_gap 2 = .ok (.invokevirtual 69, 3) := by decide +kernel
theorem dX6_gap_5 : decode cX6_gap 5 = .ok (.iload_n 2, 1) := by decide +kernel
theorem dX6_gap_6 : decode cX6_gap 6 = .ok (.aload_n 0, 1) := by decide +kernel
theorem dX6_gap_7 : decode cX6_gap 7 = .ok (.getfield 60, 3) := by decide +kernel
theorem dX6_gap_10 : decode cX6_gap 10 = .ok (.invokevirtual 157, 3) := by decide +kernel
theorem dX6_gap_13 : decode cX6_gap 13 = .ok (.ireturn, 1) := by decide +kernel
theorem dX6_could_0 : decode cX6_could 0 = .ok (.aload_n 0, 1) := by decide +kernel
theorem dX6_could_1 : decode cX6_could 1 = .ok (.iload_n 1, 1) := by decide +kernel
theorem dX6_could_2 : decode cX6_could 2 = .ok (.invokevirtual 69, 3) := by decide +kernel
theorem dX6_could_5 : decode cX6_could 5 = .ok (.astore 5, 2) := by decide +kernel
theorem dX6_could_7 : decode cX6_could 7 = .ok (.aload 5, 2) := by decide +kernel
theorem dX6_could_9 : decode cX6_could 9 = .ok (.iload_n 2, 1) := by decide +kernel
theorem dX6_could_10 : decode cX6_could 10 = .ok (.aload_n 0, 1) := by decide +kernel
theorem dX6_could_11 : decode cX6_could 11 = .ok (.getfield 60, 3) := by decide +kernel
theorem dX6_could_14 : decode cX6_could 14 = .ok (.invokevirtual 157, 3) := by decide +kernel
theorem dX6_could_17 : decode cX6_could 17 = .ok (.istore 6, 2) := by decide +kernel
theorem dX6_could_19 : decode cX6_could 19 = .ok (.iload 6, 2) := by decide +kernel
theorem dX6_could_21 : decode cX6_could 21 = .ok (.iconst (-1), 1) := by decide +kernel
theorem dX6_could_22 : decode cX6_could 22 = .ok (.if_icmp .ne 11, 3) := by decide +kernel
theorem dX6_could_25 : decode cX6_could 25 = .ok (.new 160, 3) := by decide +kernel
theorem dX6_could_28 : decode cX6_could 28 = .ok (.dup, 1) := by decide +kernel
theorem dX6_could_29 : decode cX6_could 29 = .ok (.invokespecial 162, 3) := by decide +kernel
theorem dX6_could_32 : decode cX6_could 32 = .ok (.athrow, 1) := by decide +kernel
theorem dX6_could_33 : decode cX6_could 33 = .ok (.iload_n 3, 1) := by decide +kernel
theorem dX6_could_34 : decode cX6_could 34 = .ok (.sipush (-200), 3) := by decide +kernel
theorem dX6_could_37 : decode cX6_could 37 = .ok (.sipush 200, 3) := by decide +kernel
theorem dX6_could_40 : decode cX6_could 40 = .ok (.invokestatic 140, 3) := by decide +kernel
theorem dX6_could_43 : decode cX6_could 43 = .ok (.iload 4, 2) := by decide +kernel
theorem dX6_could_45 : decode cX6_could 45 = .ok (.sipush (-200), 3) := by decide +kernel
theorem dX6_could_48 : decode cX6_could 48 = .ok (.sipush 200, 3) := by decide +kernel
theorem dX6_could_51 : decode cX6_could 51 = .ok (.invokestatic 140, 3) := by decide +kernel
theorem dX6_could_54 : decode cX6_could 54 = .ok (.aload 5, 2) := by decide +kernel
theorem dX6_could_56 : decode cX6_could 56 = .ok (.getfield 73, 3) := by decide +kernel
theorem dX6_could_59 : decode cX6_could 59 = .ok (.iload 6, 2) := by decide +kernel
theorem dX6_could_61 : decode cX6_could 61 = .ok (.iconst 1, 1) := by decide +kernel
theorem dX6_could_62 : decode cX6_could 62 = .ok (.isub, 1) := by decide +kernel
theorem dX6_could_63 : decode cX6_could 63 = .ok (.iload_n 3, 1) := by decide +kernel
theorem dX6_could_64 : decode cX6_could 64 = .ok (.iload 4, 2) := by decide +kernel
theorem dX6_could_66 : decode cX6_could 66 = .ok (.invokevirtual 163, 3) := by decide +kernel
theorem dX6_could_69 : decode cX6_could 69 = .ok (.aload_n 0, 1) := by decide +kernel
theorem dX6_could_70 : decode cX6_could 70 = .ok (.getfield 57, 3) := by decide +kernel
theorem dX6_could_73 : decode cX6_could 73 = .ok (.invokestatic 167, 3) := by decide +kernel
theorem dX6_could_76 : decode cX6_could 76 = .ok (.istore 7, 2) := by decide +kernel
theorem dX6_could_78 : decode cX6_could 78 = .ok (.aload 5, 2) := by decide +kernel
theorem dX6_could_80 : decode cX6_could 80 = .ok (.getfield 73, 3) := by decide +kernel
theorem dX6_could_83 : decode cX6_could 83 = .ok (.iload 6, 2) := by decide +kernel
theorem dX6_could_85 : decode cX6_could 85 = .ok (.iload_n 3, 1) := by decide +kernel
theorem dX6_could_86 : decode cX6_could 86 = .ok (.iload 4, 2) := by decide +kernel
theorem dX6_could_88 : decode cX6_could 88 = .ok (.invokevirtual 163, 3) := by decide +kernel
theorem dX6_could_91 : decode cX6_could 91 = .ok (.aload_n 0, 1) := by decide +kernel
theorem dX6_could_92 : decode cX6_could 92 = .ok (.getfield 57, 3) := by decide +kernel
theorem dX6_could_95 : decode cX6_could 95 = .ok (.invokestatic 167, 3) := by decide +kernel
theorem dX6_could_98 : decode cX6_could 98 = .ok (.istore 8, 2) := by decide +kernel
theorem dX6_could_100 : decode cX6_could 100 = .ok (.iload 7, 2) := by decide +kernel
theorem dX6_could_102 : decode cX6_could 102 = .ok (.iload 8, 2) := by decide +kernel
theorem dX6_could_104 : decode cX6_could 104 = .ok (.iadd, 1) := by decide +kernel
theorem dX6_could_105 : decode cX6_could 105 = .ok (.aload 5, 2) := by decide +kernel
theorem dX6_could_107 : decode cX6_could 107 = .ok (.iload 6, 2) := by decide +kernel
theorem dX6_could_109 : decode cX6_could 109 = .ok (.invokevirtual 171, 3) := by decide +kernel
theorem dX6_could_112 : decode cX6_could 112 = .ok (.if_icmp .gt 7, 3) := by decide +kernel
theorem dX6_could_115 : decode cX6_could 115 = .ok (.iconst 1, 1) := by decide +kernel
theorem dX6_could_116 : decode cX6_could 116 = .ok (.goto 4, 3) := by decide +kernel
theorem dX6_could_119 : decode cX6_could 119 = .ok (.iconst 0, 1) := by decide +kernel
theorem dX6_could_120 : decode cX6_could 120 = .ok (.ireturn, 1) := by decide +kernel
theorem dX6_fence_0 : decode cX6_fence 0 = .ok (.aload_n 0, 1) := by decide +kernel
theorem dX6_fence_1 : decode cX6_fence 1 = .ok (.getfield 54, 3) := by decide +kernel
theorem dX6_fence_4 : decode cX6_fence 4 = .ok (.iconst 4, 1) := by decide +kernel
theorem dX6_fence_5 : decode cX6_fence 5 = .ok (.invokestatic 65, 3) := by decide +kernel
theorem dX6_fence_8 : decode cX6_fence 8 = .ok (.aload_n 0, 1) := by decide +kernel
theorem dX6_fence_9 : decode cX6_fence 9 = .ok (.dup, 1) := by decide +kernel
theorem dX6_fence_10 : decode cX6_fence 10 = .ok (.getfield 54, 3) := by decide +kernel
theorem dX6_fence_13 : decode cX6_fence 13 = .ok (.dup_x1, 1) := by decide +kernel
theorem dX6_fence_14 : decode cX6_fence 14 = .ok (.iconst 1, 1) := by decide +kernel
theorem dX6_fence_15 : decode cX6_fence 15 = .ok (.iadd, 1) := by decide +kernel
theorem dX6_fence_16 : decode cX6_fence 16 = .ok (.putfield 54, 3) := by decide +kernel
theorem dX6_fence_19 : decode cX6_fence 19 = .ok (.ireturn, 1) := by decide +kernel
theorem dX6_corner_0 : decode cX6_corner 0 = .ok (.aload_n 0, 1) := by decide +kernel
theorem dX6_corner_1 : decode cX6_corner 1 = .ok (.iload_n 1, 1) := by decide +kernel
theorem dX6_corner_2 : decode cX6_corner 2 = .ok (.invokevirtual 174, 3) := by decide +kernel
theorem dX6_corner_5 : decode cX6_corner 5 = .ok (.astore 4, 2) := by decide +kernel
theorem dX6_corner_7 : decode cX6_corner 7 = .ok (.iload_n 2, 1) := by decide +kernel
theorem dX6_corner_8 : decode cX6_corner 8 = .ok (.ldc 178, 2) := by decide +kernel
theorem dX6_corner_10 : decode cX6_corner 10 = .ok (.ldc 152, 2) := by decide +kernel
theorem dX6_corner_12 : decode cX6_corner 12 = .ok (.invokestatic 140, 3) := by decide +kernel
theorem dX6_corner_15 : decode cX6_corner 15 = .ok (.iload_n 3, 1) := by decide +kernel
theorem dX6_corner_16 : decode cX6_corner 16 = .ok (.ldc 178, 2) := by decide +kernel
theorem dX6_corner_18 : decode cX6_corner 18 = .ok (.ldc 152, 2) := by decide +kernel
theorem dX6_corner_20 : decode cX6_corner 20 = .ok (.invokestatic 140, 3) := by decide +kernel
theorem dX6_corner_23 : decode cX6_corner 23 = .ok (.aload 4, 2) := by decide +kernel
theorem dX6_corner_25 : decode cX6_corner 25 = .ok (.getfield 179, 3) := by decide +kernel
theorem dX6_corner_28 : decode cX6_corner 28 = .ok (.bipush 8, 2) := by decide +kernel
theorem dX6_corner_30 : decode cX6_corner 30 = .ok (.invokestatic 65, 3) := by decide +kernel
theorem dX6_corner_33 : decode cX6_corner 33 = .ok (.aload 4, 2) := by decide +kernel
theorem dX6_corner_35 : decode cX6_corner 35 = .ok (.iload_n 2, 1) := by decide +kernel
theorem dX6_corner_36 : decode cX6_corner 36 = .ok (.iload_n 3, 1) := by decide +kernel
theorem dX6_corner_37 : decode cX6_corner 37 = .ok (.invokevirtual 180, 3) := by decide +kernel
theorem dX6_corner_40 : decode cX6_corner 40 = .ok (.aload 4, 2) := by decide +kernel
theorem dX6_corner_42 : decode cX6_corner 42 = .ok (.getfield 179, 3) := by decide +kernel
theorem dX6_corner_45 : decode cX6_corner 45 = .ok (.ireturn, 1) := by decide +kernel
theorem dX6_in_0 : decode cX6_in 0 = .ok (.aload_n 0, 1) := by decide +kernel
theorem dX6_in_1 : decode cX6_in 1 = .ok (.iload_n 1, 1) := by decide +kernel
theorem dX6_in_2 : decode cX6_in 2 = .ok (.iload_n 2, 1) := by decide +kernel
theorem dX6_in_3 : decode cX6_in 3 = .ok (.invokevirtual 122, 3) := by decide +kernel
theorem dX6_in_6 : decode cX6_in 6 = .ok (.getfield 73, 3) := by decide +kernel
theorem dX6_in_9 : decode cX6_in 9 = .ok (.astore 4, 2) := by decide +kernel
theorem dX6_in_11 : decode cX6_in 11 = .ok (.aload_n 0, 1) := by decide +kernel
theorem dX6_in_12 : decode cX6_in 12 = .ok (.iload_n 3, 1) := by decide +kernel
theorem dX6_in_13 : decode cX6_in 13 = .ok (.invokevirtual 174, 3) := by decide +kernel
theorem dX6_in_16 : decode cX6_in 16 = .ok (.aload 4, 2) := by decide +kernel
theorem dX6_in_18 : decode cX6_in 18 = .ok (.getfield 130, 3) := by decide +kernel
theorem dX6_in_21 : decode cX6_in 21 = .ok (.iload_n 2, 1) := by decide +kernel
theorem dX6_in_22 : decode cX6_in 22 = .ok (.iaload, 1) := by decide +kernel
theorem dX6_in_23 : decode cX6_in 23 = .ok (.aload 4, 2) := by decide +kernel
theorem dX6_in_25 : decode cX6_in 25 = .ok (.getfield 133, 3) := by decide +kernel
theorem dX6_in_28 : decode cX6_in 28 = .ok (.iload_n 2, 1) := by decide +kernel
theorem dX6_in_29 : decode cX6_in 29 = .ok (.iaload, 1) := by decide +kernel
theorem dX6_in_30 : decode cX6_in 30 = .ok (.invokevirtual 183, 3) := by decide +kernel
theorem dX6_in_33 : decode cX6_in 33 = .ok (.ireturn, 1) := by decide +kernel
theorem dX6_port_0 : decode cX6_port 0 = .ok (.aload_n 0, 1) := by decide +kernel
theorem dX6_port_1 : decode cX6_port 1 = .ok (.iload_n 1, 1) := by decide +kernel
theorem dX6_port_2 : decode cX6_port 2 = .ok (.iload_n 2, 1) := by decide +kernel
theorem dX6_port_3 : decode cX6_port 3 = .ok (.invokevirtual 122, 3) := by decide +kernel
theorem dX6_port_6 : decode cX6_port 6 = .ok (.getfield 73, 3) := by decide +kernel
theorem dX6_port_9 : decode cX6_port 9 = .ok (.astore_n 3, 1) := by decide +kernel
theorem dX6_port_10 : decode cX6_port 10 = .ok (.iconst 0, 1) := by decide +kernel
theorem dX6_port_11 : decode cX6_port 11 = .ok (.istore 4, 2) := by decide +kernel
theorem dX6_port_13 : decode cX6_port 13 = .ok (.iload 4, 2) := by decide +kernel
theorem dX6_port_15 : decode cX6_port 15 = .ok (.aload_n 0, 1) := by decide +kernel
theorem dX6_port_16 : decode cX6_port 16 = .ok (.getfield 54, 3) := by decide +kernel
theorem dX6_port_19 : decode cX6_port 19 = .ok (.if_icmp .ge 37, 3) := by decide +kernel
theorem dX6_port_22 : decode cX6_port 22 = .ok (.aload_n 0, 1) := by decide +kernel
theorem dX6_port_23 : decode cX6_port 23 = .ok (.getfield 17, 3) := by decide +kernel
theorem dX6_port_26 : decode cX6_port 26 = .ok (.iload 4, 2) := by decide +kernel
theorem dX6_port_28 : decode cX6_port 28 = .ok (.aaload, 1) := by decide +kernel
theorem dX6_port_29 : decode cX6_port 29 = .ok (.aload_n 3, 1) := by decide +kernel
theorem dX6_port_30 : decode cX6_port 30 = .ok (.getfield 130, 3) := by decide +kernel
theorem dX6_port_33 : decode cX6_port 33 = .ok (.iload_n 2, 1) := by decide +kernel
theorem dX6_port_34 : decode cX6_port 34 = .ok (.iaload, 1) := by decide +kernel
theorem dX6_port_35 : decode cX6_port 35 = .ok (.aload_n 3, 1) := by decide +kernel
theorem dX6_port_36 : decode cX6_port 36 = .ok (.getfield 133, 3) := by decide +kernel
theorem dX6_port_39 : decode cX6_port 39 = .ok (.iload_n 2, 1) := by decide +kernel
theorem dX6_port_40 : decode cX6_port 40 = .ok (.iaload, 1) := by decide +kernel
theorem dX6_port_41 : decode cX6_port 41 = .ok (.invokevirtual 183, 3) := by decide +kernel
theorem dX6_port_44 : decode cX6_port 44 = .ok (.ifCond .eq 6, 3) := by decide +kernel
theorem dX6_port_47 : decode cX6_port 47 = .ok (.iload 4, 2) := by decide +kernel
theorem dX6_port_49 : decode cX6_port 49 = .ok (.ireturn, 1) := by decide +kernel
theorem dX6_port_50 : decode cX6_port 50 = .ok (.iinc 4 1, 3) := by decide +kernel
theorem dX6_port_53 : decode cX6_port 53 = .ok (.goto (-40), 3) := by decide +kernel
theorem dX6_port_56 : decode cX6_port 56 = .ok (.iconst (-1), 1) := by decide +kernel
theorem dX6_port_57 : decode cX6_port 57 = .ok (.ireturn, 1) := by decide +kernel
theorem dX6_pack_0 : decode cX6_pack 0 = .ok (.aload_n 0, 1) := by decide +kernel
theorem dX6_pack_1 : decode cX6_pack 1 = .ok (.getfield 40, 3) := by decide +kernel
theorem dX6_pack_4 : decode cX6_pack 4 = .ok (.aload_n 0, 1) := by decide +kernel
theorem dX6_pack_5 : decode cX6_pack 5 = .ok (.iload_n 1, 1) := by decide +kernel
theorem dX6_pack_6 : decode cX6_pack 6 = .ok (.invokevirtual 69, 3) := by decide +kernel
theorem dX6_pack_9 : decode cX6_pack 9 = .ok (.getfield 73, 3) := by decide +kernel
theorem dX6_pack_12 : decode cX6_pack 12 = .ok (.invokevirtual 186, 3) := by decide +kernel
theorem dX6_pack_15 : decode cX6_pack 15 = .ok (.aload_n 0, 1) := by decide +kernel
theorem dX6_pack_16 : decode cX6_pack 16 = .ok (.getfield 40, 3) := by decide +kernel
theorem dX6_pack_19 : decode cX6_pack 19 = .ok (.getfield 190, 3) := by decide +kernel
theorem dX6_pack_22 : decode cX6_pack 22 = .ok (.ireturn, 1) := by decide +kernel
theorem dX6_byteAt_0 : decode cX6_byteAt 0 = .ok (.iload_n 1, 1) := by decide +kernel
theorem dX6_byteAt_1 : decode cX6_byteAt 1 = .ok (.aload_n 0, 1) := by decide +kernel
theorem dX6_byteAt_2 : decode cX6_byteAt 2 = .ok (.getfield 40, 3) := by decide +kernel
theorem dX6_byteAt_5 : decode cX6_byteAt 5 = .ok (.getfield 190, 3) := by decide +kernel
theorem dX6_byteAt_8 : decode cX6_byteAt 8 = .ok (.invokestatic 191, 3) := by decide +kernel
theorem dX6_byteAt_11 : decode cX6_byteAt 11 = .ok (.aload_n 0, 1) := by decide +kernel
theorem dX6_byteAt_12 : decode cX6_byteAt 12 = .ok (.getfield 40, 3) := by decide +kernel
theorem dX6_byteAt_15 : decode cX6_byteAt 15 = .ok (.getfield 194, 3) := by decide +kernel
theorem dX6_byteAt_18 : decode cX6_byteAt 18 = .ok (.iload_n 1, 1) := by decide +kernel
theorem dX6_byteAt_19 : decode cX6_byteAt 19 = .ok (.iaload, 1) := by decide +kernel
theorem dX6_byteAt_20 : decode cX6_byteAt 20 = .ok (.ireturn, 1) := by decide +kernel
theorem dX6_feed_0 : decode cX6_feed 0 = .ok (.iload_n 1, 1) := by decide +kernel
theorem dX6_feed_1 : decode cX6_feed 1 = .ok (.iconst 0, 1) := by decide +kernel
theorem dX6_feed_2 : decode cX6_feed 2 = .ok (.sipush 255, 3) := by decide +kernel
theorem dX6_feed_5 : decode cX6_feed 5 = .ok (.invokestatic 140, 3) := by decide +kernel
theorem dX6_feed_8 : decode cX6_feed 8 = .ok (.aload_n 0, 1) := by decide +kernel
theorem dX6_feed_9 : decode cX6_feed 9 = .ok (.getfield 44, 3) := by decide +kernel
theorem dX6_feed_12 : decode cX6_feed 12 = .ok (.getfield 190, 3) := by decide +kernel
theorem dX6_feed_15 : decode cX6_feed 15 = .ok (.sipush 600, 3) := by decide +kernel
theorem dX6_feed_18 : decode cX6_feed 18 = .ok (.invokestatic 65, 3) := by decide +kernel
theorem dX6_feed_21 : decode cX6_feed 21 = .ok (.aload_n 0, 1) := by decide +kernel
theorem dX6_feed_22 : decode cX6_feed 22 = .ok (.getfield 44, 3) := by decide +kernel
theorem dX6_feed_25 : decode cX6_feed 25 = .ok (.iload_n 1, 1) := by decide +kernel
theorem dX6_feed_26 : decode cX6_feed 26 = .ok (.invokevirtual 197, 3) := by decide +kernel
theorem dX6_feed_29 : decode cX6_feed 29 = .ok (.aload_n 0, 1) := by decide +kernel
theorem dX6_feed_30 : decode cX6_feed 30 = .ok (.getfield 44, 3) := by decide +kernel
theorem dX6_feed_33 : decode cX6_feed 33 = .ok (.getfield 190, 3) := by decide +kernel
theorem dX6_feed_36 : decode cX6_feed 36 = .ok (.ireturn, 1) := by decide +kernel
theorem dX6_read_0 : decode cX6_read 0 = .ok (.aload_n 0, 1) := by decide +kernel
theorem dX6_read_1 : decode cX6_read 1 = .ok (.iload_n 1, 1) := by decide +kernel
theorem dX6_read_2 : decode cX6_read 2 = .ok (.invokevirtual 69, 3) := by decide +kernel
theorem dX6_read_5 : decode cX6_read 5 = .ok (.astore_n 2, 1) := by decide +kernel
theorem dX6_read_6 : decode cX6_read 6 = .ok (.aload_n 0, 1) := by decide +kernel
theorem dX6_read_7 : decode cX6_read 7 = .ok (.getfield 44, 3) := by decide +kernel
theorem dX6_read_10 : decode cX6_read 10 = .ok (.aload_n 0, 1) := by decide +kernel
theorem dX6_read_11 : decode cX6_read 11 = .ok (.getfield 47, 3) := by decide +kernel
theorem dX6_read_14 : decode cX6_read 14 = .ok (.invokevirtual 199, 3) := by decide +kernel
theorem dX6_read_17 : decode cX6_read 17 = .ok (.istore_n 3, 1) := by decide +kernel
theorem dX6_read_18 : decode cX6_read 18 = .ok (.aload_n 0, 1) := by decide +kernel
theorem dX6_read_19 : decode cX6_read 19 = .ok (.getfield 44, 3) := by decide +kernel
theorem dX6_read_22 : decode cX6_read 22 = .ok (.iconst 0, 1) := by decide +kernel
theorem dX6_read_23 : decode cX6_read 23 = .ok (.putfield 190, 3) := by decide +kernel
theorem dX6_read_26 : decode cX6_read 26 = .ok (.iload_n 3, 1) := by decide +kernel
theorem dX6_read_27 : decode cX6_read 27 = .ok (.ifCond .ne 5, 3) := by decide +kernel
theorem dX6_read_30 : decode cX6_read 30 = .ok (.iconst (-1), 1) := by decide +kernel
theorem dX6_read_31 : decode cX6_read 31 = .ok (.ireturn, 1) := by decide +kernel
theorem dX6_read_32 : decode cX6_read 32 = .ok (.aload_n 2, 1) := by decide +kernel
theorem dX6_read_33 : decode cX6_read 33 = .ok (.getfield 73, 3) := by decide +kernel
theorem dX6_read_36 : decode cX6_read 36 = .ok (.aload_n 0, 1) := by decide +kernel
theorem dX6_read_37 : decode cX6_read 37 = .ok (.getfield 47, 3) := by decide +kernel
theorem dX6_read_40 : decode cX6_read 40 = .ok (.invokevirtual 203, 3) := by decide +kernel
theorem dX6_read_43 : decode cX6_read 43 = .ok (.aload_n 2, 1) := by decide +kernel
theorem dX6_read_44 : decode cX6_read 44 = .ok (.getfield 73, 3) := by decide +kernel
theorem dX6_read_47 : decode cX6_read 47 = .ok (.getfield 99, 3) := by decide +kernel
theorem dX6_read_50 : decode cX6_read 50 = .ok (.ireturn, 1) := by decide +kernel
theorem dX6_repeat_0 : decode cX6_repeat 0 = .ok (.aload_n 0, 1) := by decide +kernel
theorem dX6_repeat_1 : decode cX6_repeat 1 = .ok (.iload_n 1, 1) := by decide +kernel
theorem dX6_repeat_2 : decode cX6_repeat 2 = .ok (.invokevirtual 69, 3) := by decide +kernel
theorem dX6_repeat_5 : decode cX6_repeat 5 = .ok (.getfield 73, 3) := by decide +kernel
theorem dX6_repeat_8 : decode cX6_repeat 8 = .ok (.astore_n 3, 1) := by decide +kernel
theorem dX6_repeat_9 : decode cX6_repeat 9 = .ok (.iload_n 2, 1) := by decide +kernel
theorem dX6_repeat_10 : decode cX6_repeat 10 = .ok (.iconst 1, 1) := by decide +kernel
theorem dX6_repeat_11 : decode cX6_repeat 11 = .ok (.bipush 30, 2) := by decide +kernel
theorem dX6_repeat_13 : decode cX6_repeat 13 = .ok (.invokestatic 140, 3) := by decide +kernel
theorem dX6_repeat_16 : decode cX6_repeat 16 = .ok (.aload_n 3, 1) := by decide +kernel
theorem dX6_repeat_17 : decode cX6_repeat 17 = .ok (.iload_n 2, 1) := by decide +kernel
theorem dX6_repeat_18 : decode cX6_repeat 18 = .ok (.invokevirtual 206, 3) := by decide +kernel
theorem dX6_repeat_21 : decode cX6_repeat 21 = .ok (.ireturn, 1) := by decide +kernel
theorem dX6_sight_0 : decode cX6_sight 0 = .ok (.iload_n 1, 1) := by decide +kernel
theorem dX6_sight_1 : decode cX6_sight 1 = .ok (.iload_n 2, 1) := by decide +kernel
theorem dX6_sight_2 : decode cX6_sight 2 = .ok (.iload_n 3, 1) := by decide +kernel
theorem dX6_sight_3 : decode cX6_sight 3 = .ok (.invokestatic 76, 3) := by decide +kernel
theorem dX6_sight_6 : decode cX6_sight 6 = .ok (.aload_n 0, 1) := by decide +kernel
theorem dX6_sight_7 : decode cX6_sight 7 = .ok (.getfield 26, 3) := by decide +kernel
theorem dX6_sight_10 : decode cX6_sight 10 = .ok (.getfield 99, 3) := by decide +kernel
theorem dX6_sight_13 : decode cX6_sight 13 = .ok (.iconst 5, 1) := by decide +kernel
theorem dX6_sight_14 : decode cX6_sight 14 = .ok (.invokestatic 65, 3) := by decide +kernel
theorem dX6_sight_17 : decode cX6_sight 17 = .ok (.aload_n 0, 1) := by decide +kernel
theorem dX6_sight_18 : decode cX6_sight 18 = .ok (.getfield 26, 3) := by decide +kernel
theorem dX6_sight_21 : decode cX6_sight 21 = .ok (.aload_n 0, 1) := by decide +kernel
theorem dX6_sight_22 : decode cX6_sight 22 = .ok (.getfield 26, 3) := by decide +kernel
theorem dX6_sight_25 : decode cX6_sight 25 = .ok (.getfield 99, 3) := by decide +kernel
theorem dX6_sight_28 : decode cX6_sight 28 = .ok (.iload_n 1, 1) := by decide +kernel
theorem dX6_sight_29 : decode cX6_sight 29 = .ok (.iload_n 2, 1) := by decide +kernel
theorem dX6_sight_30 : decode cX6_sight 30 = .ok (.iload_n 3, 1) := by decide +kernel
theorem dX6_sight_31 : decode cX6_sight 31 = .ok (.invokevirtual 102, 3) := by decide +kernel
theorem dX6_sight_34 : decode cX6_sight 34 = .ok (.aload_n 0, 1) := by decide +kernel
theorem dX6_sight_35 : decode cX6_sight 35 = .ok (.getfield 26, 3) := by decide +kernel
theorem dX6_sight_38 : decode cX6_sight 38 = .ok (.getfield 99, 3) := by decide +kernel
theorem dX6_sight_41 : decode cX6_sight 41 = .ok (.iconst 1, 1) := by decide +kernel
theorem dX6_sight_42 : decode cX6_sight 42 = .ok (.isub, 1) := by decide +kernel
theorem dX6_sight_43 : decode cX6_sight 43 = .ok (.ireturn, 1) := by decide +kernel
theorem dX6_weight_0 : decode cX6_weight 0 = .ok (.iload_n 1, 1) := by decide +kernel
theorem dX6_weight_1 : decode cX6_weight 1 = .ok (.aload_n 0, 1) := by decide +kernel
theorem dX6_weight_2 : decode cX6_weight 2 = .ok (.getfield 26, 3) := by decide +kernel
theorem dX6_weight_5 : decode cX6_weight 5 = .ok (.getfield 99, 3) := by decide +kernel
theorem dX6_weight_8 : decode cX6_weight 8 = .ok (.invokestatic 191, 3) := by decide +kernel
theorem dX6_weight_11 : decode cX6_weight 11 = .ok (.aload_n 0, 1) := by decide +kernel
theorem dX6_weight_12 : decode cX6_weight 12 = .ok (.iload_n 1, 1) := by decide +kernel
theorem dX6_weight_13 : decode cX6_weight 13 = .ok (.aload_n 0, 1) := by decide +kernel
theorem dX6_weight_14 : decode cX6_weight 14 = .ok (.iload_n 2, 1) := by decide +kernel
theorem dX6_weight_15 : decode cX6_weight 15 = .ok (.invokevirtual 69, 3) := by decide +kernel
theorem dX6_weight_18 : decode cX6_weight 18 = .ok (.invokevirtual 209, 3) := by decide +kernel
theorem dX6_weight_21 : decode cX6_weight 21 = .ok (.lreturn, 1) := by decide +kernel
theorem dX6_matched_0 : decode cX6_matched 0 = .ok (.aload_n 0, 1) := by decide +kernel
theorem dX6_matched_1 : decode cX6_matched 1 = .ok (.invokevirtual 213, 3) := by decide +kernel
theorem dX6_matched_4 : decode cX6_matched 4 = .ok (.aload_n 0, 1) := by decide +kernel
theorem dX6_matched_5 : decode cX6_matched 5 = .ok (.getfield 33, 3) := by decide +kernel
theorem dX6_matched_8 : decode cX6_matched 8 = .ok (.invokevirtual 216, 3) := by decide +kernel
theorem dX6_matched_11 : decode cX6_matched 11 = .ok (.lreturn, 1) := by decide +kernel
theorem dX6_match_0 : decode cX6_match 0 = .ok (.iload_n 1, 1) := by decide +kernel
theorem dX6_match_1 : decode cX6_match 1 = .ok (.aload_n 0, 1) := by decide +kernel
theorem dX6_match_2 : decode cX6_match 2 = .ok (.getfield 26, 3) := by decide +kernel
theorem dX6_match_5 : decode cX6_match 5 = .ok (.getfield 99, 3) := by decide +kernel
theorem dX6_match_8 : decode cX6_match 8 = .ok (.invokestatic 191, 3) := by decide +kernel
theorem dX6_match_11 : decode cX6_match 11 = .ok (.aload_n 0, 1) := by decide +kernel
theorem dX6_match_12 : decode cX6_match 12 = .ok (.invokevirtual 213, 3) := by decide +kernel
theorem dX6_match_15 : decode cX6_match 15 = .ok (.aload_n 0, 1) := by decide +kernel
theorem dX6_match_16 : decode cX6_match 16 = .ok (.getfield 33, 3) := by decide +kernel
theorem dX6_match_19 : decode cX6_match 19 = .ok (.getfield 220, 3) := by decide +kernel
theorem dX6_match_22 : decode cX6_match 22 = .ok (.iload_n 1, 1) := by decide +kernel
theorem dX6_match_23 : decode cX6_match 23 = .ok (.iaload, 1) := by decide +kernel
theorem dX6_match_24 : decode cX6_match 24 = .ok (.ireturn, 1) := by decide +kernel
theorem dX6_told_0 : decode cX6_told 0 = .ok (.iload_n 1, 1) := by decide +kernel
theorem dX6_told_1 : decode cX6_told 1 = .ok (.tableswitch 87 0 6 #[43, 48, 53, 61, 69, 77, 82], 43) := by decide +kernel
theorem dX6_told_44 : decode cX6_told 44 = .ok (.aload_n 0, 1) := by decide +kernel
theorem dX6_told_45 : decode cX6_told 45 = .ok (.getfield 50, 3) := by decide +kernel
theorem dX6_told_48 : decode cX6_told 48 = .ok (.ireturn, 1) := by decide +kernel
theorem dX6_told_49 : decode cX6_told 49 = .ok (.aload_n 0, 1) := by decide +kernel
theorem dX6_told_50 : decode cX6_told 50 = .ok (.getfield 54, 3) := by decide +kernel
theorem dX6_told_53 : decode cX6_told 53 = .ok (.ireturn, 1) := by decide +kernel
theorem dX6_told_54 : decode cX6_told 54 = .ok (.aload_n 0, 1) := by decide +kernel
theorem dX6_told_55 : decode cX6_told 55 = .ok (.getfield 26, 3) := by decide +kernel
theorem dX6_told_58 : decode cX6_told 58 = .ok (.getfield 99, 3) := by decide +kernel
theorem dX6_told_61 : decode cX6_told 61 = .ok (.ireturn, 1) := by decide +kernel
theorem dX6_told_62 : decode cX6_told 62 = .ok (.aload_n 0, 1) := by decide +kernel
theorem dX6_told_63 : decode cX6_told 63 = .ok (.getfield 40, 3) := by decide +kernel
theorem dX6_told_66 : decode cX6_told 66 = .ok (.getfield 190, 3) := by decide +kernel
theorem dX6_told_69 : decode cX6_told 69 = .ok (.ireturn, 1) := by decide +kernel
theorem dX6_told_70 : decode cX6_told 70 = .ok (.aload_n 0, 1) := by decide +kernel
theorem dX6_told_71 : decode cX6_told 71 = .ok (.getfield 44, 3) := by decide +kernel
theorem dX6_told_74 : decode cX6_told 74 = .ok (.getfield 190, 3) := by decide +kernel
theorem dX6_told_77 : decode cX6_told 77 = .ok (.ireturn, 1) := by decide +kernel
theorem dX6_told_78 : decode cX6_told 78 = .ok (.aload_n 0, 1) := by decide +kernel
theorem dX6_told_79 : decode cX6_told 79 = .ok (.getfield 57, 3) := by decide +kernel
theorem dX6_told_82 : decode cX6_told 82 = .ok (.ireturn, 1) := by decide +kernel
theorem dX6_told_83 : decode cX6_told 83 = .ok (.aload_n 0, 1) := by decide +kernel
theorem dX6_told_84 : decode cX6_told 84 = .ok (.getfield 60, 3) := by decide +kernel
theorem dX6_told_87 : decode cX6_told 87 = .ok (.ireturn, 1) := by decide +kernel
theorem dX6_told_88 : decode cX6_told 88 = .ok (.new 119, 3) := by decide +kernel
theorem dX6_told_91 : decode cX6_told 91 = .ok (.dup, 1) := by decide +kernel
theorem dX6_told_92 : decode cX6_told 92 = .ok (.invokespecial 121, 3) := by decide +kernel
theorem dX6_told_95 : decode cX6_told 95 = .ok (.athrow, 1) := by decide +kernel
theorem dX6_deviceOf_0 : decode cX6_deviceOf 0 = .ok (.iload_n 1, 1) := by decide +kernel
theorem dX6_deviceOf_1 : decode cX6_deviceOf 1 = .ok (.aload_n 0, 1) := by decide +kernel
theorem dX6_deviceOf_2 : decode cX6_deviceOf 2 = .ok (.getfield 50, 3) := by decide +kernel
theorem dX6_deviceOf_5 : decode cX6_deviceOf 5 = .ok (.invokestatic 191, 3) := by decide +kernel
theorem dX6_deviceOf_8 : decode cX6_deviceOf 8 = .ok (.aload_n 0, 1) := by decide +kernel
theorem dX6_deviceOf_9 : decode cX6_deviceOf 9 = .ok (.getfield 11, 3) := by decide +kernel
theorem dX6_deviceOf_12 : decode cX6_deviceOf 12 = .ok (.iload_n 1, 1) := by decide +kernel
theorem dX6_deviceOf_13 : decode cX6_deviceOf 13 = .ok (.aaload, 1) := by decide +kernel
theorem dX6_deviceOf_14 : decode cX6_deviceOf 14 = .ok (.areturn, 1) := by decide +kernel
theorem dX6_deviceWithPlace_0 : decode cX6_deviceWithPlace 0 = .ok (.aload_n 0, 1) := by decide +kernel
theorem dX6_deviceWithPlace_1 : decode cX6_deviceWithPlace 1 = .ok (.iload_n 1, 1) := by decide +kernel
theorem dX6_deviceWithPlace_2 : decode cX6_deviceWithPlace 2 = .ok (.invokevirtual 69, 3) := by decide +kernel
theorem dX6_deviceWithPlace_5 : decode cX6_deviceWithPlace 5 = .ok (.astore_n 3, 1) := by decide +kernel
theorem dX6_deviceWithPlace_6 : decode cX6_deviceWithPlace 6 = .ok (.iload_n 2, 1) := by decide +kernel
theorem dX6_deviceWithPlace_7 : decode cX6_deviceWithPlace 7 = .ok (.aload_n 3, 1) := by decide +kernel
theorem dX6_deviceWithPlace_8 : decode cX6_deviceWithPlace 8 = .ok (.getfield 73, 3) := by decide +kernel
theorem dX6_deviceWithPlace_11 : decode cX6_deviceWithPlace 11 = .ok (.getfield 99, 3) := by decide +kernel
theorem dX6_deviceWithPlace_14 : decode cX6_deviceWithPlace 14 = .ok (.invokestatic 191, 3) := by decide +kernel
theorem dX6_deviceWithPlace_17 : decode cX6_deviceWithPlace 17 = .ok (.aload_n 3, 1) := by decide +kernel
theorem dX6_deviceWithPlace_18 : decode cX6_deviceWithPlace 18 = .ok (.areturn, 1) := by decide +kernel
theorem dX6_fenceOf_0 : decode cX6_fenceOf 0 = .ok (.iload_n 1, 1) := by decide +kernel
theorem dX6_fenceOf_1 : decode cX6_fenceOf 1 = .ok (.aload_n 0, 1) := by decide +kernel
theorem dX6_fenceOf_2 : decode cX6_fenceOf 2 = .ok (.getfield 54, 3) := by decide +kernel
theorem dX6_fenceOf_5 : decode cX6_fenceOf 5 = .ok (.invokestatic 191, 3) := by decide +kernel
theorem dX6_fenceOf_8 : decode cX6_fenceOf 8 = .ok (.aload_n 0, 1) := by decide +kernel
theorem dX6_fenceOf_9 : decode cX6_fenceOf 9 = .ok (.getfield 17, 3) := by decide +kernel
theorem dX6_fenceOf_12 : decode cX6_fenceOf 12 = .ok (.iload_n 1, 1) := by decide +kernel
theorem dX6_fenceOf_13 : decode cX6_fenceOf 13 = .ok (.aaload, 1) := by decide +kernel
theorem dX6_fenceOf_14 : decode cX6_fenceOf 14 = .ok (.areturn, 1) := by decide +kernel
theorem dX6_weightOf_0 : decode cX6_weightOf 0 = .ok (.aload_n 2, 1) := by decide +kernel
theorem dX6_weightOf_1 : decode cX6_weightOf 1 = .ok (.aload_n 0, 1) := by decide +kernel
theorem dX6_weightOf_2 : decode cX6_weightOf 2 = .ok (.getfield 26, 3) := by decide +kernel
theorem dX6_weightOf_5 : decode cX6_weightOf 5 = .ok (.getfield 126, 3) := by decide +kernel
theorem dX6_weightOf_8 : decode cX6_weightOf 8 = .ok (.iload_n 1, 1) := by decide +kernel
theorem dX6_weightOf_9 : decode cX6_weightOf 9 = .ok (.iaload, 1) := by decide +kernel
theorem dX6_weightOf_10 : decode cX6_weightOf 10 = .ok (.invokevirtual 223, 3) := by decide +kernel
theorem dX6_weightOf_13 : decode cX6_weightOf 13 = .ok (.istore_n 3, 1) := by decide +kernel
theorem dX6_weightOf_14 : decode cX6_weightOf 14 = .ok (.iload_n 3, 1) := by decide +kernel
theorem dX6_weightOf_15 : decode cX6_weightOf 15 = .ok (.iconst (-1), 1) := by decide +kernel
theorem dX6_weightOf_16 : decode cX6_weightOf 16 = .ok (.if_icmp .ne 9, 3) := by decide +kernel
theorem dX6_weightOf_19 : decode cX6_weightOf 19 = .ok (.ldc2_w 226, 3) := by decide +kernel
theorem dX6_weightOf_22 : decode cX6_weightOf 22 = .ok (.goto 29, 3) := by decide +kernel
theorem dX6_weightOf_25 : decode cX6_weightOf 25 = .ok (.aload_n 2, 1) := by decide +kernel
theorem dX6_weightOf_26 : decode cX6_weightOf 26 = .ok (.getfield 73, 3) := by decide +kernel
theorem dX6_weightOf_29 : decode cX6_weightOf 29 = .ok (.iload_n 3, 1) := by decide +kernel
theorem dX6_weightOf_30 : decode cX6_weightOf 30 = .ok (.aload_n 0, 1) := by decide +kernel
theorem dX6_weightOf_31 : decode cX6_weightOf 31 = .ok (.getfield 26, 3) := by decide +kernel
theorem dX6_weightOf_34 : decode cX6_weightOf 34 = .ok (.getfield 130, 3) := by decide +kernel
theorem dX6_weightOf_37 : decode cX6_weightOf 37 = .ok (.iload_n 1, 1) := by decide +kernel
theorem dX6_weightOf_38 : decode cX6_weightOf 38 = .ok (.iaload, 1) := by decide +kernel
theorem dX6_weightOf_39 : decode cX6_weightOf 39 = .ok (.aload_n 0, 1) := by decide +kernel
theorem dX6_weightOf_40 : decode cX6_weightOf 40 = .ok (.getfield 26, 3) := by decide +kernel
theorem dX6_weightOf_43 : decode cX6_weightOf 43 = .ok (.getfield 133, 3) := by decide +kernel
theorem dX6_weightOf_46 : decode cX6_weightOf 46 = .ok (.iload_n 1, 1) := by decide +kernel
theorem dX6_weightOf_47 : decode cX6_weightOf 47 = .ok (.iaload, 1) := by decide +kernel
theorem dX6_weightOf_48 : decode cX6_weightOf 48 = .ok (.invokevirtual 228, 3) := by decide +kernel
theorem dX6_weightOf_51 : decode cX6_weightOf 51 = .ok (.lreturn, 1) := by decide +kernel
theorem dX6_matchAll_0 : decode cX6_matchAll 0 = .ok (.iconst 0, 1) := by decide +kernel
theorem dX6_matchAll_1 : decode cX6_matchAll 1 = .ok (.istore_n 1, 1) := by decide +kernel
theorem dX6_matchAll_2 : decode cX6_matchAll 2 = .ok (.iload_n 1, 1) := by decide +kernel
theorem dX6_matchAll_3 : decode cX6_matchAll 3 = .ok (.aload_n 0, 1) := by decide +kernel
theorem dX6_matchAll_4 : decode cX6_matchAll 4 = .ok (.getfield 26, 3) := by decide +kernel
theorem dX6_matchAll_7 : decode cX6_matchAll 7 = .ok (.getfield 99, 3) := by decide +kernel
theorem dX6_matchAll_10 : decode cX6_matchAll 10 = .ok (.if_icmp .ge 47, 3) := by decide +kernel
theorem dX6_matchAll_13 : decode cX6_matchAll 13 = .ok (.iconst 0, 1) := by decide +kernel
theorem dX6_matchAll_14 : decode cX6_matchAll 14 = .ok (.istore_n 2, 1) := by decide +kernel
theorem dX6_matchAll_15 : decode cX6_matchAll 15 = .ok (.iload_n 2, 1) := by decide +kernel
theorem dX6_matchAll_16 : decode cX6_matchAll 16 = .ok (.aload_n 0, 1) := by decide +kernel
theorem dX6_matchAll_17 : decode cX6_matchAll 17 = .ok (.getfield 50, 3) := by decide +kernel
theorem dX6_matchAll_20 : decode cX6_matchAll 20 = .ok (.if_icmp .ge 31, 3) := by decide +kernel
theorem dX6_matchAll_23 : decode cX6_matchAll 23 = .ok (.aload_n 0, 1) := by decide +kernel
theorem dX6_matchAll_24 : decode cX6_matchAll 24 = .ok (.getfield 33, 3) := by decide +kernel
theorem dX6_matchAll_27 : decode cX6_matchAll 27 = .ok (.getfield 231, 3) := by decide +kernel
theorem dX6_matchAll_30 : decode cX6_matchAll 30 = .ok (.iload_n 1, 1) := by decide +kernel
theorem dX6_matchAll_31 : decode cX6_matchAll 31 = .ok (.aaload, 1) := by decide +kernel
theorem dX6_matchAll_32 : decode cX6_matchAll 32 = .ok (.iload_n 2, 1) := by decide +kernel
theorem dX6_matchAll_33 : decode cX6_matchAll 33 = .ok (.aload_n 0, 1) := by decide +kernel
theorem dX6_matchAll_34 : decode cX6_matchAll 34 = .ok (.iload_n 1, 1) := by decide +kernel
theorem dX6_matchAll_35 : decode cX6_matchAll 35 = .ok (.aload_n 0, 1) := by decide +kernel
theorem dX6_matchAll_36 : decode cX6_matchAll 36 = .ok (.getfield 11, 3) := by decide +kernel
theorem dX6_matchAll_39 : decode cX6_matchAll 39 = .ok (.iload_n 2, 1) := by decide +kernel
theorem dX6_matchAll_40 : decode cX6_matchAll 40 = .ok (.aaload, 1) := by decide +kernel
theorem dX6_matchAll_41 : decode cX6_matchAll 41 = .ok (.invokevirtual 209, 3) := by decide +kernel
theorem dX6_matchAll_44 : decode cX6_matchAll 44 = .ok (.lastore, 1) := by decide +kernel
theorem dX6_matchAll_45 : decode cX6_matchAll 45 = .ok (.iinc 2 1, 3) := by decide +kernel
theorem dX6_matchAll_48 : decode cX6_matchAll 48 = .ok (.goto (-33), 3) := by decide +kernel
theorem dX6_matchAll_51 : decode cX6_matchAll 51 = .ok (.iinc 1 1, 3) := by decide +kernel
theorem dX6_matchAll_54 : decode cX6_matchAll 54 = .ok (.goto (-52), 3) := by decide +kernel
theorem dX6_matchAll_57 : decode cX6_matchAll 57 = .ok (.aload_n 0, 1) := by decide +kernel
theorem dX6_matchAll_58 : decode cX6_matchAll 58 = .ok (.getfield 33, 3) := by decide +kernel
theorem dX6_matchAll_61 : decode cX6_matchAll 61 = .ok (.aload_n 0, 1) := by decide +kernel
theorem dX6_matchAll_62 : decode cX6_matchAll 62 = .ok (.getfield 26, 3) := by decide +kernel
theorem dX6_matchAll_65 : decode cX6_matchAll 65 = .ok (.getfield 99, 3) := by decide +kernel
theorem dX6_matchAll_68 : decode cX6_matchAll 68 = .ok (.aload_n 0, 1) := by decide +kernel
theorem dX6_matchAll_69 : decode cX6_matchAll 69 = .ok (.getfield 50, 3) := by decide +kernel
theorem dX6_matchAll_72 : decode cX6_matchAll 72 = .ok (.invokevirtual 235, 3) := by decide +kernel
theorem dX6_matchAll_75 : decode cX6_matchAll 75 = .ok (.return_, 1) := by decide +kernel
theorem dX6_refuseNumber_0 : decode cX6_refuseNumber 0 = .ok (.iload_n 0, 1) := by decide +kernel
theorem dX6_refuseNumber_1 : decode cX6_refuseNumber 1 = .ok (.ifCond .lt 8, 3) := by decide +kernel
theorem dX6_refuseNumber_4 : decode cX6_refuseNumber 4 = .ok (.iload_n 0, 1) := by decide +kernel
theorem dX6_refuseNumber_5 : decode cX6_refuseNumber 5 = .ok (.iload_n 1, 1) := by decide +kernel
theorem dX6_refuseNumber_6 : decode cX6_refuseNumber 6 = .ok (.if_icmp .lt 11, 3) := by decide +kernel
theorem dX6_refuseNumber_9 : decode cX6_refuseNumber 9 = .ok (.new 160, 3) := by decide +kernel
theorem dX6_refuseNumber_12 : decode cX6_refuseNumber 12 = .ok (.dup, 1) := by decide +kernel
theorem dX6_refuseNumber_13 : decode cX6_refuseNumber 13 = .ok (.invokespecial 162, 3) := by decide +kernel
theorem dX6_refuseNumber_16 : decode cX6_refuseNumber 16 = .ok (.athrow, 1) := by decide +kernel
theorem dX6_refuseNumber_17 : decode cX6_refuseNumber 17 = .ok (.return_, 1) := by decide +kernel
theorem dX6_refuseOutside_0 : decode cX6_refuseOutside 0 = .ok (.iload_n 0, 1) := by decide +kernel
theorem dX6_refuseOutside_1 : decode cX6_refuseOutside 1 = .ok (.iload_n 1, 1) := by decide +kernel
theorem dX6_refuseOutside_2 : decode cX6_refuseOutside 2 = .ok (.if_icmp .lt 12, 3) := by decide +kernel
theorem dX6_refuseOutside_5 : decode cX6_refuseOutside 5 = .ok (.iload_n 0, 1) := by decide +kernel
theorem dX6_refuseOutside_6 : decode cX6_refuseOutside 6 = .ok (.iload_n 2, 1) := by decide +kernel
theorem dX6_refuseOutside_7 : decode cX6_refuseOutside 7 = .ok (.if_icmp .gt 7, 3) := by decide +kernel
theorem dX6_refuseOutside_10 : decode cX6_refuseOutside 10 = .ok (.iconst 1, 1) := by decide +kernel
theorem dX6_refuseOutside_11 : decode cX6_refuseOutside 11 = .ok (.goto 4, 3) := by decide +kernel
theorem dX6_refuseOutside_14 : decode cX6_refuseOutside 14 = .ok (.iconst 0, 1) := by decide +kernel
theorem dX6_refuseOutside_15 : decode cX6_refuseOutside 15 = .ok (.invokestatic 92, 3) := by decide +kernel
theorem dX6_refuseOutside_18 : decode cX6_refuseOutside 18 = .ok (.return_, 1) := by decide +kernel
theorem dX6_refuseUntellable_0 : decode cX6_refuseUntellable 0 = .ok (.iload_n 0, 1) := by decide +kernel
theorem dX6_refuseUntellable_1 : decode cX6_refuseUntellable 1 = .ok (.iload_n 1, 1) := by decide +kernel
theorem dX6_refuseUntellable_2 : decode cX6_refuseUntellable 2 = .ok (.iload_n 2, 1) := by decide +kernel
theorem dX6_refuseUntellable_3 : decode cX6_refuseUntellable 3 = .ok (.invokestatic 238, 3) := by decide +kernel
theorem dX6_refuseUntellable_6 : decode cX6_refuseUntellable 6 = .ok (.invokestatic 92, 3) := by decide +kernel
theorem dX6_refuseUntellable_9 : decode cX6_refuseUntellable 9 = .ok (.return_, 1) := by decide +kernel
theorem dX6_refuseUnless_0 : decode cX6_refuseUnless 0 = .ok (.iload_n 0, 1) := by decide +kernel
theorem dX6_refuseUnless_1 : decode cX6_refuseUnless 1 = .ok (.ifCond .ne 11, 3) := by decide +kernel
theorem dX6_refuseUnless_4 : decode cX6_refuseUnless 4 = .ok (.new 119, 3) := by decide +kernel
theorem dX6_refuseUnless_7 : decode cX6_refuseUnless 7 = .ok (.dup, 1) := by decide +kernel
theorem dX6_refuseUnless_8 : decode cX6_refuseUnless 8 = .ok (.invokespecial 121, 3) := by decide +kernel
theorem dX6_refuseUnless_11 : decode cX6_refuseUnless 11 = .ok (.athrow, 1) := by decide +kernel
theorem dX6_refuseUnless_12 : decode cX6_refuseUnless 12 = .ok (.return_, 1) := by decide +kernel
theorem dX6_refuseMore_0 : decode cX6_refuseMore 0 = .ok (.iload_n 0, 1) := by decide +kernel
theorem dX6_refuseMore_1 : decode cX6_refuseMore 1 = .ok (.iload_n 1, 1) := by decide +kernel
theorem dX6_refuseMore_2 : decode cX6_refuseMore 2 = .ok (.if_icmp .lt 11, 3) := by decide +kernel
theorem dX6_refuseMore_5 : decode cX6_refuseMore 5 = .ok (.new 241, 3) := by decide +kernel
theorem dX6_refuseMore_8 : decode cX6_refuseMore 8 = .ok (.dup, 1) := by decide +kernel
theorem dX6_refuseMore_9 : decode cX6_refuseMore 9 = .ok (.invokespecial 243, 3) := by decide +kernel
theorem dX6_refuseMore_12 : decode cX6_refuseMore 12 = .ok (.athrow, 1) := by decide +kernel
theorem dX6_refuseMore_13 : decode cX6_refuseMore 13 = .ok (.return_, 1) := by decide +kernel
theorem dX6_isTellable_0 : decode cX6_isTellable 0 = .ok (.iload_n 0, 1) := by decide +kernel
theorem dX6_isTellable_1 : decode cX6_isTellable 1 = .ok (.ifCond .lt 37, 3) := by decide +kernel
theorem dX6_isTellable_4 : decode cX6_isTellable 4 = .ok (.iload_n 0, 1) := by decide +kernel
theorem dX6_isTellable_5 : decode cX6_isTellable 5 = .ok (.ldc 139, 2) := by decide +kernel
theorem dX6_isTellable_7 : decode cX6_isTellable 7 = .ok (.if_icmp .gt 31, 3) := by decide +kernel
theorem dX6_isTellable_10 : decode cX6_isTellable 10 = .ok (.iload_n 1, 1) := by decide +kernel
theorem dX6_isTellable_11 : decode cX6_isTellable 11 = .ok (.ldc 178, 2) := by decide +kernel
theorem dX6_isTellable_13 : decode cX6_isTellable 13 = .ok (.if_icmp .lt 25, 3) := by decide +kernel
theorem dX6_isTellable_16 : decode cX6_isTellable 16 = .ok (.iload_n 1, 1) := by decide +kernel
theorem dX6_isTellable_17 : decode cX6_isTellable 17 = .ok (.ldc 152, 2) := by decide +kernel
theorem dX6_isTellable_19 : decode cX6_isTellable 19 = .ok (.if_icmp .gt 19, 3) := by decide +kernel
theorem dX6_isTellable_22 : decode cX6_isTellable 22 = .ok (.iload_n 2, 1) := by decide +kernel
theorem dX6_isTellable_23 : decode cX6_isTellable 23 = .ok (.ldc 178, 2) := by decide +kernel
theorem dX6_isTellable_25 : decode cX6_isTellable 25 = .ok (.if_icmp .lt 13, 3) := by decide +kernel
theorem dX6_isTellable_28 : decode cX6_isTellable 28 = .ok (.iload_n 2, 1) := by decide +kernel
theorem dX6_isTellable_29 : decode cX6_isTellable 29 = .ok (.ldc 152, 2) := by decide +kernel
theorem dX6_isTellable_31 : decode cX6_isTellable 31 = .ok (.if_icmp .gt 7, 3) := by decide +kernel
theorem dX6_isTellable_34 : decode cX6_isTellable 34 = .ok (.iconst 1, 1) := by decide +kernel
theorem dX6_isTellable_35 : decode cX6_isTellable 35 = .ok (.goto 4, 3) := by decide +kernel
theorem dX6_isTellable_38 : decode cX6_isTellable 38 = .ok (.iconst 0, 1) := by decide +kernel
theorem dX6_isTellable_39 : decode cX6_isTellable 39 = .ok (.ireturn, 1) := by decide +kernel
theorem dX6_secondsFor_0 : decode cX6_secondsFor 0 = .ok (.iconst 0, 1) := by decide +kernel
theorem dX6_secondsFor_1 : decode cX6_secondsFor 1 = .ok (.istore_n 3, 1) := by decide +kernel
theorem dX6_secondsFor_2 : decode cX6_secondsFor 2 = .ok (.ldc 139, 2) := by decide +kernel
theorem dX6_secondsFor_4 : decode cX6_secondsFor 4 = .ok (.istore 4, 2) := by decide +kernel
theorem dX6_secondsFor_6 : decode cX6_secondsFor 6 = .ok (.iload_n 3, 1) := by decide +kernel
theorem dX6_secondsFor_7 : decode cX6_secondsFor 7 = .ok (.iload 4, 2) := by decide +kernel
theorem dX6_secondsFor_9 : decode cX6_secondsFor 9 = .ok (.if_icmp .ge 44, 3) := by decide +kernel
theorem dX6_secondsFor_12 : decode cX6_secondsFor 12 = .ok (.iload_n 3, 1) := by decide +kernel
theorem dX6_secondsFor_13 : decode cX6_secondsFor 13 = .ok (.iload 4, 2) := by decide +kernel
theorem dX6_secondsFor_15 : decode cX6_secondsFor 15 = .ok (.iadd, 1) := by decide +kernel
theorem dX6_secondsFor_16 : decode cX6_secondsFor 16 = .ok (.iconst 1, 1) := by decide +kernel
theorem dX6_secondsFor_17 : decode cX6_secondsFor 17 = .ok (.ishr, 1) := by decide +kernel
theorem dX6_secondsFor_18 : decode cX6_secondsFor 18 = .ok (.istore 5, 2) := by decide +kernel
theorem dX6_secondsFor_20 : decode cX6_secondsFor 20 = .ok (.iload_n 2, 1) := by decide +kernel
theorem dX6_secondsFor_21 : decode cX6_secondsFor 21 = .ok (.i2l, 1) := by decide +kernel
theorem dX6_secondsFor_22 : decode cX6_secondsFor 22 = .ok (.iload 5, 2) := by decide +kernel
theorem dX6_secondsFor_24 : decode cX6_secondsFor 24 = .ok (.i2l, 1) := by decide +kernel
theorem dX6_secondsFor_25 : decode cX6_secondsFor 25 = .ok (.lmul, 1) := by decide +kernel
theorem dX6_secondsFor_26 : decode cX6_secondsFor 26 = .ok (.lstore 6, 2) := by decide +kernel
theorem dX6_secondsFor_28 : decode cX6_secondsFor 28 = .ok (.lload 6, 2) := by decide +kernel
theorem dX6_secondsFor_30 : decode cX6_secondsFor 30 = .ok (.lload 6, 2) := by decide +kernel
theorem dX6_secondsFor_32 : decode cX6_secondsFor 32 = .ok (.lmul, 1) := by decide +kernel
theorem dX6_secondsFor_33 : decode cX6_secondsFor 33 = .ok (.lload_n 0, 1) := by decide +kernel
theorem dX6_secondsFor_34 : decode cX6_secondsFor 34 = .ok (.lcmp, 1) := by decide +kernel
theorem dX6_secondsFor_35 : decode cX6_secondsFor 35 = .ok (.ifCond .lt 10, 3) := by decide +kernel
theorem dX6_secondsFor_38 : decode cX6_secondsFor 38 = .ok (.iload 5, 2) := by decide +kernel
theorem dX6_secondsFor_40 : decode cX6_secondsFor 40 = .ok (.istore 4, 2) := by decide +kernel
theorem dX6_secondsFor_42 : decode cX6_secondsFor 42 = .ok (.goto 8, 3) := by decide +kernel
theorem dX6_secondsFor_45 : decode cX6_secondsFor 45 = .ok (.iload 5, 2) := by decide +kernel
theorem dX6_secondsFor_47 : decode cX6_secondsFor 47 = .ok (.iconst 1, 1) := by decide +kernel
theorem dX6_secondsFor_48 : decode cX6_secondsFor 48 = .ok (.iadd, 1) := by decide +kernel
theorem dX6_secondsFor_49 : decode cX6_secondsFor 49 = .ok (.istore_n 3, 1) := by decide +kernel
theorem dX6_secondsFor_50 : decode cX6_secondsFor 50 = .ok (.goto (-44), 3) := by decide +kernel
theorem dX6_secondsFor_53 : decode cX6_secondsFor 53 = .ok (.iload_n 3, 1) := by decide +kernel
theorem dX6_secondsFor_54 : decode cX6_secondsFor 54 = .ok (.ireturn, 1) := by decide +kernel
theorem dX7_init_0 : decode cX7_init 0 = .ok (.aload_n 0, 1) := by decide +kernel
theorem dX7_init_1 : decode cX7_init 1 = .ok (.invokespecial 1, 3) := by decide +kernel
theorem dX7_init_4 : decode cX7_init 4 = .ok (.aload_n 0, 1) := by decide +kernel
theorem dX7_init_5 : decode cX7_init 5 = .ok (.iconst 5, 1) := by decide +kernel
theorem dX7_init_6 : decode cX7_init 6 = .ok (.newarray .int, 2) := by decide +kernel
theorem dX7_init_8 : decode cX7_init 8 = .ok (.putfield 7, 3) := by decide +kernel
theorem dX7_init_11 : decode cX7_init 11 = .ok (.aload_n 0, 1) := by decide +kernel
theorem dX7_init_12 : decode cX7_init 12 = .ok (.iconst 5, 1) := by decide +kernel
theorem dX7_init_13 : decode cX7_init 13 = .ok (.newarray .int, 2) := by decide +kernel
theorem dX7_init_15 : decode cX7_init 15 = .ok (.putfield 13, 3) := by decide +kernel
theorem dX7_init_18 : decode cX7_init 18 = .ok (.aload_n 0, 1) := by decide +kernel
theorem dX7_init_19 : decode cX7_init 19 = .ok (.sipush 300, 3) := by decide +kernel
theorem dX7_init_22 : decode cX7_init 22 = .ok (.newarray .int, 2) := by decide +kernel
theorem dX7_init_24 : decode cX7_init 24 = .ok (.putfield 16, 3) := by decide +kernel
theorem dX7_init_27 : decode cX7_init 27 = .ok (.aload_n 0, 1) := by decide +kernel
theorem dX7_init_28 : decode cX7_init 28 = .ok (.sipush 300, 3) := by decide +kernel
theorem dX7_init_31 : decode cX7_init 31 = .ok (.newarray .int, 2) := by decide +kernel
theorem dX7_init_33 : decode cX7_init 33 = .ok (.putfield 19, 3) := by decide +kernel
theorem dX7_init_36 : decode cX7_init 36 = .ok (.aload_n 0, 1) := by decide +kernel
theorem dX7_init_37 : decode cX7_init 37 = .ok (.sipush 300, 3) := by decide +kernel
theorem dX7_init_40 : decode cX7_init 40 = .ok (.newarray .int, 2) := by decide +kernel
theorem dX7_init_42 : decode cX7_init 42 = .ok (.putfield 22, 3) := by decide +kernel
theorem dX7_init_45 : decode cX7_init 45 = .ok (.aload_n 0, 1) := by decide +kernel
theorem dX7_init_46 : decode cX7_init 46 = .ok (.iconst 5, 1) := by decide +kernel
theorem dX7_init_47 : decode cX7_init 47 = .ok (.newarray .int, 2) := by decide +kernel
theorem dX7_init_49 : decode cX7_init 49 = .ok (.putfield 25, 3) := by decide +kernel
theorem dX7_init_52 : decode cX7_init 52 = .ok (.aload_n 0, 1) := by decide +kernel
theorem dX7_init_53 : decode cX7_init 53 = .ok (.bipush 40, 2) := by decide +kernel
theorem dX7_init_55 : decode cX7_init 55 = .ok (.newarray .int, 2) := by decide +kernel
theorem dX7_init_57 : decode cX7_init 57 = .ok (.putfield 28, 3) := by decide +kernel
theorem dX7_init_60 : decode cX7_init 60 = .ok (.aload_n 0, 1) := by decide +kernel
theorem dX7_init_61 : decode cX7_init 61 = .ok (.bipush 40, 2) := by decide +kernel
theorem dX7_init_63 : decode cX7_init 63 = .ok (.newarray .int, 2) := by decide +kernel
theorem dX7_init_65 : decode cX7_init 65 = .ok (.putfield 31, 3) := by decide +kernel
theorem dX7_init_68 : decode cX7_init 68 = .ok (.aload_n 0, 1) := by decide +kernel
theorem dX7_init_69 : decode cX7_init 69 = .ok (.bipush 10, 2) := by decide +kernel
theorem dX7_init_71 : decode cX7_init 71 = .ok (.putfield 34, 3) := by decide +kernel
theorem dX7_init_74 : decode cX7_init 74 = .ok (.aload_n 0, 1) := by decide +kernel
theorem dX7_init_75 : decode cX7_init 75 = .ok (.sipush 600, 3) := by decide +kernel
theorem dX7_init_78 : decode cX7_init 78 = .ok (.putfield 38, 3) := by decide +kernel
theorem dX7_init_81 : decode cX7_init 81 = .ok (.aload_n 0, 1) := by decide +kernel
theorem dX7_init_82 : decode cX7_init 82 = .ok (.iconst 4, 1) := by decide +kernel
theorem dX7_init_83 : decode cX7_init 83 = .ok (.newarray .int, 2) := by decide +kernel
theorem dX7_init_85 : decode cX7_init 85 = .ok (.putfield 41, 3) := by decide +kernel
theorem dX7_init_88 : decode cX7_init 88 = .ok (.aload_n 0, 1) := by decide +kernel
theorem dX7_init_89 : decode cX7_init 89 = .ok (.bipush 32, 2) := by decide +kernel
theorem dX7_init_91 : decode cX7_init 91 = .ok (.newarray .int, 2) := by decide +kernel
theorem dX7_init_93 : decode cX7_init 93 = .ok (.putfield 44, 3) := by decide +kernel
theorem dX7_init_96 : decode cX7_init 96 = .ok (.aload_n 0, 1) := by decide +kernel
theorem dX7_init_97 : decode cX7_init 97 = .ok (.bipush 32, 2) := by decide +kernel
theorem dX7_init_99 : decode cX7_init 99 = .ok (.newarray .int, 2) := by decide +kernel
theorem dX7_init_101 : decode cX7_init 101 = .ok (.putfield 47, 3) := by decide +kernel
theorem dX7_init_104 : decode cX7_init 104 = .ok (.aload_n 0, 1) := by decide +kernel
theorem dX7_init_105 : decode cX7_init 105 = .ok (.sipush 600, 3) := by decide +kernel
theorem dX7_init_108 : decode cX7_init 108 = .ok (.newarray .int, 2) := by decide +kernel
theorem dX7_init_110 : decode cX7_init 110 = .ok (.putfield 50, 3) := by decide +kernel
theorem dX7_init_113 : decode cX7_init 113 = .ok (.aload_n 0, 1) := by decide +kernel
theorem dX7_init_114 : decode cX7_init 114 = .ok (.sipush 600, 3) := by decide +kernel
theorem dX7_init_117 : decode cX7_init 117 = .ok (.newarray .int, 2) := by decide +kernel
theorem dX7_init_119 : decode cX7_init 119 = .ok (.putfield 53, 3) := by decide +kernel
theorem dX7_init_122 : decode cX7_init 122 = .ok (.aload_n 0, 1) := by decide +kernel
theorem dX7_init_123 : decode cX7_init 123 = .ok (.sipush 180, 3) := by decide +kernel
theorem dX7_init_126 : decode cX7_init 126 = .ok (.newarray .int, 2) := by decide +kernel
theorem dX7_init_128 : decode cX7_init 128 = .ok (.putfield 56, 3) := by decide +kernel
theorem dX7_init_131 : decode cX7_init 131 = .ok (.aload_n 0, 1) := by decide +kernel
theorem dX7_init_132 : decode cX7_init 132 = .ok (.iconst 5, 1) := by decide +kernel
theorem dX7_init_133 : decode cX7_init 133 = .ok (.newarray .int, 2) := by decide +kernel
theorem dX7_init_135 : decode cX7_init 135 = .ok (.putfield 59, 3) := by decide +kernel
theorem dX7_init_138 : decode cX7_init 138 = .ok (.aload_n 0, 1) := by decide +kernel
theorem dX7_init_139 : decode cX7_init 139 = .ok (.iconst 5, 1) := by decide +kernel
theorem dX7_init_140 : decode cX7_init 140 = .ok (.newarray .int, 2) := by decide +kernel
theorem dX7_init_142 : decode cX7_init 142 = .ok (.putfield 62, 3) := by decide +kernel
theorem dX7_init_145 : decode cX7_init 145 = .ok (.aload_n 0, 1) := by decide +kernel
theorem dX7_init_146 : decode cX7_init 146 = .ok (.iconst 5, 1) := by decide +kernel
theorem dX7_init_147 : decode cX7_init 147 = .ok (.newarray .int, 2) := by decide +kernel
theorem dX7_init_149 : decode cX7_init 149 = .ok (.putfield 65, 3) := by decide +kernel
theorem dX7_init_152 : decode cX7_init 152 = .ok (.aload_n 0, 1) := by decide +kernel
theorem dX7_init_153 : decode cX7_init 153 = .ok (.bipush 25, 2) := by decide +kernel
theorem dX7_init_155 : decode cX7_init 155 = .ok (.newarray .long, 2) := by decide +kernel
theorem dX7_init_157 : decode cX7_init 157 = .ok (.putfield 68, 3) := by decide +kernel
theorem dX7_init_160 : decode cX7_init 160 = .ok (.return_, 1) := by decide +kernel
theorem dX7_thrown_0 : decode cX7_thrown 0 = .ok (.aload_n 0, 1) := by decide +kernel
theorem dX7_thrown_1 : decode cX7_thrown 1 = .ok (.getfield 72, 3) := by decide +kernel
theorem dX7_thrown_4 : decode cX7_thrown 4 = .ok (.ireturn, 1) := by decide +kernel
theorem dX7_fails_0 : decode cX7_fails 0 = .ok (.aload_n 0, 1) := by decide +kernel
theorem dX7_fails_1 : decode cX7_fails 1 = .ok (.getfield 72, 3) := by decide +kernel
theorem dX7_fails_4 : decode cX7_fails 4 = .ok (.ifCond .ne 12, 3) := by decide +kernel
theorem dX7_fails_7 : decode cX7_fails 7 = .ok (.iload_n 1, 1) := by decide +kernel
theorem dX7_fails_8 : decode cX7_fails 8 = .ok (.ifCond .eq 8, 3) := by decide +kernel
theorem dX7_fails_11 : decode cX7_fails 11 = .ok (.aload_n 0, 1) := by decide +kernel
theorem dX7_fails_12 : decode cX7_fails 12 = .ok (.iload_n 2, 1) := by decide +kernel
theorem dX7_fails_13 : decode cX7_fails 13 = .ok (.putfield 72, 3) := by decide +kernel
theorem dX7_fails_16 : decode cX7_fails 16 = .ok (.aload_n 0, 1) := by decide +kernel
theorem dX7_fails_17 : decode cX7_fails 17 = .ok (.getfield 72, 3) := by decide +kernel
theorem dX7_fails_20 : decode cX7_fails 20 = .ok (.ifCond .le 7, 3) := by decide +kernel
theorem dX7_fails_23 : decode cX7_fails 23 = .ok (.iconst 1, 1) := by decide +kernel
theorem dX7_fails_24 : decode cX7_fails 24 = .ok (.goto 4, 3) := by decide +kernel
theorem dX7_fails_27 : decode cX7_fails 27 = .ok (.iconst 0, 1) := by decide +kernel
theorem dX7_fails_28 : decode cX7_fails 28 = .ok (.ireturn, 1) := by decide +kernel
theorem dX7_within_0 : decode cX7_within 0 = .ok (.lload_n 0, 1) := by decide +kernel
theorem dX7_within_1 : decode cX7_within 1 = .ok (.lload_n 2, 1) := by decide +kernel
theorem dX7_within_2 : decode cX7_within 2 = .ok (.lcmp, 1) := by decide +kernel
theorem dX7_within_3 : decode cX7_within 3 = .ok (.ifCond .lt 14, 3) := by decide +kernel
theorem dX7_within_6 : decode cX7_within 6 = .ok (.lload_n 0, 1) := by decide +kernel
theorem dX7_within_7 : decode cX7_within 7 = .ok (.lload 4, 2) := by decide +kernel
theorem dX7_within_9 : decode cX7_within 9 = .ok (.lcmp, 1) := by decide +kernel
theorem dX7_within_10 : decode cX7_within 10 = .ok (.ifCond .gt 7, 3) := by decide +kernel
theorem dX7_within_13 : decode cX7_within 13 = .ok (.iconst 1, 1) := by decide +kernel
theorem dX7_within_14 : decode cX7_within 14 = .ok (.goto 4, 3) := by decide +kernel
theorem dX7_within_17 : decode cX7_within 17 = .ok (.iconst 0, 1) := by decide +kernel
theorem dX7_within_18 : decode cX7_within 18 = .ok (.ireturn, 1) := by decide +kernel
theorem dX7_isDevice_0 : decode cX7_isDevice 0 = .ok (.iload_n 1, 1) := by decide +kernel
theorem dX7_isDevice_1 : decode cX7_isDevice 1 = .ok (.ifCond .lt 15, 3) := by decide +kernel
theorem dX7_isDevice_4 : decode cX7_isDevice 4 = .ok (.iload_n 1, 1) := by decide +kernel
theorem dX7_isDevice_5 : decode cX7_isDevice 5 = .ok (.aload_n 0, 1) := by decide +kernel
theorem dX7_isDevice_6 : decode cX7_isDevice 6 = .ok (.getfield 75, 3) := by decide +kernel
theorem dX7_isDevice_9 : decode cX7_isDevice 9 = .ok (.if_icmp .ge 7, 3) := by decide +kernel
theorem dX7_isDevice_12 : decode cX7_isDevice 12 = .ok (.iconst 1, 1) := by decide +kernel
theorem dX7_isDevice_13 : decode cX7_isDevice 13 = .ok (.goto 4, 3) := by decide +kernel
theorem dX7_isDevice_16 : decode cX7_isDevice 16 = .ok (.iconst 0, 1) := by decide +kernel
theorem dX7_isDevice_17 : decode cX7_isDevice 17 = .ok (.ireturn, 1) := by decide +kernel
theorem dX7_isPlace_0 : decode cX7_isPlace 0 = .ok (.aload_n 0, 1) := by decide +kernel
theorem dX7_isPlace_1 : decode cX7_isPlace 1 = .ok (.iload_n 1, 1) := by decide +kernel
theorem dX7_isPlace_2 : decode cX7_isPlace 2 = .ok (.invokevirtual 78, 3) := by decide +kernel
theorem dX7_isPlace_5 : decode cX7_isPlace 5 = .ok (.ifCond .eq 21, 3) := by decide +kernel
theorem dX7_isPlace_8 : decode cX7_isPlace 8 = .ok (.iload_n 2, 1) := by decide +kernel
theorem dX7_isPlace_9 : decode cX7_isPlace 9 = .ok (.ifCond .lt 17, 3) := by decide +kernel
theorem dX7_isPlace_12 : decode cX7_isPlace 12 = .ok (.iload_n 2, 1) := by decide +kernel
theorem dX7_isPlace_13 : decode cX7_isPlace 13 = .ok (.aload_n 0, 1) := by decide +kernel
theorem dX7_isPlace_14 : decode cX7_isPlace 14 = .ok (.getfield 7, 3) := by decide +kernel
theorem dX7_isPlace_17 : decode cX7_isPlace 17 = .ok (.iload_n 1, 1) := by decide +kernel
theorem dX7_isPlace_18 : decode cX7_isPlace 18 = .ok (.iaload, 1) := by decide +kernel
theorem dX7_isPlace_19 : decode cX7_isPlace 19 = .ok (.if_icmp .ge 7, 3) := by decide +kernel
theorem dX7_isPlace_22 : decode cX7_isPlace 22 = .ok (.iconst 1, 1) := by decide +kernel
theorem dX7_isPlace_23 : decode cX7_isPlace 23 = .ok (.goto 4, 3) := by decide +kernel
theorem dX7_isPlace_26 : decode cX7_isPlace 26 = .ok (.iconst 0, 1) := by decide +kernel
theorem dX7_isPlace_27 : decode cX7_isPlace 27 = .ok (.ireturn, 1) := by decide +kernel
theorem dX7_device_0 : decode cX7_device 0 = .ok (.aload_n 0, 1) := by decide +kernel
theorem dX7_device_1 : decode cX7_device 1 = .ok (.iconst 0, 1) := by decide +kernel
theorem dX7_device_2 : decode cX7_device 2 = .ok (.putfield 72, 3) := by decide +kernel
theorem dX7_device_5 : decode cX7_device 5 = .ok (.aload_n 0, 1) := by decide +kernel
theorem dX7_device_6 : decode cX7_device 6 = .ok (.aload_n 0, 1) := by decide +kernel
theorem dX7_device_7 : decode cX7_device 7 = .ok (.getfield 75, 3) := by decide +kernel
theorem dX7_device_10 : decode cX7_device 10 = .ok (.iconst 5, 1) := by decide +kernel
theorem dX7_device_11 : decode cX7_device 11 = .ok (.if_icmp .ne 7, 3) := by decide +kernel
theorem dX7_device_14 : decode cX7_device 14 = .ok (.iconst 1, 1) := by decide +kernel
theorem dX7_device_15 : decode cX7_device 15 = .ok (.goto 4, 3) := by decide +kernel
theorem dX7_device_18 : decode cX7_device 18 = .ok (.iconst 0, 1) := by decide +kernel
theorem dX7_device_19 : decode cX7_device 19 = .ok (.iconst 1, 1) := by decide +kernel
theorem dX7_device_20 : decode cX7_device 20 = .ok (.invokevirtual 82, 3) := by decide +kernel
theorem dX7_device_23 : decode cX7_device 23 = .ok (.ifCond .eq 5, 3) := by decide +kernel
theorem dX7_device_26 : decode cX7_device 26 = .ok (.iconst 0, 1) := by decide +kernel
theorem dX7_device_27 : decode cX7_device 27 = .ok (.ireturn, 1) := by decide +kernel
theorem dX7_device_28 : decode cX7_device 28 = .ok (.aload_n 0, 1) := by decide +kernel
theorem dX7_device_29 : decode cX7_device 29 = .ok (.dup, 1) := by decide +kernel
theorem dX7_device_30 : decode cX7_device 30 = .ok (.getfield 75, 3) := by decide +kernel
theorem dX7_device_33 : decode cX7_device 33 = .ok (.iconst 1, 1) := by decide +kernel
theorem dX7_device_34 : decode cX7_device 34 = .ok (.iadd, 1) := by decide +kernel
theorem dX7_device_35 : decode cX7_device 35 = .ok (.putfield 75, 3) := by decide +kernel
theorem dX7_device_38 : decode cX7_device 38 = .ok (.aload_n 0, 1) := by decide +kernel
theorem dX7_device_39 : decode cX7_device 39 = .ok (.getfield 75, 3) := by decide +kernel
theorem dX7_device_42 : decode cX7_device 42 = .ok (.iconst 1, 1) := by decide +kernel
theorem dX7_device_43 : decode cX7_device 43 = .ok (.isub, 1) := by decide +kernel
theorem dX7_device_44 : decode cX7_device 44 = .ok (.ireturn, 1) := by decide +kernel
theorem dX7_before_0 : decode cX7_before 0 = .ok (.iconst 0, 1) := by decide +kernel
theorem dX7_before_1 : decode cX7_before 1 = .ok (.istore_n 3, 1) := by decide +kernel
theorem dX7_before_2 : decode cX7_before 2 = .ok (.iconst 0, 1) := by decide +kernel
theorem dX7_before_3 : decode cX7_before 3 = .ok (.istore 4, 2) := by decide +kernel
theorem dX7_before_5 : decode cX7_before 5 = .ok (.iload 4, 2) := by decide +kernel
theorem dX7_before_7 : decode cX7_before 7 = .ok (.aload_n 0, 1) := by decide +kernel
theorem dX7_before_8 : decode cX7_before 8 = .ok (.getfield 7, 3) := by decide +kernel
theorem dX7_before_11 : decode cX7_before 11 = .ok (.iload_n 1, 1) := by decide +kernel
theorem dX7_before_12 : decode cX7_before 12 = .ok (.iaload, 1) := by decide +kernel
theorem dX7_before_13 : decode cX7_before 13 = .ok (.if_icmp .ge 33, 3) := by decide +kernel
theorem dX7_before_16 : decode cX7_before 16 = .ok (.iload_n 3, 1) := by decide +kernel
theorem dX7_before_17 : decode cX7_before 17 = .ok (.aload_n 0, 1) := by decide +kernel
theorem dX7_before_18 : decode cX7_before 18 = .ok (.getfield 16, 3) := by decide +kernel
theorem dX7_before_21 : decode cX7_before 21 = .ok (.bipush 60, 2) := by decide +kernel
theorem dX7_before_23 : decode cX7_before 23 = .ok (.iload_n 1, 1) := by decide +kernel
theorem dX7_before_24 : decode cX7_before 24 = .ok (.imul, 1) := by decide +kernel
theorem dX7_before_25 : decode cX7_before 25 = .ok (.iload 4, 2) := by decide +kernel
theorem dX7_before_27 : decode cX7_before 27 = .ok (.iadd, 1) := by decide +kernel
theorem dX7_before_28 : decode cX7_before 28 = .ok (.iaload, 1) := by decide +kernel
theorem dX7_before_29 : decode cX7_before 29 = .ok (.iload_n 2, 1) := by decide +kernel
theorem dX7_before_30 : decode cX7_before 30 = .ok (.if_icmp .ge 7, 3) := by decide +kernel
theorem dX7_before_33 : decode cX7_before 33 = .ok (.iconst 1, 1) := by decide +kernel
theorem dX7_before_34 : decode cX7_before 34 = .ok (.goto 4, 3) := by decide +kernel
theorem dX7_before_37 : decode cX7_before 37 = .ok (.iconst 0, 1) := by decide +kernel
theorem dX7_before_38 : decode cX7_before 38 = .ok (.iadd, 1) := by decide +kernel
theorem dX7_before_39 : decode cX7_before 39 = .ok (.istore_n 3, 1) := by decide +kernel
theorem dX7_before_40 : decode cX7_before 40 = .ok (.iinc 4 1, 3) := by decide +kernel
theorem dX7_before_43 : decode cX7_before 43 = .ok (.goto (-38), 3) := by decide +kernel
theorem dX7_before_46 : decode cX7_before 46 = .ok (.iload_n 3, 1) := by decide +kernel
theorem dX7_before_47 : decode cX7_before 47 = .ok (.ireturn, 1) := by decide +kernel
theorem dX7_isPoint_0 : decode cX7_isPoint 0 = .ok (.iload_n 0, 1) := by decide +kernel
theorem dX7_isPoint_1 : decode cX7_isPoint 1 = .ok (.i2l, 1) := by decide +kernel
theorem dX7_isPoint_2 : decode cX7_isPoint 2 = .ok (.ldc2_w 86, 3) := by decide +kernel
theorem dX7_isPoint_5 : decode cX7_isPoint 5 = .ok (.ldc2_w 88, 3) := by decide +kernel
theorem dX7_isPoint_8 : decode cX7_isPoint 8 = .ok (.invokestatic 90, 3) := by decide +kernel
theorem dX7_isPoint_11 : decode cX7_isPoint 11 = .ok (.ifCond .eq 21, 3) := by decide +kernel
theorem dX7_isPoint_14 : decode cX7_isPoint 14 = .ok (.iload_n 1, 1) := by decide +kernel
theorem dX7_isPoint_15 : decode cX7_isPoint 15 = .ok (.i2l, 1) := by decide +kernel
theorem dX7_isPoint_16 : decode cX7_isPoint 16 = .ok (.ldc2_w 86, 3) := by decide +kernel
theorem dX7_isPoint_19 : decode cX7_isPoint 19 = .ok (.ldc2_w 88, 3) := by decide +kernel
theorem dX7_isPoint_22 : decode cX7_isPoint 22 = .ok (.invokestatic 90, 3) := by decide +kernel
theorem dX7_isPoint_25 : decode cX7_isPoint 25 = .ok (.ifCond .eq 7, 3) := by decide +kernel
theorem dX7_isPoint_28 : decode cX7_isPoint 28 = .ok (.iconst 1, 1) := by decide +kernel
theorem dX7_isPoint_29 : decode cX7_isPoint 29 = .ok (.goto 4, 3) := by decide +kernel
theorem dX7_isPoint_32 : decode cX7_isPoint 32 = .ok (.iconst 0, 1) := by decide +kernel
theorem dX7_isPoint_33 : decode cX7_isPoint 33 = .ok (.ireturn, 1) := by decide +kernel
theorem dX7_place_0 : decode cX7_place 0 = .ok (.aload_n 0, 1) := by decide +kernel
theorem dX7_place_1 : decode cX7_place 1 = .ok (.iconst 0, 1) := by decide +kernel
theorem dX7_place_2 : decode cX7_place 2 = .ok (.putfield 72, 3) := by decide +kernel
theorem dX7_place_5 : decode cX7_place 5 = .ok (.aload_n 0, 1) := by decide +kernel
theorem dX7_place_6 : decode cX7_place 6 = .ok (.aload_n 0, 1) := by decide +kernel
theorem dX7_place_7 : decode cX7_place 7 = .ok (.iload_n 1, 1) := by decide +kernel
theorem dX7_place_8 : decode cX7_place 8 = .ok (.invokevirtual 78, 3) := by decide +kernel
theorem dX7_place_11 : decode cX7_place 11 = .ok (.ifCond .ne 7, 3) := by decide +kernel
theorem dX7_place_14 : decode cX7_place 14 = .ok (.iconst 1, 1) := by decide +kernel
theorem dX7_place_15 : decode cX7_place 15 = .ok (.goto 4, 3) := by decide +kernel
theorem dX7_place_18 : decode cX7_place 18 = .ok (.iconst 0, 1) := by decide +kernel
theorem dX7_place_19 : decode cX7_place 19 = .ok (.iconst 1, 1) := by decide +kernel
theorem dX7_place_20 : decode cX7_place 20 = .ok (.invokevirtual 82, 3) := by decide +kernel
theorem dX7_place_23 : decode cX7_place 23 = .ok (.ifCond .ne 37, 3) := by decide +kernel
theorem dX7_place_26 : decode cX7_place 26 = .ok (.aload_n 0, 1) := by decide +kernel
theorem dX7_place_27 : decode cX7_place 27 = .ok (.iload_n 2, 1) := by decide +kernel
theorem dX7_place_28 : decode cX7_place 28 = .ok (.i2l, 1) := by decide +kernel
theorem dX7_place_29 : decode cX7_place 29 = .ok (.lconst 0, 1) := by decide +kernel
theorem dX7_place_30 : decode cX7_place 30 = .ok (.ldc2_w 94, 3) := by decide +kernel
theorem dX7_place_33 : decode cX7_place 33 = .ok (.invokestatic 90, 3) := by decide +kernel
theorem dX7_place_36 : decode cX7_place 36 = .ok (.ifCond .eq 12, 3) := by decide +kernel
theorem dX7_place_39 : decode cX7_place 39 = .ok (.iload_n 3, 1) := by decide +kernel
theorem dX7_place_40 : decode cX7_place 40 = .ok (.iload 4, 2) := by decide +kernel
theorem dX7_place_42 : decode cX7_place 42 = .ok (.invokestatic 96, 3) := by decide +kernel
theorem dX7_place_45 : decode cX7_place 45 = .ok (.ifCond .ne 7, 3) := by decide +kernel
theorem dX7_place_48 : decode cX7_place 48 = .ok (.iconst 1, 1) := by decide +kernel
theorem dX7_place_49 : decode cX7_place 49 = .ok (.goto 4, 3) := by decide +kernel
theorem dX7_place_52 : decode cX7_place 52 = .ok (.iconst 0, 1) := by decide +kernel
theorem dX7_place_53 : decode cX7_place 53 = .ok (.iconst 2, 1) := by decide +kernel
theorem dX7_place_54 : decode cX7_place 54 = .ok (.invokevirtual 82, 3) := by decide +kernel
theorem dX7_place_57 : decode cX7_place 57 = .ok (.ifCond .eq 5, 3) := by decide +kernel
theorem dX7_place_60 : decode cX7_place 60 = .ok (.iconst 0, 1) := by decide +kernel
theorem dX7_place_61 : decode cX7_place 61 = .ok (.ireturn, 1) := by decide +kernel
theorem dX7_place_62 : decode cX7_place 62 = .ok (.aload_n 0, 1) := by decide +kernel
theorem dX7_place_63 : decode cX7_place 63 = .ok (.iload_n 1, 1) := by decide +kernel
theorem dX7_place_64 : decode cX7_place 64 = .ok (.iload_n 2, 1) := by decide +kernel
theorem dX7_place_65 : decode cX7_place 65 = .ok (.invokevirtual 100, 3) := by decide +kernel
theorem dX7_place_68 : decode cX7_place 68 = .ok (.istore 5, 2) := by decide +kernel
theorem dX7_place_70 : decode cX7_place 70 = .ok (.bipush 60, 2) := by decide +kernel
theorem dX7_place_72 : decode cX7_place 72 = .ok (.iload_n 1, 1) := by decide +kernel
theorem dX7_place_73 : decode cX7_place 73 = .ok (.imul, 1) := by decide +kernel
theorem dX7_place_74 : decode cX7_place 74 = .ok (.iload 5, 2) := by decide +kernel
theorem dX7_place_76 : decode cX7_place 76 = .ok (.iadd, 1) := by decide +kernel
theorem dX7_place_77 : decode cX7_place 77 = .ok (.istore 6, 2) := by decide +kernel
theorem dX7_place_79 : decode cX7_place 79 = .ok (.iload 5, 2) := by decide +kernel
theorem dX7_place_81 : decode cX7_place 81 = .ok (.aload_n 0, 1) := by decide +kernel
theorem dX7_place_82 : decode cX7_place 82 = .ok (.getfield 7, 3) := by decide +kernel
theorem dX7_place_85 : decode cX7_place 85 = .ok (.iload_n 1, 1) := by decide +kernel
theorem dX7_place_86 : decode cX7_place 86 = .ok (.iaload, 1) := by decide +kernel
theorem dX7_place_87 : decode cX7_place 87 = .ok (.if_icmp .ge 65, 3) := by decide +kernel
theorem dX7_place_90 : decode cX7_place 90 = .ok (.aload_n 0, 1) := by decide +kernel
theorem dX7_place_91 : decode cX7_place 91 = .ok (.getfield 16, 3) := by decide +kernel
theorem dX7_place_94 : decode cX7_place 94 = .ok (.iload 6, 2) := by decide +kernel
theorem dX7_place_96 : decode cX7_place 96 = .ok (.iaload, 1) := by decide +kernel
theorem dX7_place_97 : decode cX7_place 97 = .ok (.iload_n 2, 1) := by decide +kernel
theorem dX7_place_98 : decode cX7_place 98 = .ok (.if_icmp .ne 54, 3) := by decide +kernel
theorem dX7_place_101 : decode cX7_place 101 = .ok (.aload_n 0, 1) := by decide +kernel
theorem dX7_place_102 : decode cX7_place 102 = .ok (.aload_n 0, 1) := by decide +kernel
theorem dX7_place_103 : decode cX7_place 103 = .ok (.getfield 19, 3) := by decide +kernel
theorem dX7_place_106 : decode cX7_place 106 = .ok (.iload 6, 2) := by decide +kernel
theorem dX7_place_108 : decode cX7_place 108 = .ok (.iaload, 1) := by decide +kernel
theorem dX7_place_109 : decode cX7_place 109 = .ok (.iload_n 3, 1) := by decide +kernel
theorem dX7_place_110 : decode cX7_place 110 = .ok (.if_icmp .ne 15, 3) := by decide +kernel
theorem dX7_place_113 : decode cX7_place 113 = .ok (.aload_n 0, 1) := by decide +kernel
theorem dX7_place_114 : decode cX7_place 114 = .ok (.getfield 22, 3) := by decide +kernel
theorem dX7_place_117 : decode cX7_place 117 = .ok (.iload 6, 2) := by decide +kernel
theorem dX7_place_119 : decode cX7_place 119 = .ok (.iaload, 1) := by decide +kernel
theorem dX7_place_120 : decode cX7_place 120 = .ok (.iload 4, 2) := by decide +kernel
theorem dX7_place_122 : decode cX7_place 122 = .ok (.if_icmp .eq 7, 3) := by decide +kernel
theorem dX7_place_125 : decode cX7_place 125 = .ok (.iconst 1, 1) := by decide +kernel
theorem dX7_place_126 : decode cX7_place 126 = .ok (.goto 4, 3) := by decide +kernel
theorem dX7_place_129 : decode cX7_place 129 = .ok (.iconst 0, 1) := by decide +kernel
theorem dX7_place_130 : decode cX7_place 130 = .ok (.iconst 2, 1) := by decide +kernel
theorem dX7_place_131 : decode cX7_place 131 = .ok (.invokevirtual 82, 3) := by decide +kernel
theorem dX7_place_134 : decode cX7_place 134 = .ok (.ifCond .eq 5, 3) := by decide +kernel
theorem dX7_place_137 : decode cX7_place 137 = .ok (.iconst 0, 1) := by decide +kernel
theorem dX7_place_138 : decode cX7_place 138 = .ok (.ireturn, 1) := by decide +kernel
theorem dX7_place_139 : decode cX7_place 139 = .ok (.aload_n 0, 1) := by decide +kernel
theorem dX7_place_140 : decode cX7_place 140 = .ok (.getfield 13, 3) := by decide +kernel
theorem dX7_place_143 : decode cX7_place 143 = .ok (.iload_n 1, 1) := by decide +kernel
theorem dX7_place_144 : decode cX7_place 144 = .ok (.dup2, 1) := by decide +kernel
theorem dX7_place_145 : decode cX7_place 145 = .ok (.iaload, 1) := by decide +kernel
theorem dX7_place_146 : decode cX7_place 146 = .ok (.iconst 1, 1) := by decide +kernel
theorem dX7_place_147 : decode cX7_place 147 = .ok (.iadd, 1) := by decide +kernel
theorem dX7_place_148 : decode cX7_place 148 = .ok (.iastore, 1) := by decide +kernel
theorem dX7_place_149 : decode cX7_place 149 = .ok (.bipush (-2), 2) := by decide +kernel
theorem dX7_place_151 : decode cX7_place 151 = .ok (.ireturn, 1) := by decide +kernel
theorem dX7_place_152 : decode cX7_place 152 = .ok (.aload_n 0, 1) := by decide +kernel
theorem dX7_place_153 : decode cX7_place 153 = .ok (.aload_n 0, 1) := by decide +kernel
theorem dX7_place_154 : decode cX7_place 154 = .ok (.getfield 7, 3) := by decide +kernel
theorem dX7_place_157 : decode cX7_place 157 = .ok (.iload_n 1, 1) := by decide +kernel
theorem dX7_place_158 : decode cX7_place 158 = .ok (.iaload, 1) := by decide +kernel
theorem dX7_place_159 : decode cX7_place 159 = .ok (.bipush 60, 2) := by decide +kernel
theorem dX7_place_161 : decode cX7_place 161 = .ok (.if_icmp .ne 7, 3) := by decide +kernel
theorem dX7_place_164 : decode cX7_place 164 = .ok (.iconst 1, 1) := by decide +kernel
theorem dX7_place_165 : decode cX7_place 165 = .ok (.goto 4, 3) := by decide +kernel
theorem dX7_place_168 : decode cX7_place 168 = .ok (.iconst 0, 1) := by decide +kernel
theorem dX7_place_169 : decode cX7_place 169 = .ok (.iconst 3, 1) := by decide +kernel
theorem dX7_place_170 : decode cX7_place 170 = .ok (.invokevirtual 82, 3) := by decide +kernel
theorem dX7_place_173 : decode cX7_place 173 = .ok (.ifCond .eq 5, 3) := by decide +kernel
theorem dX7_place_176 : decode cX7_place 176 = .ok (.iconst 0, 1) := by decide +kernel
theorem dX7_place_177 : decode cX7_place 177 = .ok (.ireturn, 1) := by decide +kernel
theorem dX7_place_178 : decode cX7_place 178 = .ok (.bipush 60, 2) := by decide +kernel
theorem dX7_place_180 : decode cX7_place 180 = .ok (.iload_n 1, 1) := by decide +kernel
theorem dX7_place_181 : decode cX7_place 181 = .ok (.imul, 1) := by decide +kernel
theorem dX7_place_182 : decode cX7_place 182 = .ok (.aload_n 0, 1) := by decide +kernel
theorem dX7_place_183 : decode cX7_place 183 = .ok (.getfield 7, 3) := by decide +kernel
theorem dX7_place_186 : decode cX7_place 186 = .ok (.iload_n 1, 1) := by decide +kernel
theorem dX7_place_187 : decode cX7_place 187 = .ok (.iaload, 1) := by decide +kernel
theorem dX7_place_188 : decode cX7_place 188 = .ok (.iadd, 1) := by decide +kernel
theorem dX7_place_189 : decode cX7_place 189 = .ok (.istore 7, 2) := by decide +kernel
theorem dX7_place_191 : decode cX7_place 191 = .ok (.iload 7, 2) := by decide +kernel
theorem dX7_place_193 : decode cX7_place 193 = .ok (.iload 6, 2) := by decide +kernel
theorem dX7_place_195 : decode cX7_place 195 = .ok (.if_icmp .le 57, 3) := by decide +kernel
theorem dX7_place_198 : decode cX7_place 198 = .ok (.aload_n 0, 1) := by decide +kernel
theorem dX7_place_199 : decode cX7_place 199 = .ok (.getfield 16, 3) := by decide +kernel
theorem dX7_place_202 : decode cX7_place 202 = .ok (.iload 7, 2) := by decide +kernel
theorem dX7_place_204 : decode cX7_place 204 = .ok (.aload_n 0, 1) := by decide +kernel
theorem dX7_place_205 : decode cX7_place 205 = .ok (.getfield 16, 3) := by decide +kernel
theorem dX7_place_208 : decode cX7_place 208 = .ok (.iload 7, 2) := by decide +kernel
theorem dX7_place_210 : decode cX7_place 210 = .ok (.iconst 1, 1) := by decide +kernel
theorem dX7_place_211 : decode cX7_place 211 = .ok (.isub, 1) := by decide +kernel
theorem dX7_place_212 : decode cX7_place 212 = .ok (.iaload, 1) := by decide +kernel
theorem dX7_place_213 : decode cX7_place 213 = .ok (.iastore, 1) := by decide +kernel
theorem dX7_place_214 : decode cX7_place 214 = .ok (.aload_n 0, 1) := by decide +kernel
theorem dX7_place_215 : decode cX7_place 215 = .ok (.getfield 19, 3) := by decide +kernel
theorem dX7_place_218 : decode cX7_place 218 = .ok (.iload 7, 2) := by decide +kernel
theorem dX7_place_220 : decode cX7_place 220 = .ok (.aload_n 0, 1) := by decide +kernel
theorem dX7_place_221 : decode cX7_place 221 = .ok (.getfield 19, 3) := by decide +kernel
theorem dX7_place_224 : decode cX7_place 224 = .ok (.iload 7, 2) := by decide +kernel
theorem dX7_place_226 : decode cX7_place 226 = .ok (.iconst 1, 1) := by decide +kernel
theorem dX7_place_227 : decode cX7_place 227 = .ok (.isub, 1) := by decide +kernel
theorem dX7_place_228 : decode cX7_place 228 = .ok (.iaload, 1) := by decide +kernel
theorem dX7_place_229 : decode cX7_place 229 = .ok (.iastore, 1) := by decide +kernel
theorem dX7_place_230 : decode cX7_place 230 = .ok (.aload_n 0, 1) := by decide +kernel
theorem dX7_place_231 : decode cX7_place 231 = .ok (.getfield 22, 3) := by decide +kernel
theorem dX7_place_234 : decode cX7_place 234 = .ok (.iload 7, 2) := by decide +kernel
theorem dX7_place_236 : decode cX7_place 236 = .ok (.aload_n 0, 1) := by decide +kernel
theorem dX7_place_237 : decode cX7_place 237 = .ok (.getfield 22, 3) := by decide +kernel
theorem dX7_place_240 : decode cX7_place 240 = .ok (.iload 7, 2) := by decide +kernel
theorem dX7_place_242 : decode cX7_place 242 = .ok (.iconst 1, 1) := by decide +kernel
theorem dX7_place_243 : decode cX7_place 243 = .ok (.isub, 1) := by decide +kernel
theorem dX7_place_244 : decode cX7_place 244 = .ok (.iaload, 1) := by decide +kernel
theorem dX7_place_245 : decode cX7_place 245 = .ok (.iastore, 1) := by decide +kernel
theorem dX7_place_246 : decode cX7_place 246 = .ok (.iinc 7 (-1), 3) := by decide +kernel
theorem dX7_place_249 : decode cX7_place 249 = .ok (.goto (-58), 3) := by decide +kernel
theorem dX7_place_252 : decode cX7_place 252 = .ok (.aload_n 0, 1) := by decide +kernel
theorem dX7_place_253 : decode cX7_place 253 = .ok (.getfield 16, 3) := by decide +kernel
theorem dX7_place_256 : decode cX7_place 256 = .ok (.iload 6, 2) := by decide +kernel
theorem dX7_place_258 : decode cX7_place 258 = .ok (.iload_n 2, 1) := by decide +kernel
theorem dX7_place_259 : decode cX7_place 259 = .ok (.iastore, 1) := by decide +kernel
theorem dX7_place_260 : decode cX7_place 260 = .ok (.aload_n 0, 1) := by decide +kernel
theorem dX7_place_261 : decode cX7_place 261 = .ok (.getfield 19, 3) := by decide +kernel
theorem dX7_place_264 : decode cX7_place 264 = .ok (.iload 6, 2) := by decide +kernel
theorem dX7_place_266 : decode cX7_place 266 = .ok (.iload_n 3, 1) := by decide +kernel
theorem dX7_place_267 : decode cX7_place 267 = .ok (.iastore, 1) := by decide +kernel
theorem dX7_place_268 : decode cX7_place 268 = .ok (.aload_n 0, 1) := by decide +kernel
theorem dX7_place_269 : decode cX7_place 269 = .ok (.getfield 22, 3) := by decide +kernel
theorem dX7_place_272 : decode cX7_place 272 = .ok (.iload 6, 2) := by decide +kernel
theorem dX7_place_274 : decode cX7_place 274 = .ok (.iload 4, 2) := by decide +kernel
theorem dX7_place_276 : decode cX7_place 276 = .ok (.iastore, 1) := by decide +kernel
theorem dX7_place_277 : decode cX7_place 277 = .ok (.aload_n 0, 1) := by decide +kernel
theorem dX7_place_278 : decode cX7_place 278 = .ok (.getfield 7, 3) := by decide +kernel
theorem dX7_place_281 : decode cX7_place 281 = .ok (.iload_n 1, 1) := by decide +kernel
theorem dX7_place_282 : decode cX7_place 282 = .ok (.dup2, 1) := by decide +kernel
theorem dX7_place_283 : decode cX7_place 283 = .ok (.iaload, 1) := by decide +kernel
theorem dX7_place_284 : decode cX7_place 284 = .ok (.iconst 1, 1) := by decide +kernel
theorem dX7_place_285 : decode cX7_place 285 = .ok (.iadd, 1) := by decide +kernel
theorem dX7_place_286 : decode cX7_place 286 = .ok (.iastore, 1) := by decide +kernel
theorem dX7_place_287 : decode cX7_place 287 = .ok (.iload 5, 2) := by decide +kernel
theorem dX7_place_289 : decode cX7_place 289 = .ok (.ireturn, 1) := by decide +kernel
theorem dX7_has_0 : decode cX7_has 0 = .ok (.aload_n 0, 1) := by decide +kernel
theorem dX7_has_1 : decode cX7_has 1 = .ok (.iconst 0, 1) := by decide +kernel
theorem dX7_has_2 : decode cX7_has 2 = .ok (.putfield 72, 3) := by decide +kernel
theorem dX7_has_5 : decode cX7_has 5 = .ok (.aload_n 0, 1) := by decide +kernel
theorem dX7_has_6 : decode cX7_has 6 = .ok (.aload_n 0, 1) := by decide +kernel
theorem dX7_has_7 : decode cX7_has 7 = .ok (.iload_n 1, 1) := by decide +kernel
theorem dX7_has_8 : decode cX7_has 8 = .ok (.invokevirtual 78, 3) := by decide +kernel
theorem dX7_has_11 : decode cX7_has 11 = .ok (.ifCond .ne 7, 3) := by decide +kernel
theorem dX7_has_14 : decode cX7_has 14 = .ok (.iconst 1, 1) := by decide +kernel
theorem dX7_has_15 : decode cX7_has 15 = .ok (.goto 4, 3) := by decide +kernel
theorem dX7_has_18 : decode cX7_has 18 = .ok (.iconst 0, 1) := by decide +kernel
theorem dX7_has_19 : decode cX7_has 19 = .ok (.iconst 1, 1) := by decide +kernel
theorem dX7_has_20 : decode cX7_has 20 = .ok (.invokevirtual 82, 3) := by decide +kernel
theorem dX7_has_23 : decode cX7_has 23 = .ok (.ifCond .ne 28, 3) := by decide +kernel
theorem dX7_has_26 : decode cX7_has 26 = .ok (.aload_n 0, 1) := by decide +kernel
theorem dX7_has_27 : decode cX7_has 27 = .ok (.iload_n 2, 1) := by decide +kernel
theorem dX7_has_28 : decode cX7_has 28 = .ok (.i2l, 1) := by decide +kernel
theorem dX7_has_29 : decode cX7_has 29 = .ok (.lconst 0, 1) := by decide +kernel
theorem dX7_has_30 : decode cX7_has 30 = .ok (.ldc2_w 104, 3) := by decide +kernel
theorem dX7_has_33 : decode cX7_has 33 = .ok (.invokestatic 90, 3) := by decide +kernel
theorem dX7_has_36 : decode cX7_has 36 = .ok (.ifCond .ne 7, 3) := by decide +kernel
theorem dX7_has_39 : decode cX7_has 39 = .ok (.iconst 1, 1) := by decide +kernel
theorem dX7_has_40 : decode cX7_has 40 = .ok (.goto 4, 3) := by decide +kernel
theorem dX7_has_43 : decode cX7_has 43 = .ok (.iconst 0, 1) := by decide +kernel
theorem dX7_has_44 : decode cX7_has 44 = .ok (.iconst 2, 1) := by decide +kernel
theorem dX7_has_45 : decode cX7_has 45 = .ok (.invokevirtual 82, 3) := by decide +kernel
theorem dX7_has_48 : decode cX7_has 48 = .ok (.ifCond .eq 5, 3) := by decide +kernel
theorem dX7_has_51 : decode cX7_has 51 = .ok (.iconst 0, 1) := by decide +kernel
theorem dX7_has_52 : decode cX7_has 52 = .ok (.ireturn, 1) := by decide +kernel
theorem dX7_has_53 : decode cX7_has 53 = .ok (.iload_n 2, 1) := by decide +kernel
theorem dX7_has_54 : decode cX7_has 54 = .ok (.tableswitch 58 0 3 #[30, 37, 44, 51], 30) := by decide +kernel
theorem dX7_has_84 : decode cX7_has 84 = .ok (.aload_n 0, 1) := by decide +kernel
theorem dX7_has_85 : decode cX7_has 85 = .ok (.getfield 7, 3) := by decide +kernel
theorem dX7_has_88 : decode cX7_has 88 = .ok (.iload_n 1, 1) := by decide +kernel
theorem dX7_has_89 : decode cX7_has 89 = .ok (.iaload, 1) := by decide +kernel
theorem dX7_has_90 : decode cX7_has 90 = .ok (.ireturn, 1) := by decide +kernel
theorem dX7_has_91 : decode cX7_has 91 = .ok (.aload_n 0, 1) := by decide +kernel
theorem dX7_has_92 : decode cX7_has 92 = .ok (.getfield 13, 3) := by decide +kernel
theorem dX7_has_95 : decode cX7_has 95 = .ok (.iload_n 1, 1) := by decide +kernel
theorem dX7_has_96 : decode cX7_has 96 = .ok (.iaload, 1) := by decide +kernel
theorem dX7_has_97 : decode cX7_has 97 = .ok (.ireturn, 1) := by decide +kernel
theorem dX7_has_98 : decode cX7_has 98 = .ok (.aload_n 0, 1) := by decide +kernel
theorem dX7_has_99 : decode cX7_has 99 = .ok (.getfield 25, 3) := by decide +kernel
theorem dX7_has_102 : decode cX7_has 102 = .ok (.iload_n 1, 1) := by decide +kernel
theorem dX7_has_103 : decode cX7_has 103 = .ok (.iaload, 1) := by decide +kernel
theorem dX7_has_104 : decode cX7_has 104 = .ok (.ireturn, 1) := by decide +kernel
theorem dX7_has_105 : decode cX7_has 105 = .ok (.aload_n 0, 1) := by decide +kernel
theorem dX7_has_106 : decode cX7_has 106 = .ok (.iload_n 1, 1) := by decide +kernel
theorem dX7_has_107 : decode cX7_has 107 = .ok (.iconst 1, 1) := by decide +kernel
theorem dX7_has_108 : decode cX7_has 108 = .ok (.invokevirtual 106, 3) := by decide +kernel
theorem dX7_has_111 : decode cX7_has 111 = .ok (.ireturn, 1) := by decide +kernel
theorem dX7_has_112 : decode cX7_has 112 = .ok (.aload_n 0, 1) := by decide +kernel
theorem dX7_has_113 : decode cX7_has 113 = .ok (.iload_n 1, 1) := by decide +kernel
theorem dX7_has_114 : decode cX7_has 114 = .ok (.iconst 0, 1) := by decide +kernel
theorem dX7_has_115 : decode cX7_has 115 = .ok (.invokevirtual 106, 3) := by decide +kernel
theorem dX7_has_118 : decode cX7_has 118 = .ok (.ireturn, 1) := by decide +kernel
theorem dX7_at_0 : decode cX7_at 0 = .ok (.aload_n 0, 1) := by decide +kernel
theorem dX7_at_1 : decode cX7_at 1 = .ok (.iconst 0, 1) := by decide +kernel
theorem dX7_at_2 : decode cX7_at 2 = .ok (.putfield 72, 3) := by decide +kernel
theorem dX7_at_5 : decode cX7_at 5 = .ok (.aload_n 0, 1) := by decide +kernel
theorem dX7_at_6 : decode cX7_at 6 = .ok (.aload_n 0, 1) := by decide +kernel
theorem dX7_at_7 : decode cX7_at 7 = .ok (.iload_n 1, 1) := by decide +kernel
theorem dX7_at_8 : decode cX7_at 8 = .ok (.iload_n 2, 1) := by decide +kernel
theorem dX7_at_9 : decode cX7_at 9 = .ok (.invokevirtual 110, 3) := by decide +kernel
theorem dX7_at_12 : decode cX7_at 12 = .ok (.ifCond .ne 7, 3) := by decide +kernel
theorem dX7_at_15 : decode cX7_at 15 = .ok (.iconst 1, 1) := by decide +kernel
theorem dX7_at_16 : decode cX7_at 16 = .ok (.goto 4, 3) := by decide +kernel
theorem dX7_at_19 : decode cX7_at 19 = .ok (.iconst 0, 1) := by decide +kernel
theorem dX7_at_20 : decode cX7_at 20 = .ok (.iconst 1, 1) := by decide +kernel
theorem dX7_at_21 : decode cX7_at 21 = .ok (.invokevirtual 82, 3) := by decide +kernel
theorem dX7_at_24 : decode cX7_at 24 = .ok (.ifCond .ne 28, 3) := by decide +kernel
theorem dX7_at_27 : decode cX7_at 27 = .ok (.aload_n 0, 1) := by decide +kernel
theorem dX7_at_28 : decode cX7_at 28 = .ok (.iload_n 3, 1) := by decide +kernel
theorem dX7_at_29 : decode cX7_at 29 = .ok (.i2l, 1) := by decide +kernel
theorem dX7_at_30 : decode cX7_at 30 = .ok (.lconst 0, 1) := by decide +kernel
theorem dX7_at_31 : decode cX7_at 31 = .ok (.ldc2_w 113, 3) := by decide +kernel
theorem dX7_at_34 : decode cX7_at 34 = .ok (.invokestatic 90, 3) := by decide +kernel
theorem dX7_at_37 : decode cX7_at 37 = .ok (.ifCond .ne 7, 3) := by decide +kernel
theorem dX7_at_40 : decode cX7_at 40 = .ok (.iconst 1, 1) := by decide +kernel
theorem dX7_at_41 : decode cX7_at 41 = .ok (.goto 4, 3) := by decide +kernel
theorem dX7_at_44 : decode cX7_at 44 = .ok (.iconst 0, 1) := by decide +kernel
theorem dX7_at_45 : decode cX7_at 45 = .ok (.iconst 2, 1) := by decide +kernel
theorem dX7_at_46 : decode cX7_at 46 = .ok (.invokevirtual 82, 3) := by decide +kernel
theorem dX7_at_49 : decode cX7_at 49 = .ok (.ifCond .eq 5, 3) := by decide +kernel
theorem dX7_at_52 : decode cX7_at 52 = .ok (.iconst 0, 1) := by decide +kernel
theorem dX7_at_53 : decode cX7_at 53 = .ok (.ireturn, 1) := by decide +kernel
theorem dX7_at_54 : decode cX7_at 54 = .ok (.bipush 60, 2) := by decide +kernel
theorem dX7_at_56 : decode cX7_at 56 = .ok (.iload_n 1, 1) := by decide +kernel
theorem dX7_at_57 : decode cX7_at 57 = .ok (.imul, 1) := by decide +kernel
theorem dX7_at_58 : decode cX7_at 58 = .ok (.iload_n 2, 1) := by decide +kernel
theorem dX7_at_59 : decode cX7_at 59 = .ok (.iadd, 1) := by decide +kernel
theorem dX7_at_60 : decode cX7_at 60 = .ok (.istore 4, 2) := by decide +kernel
theorem dX7_at_62 : decode cX7_at 62 = .ok (.iload_n 3, 1) := by decide +kernel
theorem dX7_at_63 : decode cX7_at 63 = .ok (.ifCond .ne 13, 3) := by decide +kernel
theorem dX7_at_66 : decode cX7_at 66 = .ok (.aload_n 0, 1) := by decide +kernel
theorem dX7_at_67 : decode cX7_at 67 = .ok (.getfield 16, 3) := by decide +kernel
theorem dX7_at_70 : decode cX7_at 70 = .ok (.iload 4, 2) := by decide +kernel
theorem dX7_at_72 : decode cX7_at 72 = .ok (.iaload, 1) := by decide +kernel
theorem dX7_at_73 : decode cX7_at 73 = .ok (.goto 45, 3) := by decide +kernel
theorem dX7_at_76 : decode cX7_at 76 = .ok (.iload_n 3, 1) := by decide +kernel
theorem dX7_at_77 : decode cX7_at 77 = .ok (.iconst 1, 1) := by decide +kernel
theorem dX7_at_78 : decode cX7_at 78 = .ok (.if_icmp .ne 13, 3) := by decide +kernel
theorem dX7_at_81 : decode cX7_at 81 = .ok (.aload_n 0, 1) := by decide +kernel
theorem dX7_at_82 : decode cX7_at 82 = .ok (.getfield 19, 3) := by decide +kernel
theorem dX7_at_85 : decode cX7_at 85 = .ok (.iload 4, 2) := by decide +kernel
theorem dX7_at_87 : decode cX7_at 87 = .ok (.iaload, 1) := by decide +kernel
theorem dX7_at_88 : decode cX7_at 88 = .ok (.goto 30, 3) := by decide +kernel
theorem dX7_at_91 : decode cX7_at 91 = .ok (.iload_n 3, 1) := by decide +kernel
theorem dX7_at_92 : decode cX7_at 92 = .ok (.iconst 2, 1) := by decide +kernel
theorem dX7_at_93 : decode cX7_at 93 = .ok (.if_icmp .ne 13, 3) := by decide +kernel
theorem dX7_at_96 : decode cX7_at 96 = .ok (.aload_n 0, 1) := by decide +kernel
theorem dX7_at_97 : decode cX7_at 97 = .ok (.getfield 22, 3) := by decide +kernel
theorem dX7_at_100 : decode cX7_at 100 = .ok (.iload 4, 2) := by decide +kernel
theorem dX7_at_102 : decode cX7_at 102 = .ok (.iaload, 1) := by decide +kernel
theorem dX7_at_103 : decode cX7_at 103 = .ok (.goto 15, 3) := by decide +kernel
theorem dX7_at_106 : decode cX7_at 106 = .ok (.aload_n 0, 1) := by decide +kernel
theorem dX7_at_107 : decode cX7_at 107 = .ok (.iload_n 1, 1) := by decide +kernel
theorem dX7_at_108 : decode cX7_at 108 = .ok (.aload_n 0, 1) := by decide +kernel
theorem dX7_at_109 : decode cX7_at 109 = .ok (.getfield 16, 3) := by decide +kernel
theorem dX7_at_112 : decode cX7_at 112 = .ok (.iload 4, 2) := by decide +kernel
theorem dX7_at_114 : decode cX7_at 114 = .ok (.iaload, 1) := by decide +kernel
theorem dX7_at_115 : decode cX7_at 115 = .ok (.invokevirtual 115, 3) := by decide +kernel
theorem dX7_at_118 : decode cX7_at 118 = .ok (.ireturn, 1) := by decide +kernel
theorem dX7_mark_0 : decode cX7_mark 0 = .ok (.aload_n 0, 1) := by decide +kernel
theorem dX7_mark_1 : decode cX7_mark 1 = .ok (.iconst 0, 1) := by decide +kernel
theorem dX7_mark_2 : decode cX7_mark 2 = .ok (.putfield 72, 3) := by decide +kernel
theorem dX7_mark_5 : decode cX7_mark 5 = .ok (.aload_n 0, 1) := by decide +kernel
theorem dX7_mark_6 : decode cX7_mark 6 = .ok (.aload_n 0, 1) := by decide +kernel
theorem dX7_mark_7 : decode cX7_mark 7 = .ok (.iload_n 1, 1) := by decide +kernel
theorem dX7_mark_8 : decode cX7_mark 8 = .ok (.invokevirtual 78, 3) := by decide +kernel
theorem dX7_mark_11 : decode cX7_mark 11 = .ok (.ifCond .ne 7, 3) := by decide +kernel
theorem dX7_mark_14 : decode cX7_mark 14 = .ok (.iconst 1, 1) := by decide +kernel
theorem dX7_mark_15 : decode cX7_mark 15 = .ok (.goto 4, 3) := by decide +kernel
theorem dX7_mark_18 : decode cX7_mark 18 = .ok (.iconst 0, 1) := by decide +kernel
theorem dX7_mark_19 : decode cX7_mark 19 = .ok (.iconst 1, 1) := by decide +kernel
theorem dX7_mark_20 : decode cX7_mark 20 = .ok (.invokevirtual 82, 3) := by decide +kernel
theorem dX7_mark_23 : decode cX7_mark 23 = .ok (.ifCond .ne 40, 3) := by decide +kernel
theorem dX7_mark_26 : decode cX7_mark 26 = .ok (.aload_n 0, 1) := by decide +kernel
theorem dX7_mark_27 : decode cX7_mark 27 = .ok (.iload_n 2, 1) := by decide +kernel
theorem dX7_mark_28 : decode cX7_mark 28 = .ok (.i2l, 1) := by decide +kernel
theorem dX7_mark_29 : decode cX7_mark 29 = .ok (.lconst 0, 1) := by decide +kernel
theorem dX7_mark_30 : decode cX7_mark 30 = .ok (.ldc2_w 94, 3) := by decide +kernel
theorem dX7_mark_33 : decode cX7_mark 33 = .ok (.invokestatic 90, 3) := by decide +kernel
theorem dX7_mark_36 : decode cX7_mark 36 = .ok (.ifCond .eq 15, 3) := by decide +kernel
theorem dX7_mark_39 : decode cX7_mark 39 = .ok (.iload_n 3, 1) := by decide +kernel
theorem dX7_mark_40 : decode cX7_mark 40 = .ok (.i2l, 1) := by decide +kernel
theorem dX7_mark_41 : decode cX7_mark 41 = .ok (.lconst 0, 1) := by decide +kernel
theorem dX7_mark_42 : decode cX7_mark 42 = .ok (.ldc2_w 94, 3) := by decide +kernel
theorem dX7_mark_45 : decode cX7_mark 45 = .ok (.invokestatic 90, 3) := by decide +kernel
theorem dX7_mark_48 : decode cX7_mark 48 = .ok (.ifCond .ne 7, 3) := by decide +kernel
theorem dX7_mark_51 : decode cX7_mark 51 = .ok (.iconst 1, 1) := by decide +kernel
theorem dX7_mark_52 : decode cX7_mark 52 = .ok (.goto 4, 3) := by decide +kernel
theorem dX7_mark_55 : decode cX7_mark 55 = .ok (.iconst 0, 1) := by decide +kernel
theorem dX7_mark_56 : decode cX7_mark 56 = .ok (.iconst 2, 1) := by decide +kernel
theorem dX7_mark_57 : decode cX7_mark 57 = .ok (.invokevirtual 82, 3) := by decide +kernel
theorem dX7_mark_60 : decode cX7_mark 60 = .ok (.ifCond .eq 5, 3) := by decide +kernel
theorem dX7_mark_63 : decode cX7_mark 63 = .ok (.iconst 0, 1) := by decide +kernel
theorem dX7_mark_64 : decode cX7_mark 64 = .ok (.ireturn, 1) := by decide +kernel
theorem dX7_mark_65 : decode cX7_mark 65 = .ok (.iconst 0, 1) := by decide +kernel
theorem dX7_mark_66 : decode cX7_mark 66 = .ok (.istore 4, 2) := by decide +kernel
theorem dX7_mark_68 : decode cX7_mark 68 = .ok (.iconst 1, 1) := by decide +kernel
theorem dX7_mark_69 : decode cX7_mark 69 = .ok (.istore 5, 2) := by decide +kernel
theorem dX7_mark_71 : decode cX7_mark 71 = .ok (.bipush 8, 2) := by decide +kernel
theorem dX7_mark_73 : decode cX7_mark 73 = .ok (.iload_n 1, 1) := by decide +kernel
theorem dX7_mark_74 : decode cX7_mark 74 = .ok (.imul, 1) := by decide +kernel
theorem dX7_mark_75 : decode cX7_mark 75 = .ok (.istore 6, 2) := by decide +kernel
theorem dX7_mark_77 : decode cX7_mark 77 = .ok (.iload 6, 2) := by decide +kernel
theorem dX7_mark_79 : decode cX7_mark 79 = .ok (.bipush 8, 2) := by decide +kernel
theorem dX7_mark_81 : decode cX7_mark 81 = .ok (.iload_n 1, 1) := by decide +kernel
theorem dX7_mark_82 : decode cX7_mark 82 = .ok (.imul, 1) := by decide +kernel
theorem dX7_mark_83 : decode cX7_mark 83 = .ok (.aload_n 0, 1) := by decide +kernel
theorem dX7_mark_84 : decode cX7_mark 84 = .ok (.getfield 25, 3) := by decide +kernel
theorem dX7_mark_87 : decode cX7_mark 87 = .ok (.iload_n 1, 1) := by decide +kernel
theorem dX7_mark_88 : decode cX7_mark 88 = .ok (.iaload, 1) := by decide +kernel
theorem dX7_mark_89 : decode cX7_mark 89 = .ok (.iadd, 1) := by decide +kernel
theorem dX7_mark_90 : decode cX7_mark 90 = .ok (.if_icmp .ge 86, 3) := by decide +kernel
theorem dX7_mark_93 : decode cX7_mark 93 = .ok (.iload 5, 2) := by decide +kernel
theorem dX7_mark_95 : decode cX7_mark 95 = .ok (.ifCond .eq 51, 3) := by decide +kernel
theorem dX7_mark_98 : decode cX7_mark 98 = .ok (.aload_n 0, 1) := by decide +kernel
theorem dX7_mark_99 : decode cX7_mark 99 = .ok (.getfield 28, 3) := by decide +kernel
theorem dX7_mark_102 : decode cX7_mark 102 = .ok (.iload 6, 2) := by decide +kernel
theorem dX7_mark_104 : decode cX7_mark 104 = .ok (.iaload, 1) := by decide +kernel
theorem dX7_mark_105 : decode cX7_mark 105 = .ok (.iload_n 2, 1) := by decide +kernel
theorem dX7_mark_106 : decode cX7_mark 106 = .ok (.if_icmp .ge 14, 3) := by decide +kernel
theorem dX7_mark_109 : decode cX7_mark 109 = .ok (.aload_n 0, 1) := by decide +kernel
theorem dX7_mark_110 : decode cX7_mark 110 = .ok (.getfield 31, 3) := by decide +kernel
theorem dX7_mark_113 : decode cX7_mark 113 = .ok (.iload 6, 2) := by decide +kernel
theorem dX7_mark_115 : decode cX7_mark 115 = .ok (.iaload, 1) := by decide +kernel
theorem dX7_mark_116 : decode cX7_mark 116 = .ok (.iload_n 3, 1) := by decide +kernel
theorem dX7_mark_117 : decode cX7_mark 117 = .ok (.if_icmp .lt 25, 3) := by decide +kernel
theorem dX7_mark_120 : decode cX7_mark 120 = .ok (.aload_n 0, 1) := by decide +kernel
theorem dX7_mark_121 : decode cX7_mark 121 = .ok (.getfield 28, 3) := by decide +kernel
theorem dX7_mark_124 : decode cX7_mark 124 = .ok (.iload 6, 2) := by decide +kernel
theorem dX7_mark_126 : decode cX7_mark 126 = .ok (.iaload, 1) := by decide +kernel
theorem dX7_mark_127 : decode cX7_mark 127 = .ok (.iload_n 2, 1) := by decide +kernel
theorem dX7_mark_128 : decode cX7_mark 128 = .ok (.if_icmp .le 18, 3) := by decide +kernel
theorem dX7_mark_131 : decode cX7_mark 131 = .ok (.aload_n 0, 1) := by decide +kernel
theorem dX7_mark_132 : decode cX7_mark 132 = .ok (.getfield 31, 3) := by decide +kernel
theorem dX7_mark_135 : decode cX7_mark 135 = .ok (.iload 6, 2) := by decide +kernel
theorem dX7_mark_137 : decode cX7_mark 137 = .ok (.iaload, 1) := by decide +kernel
theorem dX7_mark_138 : decode cX7_mark 138 = .ok (.iload_n 3, 1) := by decide +kernel
theorem dX7_mark_139 : decode cX7_mark 139 = .ok (.if_icmp .le 7, 3) := by decide +kernel
theorem dX7_mark_142 : decode cX7_mark 142 = .ok (.iconst 1, 1) := by decide +kernel
theorem dX7_mark_143 : decode cX7_mark 143 = .ok (.goto 4, 3) := by decide +kernel
theorem dX7_mark_146 : decode cX7_mark 146 = .ok (.iconst 0, 1) := by decide +kernel
theorem dX7_mark_147 : decode cX7_mark 147 = .ok (.istore 5, 2) := by decide +kernel
theorem dX7_mark_149 : decode cX7_mark 149 = .ok (.iload 4, 2) := by decide +kernel
theorem dX7_mark_151 : decode cX7_mark 151 = .ok (.aload_n 0, 1) := by decide +kernel
theorem dX7_mark_152 : decode cX7_mark 152 = .ok (.getfield 28, 3) := by decide +kernel
theorem dX7_mark_155 : decode cX7_mark 155 = .ok (.iload 6, 2) := by decide +kernel
theorem dX7_mark_157 : decode cX7_mark 157 = .ok (.iaload, 1) := by decide +kernel
theorem dX7_mark_158 : decode cX7_mark 158 = .ok (.iload_n 2, 1) := by decide +kernel
theorem dX7_mark_159 : decode cX7_mark 159 = .ok (.if_icmp .ge 7, 3) := by decide +kernel
theorem dX7_mark_162 : decode cX7_mark 162 = .ok (.iconst 1, 1) := by decide +kernel
theorem dX7_mark_163 : decode cX7_mark 163 = .ok (.goto 4, 3) := by decide +kernel
theorem dX7_mark_166 : decode cX7_mark 166 = .ok (.iconst 0, 1) := by decide +kernel
theorem dX7_mark_167 : decode cX7_mark 167 = .ok (.iadd, 1) := by decide +kernel
theorem dX7_mark_168 : decode cX7_mark 168 = .ok (.istore 4, 2) := by decide +kernel
theorem dX7_mark_170 : decode cX7_mark 170 = .ok (.iinc 6 1, 3) := by decide +kernel
theorem dX7_mark_173 : decode cX7_mark 173 = .ok (.goto (-96), 3) := by decide +kernel
theorem dX7_mark_176 : decode cX7_mark 176 = .ok (.aload_n 0, 1) := by decide +kernel
theorem dX7_mark_177 : decode cX7_mark 177 = .ok (.iload 5, 2) := by decide +kernel
theorem dX7_mark_179 : decode cX7_mark 179 = .ok (.ifCond .ne 7, 3) := by decide +kernel
theorem dX7_mark_182 : decode cX7_mark 182 = .ok (.iconst 1, 1) := by decide +kernel
theorem dX7_mark_183 : decode cX7_mark 183 = .ok (.goto 4, 3) := by decide +kernel
theorem dX7_mark_186 : decode cX7_mark 186 = .ok (.iconst 0, 1) := by decide +kernel
theorem dX7_mark_187 : decode cX7_mark 187 = .ok (.iconst 2, 1) := by decide +kernel
theorem dX7_mark_188 : decode cX7_mark 188 = .ok (.invokevirtual 82, 3) := by decide +kernel
theorem dX7_mark_191 : decode cX7_mark 191 = .ok (.ifCond .ne 27, 3) := by decide +kernel
theorem dX7_mark_194 : decode cX7_mark 194 = .ok (.aload_n 0, 1) := by decide +kernel
theorem dX7_mark_195 : decode cX7_mark 195 = .ok (.aload_n 0, 1) := by decide +kernel
theorem dX7_mark_196 : decode cX7_mark 196 = .ok (.getfield 25, 3) := by decide +kernel
theorem dX7_mark_199 : decode cX7_mark 199 = .ok (.iload_n 1, 1) := by decide +kernel
theorem dX7_mark_200 : decode cX7_mark 200 = .ok (.iaload, 1) := by decide +kernel
theorem dX7_mark_201 : decode cX7_mark 201 = .ok (.bipush 8, 2) := by decide +kernel
theorem dX7_mark_203 : decode cX7_mark 203 = .ok (.if_icmp .ne 7, 3) := by decide +kernel
theorem dX7_mark_206 : decode cX7_mark 206 = .ok (.iconst 1, 1) := by decide +kernel
theorem dX7_mark_207 : decode cX7_mark 207 = .ok (.goto 4, 3) := by decide +kernel
theorem dX7_mark_210 : decode cX7_mark 210 = .ok (.iconst 0, 1) := by decide +kernel
theorem dX7_mark_211 : decode cX7_mark 211 = .ok (.iconst 3, 1) := by decide +kernel
theorem dX7_mark_212 : decode cX7_mark 212 = .ok (.invokevirtual 82, 3) := by decide +kernel
theorem dX7_mark_215 : decode cX7_mark 215 = .ok (.ifCond .eq 5, 3) := by decide +kernel
theorem dX7_mark_218 : decode cX7_mark 218 = .ok (.iconst 0, 1) := by decide +kernel
theorem dX7_mark_219 : decode cX7_mark 219 = .ok (.ireturn, 1) := by decide +kernel
theorem dX7_mark_220 : decode cX7_mark 220 = .ok (.bipush 8, 2) := by decide +kernel
theorem dX7_mark_222 : decode cX7_mark 222 = .ok (.iload_n 1, 1) := by decide +kernel
theorem dX7_mark_223 : decode cX7_mark 223 = .ok (.imul, 1) := by decide +kernel
theorem dX7_mark_224 : decode cX7_mark 224 = .ok (.aload_n 0, 1) := by decide +kernel
theorem dX7_mark_225 : decode cX7_mark 225 = .ok (.getfield 25, 3) := by decide +kernel
theorem dX7_mark_228 : decode cX7_mark 228 = .ok (.iload_n 1, 1) := by decide +kernel
theorem dX7_mark_229 : decode cX7_mark 229 = .ok (.iaload, 1) := by decide +kernel
theorem dX7_mark_230 : decode cX7_mark 230 = .ok (.iadd, 1) := by decide +kernel
theorem dX7_mark_231 : decode cX7_mark 231 = .ok (.istore 6, 2) := by decide +kernel
theorem dX7_mark_233 : decode cX7_mark 233 = .ok (.iload 6, 2) := by decide +kernel
theorem dX7_mark_235 : decode cX7_mark 235 = .ok (.bipush 8, 2) := by decide +kernel
theorem dX7_mark_237 : decode cX7_mark 237 = .ok (.iload_n 1, 1) := by decide +kernel
theorem dX7_mark_238 : decode cX7_mark 238 = .ok (.imul, 1) := by decide +kernel
theorem dX7_mark_239 : decode cX7_mark 239 = .ok (.iload 4, 2) := by decide +kernel
theorem dX7_mark_241 : decode cX7_mark 241 = .ok (.iadd, 1) := by decide +kernel
theorem dX7_mark_242 : decode cX7_mark 242 = .ok (.if_icmp .le 41, 3) := by decide +kernel
theorem dX7_mark_245 : decode cX7_mark 245 = .ok (.aload_n 0, 1) := by decide +kernel
theorem dX7_mark_246 : decode cX7_mark 246 = .ok (.getfield 28, 3) := by decide +kernel
theorem dX7_mark_249 : decode cX7_mark 249 = .ok (.iload 6, 2) := by decide +kernel
theorem dX7_mark_251 : decode cX7_mark 251 = .ok (.aload_n 0, 1) := by decide +kernel
theorem dX7_mark_252 : decode cX7_mark 252 = .ok (.getfield 28, 3) := by decide +kernel
theorem dX7_mark_255 : decode cX7_mark 255 = .ok (.iload 6, 2) := by decide +kernel
theorem dX7_mark_257 : decode cX7_mark 257 = .ok (.iconst 1, 1) := by decide +kernel
theorem dX7_mark_258 : decode cX7_mark 258 = .ok (.isub, 1) := by decide +kernel
theorem dX7_mark_259 : decode cX7_mark 259 = .ok (.iaload, 1) := by decide +kernel
theorem dX7_mark_260 : decode cX7_mark 260 = .ok (.iastore, 1) := by decide +kernel
theorem dX7_mark_261 : decode cX7_mark 261 = .ok (.aload_n 0, 1) := by decide +kernel
theorem dX7_mark_262 : decode cX7_mark 262 = .ok (.getfield 31, 3) := by decide +kernel
theorem dX7_mark_265 : decode cX7_mark 265 = .ok (.iload 6, 2) := by decide +kernel
theorem dX7_mark_267 : decode cX7_mark 267 = .ok (.aload_n 0, 1) := by decide +kernel
theorem dX7_mark_268 : decode cX7_mark 268 = .ok (.getfield 31, 3) := by decide +kernel
theorem dX7_mark_271 : decode cX7_mark 271 = .ok (.iload 6, 2) := by decide +kernel
theorem dX7_mark_273 : decode cX7_mark 273 = .ok (.iconst 1, 1) := by decide +kernel
theorem dX7_mark_274 : decode cX7_mark 274 = .ok (.isub, 1) := by decide +kernel
theorem dX7_mark_275 : decode cX7_mark 275 = .ok (.iaload, 1) := by decide +kernel
theorem dX7_mark_276 : decode cX7_mark 276 = .ok (.iastore, 1) := by decide +kernel
theorem dX7_mark_277 : decode cX7_mark 277 = .ok (.iinc 6 (-1), 3) := by decide +kernel
theorem dX7_mark_280 : decode cX7_mark 280 = .ok (.goto (-47), 3) := by decide +kernel
theorem dX7_mark_283 : decode cX7_mark 283 = .ok (.aload_n 0, 1) := by decide +kernel
theorem dX7_mark_284 : decode cX7_mark 284 = .ok (.getfield 28, 3) := by decide +kernel
theorem dX7_mark_287 : decode cX7_mark 287 = .ok (.bipush 8, 2) := by decide +kernel
theorem dX7_mark_289 : decode cX7_mark 289 = .ok (.iload_n 1, 1) := by decide +kernel
theorem dX7_mark_290 : decode cX7_mark 290 = .ok (.imul, 1) := by decide +kernel
theorem dX7_mark_291 : decode cX7_mark 291 = .ok (.iload 4, 2) := by decide +kernel
theorem dX7_mark_293 : decode cX7_mark 293 = .ok (.iadd, 1) := by decide +kernel
theorem dX7_mark_294 : decode cX7_mark 294 = .ok (.iload_n 2, 1) := by decide +kernel
theorem dX7_mark_295 : decode cX7_mark 295 = .ok (.iastore, 1) := by decide +kernel
theorem dX7_mark_296 : decode cX7_mark 296 = .ok (.aload_n 0, 1) := by decide +kernel
theorem dX7_mark_297 : decode cX7_mark 297 = .ok (.getfield 31, 3) := by decide +kernel
theorem dX7_mark_300 : decode cX7_mark 300 = .ok (.bipush 8, 2) := by decide +kernel
theorem dX7_mark_302 : decode cX7_mark 302 = .ok (.iload_n 1, 1) := by decide +kernel
theorem dX7_mark_303 : decode cX7_mark 303 = .ok (.imul, 1) := by decide +kernel
theorem dX7_mark_304 : decode cX7_mark 304 = .ok (.iload 4, 2) := by decide +kernel
theorem dX7_mark_306 : decode cX7_mark 306 = .ok (.iadd, 1) := by decide +kernel
theorem dX7_mark_307 : decode cX7_mark 307 = .ok (.iload_n 3, 1) := by decide +kernel
theorem dX7_mark_308 : decode cX7_mark 308 = .ok (.iastore, 1) := by decide +kernel
theorem dX7_mark_309 : decode cX7_mark 309 = .ok (.aload_n 0, 1) := by decide +kernel
theorem dX7_mark_310 : decode cX7_mark 310 = .ok (.getfield 25, 3) := by decide +kernel
theorem dX7_mark_313 : decode cX7_mark 313 = .ok (.iload_n 1, 1) := by decide +kernel
theorem dX7_mark_314 : decode cX7_mark 314 = .ok (.dup2, 1) := by decide +kernel
theorem dX7_mark_315 : decode cX7_mark 315 = .ok (.iaload, 1) := by decide +kernel
theorem dX7_mark_316 : decode cX7_mark 316 = .ok (.iconst 1, 1) := by decide +kernel
theorem dX7_mark_317 : decode cX7_mark 317 = .ok (.iadd, 1) := by decide +kernel
theorem dX7_mark_318 : decode cX7_mark 318 = .ok (.iastore, 1) := by decide +kernel
theorem dX7_mark_319 : decode cX7_mark 319 = .ok (.aload_n 0, 1) := by decide +kernel
theorem dX7_mark_320 : decode cX7_mark 320 = .ok (.getfield 25, 3) := by decide +kernel
theorem dX7_mark_323 : decode cX7_mark 323 = .ok (.iload_n 1, 1) := by decide +kernel
theorem dX7_mark_324 : decode cX7_mark 324 = .ok (.iaload, 1) := by decide +kernel
theorem dX7_mark_325 : decode cX7_mark 325 = .ok (.ireturn, 1) := by decide +kernel
theorem dX7_timeOf_0 : decode cX7_timeOf 0 = .ok (.aload_n 0, 1) := by decide +kernel
theorem dX7_timeOf_1 : decode cX7_timeOf 1 = .ok (.getfield 25, 3) := by decide +kernel
theorem dX7_timeOf_4 : decode cX7_timeOf 4 = .ok (.iload_n 1, 1) := by decide +kernel
theorem dX7_timeOf_5 : decode cX7_timeOf 5 = .ok (.iaload, 1) := by decide +kernel
theorem dX7_timeOf_6 : decode cX7_timeOf 6 = .ok (.ifCond .ne 5, 3) := by decide +kernel
theorem dX7_timeOf_9 : decode cX7_timeOf 9 = .ok (.iload_n 2, 1) := by decide +kernel
theorem dX7_timeOf_10 : decode cX7_timeOf 10 = .ok (.ireturn, 1) := by decide +kernel
theorem dX7_timeOf_11 : decode cX7_timeOf 11 = .ok (.bipush 8, 2) := by decide +kernel
theorem dX7_timeOf_13 : decode cX7_timeOf 13 = .ok (.iload_n 1, 1) := by decide +kernel
theorem dX7_timeOf_14 : decode cX7_timeOf 14 = .ok (.imul, 1) := by decide +kernel
theorem dX7_timeOf_15 : decode cX7_timeOf 15 = .ok (.istore_n 3, 1) := by decide +kernel
theorem dX7_timeOf_16 : decode cX7_timeOf 16 = .ok (.bipush 8, 2) := by decide +kernel
theorem dX7_timeOf_18 : decode cX7_timeOf 18 = .ok (.iload_n 1, 1) := by decide +kernel
theorem dX7_timeOf_19 : decode cX7_timeOf 19 = .ok (.imul, 1) := by decide +kernel
theorem dX7_timeOf_20 : decode cX7_timeOf 20 = .ok (.istore 4, 2) := by decide +kernel
theorem dX7_timeOf_22 : decode cX7_timeOf 22 = .ok (.iload 4, 2) := by decide +kernel
theorem dX7_timeOf_24 : decode cX7_timeOf 24 = .ok (.bipush 8, 2) := by decide +kernel
theorem dX7_timeOf_26 : decode cX7_timeOf 26 = .ok (.iload_n 1, 1) := by decide +kernel
theorem dX7_timeOf_27 : decode cX7_timeOf 27 = .ok (.imul, 1) := by decide +kernel
theorem dX7_timeOf_28 : decode cX7_timeOf 28 = .ok (.aload_n 0, 1) := by decide +kernel
theorem dX7_timeOf_29 : decode cX7_timeOf 29 = .ok (.getfield 25, 3) := by decide +kernel
theorem dX7_timeOf_32 : decode cX7_timeOf 32 = .ok (.iload_n 1, 1) := by decide +kernel
theorem dX7_timeOf_33 : decode cX7_timeOf 33 = .ok (.iaload, 1) := by decide +kernel
theorem dX7_timeOf_34 : decode cX7_timeOf 34 = .ok (.iadd, 1) := by decide +kernel
theorem dX7_timeOf_35 : decode cX7_timeOf 35 = .ok (.if_icmp .ge 27, 3) := by decide +kernel
theorem dX7_timeOf_38 : decode cX7_timeOf 38 = .ok (.aload_n 0, 1) := by decide +kernel
theorem dX7_timeOf_39 : decode cX7_timeOf 39 = .ok (.getfield 28, 3) := by decide +kernel
theorem dX7_timeOf_42 : decode cX7_timeOf 42 = .ok (.iload 4, 2) := by decide +kernel
theorem dX7_timeOf_44 : decode cX7_timeOf 44 = .ok (.iaload, 1) := by decide +kernel
theorem dX7_timeOf_45 : decode cX7_timeOf 45 = .ok (.iload_n 2, 1) := by decide +kernel
theorem dX7_timeOf_46 : decode cX7_timeOf 46 = .ok (.if_icmp .gt 8, 3) := by decide +kernel
theorem dX7_timeOf_49 : decode cX7_timeOf 49 = .ok (.iload 4, 2) := by decide +kernel
theorem dX7_timeOf_51 : decode cX7_timeOf 51 = .ok (.goto 4, 3) := by decide +kernel
theorem dX7_timeOf_54 : decode cX7_timeOf 54 = .ok (.iload_n 3, 1) := by decide +kernel
theorem dX7_timeOf_55 : decode cX7_timeOf 55 = .ok (.istore_n 3, 1) := by decide +kernel
theorem dX7_timeOf_56 : decode cX7_timeOf 56 = .ok (.iinc 4 1, 3) := by decide +kernel
theorem dX7_timeOf_59 : decode cX7_timeOf 59 = .ok (.goto (-37), 3) := by decide +kernel
theorem dX7_timeOf_62 : decode cX7_timeOf 62 = .ok (.iload_n 2, 1) := by decide +kernel
theorem dX7_timeOf_63 : decode cX7_timeOf 63 = .ok (.aload_n 0, 1) := by decide +kernel
theorem dX7_timeOf_64 : decode cX7_timeOf 64 = .ok (.getfield 28, 3) := by decide +kernel
theorem dX7_timeOf_67 : decode cX7_timeOf 67 = .ok (.iload_n 3, 1) := by decide +kernel
theorem dX7_timeOf_68 : decode cX7_timeOf 68 = .ok (.iaload, 1) := by decide +kernel
theorem dX7_timeOf_69 : decode cX7_timeOf 69 = .ok (.isub, 1) := by decide +kernel
theorem dX7_timeOf_70 : decode cX7_timeOf 70 = .ok (.istore 4, 2) := by decide +kernel
theorem dX7_timeOf_72 : decode cX7_timeOf 72 = .ok (.iload 4, 2) := by decide +kernel
theorem dX7_timeOf_74 : decode cX7_timeOf 74 = .ok (.ifCond .lt 20, 3) := by decide +kernel
theorem dX7_timeOf_77 : decode cX7_timeOf 77 = .ok (.iload_n 3, 1) := by decide +kernel
theorem dX7_timeOf_78 : decode cX7_timeOf 78 = .ok (.bipush 8, 2) := by decide +kernel
theorem dX7_timeOf_80 : decode cX7_timeOf 80 = .ok (.iload_n 1, 1) := by decide +kernel
theorem dX7_timeOf_81 : decode cX7_timeOf 81 = .ok (.imul, 1) := by decide +kernel
theorem dX7_timeOf_82 : decode cX7_timeOf 82 = .ok (.aload_n 0, 1) := by decide +kernel
theorem dX7_timeOf_83 : decode cX7_timeOf 83 = .ok (.getfield 25, 3) := by decide +kernel
theorem dX7_timeOf_86 : decode cX7_timeOf 86 = .ok (.iload_n 1, 1) := by decide +kernel
theorem dX7_timeOf_87 : decode cX7_timeOf 87 = .ok (.iaload, 1) := by decide +kernel
theorem dX7_timeOf_88 : decode cX7_timeOf 88 = .ok (.iadd, 1) := by decide +kernel
theorem dX7_timeOf_89 : decode cX7_timeOf 89 = .ok (.iconst 1, 1) := by decide +kernel
theorem dX7_timeOf_90 : decode cX7_timeOf 90 = .ok (.isub, 1) := by decide +kernel
theorem dX7_timeOf_91 : decode cX7_timeOf 91 = .ok (.if_icmp .ne 13, 3) := by decide +kernel
theorem dX7_timeOf_94 : decode cX7_timeOf 94 = .ok (.aload_n 0, 1) := by decide +kernel
theorem dX7_timeOf_95 : decode cX7_timeOf 95 = .ok (.getfield 31, 3) := by decide +kernel
theorem dX7_timeOf_98 : decode cX7_timeOf 98 = .ok (.iload_n 3, 1) := by decide +kernel
theorem dX7_timeOf_99 : decode cX7_timeOf 99 = .ok (.iaload, 1) := by decide +kernel
theorem dX7_timeOf_100 : decode cX7_timeOf 100 = .ok (.iload 4, 2) := by decide +kernel
theorem dX7_timeOf_102 : decode cX7_timeOf 102 = .ok (.iadd, 1) := by decide +kernel
theorem dX7_timeOf_103 : decode cX7_timeOf 103 = .ok (.ireturn, 1) := by decide +kernel
theorem dX7_timeOf_104 : decode cX7_timeOf 104 = .ok (.aload_n 0, 1) := by decide +kernel
theorem dX7_timeOf_105 : decode cX7_timeOf 105 = .ok (.getfield 31, 3) := by decide +kernel
theorem dX7_timeOf_108 : decode cX7_timeOf 108 = .ok (.iload_n 3, 1) := by decide +kernel
theorem dX7_timeOf_109 : decode cX7_timeOf 109 = .ok (.iaload, 1) := by decide +kernel
theorem dX7_timeOf_110 : decode cX7_timeOf 110 = .ok (.iload 4, 2) := by decide +kernel
theorem dX7_timeOf_112 : decode cX7_timeOf 112 = .ok (.i2l, 1) := by decide +kernel
theorem dX7_timeOf_113 : decode cX7_timeOf 113 = .ok (.aload_n 0, 1) := by decide +kernel
theorem dX7_timeOf_114 : decode cX7_timeOf 114 = .ok (.getfield 31, 3) := by decide +kernel
theorem dX7_timeOf_117 : decode cX7_timeOf 117 = .ok (.iload_n 3, 1) := by decide +kernel
theorem dX7_timeOf_118 : decode cX7_timeOf 118 = .ok (.iconst 1, 1) := by decide +kernel
theorem dX7_timeOf_119 : decode cX7_timeOf 119 = .ok (.iadd, 1) := by decide +kernel
theorem dX7_timeOf_120 : decode cX7_timeOf 120 = .ok (.iaload, 1) := by decide +kernel
theorem dX7_timeOf_121 : decode cX7_timeOf 121 = .ok (.aload_n 0, 1) := by decide +kernel
theorem dX7_timeOf_122 : decode cX7_timeOf 122 = .ok (.getfield 31, 3) := by decide +kernel
theorem dX7_timeOf_125 : decode cX7_timeOf 125 = .ok (.iload_n 3, 1) := by decide +kernel
theorem dX7_timeOf_126 : decode cX7_timeOf 126 = .ok (.iaload, 1) := by decide +kernel
theorem dX7_timeOf_127 : decode cX7_timeOf 127 = .ok (.isub, 1) := by decide +kernel
theorem dX7_timeOf_128 : decode cX7_timeOf 128 = .ok (.i2l, 1) := by decide +kernel
theorem dX7_timeOf_129 : decode cX7_timeOf 129 = .ok (.lmul, 1) := by decide +kernel
theorem dX7_timeOf_130 : decode cX7_timeOf 130 = .ok (.aload_n 0, 1) := by decide +kernel
theorem dX7_timeOf_131 : decode cX7_timeOf 131 = .ok (.getfield 28, 3) := by decide +kernel
theorem dX7_timeOf_134 : decode cX7_timeOf 134 = .ok (.iload_n 3, 1) := by decide +kernel
theorem dX7_timeOf_135 : decode cX7_timeOf 135 = .ok (.iconst 1, 1) := by decide +kernel
theorem dX7_timeOf_136 : decode cX7_timeOf 136 = .ok (.iadd, 1) := by decide +kernel
theorem dX7_timeOf_137 : decode cX7_timeOf 137 = .ok (.iaload, 1) := by decide +kernel
theorem dX7_timeOf_138 : decode cX7_timeOf 138 = .ok (.aload_n 0, 1) := by decide +kernel
theorem dX7_timeOf_139 : decode cX7_timeOf 139 = .ok (.getfield 28, 3) := by decide +kernel
theorem dX7_timeOf_142 : decode cX7_timeOf 142 = .ok (.iload_n 3, 1) := by decide +kernel
theorem dX7_timeOf_143 : decode cX7_timeOf 143 = .ok (.iaload, 1) := by decide +kernel
theorem dX7_timeOf_144 : decode cX7_timeOf 144 = .ok (.isub, 1) := by decide +kernel
theorem dX7_timeOf_145 : decode cX7_timeOf 145 = .ok (.i2l, 1) := by decide +kernel
theorem dX7_timeOf_146 : decode cX7_timeOf 146 = .ok (.ldiv, 1) := by decide +kernel
theorem dX7_timeOf_147 : decode cX7_timeOf 147 = .ok (.l2i, 1) := by decide +kernel
theorem dX7_timeOf_148 : decode cX7_timeOf 148 = .ok (.iadd, 1) := by decide +kernel
theorem dX7_timeOf_149 : decode cX7_timeOf 149 = .ok (.ireturn, 1) := by decide +kernel
theorem dX7_time_0 : decode cX7_time 0 = .ok (.aload_n 0, 1) := by decide +kernel
theorem dX7_time_1 : decode cX7_time 1 = .ok (.iconst 0, 1) := by decide +kernel
theorem dX7_time_2 : decode cX7_time 2 = .ok (.putfield 72, 3) := by decide +kernel
theorem dX7_time_5 : decode cX7_time 5 = .ok (.aload_n 0, 1) := by decide +kernel
theorem dX7_time_6 : decode cX7_time 6 = .ok (.aload_n 0, 1) := by decide +kernel
theorem dX7_time_7 : decode cX7_time 7 = .ok (.iload_n 1, 1) := by decide +kernel
theorem dX7_time_8 : decode cX7_time 8 = .ok (.invokevirtual 78, 3) := by decide +kernel
theorem dX7_time_11 : decode cX7_time 11 = .ok (.ifCond .ne 7, 3) := by decide +kernel
theorem dX7_time_14 : decode cX7_time 14 = .ok (.iconst 1, 1) := by decide +kernel
theorem dX7_time_15 : decode cX7_time 15 = .ok (.goto 4, 3) := by decide +kernel
theorem dX7_time_18 : decode cX7_time 18 = .ok (.iconst 0, 1) := by decide +kernel
theorem dX7_time_19 : decode cX7_time 19 = .ok (.iconst 1, 1) := by decide +kernel
theorem dX7_time_20 : decode cX7_time 20 = .ok (.invokevirtual 82, 3) := by decide +kernel
theorem dX7_time_23 : decode cX7_time 23 = .ok (.ifCond .ne 28, 3) := by decide +kernel
theorem dX7_time_26 : decode cX7_time 26 = .ok (.aload_n 0, 1) := by decide +kernel
theorem dX7_time_27 : decode cX7_time 27 = .ok (.iload_n 2, 1) := by decide +kernel
theorem dX7_time_28 : decode cX7_time 28 = .ok (.i2l, 1) := by decide +kernel
theorem dX7_time_29 : decode cX7_time 29 = .ok (.lconst 0, 1) := by decide +kernel
theorem dX7_time_30 : decode cX7_time 30 = .ok (.ldc2_w 94, 3) := by decide +kernel
theorem dX7_time_33 : decode cX7_time 33 = .ok (.invokestatic 90, 3) := by decide +kernel
theorem dX7_time_36 : decode cX7_time 36 = .ok (.ifCond .ne 7, 3) := by decide +kernel
theorem dX7_time_39 : decode cX7_time 39 = .ok (.iconst 1, 1) := by decide +kernel
theorem dX7_time_40 : decode cX7_time 40 = .ok (.goto 4, 3) := by decide +kernel
theorem dX7_time_43 : decode cX7_time 43 = .ok (.iconst 0, 1) := by decide +kernel
theorem dX7_time_44 : decode cX7_time 44 = .ok (.iconst 2, 1) := by decide +kernel
theorem dX7_time_45 : decode cX7_time 45 = .ok (.invokevirtual 82, 3) := by decide +kernel
theorem dX7_time_48 : decode cX7_time 48 = .ok (.ifCond .eq 5, 3) := by decide +kernel
theorem dX7_time_51 : decode cX7_time 51 = .ok (.iconst 0, 1) := by decide +kernel
theorem dX7_time_52 : decode cX7_time 52 = .ok (.ireturn, 1) := by decide +kernel
theorem dX7_time_53 : decode cX7_time 53 = .ok (.aload_n 0, 1) := by decide +kernel
theorem dX7_time_54 : decode cX7_time 54 = .ok (.iload_n 1, 1) := by decide +kernel
theorem dX7_time_55 : decode cX7_time 55 = .ok (.iload_n 2, 1) := by decide +kernel
theorem dX7_time_56 : decode cX7_time 56 = .ok (.invokevirtual 115, 3) := by decide +kernel
theorem dX7_time_59 : decode cX7_time 59 = .ok (.ireturn, 1) := by decide +kernel
theorem dX7_speed_0 : decode cX7_speed 0 = .ok (.aload_n 0, 1) := by decide +kernel
theorem dX7_speed_1 : decode cX7_speed 1 = .ok (.iconst 0, 1) := by decide +kernel
theorem dX7_speed_2 : decode cX7_speed 2 = .ok (.putfield 72, 3) := by decide +kernel
theorem dX7_speed_5 : decode cX7_speed 5 = .ok (.aload_n 0, 1) := by decide +kernel
theorem dX7_speed_6 : decode cX7_speed 6 = .ok (.iload_n 1, 1) := by decide +kernel
theorem dX7_speed_7 : decode cX7_speed 7 = .ok (.i2l, 1) := by decide +kernel
theorem dX7_speed_8 : decode cX7_speed 8 = .ok (.lconst 1, 1) := by decide +kernel
theorem dX7_speed_9 : decode cX7_speed 9 = .ok (.ldc2_w 118, 3) := by decide +kernel
theorem dX7_speed_12 : decode cX7_speed 12 = .ok (.invokestatic 90, 3) := by decide +kernel
theorem dX7_speed_15 : decode cX7_speed 15 = .ok (.ifCond .ne 7, 3) := by decide +kernel
theorem dX7_speed_18 : decode cX7_speed 18 = .ok (.iconst 1, 1) := by decide +kernel
theorem dX7_speed_19 : decode cX7_speed 19 = .ok (.goto 4, 3) := by decide +kernel
theorem dX7_speed_22 : decode cX7_speed 22 = .ok (.iconst 0, 1) := by decide +kernel
theorem dX7_speed_23 : decode cX7_speed 23 = .ok (.iconst 1, 1) := by decide +kernel
theorem dX7_speed_24 : decode cX7_speed 24 = .ok (.invokevirtual 82, 3) := by decide +kernel
theorem dX7_speed_27 : decode cX7_speed 27 = .ok (.ifCond .eq 5, 3) := by decide +kernel
theorem dX7_speed_30 : decode cX7_speed 30 = .ok (.iconst 0, 1) := by decide +kernel
theorem dX7_speed_31 : decode cX7_speed 31 = .ok (.ireturn, 1) := by decide +kernel
theorem dX7_speed_32 : decode cX7_speed 32 = .ok (.aload_n 0, 1) := by decide +kernel
theorem dX7_speed_33 : decode cX7_speed 33 = .ok (.getfield 34, 3) := by decide +kernel
theorem dX7_speed_36 : decode cX7_speed 36 = .ok (.istore_n 2, 1) := by decide +kernel
theorem dX7_speed_37 : decode cX7_speed 37 = .ok (.aload_n 0, 1) := by decide +kernel
theorem dX7_speed_38 : decode cX7_speed 38 = .ok (.iload_n 1, 1) := by decide +kernel
theorem dX7_speed_39 : decode cX7_speed 39 = .ok (.putfield 34, 3) := by decide +kernel
theorem dX7_speed_42 : decode cX7_speed 42 = .ok (.iload_n 2, 1) := by decide +kernel
theorem dX7_speed_43 : decode cX7_speed 43 = .ok (.ireturn, 1) := by decide +kernel
theorem dX7_limit_0 : decode cX7_limit 0 = .ok (.aload_n 0, 1) := by decide +kernel
theorem dX7_limit_1 : decode cX7_limit 1 = .ok (.iconst 0, 1) := by decide +kernel
theorem dX7_limit_2 : decode cX7_limit 2 = .ok (.putfield 72, 3) := by decide +kernel
theorem dX7_limit_5 : decode cX7_limit 5 = .ok (.aload_n 0, 1) := by decide +kernel
theorem dX7_limit_6 : decode cX7_limit 6 = .ok (.iload_n 1, 1) := by decide +kernel
theorem dX7_limit_7 : decode cX7_limit 7 = .ok (.i2l, 1) := by decide +kernel
theorem dX7_limit_8 : decode cX7_limit 8 = .ok (.lconst 1, 1) := by decide +kernel
theorem dX7_limit_9 : decode cX7_limit 9 = .ok (.ldc2_w 88, 3) := by decide +kernel
theorem dX7_limit_12 : decode cX7_limit 12 = .ok (.invokestatic 90, 3) := by decide +kernel
theorem dX7_limit_15 : decode cX7_limit 15 = .ok (.ifCond .ne 7, 3) := by decide +kernel
theorem dX7_limit_18 : decode cX7_limit 18 = .ok (.iconst 1, 1) := by decide +kernel
theorem dX7_limit_19 : decode cX7_limit 19 = .ok (.goto 4, 3) := by decide +kernel
theorem dX7_limit_22 : decode cX7_limit 22 = .ok (.iconst 0, 1) := by decide +kernel
theorem dX7_limit_23 : decode cX7_limit 23 = .ok (.iconst 1, 1) := by decide +kernel
theorem dX7_limit_24 : decode cX7_limit 24 = .ok (.invokevirtual 82, 3) := by decide +kernel
theorem dX7_limit_27 : decode cX7_limit 27 = .ok (.ifCond .eq 5, 3) := by decide +kernel
theorem dX7_limit_30 : decode cX7_limit 30 = .ok (.iconst 0, 1) := by decide +kernel
theorem dX7_limit_31 : decode cX7_limit 31 = .ok (.ireturn, 1) := by decide +kernel
theorem dX7_limit_32 : decode cX7_limit 32 = .ok (.aload_n 0, 1) := by decide +kernel
theorem dX7_limit_33 : decode cX7_limit 33 = .ok (.getfield 38, 3) := by decide +kernel
theorem dX7_limit_36 : decode cX7_limit 36 = .ok (.istore_n 2, 1) := by decide +kernel
theorem dX7_limit_37 : decode cX7_limit 37 = .ok (.aload_n 0, 1) := by decide +kernel
theorem dX7_limit_38 : decode cX7_limit 38 = .ok (.iload_n 1, 1) := by decide +kernel
theorem dX7_limit_39 : decode cX7_limit 39 = .ok (.putfield 38, 3) := by decide +kernel
theorem dX7_limit_42 : decode cX7_limit 42 = .ok (.iload_n 2, 1) := by decide +kernel
theorem dX7_limit_43 : decode cX7_limit 43 = .ok (.ireturn, 1) := by decide +kernel
theorem dX7_square_0 : decode cX7_square 0 = .ok (.lload_n 0, 1) := by decide +kernel
theorem dX7_square_1 : decode cX7_square 1 = .ok (.lload_n 0, 1) := by decide +kernel
theorem dX7_square_2 : decode cX7_square 2 = .ok (.lmul, 1) := by decide +kernel
theorem dX7_square_3 : decode cX7_square 3 = .ok (.lload_n 2, 1) := by decide +kernel
theorem dX7_square_4 : decode cX7_square 4 = .ok (.lload_n 2, 1) := by decide +kernel
theorem dX7_square_5 : decode cX7_square 5 = .ok (.lmul, 1) := by decide +kernel
theorem dX7_square_6 : decode cX7_square 6 = .ok (.ladd, 1) := by decide +kernel
theorem dX7_square_7 : decode cX7_square 7 = .ok (.lreturn, 1) := by decide +kernel
theorem dX7_between_0 : decode cX7_between 0 = .ok (.aload_n 0, 1) := by decide +kernel
theorem dX7_between_1 : decode cX7_between 1 = .ok (.iload_n 1, 1) := by decide +kernel
theorem dX7_between_2 : decode cX7_between 2 = .ok (.aload_n 0, 1) := by decide +kernel
theorem dX7_between_3 : decode cX7_between 3 = .ok (.getfield 16, 3) := by decide +kernel
theorem dX7_between_6 : decode cX7_between 6 = .ok (.bipush 60, 2) := by decide +kernel
theorem dX7_between_8 : decode cX7_between 8 = .ok (.iload_n 1, 1) := by decide +kernel
theorem dX7_between_9 : decode cX7_between 9 = .ok (.imul, 1) := by decide +kernel
theorem dX7_between_10 : decode cX7_between 10 = .ok (.iload_n 2, 1) := by decide +kernel
theorem dX7_between_11 : decode cX7_between 11 = .ok (.iadd, 1) := by decide +kernel
theorem dX7_between_12 : decode cX7_between 12 = .ok (.iaload, 1) := by decide +kernel
theorem dX7_between_13 : decode cX7_between 13 = .ok (.invokevirtual 115, 3) := by decide +kernel
theorem dX7_between_16 : decode cX7_between 16 = .ok (.aload_n 0, 1) := by decide +kernel
theorem dX7_between_17 : decode cX7_between 17 = .ok (.iload_n 1, 1) := by decide +kernel
theorem dX7_between_18 : decode cX7_between 18 = .ok (.aload_n 0, 1) := by decide +kernel
theorem dX7_between_19 : decode cX7_between 19 = .ok (.getfield 16, 3) := by decide +kernel
theorem dX7_between_22 : decode cX7_between 22 = .ok (.bipush 60, 2) := by decide +kernel
theorem dX7_between_24 : decode cX7_between 24 = .ok (.iload_n 1, 1) := by decide +kernel
theorem dX7_between_25 : decode cX7_between 25 = .ok (.imul, 1) := by decide +kernel
theorem dX7_between_26 : decode cX7_between 26 = .ok (.iload_n 2, 1) := by decide +kernel
theorem dX7_between_27 : decode cX7_between 27 = .ok (.iadd, 1) := by decide +kernel
theorem dX7_between_28 : decode cX7_between 28 = .ok (.iconst 1, 1) := by decide +kernel
theorem dX7_between_29 : decode cX7_between 29 = .ok (.isub, 1) := by decide +kernel
theorem dX7_between_30 : decode cX7_between 30 = .ok (.iaload, 1) := by decide +kernel
theorem dX7_between_31 : decode cX7_between 31 = .ok (.invokevirtual 115, 3) := by decide +kernel
theorem dX7_between_34 : decode cX7_between 34 = .ok (.isub, 1) := by decide +kernel
theorem dX7_between_35 : decode cX7_between 35 = .ok (.i2l, 1) := by decide +kernel
theorem dX7_between_36 : decode cX7_between 36 = .ok (.lreturn, 1) := by decide +kernel
theorem dX7_is_0 : decode cX7_is 0 = .ok (.bipush 60, 2) := by decide +kernel
theorem dX7_is_2 : decode cX7_is 2 = .ok (.iload_n 1, 1) := by decide +kernel
theorem dX7_is_3 : decode cX7_is 3 = .ok (.imul, 1) := by decide +kernel
theorem dX7_is_4 : decode cX7_is 4 = .ok (.iload_n 2, 1) := by decide +kernel
theorem dX7_is_5 : decode cX7_is 5 = .ok (.iadd, 1) := by decide +kernel
theorem dX7_is_6 : decode cX7_is 6 = .ok (.istore 4, 2) := by decide +kernel
theorem dX7_is_8 : decode cX7_is 8 = .ok (.aload_n 0, 1) := by decide +kernel
theorem dX7_is_9 : decode cX7_is 9 = .ok (.iload_n 1, 1) := by decide +kernel
theorem dX7_is_10 : decode cX7_is 10 = .ok (.iload_n 2, 1) := by decide +kernel
theorem dX7_is_11 : decode cX7_is 11 = .ok (.invokevirtual 120, 3) := by decide +kernel
theorem dX7_is_14 : decode cX7_is 14 = .ok (.lstore 5, 2) := by decide +kernel
theorem dX7_is_16 : decode cX7_is 16 = .ok (.iload_n 3, 1) := by decide +kernel
theorem dX7_is_17 : decode cX7_is 17 = .ok (.ifCond .eq 71, 3) := by decide +kernel
theorem dX7_is_20 : decode cX7_is 20 = .ok (.aload_n 0, 1) := by decide +kernel
theorem dX7_is_21 : decode cX7_is 21 = .ok (.getfield 19, 3) := by decide +kernel
theorem dX7_is_24 : decode cX7_is 24 = .ok (.iload 4, 2) := by decide +kernel
theorem dX7_is_26 : decode cX7_is 26 = .ok (.iaload, 1) := by decide +kernel
theorem dX7_is_27 : decode cX7_is 27 = .ok (.aload_n 0, 1) := by decide +kernel
theorem dX7_is_28 : decode cX7_is 28 = .ok (.getfield 19, 3) := by decide +kernel
theorem dX7_is_31 : decode cX7_is 31 = .ok (.iload 4, 2) := by decide +kernel
theorem dX7_is_33 : decode cX7_is 33 = .ok (.iconst 1, 1) := by decide +kernel
theorem dX7_is_34 : decode cX7_is 34 = .ok (.isub, 1) := by decide +kernel
theorem dX7_is_35 : decode cX7_is 35 = .ok (.iaload, 1) := by decide +kernel
theorem dX7_is_36 : decode cX7_is 36 = .ok (.isub, 1) := by decide +kernel
theorem dX7_is_37 : decode cX7_is 37 = .ok (.i2l, 1) := by decide +kernel
theorem dX7_is_38 : decode cX7_is 38 = .ok (.aload_n 0, 1) := by decide +kernel
theorem dX7_is_39 : decode cX7_is 39 = .ok (.getfield 22, 3) := by decide +kernel
theorem dX7_is_42 : decode cX7_is 42 = .ok (.iload 4, 2) := by decide +kernel
theorem dX7_is_44 : decode cX7_is 44 = .ok (.iaload, 1) := by decide +kernel
theorem dX7_is_45 : decode cX7_is 45 = .ok (.aload_n 0, 1) := by decide +kernel
theorem dX7_is_46 : decode cX7_is 46 = .ok (.getfield 22, 3) := by decide +kernel
theorem dX7_is_49 : decode cX7_is 49 = .ok (.iload 4, 2) := by decide +kernel
theorem dX7_is_51 : decode cX7_is 51 = .ok (.iconst 1, 1) := by decide +kernel
theorem dX7_is_52 : decode cX7_is 52 = .ok (.isub, 1) := by decide +kernel
theorem dX7_is_53 : decode cX7_is 53 = .ok (.iaload, 1) := by decide +kernel
theorem dX7_is_54 : decode cX7_is 54 = .ok (.isub, 1) := by decide +kernel
theorem dX7_is_55 : decode cX7_is 55 = .ok (.i2l, 1) := by decide +kernel
theorem dX7_is_56 : decode cX7_is 56 = .ok (.invokestatic 124, 3) := by decide +kernel
theorem dX7_is_59 : decode cX7_is 59 = .ok (.aload_n 0, 1) := by decide +kernel
theorem dX7_is_60 : decode cX7_is 60 = .ok (.getfield 34, 3) := by decide +kernel
theorem dX7_is_63 : decode cX7_is 63 = .ok (.i2l, 1) := by decide +kernel
theorem dX7_is_64 : decode cX7_is 64 = .ok (.lload 5, 2) := by decide +kernel
theorem dX7_is_66 : decode cX7_is 66 = .ok (.lmul, 1) := by decide +kernel
theorem dX7_is_67 : decode cX7_is 67 = .ok (.aload_n 0, 1) := by decide +kernel
theorem dX7_is_68 : decode cX7_is 68 = .ok (.getfield 34, 3) := by decide +kernel
theorem dX7_is_71 : decode cX7_is 71 = .ok (.i2l, 1) := by decide +kernel
theorem dX7_is_72 : decode cX7_is 72 = .ok (.lmul, 1) := by decide +kernel
theorem dX7_is_73 : decode cX7_is 73 = .ok (.lload 5, 2) := by decide +kernel
theorem dX7_is_75 : decode cX7_is 75 = .ok (.lmul, 1) := by decide +kernel
theorem dX7_is_76 : decode cX7_is 76 = .ok (.lcmp, 1) := by decide +kernel
theorem dX7_is_77 : decode cX7_is 77 = .ok (.ifCond .le 7, 3) := by decide +kernel
theorem dX7_is_80 : decode cX7_is 80 = .ok (.iconst 1, 1) := by decide +kernel
theorem dX7_is_81 : decode cX7_is 81 = .ok (.goto 23, 3) := by decide +kernel
theorem dX7_is_84 : decode cX7_is 84 = .ok (.iconst 0, 1) := by decide +kernel
theorem dX7_is_85 : decode cX7_is 85 = .ok (.goto 19, 3) := by decide +kernel
theorem dX7_is_88 : decode cX7_is 88 = .ok (.lload 5, 2) := by decide +kernel
theorem dX7_is_90 : decode cX7_is 90 = .ok (.aload_n 0, 1) := by decide +kernel
theorem dX7_is_91 : decode cX7_is 91 = .ok (.getfield 38, 3) := by decide +kernel
theorem dX7_is_94 : decode cX7_is 94 = .ok (.i2l, 1) := by decide +kernel
theorem dX7_is_95 : decode cX7_is 95 = .ok (.lcmp, 1) := by decide +kernel
theorem dX7_is_96 : decode cX7_is 96 = .ok (.ifCond .le 7, 3) := by decide +kernel
theorem dX7_is_99 : decode cX7_is 99 = .ok (.iconst 1, 1) := by decide +kernel
theorem dX7_is_100 : decode cX7_is 100 = .ok (.goto 4, 3) := by decide +kernel
theorem dX7_is_103 : decode cX7_is 103 = .ok (.iconst 0, 1) := by decide +kernel
theorem dX7_is_104 : decode cX7_is 104 = .ok (.ireturn, 1) := by decide +kernel
theorem dX7_countOf_0 : decode cX7_countOf 0 = .ok (.iconst 0, 1) := by decide +kernel
theorem dX7_countOf_1 : decode cX7_countOf 1 = .ok (.istore_n 3, 1) := by decide +kernel
theorem dX7_countOf_2 : decode cX7_countOf 2 = .ok (.iconst 1, 1) := by decide +kernel
theorem dX7_countOf_3 : decode cX7_countOf 3 = .ok (.istore 4, 2) := by decide +kernel
theorem dX7_countOf_5 : decode cX7_countOf 5 = .ok (.iload 4, 2) := by decide +kernel
theorem dX7_countOf_7 : decode cX7_countOf 7 = .ok (.aload_n 0, 1) := by decide +kernel
theorem dX7_countOf_8 : decode cX7_countOf 8 = .ok (.getfield 7, 3) := by decide +kernel
theorem dX7_countOf_11 : decode cX7_countOf 11 = .ok (.iload_n 1, 1) := by decide +kernel
theorem dX7_countOf_12 : decode cX7_countOf 12 = .ok (.iaload, 1) := by decide +kernel
theorem dX7_countOf_13 : decode cX7_countOf 13 = .ok (.if_icmp .ge 28, 3) := by decide +kernel
theorem dX7_countOf_16 : decode cX7_countOf 16 = .ok (.iload_n 3, 1) := by decide +kernel
theorem dX7_countOf_17 : decode cX7_countOf 17 = .ok (.aload_n 0, 1) := by decide +kernel
theorem dX7_countOf_18 : decode cX7_countOf 18 = .ok (.iload_n 1, 1) := by decide +kernel
theorem dX7_countOf_19 : decode cX7_countOf 19 = .ok (.iload 4, 2) := by decide +kernel
theorem dX7_countOf_21 : decode cX7_countOf 21 = .ok (.iload_n 2, 1) := by decide +kernel
theorem dX7_countOf_22 : decode cX7_countOf 22 = .ok (.invokevirtual 128, 3) := by decide +kernel
theorem dX7_countOf_25 : decode cX7_countOf 25 = .ok (.ifCond .eq 7, 3) := by decide +kernel
theorem dX7_countOf_28 : decode cX7_countOf 28 = .ok (.iconst 1, 1) := by decide +kernel
theorem dX7_countOf_29 : decode cX7_countOf 29 = .ok (.goto 4, 3) := by decide +kernel
theorem dX7_countOf_32 : decode cX7_countOf 32 = .ok (.iconst 0, 1) := by decide +kernel
theorem dX7_countOf_33 : decode cX7_countOf 33 = .ok (.iadd, 1) := by decide +kernel
theorem dX7_countOf_34 : decode cX7_countOf 34 = .ok (.istore_n 3, 1) := by decide +kernel
theorem dX7_countOf_35 : decode cX7_countOf 35 = .ok (.iinc 4 1, 3) := by decide +kernel
theorem dX7_countOf_38 : decode cX7_countOf 38 = .ok (.goto (-33), 3) := by decide +kernel
theorem dX7_countOf_41 : decode cX7_countOf 41 = .ok (.iload_n 3, 1) := by decide +kernel
theorem dX7_countOf_42 : decode cX7_countOf 42 = .ok (.ireturn, 1) := by decide +kernel
theorem dX7_find_0 : decode cX7_find 0 = .ok (.iconst 0, 1) := by decide +kernel
theorem dX7_find_1 : decode cX7_find 1 = .ok (.istore 4, 2) := by decide +kernel
theorem dX7_find_3 : decode cX7_find 3 = .ok (.iconst 1, 1) := by decide +kernel
theorem dX7_find_4 : decode cX7_find 4 = .ok (.istore 5, 2) := by decide +kernel
theorem dX7_find_6 : decode cX7_find 6 = .ok (.iload 5, 2) := by decide +kernel
theorem dX7_find_8 : decode cX7_find 8 = .ok (.aload_n 0, 1) := by decide +kernel
theorem dX7_find_9 : decode cX7_find 9 = .ok (.getfield 7, 3) := by decide +kernel
theorem dX7_find_12 : decode cX7_find 12 = .ok (.iload_n 1, 1) := by decide +kernel
theorem dX7_find_13 : decode cX7_find 13 = .ok (.iaload, 1) := by decide +kernel
theorem dX7_find_14 : decode cX7_find 14 = .ok (.if_icmp .ge 35, 3) := by decide +kernel
theorem dX7_find_17 : decode cX7_find 17 = .ok (.aload_n 0, 1) := by decide +kernel
theorem dX7_find_18 : decode cX7_find 18 = .ok (.iload_n 1, 1) := by decide +kernel
theorem dX7_find_19 : decode cX7_find 19 = .ok (.iload 5, 2) := by decide +kernel
theorem dX7_find_21 : decode cX7_find 21 = .ok (.iload_n 3, 1) := by decide +kernel
theorem dX7_find_22 : decode cX7_find 22 = .ok (.invokevirtual 128, 3) := by decide +kernel
theorem dX7_find_25 : decode cX7_find 25 = .ok (.ifCond .ne 6, 3) := by decide +kernel
theorem dX7_find_28 : decode cX7_find 28 = .ok (.goto 15, 3) := by decide +kernel
theorem dX7_find_31 : decode cX7_find 31 = .ok (.iload 4, 2) := by decide +kernel
theorem dX7_find_33 : decode cX7_find 33 = .ok (.iload_n 2, 1) := by decide +kernel
theorem dX7_find_34 : decode cX7_find 34 = .ok (.if_icmp .ne 6, 3) := by decide +kernel
theorem dX7_find_37 : decode cX7_find 37 = .ok (.iload 5, 2) := by decide +kernel
theorem dX7_find_39 : decode cX7_find 39 = .ok (.ireturn, 1) := by decide +kernel
theorem dX7_find_40 : decode cX7_find 40 = .ok (.iinc 4 1, 3) := by decide +kernel
theorem dX7_find_43 : decode cX7_find 43 = .ok (.iinc 5 1, 3) := by decide +kernel
theorem dX7_find_46 : decode cX7_find 46 = .ok (.goto (-40), 3) := by decide +kernel
theorem dX7_find_49 : decode cX7_find 49 = .ok (.iconst (-1), 1) := by decide +kernel
theorem dX7_find_50 : decode cX7_find 50 = .ok (.ireturn, 1) := by decide +kernel
theorem dX7_jump_0 : decode cX7_jump 0 = .ok (.aload_n 0, 1) := by decide +kernel
theorem dX7_jump_1 : decode cX7_jump 1 = .ok (.iconst 0, 1) := by decide +kernel
theorem dX7_jump_2 : decode cX7_jump 2 = .ok (.putfield 72, 3) := by decide +kernel
theorem dX7_jump_5 : decode cX7_jump 5 = .ok (.aload_n 0, 1) := by decide +kernel
theorem dX7_jump_6 : decode cX7_jump 6 = .ok (.aload_n 0, 1) := by decide +kernel
theorem dX7_jump_7 : decode cX7_jump 7 = .ok (.iload_n 1, 1) := by decide +kernel
theorem dX7_jump_8 : decode cX7_jump 8 = .ok (.invokevirtual 78, 3) := by decide +kernel
theorem dX7_jump_11 : decode cX7_jump 11 = .ok (.ifCond .ne 7, 3) := by decide +kernel
theorem dX7_jump_14 : decode cX7_jump 14 = .ok (.iconst 1, 1) := by decide +kernel
theorem dX7_jump_15 : decode cX7_jump 15 = .ok (.goto 4, 3) := by decide +kernel
theorem dX7_jump_18 : decode cX7_jump 18 = .ok (.iconst 0, 1) := by decide +kernel
theorem dX7_jump_19 : decode cX7_jump 19 = .ok (.iconst 1, 1) := by decide +kernel
theorem dX7_jump_20 : decode cX7_jump 20 = .ok (.invokevirtual 82, 3) := by decide +kernel
theorem dX7_jump_23 : decode cX7_jump 23 = .ok (.ifCond .eq 7, 3) := by decide +kernel
theorem dX7_jump_26 : decode cX7_jump 26 = .ok (.iconst 0, 1) := by decide +kernel
theorem dX7_jump_27 : decode cX7_jump 27 = .ok (.goto 10, 3) := by decide +kernel
theorem dX7_jump_30 : decode cX7_jump 30 = .ok (.aload_n 0, 1) := by decide +kernel
theorem dX7_jump_31 : decode cX7_jump 31 = .ok (.iload_n 1, 1) := by decide +kernel
theorem dX7_jump_32 : decode cX7_jump 32 = .ok (.iload_n 2, 1) := by decide +kernel
theorem dX7_jump_33 : decode cX7_jump 33 = .ok (.iconst 1, 1) := by decide +kernel
theorem dX7_jump_34 : decode cX7_jump 34 = .ok (.invokevirtual 132, 3) := by decide +kernel
theorem dX7_jump_37 : decode cX7_jump 37 = .ok (.ireturn, 1) := by decide +kernel
theorem dX7_gap_0 : decode cX7_gap 0 = .ok (.aload_n 0, 1) := by decide +kernel
theorem dX7_gap_1 : decode cX7_gap 1 = .ok (.iconst 0, 1) := by decide +kernel
theorem dX7_gap_2 : decode cX7_gap 2 = .ok (.putfield 72, 3) := by decide +kernel
theorem dX7_gap_5 : decode cX7_gap 5 = .ok (.aload_n 0, 1) := by decide +kernel
theorem dX7_gap_6 : decode cX7_gap 6 = .ok (.aload_n 0, 1) := by decide +kernel
theorem dX7_gap_7 : decode cX7_gap 7 = .ok (.iload_n 1, 1) := by decide +kernel
theorem dX7_gap_8 : decode cX7_gap 8 = .ok (.invokevirtual 78, 3) := by decide +kernel
theorem dX7_gap_11 : decode cX7_gap 11 = .ok (.ifCond .ne 7, 3) := by decide +kernel
theorem dX7_gap_14 : decode cX7_gap 14 = .ok (.iconst 1, 1) := by decide +kernel
theorem dX7_gap_15 : decode cX7_gap 15 = .ok (.goto 4, 3) := by decide +kernel
theorem dX7_gap_18 : decode cX7_gap 18 = .ok (.iconst 0, 1) := by decide +kernel
theorem dX7_gap_19 : decode cX7_gap 19 = .ok (.iconst 1, 1) := by decide +kernel
theorem dX7_gap_20 : decode cX7_gap 20 = .ok (.invokevirtual 82, 3) := by decide +kernel
theorem dX7_gap_23 : decode cX7_gap 23 = .ok (.ifCond .eq 7, 3) := by decide +kernel
theorem dX7_gap_26 : decode cX7_gap 26 = .ok (.iconst 0, 1) := by decide +kernel
theorem dX7_gap_27 : decode cX7_gap 27 = .ok (.goto 10, 3) := by decide +kernel
theorem dX7_gap_30 : decode cX7_gap 30 = .ok (.aload_n 0, 1) := by decide +kernel
theorem dX7_gap_31 : decode cX7_gap 31 = .ok (.iload_n 1, 1) := by decide +kernel
theorem dX7_gap_32 : decode cX7_gap 32 = .ok (.iload_n 2, 1) := by decide +kernel
theorem dX7_gap_33 : decode cX7_gap 33 = .ok (.iconst 0, 1) := by decide +kernel
theorem dX7_gap_34 : decode cX7_gap 34 = .ok (.invokevirtual 132, 3) := by decide +kernel
theorem dX7_gap_37 : decode cX7_gap 37 = .ok (.ireturn, 1) := by decide +kernel
theorem dX7_nearest_0 : decode cX7_nearest 0 = .ok (.iload_n 0, 1) := by decide +kernel
theorem dX7_nearest_1 : decode cX7_nearest 1 = .ok (.iload_n 1, 1) := by decide +kernel
theorem dX7_nearest_2 : decode cX7_nearest 2 = .ok (.if_icmp .ge 7, 3) := by decide +kernel
theorem dX7_nearest_5 : decode cX7_nearest 5 = .ok (.iload_n 1, 1) := by decide +kernel
theorem dX7_nearest_6 : decode cX7_nearest 6 = .ok (.goto 21, 3) := by decide +kernel
theorem dX7_nearest_9 : decode cX7_nearest 9 = .ok (.iload_n 0, 1) := by decide +kernel
theorem dX7_nearest_10 : decode cX7_nearest 10 = .ok (.iload_n 1, 1) := by decide +kernel
theorem dX7_nearest_11 : decode cX7_nearest 11 = .ok (.sipush 999, 3) := by decide +kernel
theorem dX7_nearest_14 : decode cX7_nearest 14 = .ok (.iadd, 1) := by decide +kernel
theorem dX7_nearest_15 : decode cX7_nearest 15 = .ok (.if_icmp .le 11, 3) := by decide +kernel
theorem dX7_nearest_18 : decode cX7_nearest 18 = .ok (.iload_n 1, 1) := by decide +kernel
theorem dX7_nearest_19 : decode cX7_nearest 19 = .ok (.sipush 999, 3) := by decide +kernel
theorem dX7_nearest_22 : decode cX7_nearest 22 = .ok (.iadd, 1) := by decide +kernel
theorem dX7_nearest_23 : decode cX7_nearest 23 = .ok (.goto 4, 3) := by decide +kernel
theorem dX7_nearest_26 : decode cX7_nearest 26 = .ok (.iload_n 0, 1) := by decide +kernel
theorem dX7_nearest_27 : decode cX7_nearest 27 = .ok (.ireturn, 1) := by decide +kernel
theorem dX7_secondsFor_0 : decode cX7_secondsFor 0 = .ok (.lconst 0, 1) := by decide +kernel
theorem dX7_secondsFor_1 : decode cX7_secondsFor 1 = .ok (.lstore_n 3, 1) := by decide +kernel
theorem dX7_secondsFor_2 : decode cX7_secondsFor 2 = .ok (.ldc2_w 94, 3) := by decide +kernel
theorem dX7_secondsFor_5 : decode cX7_secondsFor 5 = .ok (.lstore 5, 2) := by decide +kernel
theorem dX7_secondsFor_7 : decode cX7_secondsFor 7 = .ok (.lload_n 3, 1) := by decide +kernel
theorem dX7_secondsFor_8 : decode cX7_secondsFor 8 = .ok (.lload 5, 2) := by decide +kernel
theorem dX7_secondsFor_10 : decode cX7_secondsFor 10 = .ok (.lcmp, 1) := by decide +kernel
theorem dX7_secondsFor_11 : decode cX7_secondsFor 11 = .ok (.ifCond .ge 50, 3) := by decide +kernel
theorem dX7_secondsFor_14 : decode cX7_secondsFor 14 = .ok (.lload_n 3, 1) := by decide +kernel
theorem dX7_secondsFor_15 : decode cX7_secondsFor 15 = .ok (.lload 5, 2) := by decide +kernel
theorem dX7_secondsFor_17 : decode cX7_secondsFor 17 = .ok (.ladd, 1) := by decide +kernel
theorem dX7_secondsFor_18 : decode cX7_secondsFor 18 = .ok (.ldc2_w 136, 3) := by decide +kernel
theorem dX7_secondsFor_21 : decode cX7_secondsFor 21 = .ok (.ldiv, 1) := by decide +kernel
theorem dX7_secondsFor_22 : decode cX7_secondsFor 22 = .ok (.lstore 7, 2) := by decide +kernel
theorem dX7_secondsFor_24 : decode cX7_secondsFor 24 = .ok (.aload_n 0, 1) := by decide +kernel
theorem dX7_secondsFor_25 : decode cX7_secondsFor 25 = .ok (.getfield 34, 3) := by decide +kernel
theorem dX7_secondsFor_28 : decode cX7_secondsFor 28 = .ok (.i2l, 1) := by decide +kernel
theorem dX7_secondsFor_29 : decode cX7_secondsFor 29 = .ok (.lload 7, 2) := by decide +kernel
theorem dX7_secondsFor_31 : decode cX7_secondsFor 31 = .ok (.lmul, 1) := by decide +kernel
theorem dX7_secondsFor_32 : decode cX7_secondsFor 32 = .ok (.aload_n 0, 1) := by decide +kernel
theorem dX7_secondsFor_33 : decode cX7_secondsFor 33 = .ok (.getfield 34, 3) := by decide +kernel
theorem dX7_secondsFor_36 : decode cX7_secondsFor 36 = .ok (.i2l, 1) := by decide +kernel
theorem dX7_secondsFor_37 : decode cX7_secondsFor 37 = .ok (.lmul, 1) := by decide +kernel
theorem dX7_secondsFor_38 : decode cX7_secondsFor 38 = .ok (.lload 7, 2) := by decide +kernel
theorem dX7_secondsFor_40 : decode cX7_secondsFor 40 = .ok (.lmul, 1) := by decide +kernel
theorem dX7_secondsFor_41 : decode cX7_secondsFor 41 = .ok (.lload_n 1, 1) := by decide +kernel
theorem dX7_secondsFor_42 : decode cX7_secondsFor 42 = .ok (.lcmp, 1) := by decide +kernel
theorem dX7_secondsFor_43 : decode cX7_secondsFor 43 = .ok (.ifCond .lt 10, 3) := by decide +kernel
theorem dX7_secondsFor_46 : decode cX7_secondsFor 46 = .ok (.lload 7, 2) := by decide +kernel
theorem dX7_secondsFor_48 : decode cX7_secondsFor 48 = .ok (.lstore 5, 2) := by decide +kernel
theorem dX7_secondsFor_50 : decode cX7_secondsFor 50 = .ok (.goto 8, 3) := by decide +kernel
theorem dX7_secondsFor_53 : decode cX7_secondsFor 53 = .ok (.lload 7, 2) := by decide +kernel
theorem dX7_secondsFor_55 : decode cX7_secondsFor 55 = .ok (.lconst 1, 1) := by decide +kernel
theorem dX7_secondsFor_56 : decode cX7_secondsFor 56 = .ok (.ladd, 1) := by decide +kernel
theorem dX7_secondsFor_57 : decode cX7_secondsFor 57 = .ok (.lstore_n 3, 1) := by decide +kernel
theorem dX7_secondsFor_58 : decode cX7_secondsFor 58 = .ok (.goto (-51), 3) := by decide +kernel
theorem dX7_secondsFor_61 : decode cX7_secondsFor 61 = .ok (.lload_n 3, 1) := by decide +kernel
theorem dX7_secondsFor_62 : decode cX7_secondsFor 62 = .ok (.lreturn, 1) := by decide +kernel
theorem dX7_way_0 : decode cX7_way 0 = .ok (.aload_n 0, 1) := by decide +kernel
theorem dX7_way_1 : decode cX7_way 1 = .ok (.getfield 19, 3) := by decide +kernel
theorem dX7_way_4 : decode cX7_way 4 = .ok (.iload 4, 2) := by decide +kernel
theorem dX7_way_6 : decode cX7_way 6 = .ok (.iaload, 1) := by decide +kernel
theorem dX7_way_7 : decode cX7_way 7 = .ok (.sipush 1000, 3) := by decide +kernel
theorem dX7_way_10 : decode cX7_way 10 = .ok (.iload_n 2, 1) := by decide +kernel
theorem dX7_way_11 : decode cX7_way 11 = .ok (.imul, 1) := by decide +kernel
theorem dX7_way_12 : decode cX7_way 12 = .ok (.invokestatic 138, 3) := by decide +kernel
theorem dX7_way_15 : decode cX7_way 15 = .ok (.istore 5, 2) := by decide +kernel
theorem dX7_way_17 : decode cX7_way 17 = .ok (.aload_n 0, 1) := by decide +kernel
theorem dX7_way_18 : decode cX7_way 18 = .ok (.getfield 22, 3) := by decide +kernel
theorem dX7_way_21 : decode cX7_way 21 = .ok (.iload 4, 2) := by decide +kernel
theorem dX7_way_23 : decode cX7_way 23 = .ok (.iaload, 1) := by decide +kernel
theorem dX7_way_24 : decode cX7_way 24 = .ok (.sipush 1000, 3) := by decide +kernel
theorem dX7_way_27 : decode cX7_way 27 = .ok (.iload_n 3, 1) := by decide +kernel
theorem dX7_way_28 : decode cX7_way 28 = .ok (.imul, 1) := by decide +kernel
theorem dX7_way_29 : decode cX7_way 29 = .ok (.invokestatic 138, 3) := by decide +kernel
theorem dX7_way_32 : decode cX7_way 32 = .ok (.istore 6, 2) := by decide +kernel
theorem dX7_way_34 : decode cX7_way 34 = .ok (.aload_n 0, 1) := by decide +kernel
theorem dX7_way_35 : decode cX7_way 35 = .ok (.iload 5, 2) := by decide +kernel
theorem dX7_way_37 : decode cX7_way 37 = .ok (.aload_n 0, 1) := by decide +kernel
theorem dX7_way_38 : decode cX7_way 38 = .ok (.getfield 19, 3) := by decide +kernel
theorem dX7_way_41 : decode cX7_way 41 = .ok (.iload_n 1, 1) := by decide +kernel
theorem dX7_way_42 : decode cX7_way 42 = .ok (.iaload, 1) := by decide +kernel
theorem dX7_way_43 : decode cX7_way 43 = .ok (.isub, 1) := by decide +kernel
theorem dX7_way_44 : decode cX7_way 44 = .ok (.i2l, 1) := by decide +kernel
theorem dX7_way_45 : decode cX7_way 45 = .ok (.iload 6, 2) := by decide +kernel
theorem dX7_way_47 : decode cX7_way 47 = .ok (.aload_n 0, 1) := by decide +kernel
theorem dX7_way_48 : decode cX7_way 48 = .ok (.getfield 22, 3) := by decide +kernel
theorem dX7_way_51 : decode cX7_way 51 = .ok (.iload_n 1, 1) := by decide +kernel
theorem dX7_way_52 : decode cX7_way 52 = .ok (.iaload, 1) := by decide +kernel
theorem dX7_way_53 : decode cX7_way 53 = .ok (.isub, 1) := by decide +kernel
theorem dX7_way_54 : decode cX7_way 54 = .ok (.i2l, 1) := by decide +kernel
theorem dX7_way_55 : decode cX7_way 55 = .ok (.invokestatic 124, 3) := by decide +kernel
theorem dX7_way_58 : decode cX7_way 58 = .ok (.invokevirtual 141, 3) := by decide +kernel
theorem dX7_way_61 : decode cX7_way 61 = .ok (.lreturn, 1) := by decide +kernel
theorem dX7_could_0 : decode cX7_could 0 = .ok (.aload_n 0, 1) := by decide +kernel
theorem dX7_could_1 : decode cX7_could 1 = .ok (.iconst 0, 1) := by decide +kernel
theorem dX7_could_2 : decode cX7_could 2 = .ok (.putfield 72, 3) := by decide +kernel
theorem dX7_could_5 : decode cX7_could 5 = .ok (.aload_n 0, 1) := by decide +kernel
theorem dX7_could_6 : decode cX7_could 6 = .ok (.iload_n 1, 1) := by decide +kernel
theorem dX7_could_7 : decode cX7_could 7 = .ok (.invokevirtual 78, 3) := by decide +kernel
theorem dX7_could_10 : decode cX7_could 10 = .ok (.ifCond .eq 13, 3) := by decide +kernel
theorem dX7_could_13 : decode cX7_could 13 = .ok (.aload_n 0, 1) := by decide +kernel
theorem dX7_could_14 : decode cX7_could 14 = .ok (.iload_n 1, 1) := by decide +kernel
theorem dX7_could_15 : decode cX7_could 15 = .ok (.iload_n 2, 1) := by decide +kernel
theorem dX7_could_16 : decode cX7_could 16 = .ok (.iconst 0, 1) := by decide +kernel
theorem dX7_could_17 : decode cX7_could 17 = .ok (.invokevirtual 132, 3) := by decide +kernel
theorem dX7_could_20 : decode cX7_could 20 = .ok (.goto 4, 3) := by decide +kernel
theorem dX7_could_23 : decode cX7_could 23 = .ok (.iconst (-1), 1) := by decide +kernel
theorem dX7_could_24 : decode cX7_could 24 = .ok (.istore 5, 2) := by decide +kernel
theorem dX7_could_26 : decode cX7_could 26 = .ok (.aload_n 0, 1) := by decide +kernel
theorem dX7_could_27 : decode cX7_could 27 = .ok (.iload 5, 2) := by decide +kernel
theorem dX7_could_29 : decode cX7_could 29 = .ok (.iconst (-1), 1) := by decide +kernel
theorem dX7_could_30 : decode cX7_could 30 = .ok (.if_icmp .ne 7, 3) := by decide +kernel
theorem dX7_could_33 : decode cX7_could 33 = .ok (.iconst 1, 1) := by decide +kernel
theorem dX7_could_34 : decode cX7_could 34 = .ok (.goto 4, 3) := by decide +kernel
theorem dX7_could_37 : decode cX7_could 37 = .ok (.iconst 0, 1) := by decide +kernel
theorem dX7_could_38 : decode cX7_could 38 = .ok (.iconst 1, 1) := by decide +kernel
theorem dX7_could_39 : decode cX7_could 39 = .ok (.invokevirtual 82, 3) := by decide +kernel
theorem dX7_could_42 : decode cX7_could 42 = .ok (.ifCond .ne 45, 3) := by decide +kernel
theorem dX7_could_45 : decode cX7_could 45 = .ok (.aload_n 0, 1) := by decide +kernel
theorem dX7_could_46 : decode cX7_could 46 = .ok (.iload_n 3, 1) := by decide +kernel
theorem dX7_could_47 : decode cX7_could 47 = .ok (.i2l, 1) := by decide +kernel
theorem dX7_could_48 : decode cX7_could 48 = .ok (.ldc2_w 145, 3) := by decide +kernel
theorem dX7_could_51 : decode cX7_could 51 = .ok (.ldc2_w 147, 3) := by decide +kernel
theorem dX7_could_54 : decode cX7_could 54 = .ok (.invokestatic 90, 3) := by decide +kernel
theorem dX7_could_57 : decode cX7_could 57 = .ok (.ifCond .eq 18, 3) := by decide +kernel
theorem dX7_could_60 : decode cX7_could 60 = .ok (.iload 4, 2) := by decide +kernel
theorem dX7_could_62 : decode cX7_could 62 = .ok (.i2l, 1) := by decide +kernel
theorem dX7_could_63 : decode cX7_could 63 = .ok (.ldc2_w 145, 3) := by decide +kernel
theorem dX7_could_66 : decode cX7_could 66 = .ok (.ldc2_w 147, 3) := by decide +kernel
theorem dX7_could_69 : decode cX7_could 69 = .ok (.invokestatic 90, 3) := by decide +kernel
theorem dX7_could_72 : decode cX7_could 72 = .ok (.ifCond .ne 7, 3) := by decide +kernel
theorem dX7_could_75 : decode cX7_could 75 = .ok (.iconst 1, 1) := by decide +kernel
theorem dX7_could_76 : decode cX7_could 76 = .ok (.goto 4, 3) := by decide +kernel
theorem dX7_could_79 : decode cX7_could 79 = .ok (.iconst 0, 1) := by decide +kernel
theorem dX7_could_80 : decode cX7_could 80 = .ok (.iconst 2, 1) := by decide +kernel
theorem dX7_could_81 : decode cX7_could 81 = .ok (.invokevirtual 82, 3) := by decide +kernel
theorem dX7_could_84 : decode cX7_could 84 = .ok (.ifCond .eq 5, 3) := by decide +kernel
theorem dX7_could_87 : decode cX7_could 87 = .ok (.iconst 0, 1) := by decide +kernel
theorem dX7_could_88 : decode cX7_could 88 = .ok (.ireturn, 1) := by decide +kernel
theorem dX7_could_89 : decode cX7_could 89 = .ok (.bipush 60, 2) := by decide +kernel
theorem dX7_could_91 : decode cX7_could 91 = .ok (.iload_n 1, 1) := by decide +kernel
theorem dX7_could_92 : decode cX7_could 92 = .ok (.imul, 1) := by decide +kernel
theorem dX7_could_93 : decode cX7_could 93 = .ok (.iload 5, 2) := by decide +kernel
theorem dX7_could_95 : decode cX7_could 95 = .ok (.iadd, 1) := by decide +kernel
theorem dX7_could_96 : decode cX7_could 96 = .ok (.istore 6, 2) := by decide +kernel
theorem dX7_could_98 : decode cX7_could 98 = .ok (.aload_n 0, 1) := by decide +kernel
theorem dX7_could_99 : decode cX7_could 99 = .ok (.iload 6, 2) := by decide +kernel
theorem dX7_could_101 : decode cX7_could 101 = .ok (.iconst 1, 1) := by decide +kernel
theorem dX7_could_102 : decode cX7_could 102 = .ok (.isub, 1) := by decide +kernel
theorem dX7_could_103 : decode cX7_could 103 = .ok (.iload_n 3, 1) := by decide +kernel
theorem dX7_could_104 : decode cX7_could 104 = .ok (.iload 4, 2) := by decide +kernel
theorem dX7_could_106 : decode cX7_could 106 = .ok (.iload 6, 2) := by decide +kernel
theorem dX7_could_108 : decode cX7_could 108 = .ok (.iconst 1, 1) := by decide +kernel
theorem dX7_could_109 : decode cX7_could 109 = .ok (.isub, 1) := by decide +kernel
theorem dX7_could_110 : decode cX7_could 110 = .ok (.invokevirtual 149, 3) := by decide +kernel
theorem dX7_could_113 : decode cX7_could 113 = .ok (.aload_n 0, 1) := by decide +kernel
theorem dX7_could_114 : decode cX7_could 114 = .ok (.iload 6, 2) := by decide +kernel
theorem dX7_could_116 : decode cX7_could 116 = .ok (.iload_n 3, 1) := by decide +kernel
theorem dX7_could_117 : decode cX7_could 117 = .ok (.iload 4, 2) := by decide +kernel
theorem dX7_could_119 : decode cX7_could 119 = .ok (.iload 6, 2) := by decide +kernel
theorem dX7_could_121 : decode cX7_could 121 = .ok (.invokevirtual 149, 3) := by decide +kernel
theorem dX7_could_124 : decode cX7_could 124 = .ok (.ladd, 1) := by decide +kernel
theorem dX7_could_125 : decode cX7_could 125 = .ok (.aload_n 0, 1) := by decide +kernel
theorem dX7_could_126 : decode cX7_could 126 = .ok (.iload_n 1, 1) := by decide +kernel
theorem dX7_could_127 : decode cX7_could 127 = .ok (.iload 5, 2) := by decide +kernel
theorem dX7_could_129 : decode cX7_could 129 = .ok (.invokevirtual 120, 3) := by decide +kernel
theorem dX7_could_132 : decode cX7_could 132 = .ok (.lcmp, 1) := by decide +kernel
theorem dX7_could_133 : decode cX7_could 133 = .ok (.ifCond .gt 7, 3) := by decide +kernel
theorem dX7_could_136 : decode cX7_could 136 = .ok (.iconst 1, 1) := by decide +kernel
theorem dX7_could_137 : decode cX7_could 137 = .ok (.goto 4, 3) := by decide +kernel
theorem dX7_could_140 : decode cX7_could 140 = .ok (.iconst 0, 1) := by decide +kernel
theorem dX7_could_141 : decode cX7_could 141 = .ok (.ireturn, 1) := by decide +kernel
theorem dX7_fence_0 : decode cX7_fence 0 = .ok (.aload_n 0, 1) := by decide +kernel
theorem dX7_fence_1 : decode cX7_fence 1 = .ok (.iconst 0, 1) := by decide +kernel
theorem dX7_fence_2 : decode cX7_fence 2 = .ok (.putfield 72, 3) := by decide +kernel
theorem dX7_fence_5 : decode cX7_fence 5 = .ok (.aload_n 0, 1) := by decide +kernel
theorem dX7_fence_6 : decode cX7_fence 6 = .ok (.aload_n 0, 1) := by decide +kernel
theorem dX7_fence_7 : decode cX7_fence 7 = .ok (.getfield 153, 3) := by decide +kernel
theorem dX7_fence_10 : decode cX7_fence 10 = .ok (.iconst 4, 1) := by decide +kernel
theorem dX7_fence_11 : decode cX7_fence 11 = .ok (.if_icmp .ne 7, 3) := by decide +kernel
theorem dX7_fence_14 : decode cX7_fence 14 = .ok (.iconst 1, 1) := by decide +kernel
theorem dX7_fence_15 : decode cX7_fence 15 = .ok (.goto 4, 3) := by decide +kernel
theorem dX7_fence_18 : decode cX7_fence 18 = .ok (.iconst 0, 1) := by decide +kernel
theorem dX7_fence_19 : decode cX7_fence 19 = .ok (.iconst 1, 1) := by decide +kernel
theorem dX7_fence_20 : decode cX7_fence 20 = .ok (.invokevirtual 82, 3) := by decide +kernel
theorem dX7_fence_23 : decode cX7_fence 23 = .ok (.ifCond .eq 5, 3) := by decide +kernel
theorem dX7_fence_26 : decode cX7_fence 26 = .ok (.iconst 0, 1) := by decide +kernel
theorem dX7_fence_27 : decode cX7_fence 27 = .ok (.ireturn, 1) := by decide +kernel
theorem dX7_fence_28 : decode cX7_fence 28 = .ok (.aload_n 0, 1) := by decide +kernel
theorem dX7_fence_29 : decode cX7_fence 29 = .ok (.dup, 1) := by decide +kernel
theorem dX7_fence_30 : decode cX7_fence 30 = .ok (.getfield 153, 3) := by decide +kernel
theorem dX7_fence_33 : decode cX7_fence 33 = .ok (.iconst 1, 1) := by decide +kernel
theorem dX7_fence_34 : decode cX7_fence 34 = .ok (.iadd, 1) := by decide +kernel
theorem dX7_fence_35 : decode cX7_fence 35 = .ok (.putfield 153, 3) := by decide +kernel
theorem dX7_fence_38 : decode cX7_fence 38 = .ok (.aload_n 0, 1) := by decide +kernel
theorem dX7_fence_39 : decode cX7_fence 39 = .ok (.getfield 153, 3) := by decide +kernel
theorem dX7_fence_42 : decode cX7_fence 42 = .ok (.iconst 1, 1) := by decide +kernel
theorem dX7_fence_43 : decode cX7_fence 43 = .ok (.isub, 1) := by decide +kernel
theorem dX7_fence_44 : decode cX7_fence 44 = .ok (.ireturn, 1) := by decide +kernel
theorem dX7_corner_0 : decode cX7_corner 0 = .ok (.aload_n 0, 1) := by decide +kernel
theorem dX7_corner_1 : decode cX7_corner 1 = .ok (.iconst 0, 1) := by decide +kernel
theorem dX7_corner_2 : decode cX7_corner 2 = .ok (.putfield 72, 3) := by decide +kernel
theorem dX7_corner_5 : decode cX7_corner 5 = .ok (.aload_n 0, 1) := by decide +kernel
theorem dX7_corner_6 : decode cX7_corner 6 = .ok (.iload_n 1, 1) := by decide +kernel
theorem dX7_corner_7 : decode cX7_corner 7 = .ok (.ifCond .lt 11, 3) := by decide +kernel
theorem dX7_corner_10 : decode cX7_corner 10 = .ok (.iload_n 1, 1) := by decide +kernel
theorem dX7_corner_11 : decode cX7_corner 11 = .ok (.aload_n 0, 1) := by decide +kernel
theorem dX7_corner_12 : decode cX7_corner 12 = .ok (.getfield 153, 3) := by decide +kernel
theorem dX7_corner_15 : decode cX7_corner 15 = .ok (.if_icmp .lt 7, 3) := by decide +kernel
theorem dX7_corner_18 : decode cX7_corner 18 = .ok (.iconst 1, 1) := by decide +kernel
theorem dX7_corner_19 : decode cX7_corner 19 = .ok (.goto 4, 3) := by decide +kernel
theorem dX7_corner_22 : decode cX7_corner 22 = .ok (.iconst 0, 1) := by decide +kernel
theorem dX7_corner_23 : decode cX7_corner 23 = .ok (.iconst 1, 1) := by decide +kernel
theorem dX7_corner_24 : decode cX7_corner 24 = .ok (.invokevirtual 82, 3) := by decide +kernel
theorem dX7_corner_27 : decode cX7_corner 27 = .ok (.ifCond .ne 48, 3) := by decide +kernel
theorem dX7_corner_30 : decode cX7_corner 30 = .ok (.aload_n 0, 1) := by decide +kernel
theorem dX7_corner_31 : decode cX7_corner 31 = .ok (.iload_n 2, 1) := by decide +kernel
theorem dX7_corner_32 : decode cX7_corner 32 = .ok (.iload_n 3, 1) := by decide +kernel
theorem dX7_corner_33 : decode cX7_corner 33 = .ok (.invokestatic 96, 3) := by decide +kernel
theorem dX7_corner_36 : decode cX7_corner 36 = .ok (.ifCond .ne 7, 3) := by decide +kernel
theorem dX7_corner_39 : decode cX7_corner 39 = .ok (.iconst 1, 1) := by decide +kernel
theorem dX7_corner_40 : decode cX7_corner 40 = .ok (.goto 4, 3) := by decide +kernel
theorem dX7_corner_43 : decode cX7_corner 43 = .ok (.iconst 0, 1) := by decide +kernel
theorem dX7_corner_44 : decode cX7_corner 44 = .ok (.iconst 2, 1) := by decide +kernel
theorem dX7_corner_45 : decode cX7_corner 45 = .ok (.invokevirtual 82, 3) := by decide +kernel
theorem dX7_corner_48 : decode cX7_corner 48 = .ok (.ifCond .ne 27, 3) := by decide +kernel
theorem dX7_corner_51 : decode cX7_corner 51 = .ok (.aload_n 0, 1) := by decide +kernel
theorem dX7_corner_52 : decode cX7_corner 52 = .ok (.aload_n 0, 1) := by decide +kernel
theorem dX7_corner_53 : decode cX7_corner 53 = .ok (.getfield 41, 3) := by decide +kernel
theorem dX7_corner_56 : decode cX7_corner 56 = .ok (.iload_n 1, 1) := by decide +kernel
theorem dX7_corner_57 : decode cX7_corner 57 = .ok (.iaload, 1) := by decide +kernel
theorem dX7_corner_58 : decode cX7_corner 58 = .ok (.bipush 8, 2) := by decide +kernel
theorem dX7_corner_60 : decode cX7_corner 60 = .ok (.if_icmp .ne 7, 3) := by decide +kernel
theorem dX7_corner_63 : decode cX7_corner 63 = .ok (.iconst 1, 1) := by decide +kernel
theorem dX7_corner_64 : decode cX7_corner 64 = .ok (.goto 4, 3) := by decide +kernel
theorem dX7_corner_67 : decode cX7_corner 67 = .ok (.iconst 0, 1) := by decide +kernel
theorem dX7_corner_68 : decode cX7_corner 68 = .ok (.iconst 3, 1) := by decide +kernel
theorem dX7_corner_69 : decode cX7_corner 69 = .ok (.invokevirtual 82, 3) := by decide +kernel
theorem dX7_corner_72 : decode cX7_corner 72 = .ok (.ifCond .eq 5, 3) := by decide +kernel
theorem dX7_corner_75 : decode cX7_corner 75 = .ok (.iconst 0, 1) := by decide +kernel
theorem dX7_corner_76 : decode cX7_corner 76 = .ok (.ireturn, 1) := by decide +kernel
theorem dX7_corner_77 : decode cX7_corner 77 = .ok (.aload_n 0, 1) := by decide +kernel
theorem dX7_corner_78 : decode cX7_corner 78 = .ok (.getfield 44, 3) := by decide +kernel
theorem dX7_corner_81 : decode cX7_corner 81 = .ok (.bipush 8, 2) := by decide +kernel
theorem dX7_corner_83 : decode cX7_corner 83 = .ok (.iload_n 1, 1) := by decide +kernel
theorem dX7_corner_84 : decode cX7_corner 84 = .ok (.imul, 1) := by decide +kernel
theorem dX7_corner_85 : decode cX7_corner 85 = .ok (.aload_n 0, 1) := by decide +kernel
theorem dX7_corner_86 : decode cX7_corner 86 = .ok (.getfield 41, 3) := by decide +kernel
theorem dX7_corner_89 : decode cX7_corner 89 = .ok (.iload_n 1, 1) := by decide +kernel
theorem dX7_corner_90 : decode cX7_corner 90 = .ok (.iaload, 1) := by decide +kernel
theorem dX7_corner_91 : decode cX7_corner 91 = .ok (.iadd, 1) := by decide +kernel
theorem dX7_corner_92 : decode cX7_corner 92 = .ok (.iload_n 2, 1) := by decide +kernel
theorem dX7_corner_93 : decode cX7_corner 93 = .ok (.iastore, 1) := by decide +kernel
theorem dX7_corner_94 : decode cX7_corner 94 = .ok (.aload_n 0, 1) := by decide +kernel
theorem dX7_corner_95 : decode cX7_corner 95 = .ok (.getfield 47, 3) := by decide +kernel
theorem dX7_corner_98 : decode cX7_corner 98 = .ok (.bipush 8, 2) := by decide +kernel
theorem dX7_corner_100 : decode cX7_corner 100 = .ok (.iload_n 1, 1) := by decide +kernel
theorem dX7_corner_101 : decode cX7_corner 101 = .ok (.imul, 1) := by decide +kernel
theorem dX7_corner_102 : decode cX7_corner 102 = .ok (.aload_n 0, 1) := by decide +kernel
theorem dX7_corner_103 : decode cX7_corner 103 = .ok (.getfield 41, 3) := by decide +kernel
theorem dX7_corner_106 : decode cX7_corner 106 = .ok (.iload_n 1, 1) := by decide +kernel
theorem dX7_corner_107 : decode cX7_corner 107 = .ok (.iaload, 1) := by decide +kernel
theorem dX7_corner_108 : decode cX7_corner 108 = .ok (.iadd, 1) := by decide +kernel
theorem dX7_corner_109 : decode cX7_corner 109 = .ok (.iload_n 3, 1) := by decide +kernel
theorem dX7_corner_110 : decode cX7_corner 110 = .ok (.iastore, 1) := by decide +kernel
theorem dX7_corner_111 : decode cX7_corner 111 = .ok (.aload_n 0, 1) := by decide +kernel
theorem dX7_corner_112 : decode cX7_corner 112 = .ok (.getfield 41, 3) := by decide +kernel
theorem dX7_corner_115 : decode cX7_corner 115 = .ok (.iload_n 1, 1) := by decide +kernel
theorem dX7_corner_116 : decode cX7_corner 116 = .ok (.dup2, 1) := by decide +kernel
theorem dX7_corner_117 : decode cX7_corner 117 = .ok (.iaload, 1) := by decide +kernel
theorem dX7_corner_118 : decode cX7_corner 118 = .ok (.iconst 1, 1) := by decide +kernel
theorem dX7_corner_119 : decode cX7_corner 119 = .ok (.iadd, 1) := by decide +kernel
theorem dX7_corner_120 : decode cX7_corner 120 = .ok (.iastore, 1) := by decide +kernel
theorem dX7_corner_121 : decode cX7_corner 121 = .ok (.aload_n 0, 1) := by decide +kernel
theorem dX7_corner_122 : decode cX7_corner 122 = .ok (.getfield 41, 3) := by decide +kernel
theorem dX7_corner_125 : decode cX7_corner 125 = .ok (.iload_n 1, 1) := by decide +kernel
theorem dX7_corner_126 : decode cX7_corner 126 = .ok (.iaload, 1) := by decide +kernel
theorem dX7_corner_127 : decode cX7_corner 127 = .ok (.ireturn, 1) := by decide +kernel
theorem dX7_isIn_0 : decode cX7_isIn 0 = .ok (.aload_n 0, 1) := by decide +kernel
theorem dX7_isIn_1 : decode cX7_isIn 1 = .ok (.getfield 41, 3) := by decide +kernel
theorem dX7_isIn_4 : decode cX7_isIn 4 = .ok (.iload_n 2, 1) := by decide +kernel
theorem dX7_isIn_5 : decode cX7_isIn 5 = .ok (.iaload, 1) := by decide +kernel
theorem dX7_isIn_6 : decode cX7_isIn 6 = .ok (.istore_n 3, 1) := by decide +kernel
theorem dX7_isIn_7 : decode cX7_isIn 7 = .ok (.aload_n 0, 1) := by decide +kernel
theorem dX7_isIn_8 : decode cX7_isIn 8 = .ok (.getfield 19, 3) := by decide +kernel
theorem dX7_isIn_11 : decode cX7_isIn 11 = .ok (.iload_n 1, 1) := by decide +kernel
theorem dX7_isIn_12 : decode cX7_isIn 12 = .ok (.iaload, 1) := by decide +kernel
theorem dX7_isIn_13 : decode cX7_isIn 13 = .ok (.i2l, 1) := by decide +kernel
theorem dX7_isIn_14 : decode cX7_isIn 14 = .ok (.lstore 4, 2) := by decide +kernel
theorem dX7_isIn_16 : decode cX7_isIn 16 = .ok (.aload_n 0, 1) := by decide +kernel
theorem dX7_isIn_17 : decode cX7_isIn 17 = .ok (.getfield 22, 3) := by decide +kernel
theorem dX7_isIn_20 : decode cX7_isIn 20 = .ok (.iload_n 1, 1) := by decide +kernel
theorem dX7_isIn_21 : decode cX7_isIn 21 = .ok (.iaload, 1) := by decide +kernel
theorem dX7_isIn_22 : decode cX7_isIn 22 = .ok (.i2l, 1) := by decide +kernel
theorem dX7_isIn_23 : decode cX7_isIn 23 = .ok (.lstore 6, 2) := by decide +kernel
theorem dX7_isIn_25 : decode cX7_isIn 25 = .ok (.iconst 0, 1) := by decide +kernel
theorem dX7_isIn_26 : decode cX7_isIn 26 = .ok (.istore 8, 2) := by decide +kernel
theorem dX7_isIn_28 : decode cX7_isIn 28 = .ok (.iconst 0, 1) := by decide +kernel
theorem dX7_isIn_29 : decode cX7_isIn 29 = .ok (.istore 9, 2) := by decide +kernel
theorem dX7_isIn_31 : decode cX7_isIn 31 = .ok (.iconst 0, 1) := by decide +kernel
theorem dX7_isIn_32 : decode cX7_isIn 32 = .ok (.istore 10, 2) := by decide +kernel
theorem dX7_isIn_34 : decode cX7_isIn 34 = .ok (.iload 10, 2) := by decide +kernel
theorem dX7_isIn_36 : decode cX7_isIn 36 = .ok (.iload_n 3, 1) := by decide +kernel
theorem dX7_isIn_37 : decode cX7_isIn 37 = .ok (.if_icmp .ge 209, 3) := by decide +kernel
theorem dX7_isIn_40 : decode cX7_isIn 40 = .ok (.bipush 8, 2) := by decide +kernel
theorem dX7_isIn_42 : decode cX7_isIn 42 = .ok (.iload_n 2, 1) := by decide +kernel
theorem dX7_isIn_43 : decode cX7_isIn 43 = .ok (.imul, 1) := by decide +kernel
theorem dX7_isIn_44 : decode cX7_isIn 44 = .ok (.iload 10, 2) := by decide +kernel
theorem dX7_isIn_46 : decode cX7_isIn 46 = .ok (.iadd, 1) := by decide +kernel
theorem dX7_isIn_47 : decode cX7_isIn 47 = .ok (.istore 11, 2) := by decide +kernel
theorem dX7_isIn_49 : decode cX7_isIn 49 = .ok (.bipush 8, 2) := by decide +kernel
theorem dX7_isIn_51 : decode cX7_isIn 51 = .ok (.iload_n 2, 1) := by decide +kernel
theorem dX7_isIn_52 : decode cX7_isIn 52 = .ok (.imul, 1) := by decide +kernel
theorem dX7_isIn_53 : decode cX7_isIn 53 = .ok (.iload 10, 2) := by decide +kernel
theorem dX7_isIn_55 : decode cX7_isIn 55 = .ok (.iconst 1, 1) := by decide +kernel
theorem dX7_isIn_56 : decode cX7_isIn 56 = .ok (.iadd, 1) := by decide +kernel
theorem dX7_isIn_57 : decode cX7_isIn 57 = .ok (.iload_n 3, 1) := by decide +kernel
theorem dX7_isIn_58 : decode cX7_isIn 58 = .ok (.irem, 1) := by decide +kernel
theorem dX7_isIn_59 : decode cX7_isIn 59 = .ok (.iadd, 1) := by decide +kernel
theorem dX7_isIn_60 : decode cX7_isIn 60 = .ok (.istore 12, 2) := by decide +kernel
theorem dX7_isIn_62 : decode cX7_isIn 62 = .ok (.aload_n 0, 1) := by decide +kernel
theorem dX7_isIn_63 : decode cX7_isIn 63 = .ok (.getfield 44, 3) := by decide +kernel
theorem dX7_isIn_66 : decode cX7_isIn 66 = .ok (.iload 11, 2) := by decide +kernel
theorem dX7_isIn_68 : decode cX7_isIn 68 = .ok (.iaload, 1) := by decide +kernel
theorem dX7_isIn_69 : decode cX7_isIn 69 = .ok (.i2l, 1) := by decide +kernel
theorem dX7_isIn_70 : decode cX7_isIn 70 = .ok (.lload 4, 2) := by decide +kernel
theorem dX7_isIn_72 : decode cX7_isIn 72 = .ok (.lsub, 1) := by decide +kernel
theorem dX7_isIn_73 : decode cX7_isIn 73 = .ok (.lstore 13, 2) := by decide +kernel
theorem dX7_isIn_75 : decode cX7_isIn 75 = .ok (.aload_n 0, 1) := by decide +kernel
theorem dX7_isIn_76 : decode cX7_isIn 76 = .ok (.getfield 47, 3) := by decide +kernel
theorem dX7_isIn_79 : decode cX7_isIn 79 = .ok (.iload 11, 2) := by decide +kernel
theorem dX7_isIn_81 : decode cX7_isIn 81 = .ok (.iaload, 1) := by decide +kernel
theorem dX7_isIn_82 : decode cX7_isIn 82 = .ok (.i2l, 1) := by decide +kernel
theorem dX7_isIn_83 : decode cX7_isIn 83 = .ok (.lload 6, 2) := by decide +kernel
theorem dX7_isIn_85 : decode cX7_isIn 85 = .ok (.lsub, 1) := by decide +kernel
theorem dX7_isIn_86 : decode cX7_isIn 86 = .ok (.lstore 15, 2) := by decide +kernel
theorem dX7_isIn_88 : decode cX7_isIn 88 = .ok (.aload_n 0, 1) := by decide +kernel
theorem dX7_isIn_89 : decode cX7_isIn 89 = .ok (.getfield 44, 3) := by decide +kernel
theorem dX7_isIn_92 : decode cX7_isIn 92 = .ok (.iload 12, 2) := by decide +kernel
theorem dX7_isIn_94 : decode cX7_isIn 94 = .ok (.iaload, 1) := by decide +kernel
theorem dX7_isIn_95 : decode cX7_isIn 95 = .ok (.i2l, 1) := by decide +kernel
theorem dX7_isIn_96 : decode cX7_isIn 96 = .ok (.lload 4, 2) := by decide +kernel
theorem dX7_isIn_98 : decode cX7_isIn 98 = .ok (.lsub, 1) := by decide +kernel
theorem dX7_isIn_99 : decode cX7_isIn 99 = .ok (.lstore 17, 2) := by decide +kernel
theorem dX7_isIn_101 : decode cX7_isIn 101 = .ok (.aload_n 0, 1) := by decide +kernel
theorem dX7_isIn_102 : decode cX7_isIn 102 = .ok (.getfield 47, 3) := by decide +kernel
theorem dX7_isIn_105 : decode cX7_isIn 105 = .ok (.iload 12, 2) := by decide +kernel
theorem dX7_isIn_107 : decode cX7_isIn 107 = .ok (.iaload, 1) := by decide +kernel
theorem dX7_isIn_108 : decode cX7_isIn 108 = .ok (.i2l, 1) := by decide +kernel
theorem dX7_isIn_109 : decode cX7_isIn 109 = .ok (.lload 6, 2) := by decide +kernel
theorem dX7_isIn_111 : decode cX7_isIn 111 = .ok (.lsub, 1) := by decide +kernel
theorem dX7_isIn_112 : decode cX7_isIn 112 = .ok (.lstore 19, 2) := by decide +kernel
theorem dX7_isIn_114 : decode cX7_isIn 114 = .ok (.lload 13, 2) := by decide +kernel
theorem dX7_isIn_116 : decode cX7_isIn 116 = .ok (.lload 19, 2) := by decide +kernel
theorem dX7_isIn_118 : decode cX7_isIn 118 = .ok (.lmul, 1) := by decide +kernel
theorem dX7_isIn_119 : decode cX7_isIn 119 = .ok (.lload 17, 2) := by decide +kernel
theorem dX7_isIn_121 : decode cX7_isIn 121 = .ok (.lload 15, 2) := by decide +kernel
theorem dX7_isIn_123 : decode cX7_isIn 123 = .ok (.lmul, 1) := by decide +kernel
theorem dX7_isIn_124 : decode cX7_isIn 124 = .ok (.lsub, 1) := by decide +kernel
theorem dX7_isIn_125 : decode cX7_isIn 125 = .ok (.lstore 21, 2) := by decide +kernel
theorem dX7_isIn_127 : decode cX7_isIn 127 = .ok (.iload 9, 2) := by decide +kernel
theorem dX7_isIn_129 : decode cX7_isIn 129 = .ok (.ifCond .ne 30, 3) := by decide +kernel
theorem dX7_isIn_132 : decode cX7_isIn 132 = .ok (.lload 21, 2) := by decide +kernel
theorem dX7_isIn_134 : decode cX7_isIn 134 = .ok (.lconst 0, 1) := by decide +kernel
theorem dX7_isIn_135 : decode cX7_isIn 135 = .ok (.lcmp, 1) := by decide +kernel
theorem dX7_isIn_136 : decode cX7_isIn 136 = .ok (.ifCond .ne 27, 3) := by decide +kernel
theorem dX7_isIn_139 : decode cX7_isIn 139 = .ok (.lload 13, 2) := by decide +kernel
theorem dX7_isIn_141 : decode cX7_isIn 141 = .ok (.lload 17, 2) := by decide +kernel
theorem dX7_isIn_143 : decode cX7_isIn 143 = .ok (.lmul, 1) := by decide +kernel
theorem dX7_isIn_144 : decode cX7_isIn 144 = .ok (.lconst 0, 1) := by decide +kernel
theorem dX7_isIn_145 : decode cX7_isIn 145 = .ok (.lcmp, 1) := by decide +kernel
theorem dX7_isIn_146 : decode cX7_isIn 146 = .ok (.ifCond .gt 17, 3) := by decide +kernel
theorem dX7_isIn_149 : decode cX7_isIn 149 = .ok (.lload 15, 2) := by decide +kernel
theorem dX7_isIn_151 : decode cX7_isIn 151 = .ok (.lload 19, 2) := by decide +kernel
theorem dX7_isIn_153 : decode cX7_isIn 153 = .ok (.lmul, 1) := by decide +kernel
theorem dX7_isIn_154 : decode cX7_isIn 154 = .ok (.lconst 0, 1) := by decide +kernel
theorem dX7_isIn_155 : decode cX7_isIn 155 = .ok (.lcmp, 1) := by decide +kernel
theorem dX7_isIn_156 : decode cX7_isIn 156 = .ok (.ifCond .gt 7, 3) := by decide +kernel
theorem dX7_isIn_159 : decode cX7_isIn 159 = .ok (.iconst 1, 1) := by decide +kernel
theorem dX7_isIn_160 : decode cX7_isIn 160 = .ok (.goto 4, 3) := by decide +kernel
theorem dX7_isIn_163 : decode cX7_isIn 163 = .ok (.iconst 0, 1) := by decide +kernel
theorem dX7_isIn_164 : decode cX7_isIn 164 = .ok (.istore 9, 2) := by decide +kernel
theorem dX7_isIn_166 : decode cX7_isIn 166 = .ok (.lload 15, 2) := by decide +kernel
theorem dX7_isIn_168 : decode cX7_isIn 168 = .ok (.lconst 0, 1) := by decide +kernel
theorem dX7_isIn_169 : decode cX7_isIn 169 = .ok (.lcmp, 1) := by decide +kernel
theorem dX7_isIn_170 : decode cX7_isIn 170 = .ok (.ifCond .le 7, 3) := by decide +kernel
theorem dX7_isIn_173 : decode cX7_isIn 173 = .ok (.iconst 1, 1) := by decide +kernel
theorem dX7_isIn_174 : decode cX7_isIn 174 = .ok (.goto 4, 3) := by decide +kernel
theorem dX7_isIn_177 : decode cX7_isIn 177 = .ok (.iconst 0, 1) := by decide +kernel
theorem dX7_isIn_178 : decode cX7_isIn 178 = .ok (.lload 19, 2) := by decide +kernel
theorem dX7_isIn_180 : decode cX7_isIn 180 = .ok (.lconst 0, 1) := by decide +kernel
theorem dX7_isIn_181 : decode cX7_isIn 181 = .ok (.lcmp, 1) := by decide +kernel
theorem dX7_isIn_182 : decode cX7_isIn 182 = .ok (.ifCond .le 7, 3) := by decide +kernel
theorem dX7_isIn_185 : decode cX7_isIn 185 = .ok (.iconst 1, 1) := by decide +kernel
theorem dX7_isIn_186 : decode cX7_isIn 186 = .ok (.goto 4, 3) := by decide +kernel
theorem dX7_isIn_189 : decode cX7_isIn 189 = .ok (.iconst 0, 1) := by decide +kernel
theorem dX7_isIn_190 : decode cX7_isIn 190 = .ok (.if_icmp .eq 50, 3) := by decide +kernel
theorem dX7_isIn_193 : decode cX7_isIn 193 = .ok (.iload 8, 2) := by decide +kernel
theorem dX7_isIn_195 : decode cX7_isIn 195 = .ok (.lload 19, 2) := by decide +kernel
theorem dX7_isIn_197 : decode cX7_isIn 197 = .ok (.lload 15, 2) := by decide +kernel
theorem dX7_isIn_199 : decode cX7_isIn 199 = .ok (.lcmp, 1) := by decide +kernel
theorem dX7_isIn_200 : decode cX7_isIn 200 = .ok (.ifCond .le 18, 3) := by decide +kernel
theorem dX7_isIn_203 : decode cX7_isIn 203 = .ok (.lload 21, 2) := by decide +kernel
theorem dX7_isIn_205 : decode cX7_isIn 205 = .ok (.lconst 0, 1) := by decide +kernel
theorem dX7_isIn_206 : decode cX7_isIn 206 = .ok (.lcmp, 1) := by decide +kernel
theorem dX7_isIn_207 : decode cX7_isIn 207 = .ok (.ifCond .le 7, 3) := by decide +kernel
theorem dX7_isIn_210 : decode cX7_isIn 210 = .ok (.iconst 1, 1) := by decide +kernel
theorem dX7_isIn_211 : decode cX7_isIn 211 = .ok (.goto 19, 3) := by decide +kernel
theorem dX7_isIn_214 : decode cX7_isIn 214 = .ok (.iconst 0, 1) := by decide +kernel
theorem dX7_isIn_215 : decode cX7_isIn 215 = .ok (.goto 15, 3) := by decide +kernel
theorem dX7_isIn_218 : decode cX7_isIn 218 = .ok (.lload 21, 2) := by decide +kernel
theorem dX7_isIn_220 : decode cX7_isIn 220 = .ok (.lconst 0, 1) := by decide +kernel
theorem dX7_isIn_221 : decode cX7_isIn 221 = .ok (.lcmp, 1) := by decide +kernel
theorem dX7_isIn_222 : decode cX7_isIn 222 = .ok (.ifCond .ge 7, 3) := by decide +kernel
theorem dX7_isIn_225 : decode cX7_isIn 225 = .ok (.iconst 1, 1) := by decide +kernel
theorem dX7_isIn_226 : decode cX7_isIn 226 = .ok (.goto 4, 3) := by decide +kernel
theorem dX7_isIn_229 : decode cX7_isIn 229 = .ok (.iconst 0, 1) := by decide +kernel
theorem dX7_isIn_230 : decode cX7_isIn 230 = .ok (.if_icmp .eq 7, 3) := by decide +kernel
theorem dX7_isIn_233 : decode cX7_isIn 233 = .ok (.iconst 1, 1) := by decide +kernel
theorem dX7_isIn_234 : decode cX7_isIn 234 = .ok (.goto 4, 3) := by decide +kernel
theorem dX7_isIn_237 : decode cX7_isIn 237 = .ok (.iconst 0, 1) := by decide +kernel
theorem dX7_isIn_238 : decode cX7_isIn 238 = .ok (.istore 8, 2) := by decide +kernel
theorem dX7_isIn_240 : decode cX7_isIn 240 = .ok (.iinc 10 1, 3) := by decide +kernel
theorem dX7_isIn_243 : decode cX7_isIn 243 = .ok (.goto (-209), 3) := by decide +kernel
theorem dX7_isIn_246 : decode cX7_isIn 246 = .ok (.iload_n 3, 1) := by decide +kernel
theorem dX7_isIn_247 : decode cX7_isIn 247 = .ok (.iconst 2, 1) := by decide +kernel
theorem dX7_isIn_248 : decode cX7_isIn 248 = .ok (.if_icmp .le 17, 3) := by decide +kernel
theorem dX7_isIn_251 : decode cX7_isIn 251 = .ok (.iload 9, 2) := by decide +kernel
theorem dX7_isIn_253 : decode cX7_isIn 253 = .ok (.ifCond .ne 8, 3) := by decide +kernel
theorem dX7_isIn_256 : decode cX7_isIn 256 = .ok (.iload 8, 2) := by decide +kernel
theorem dX7_isIn_258 : decode cX7_isIn 258 = .ok (.ifCond .eq 7, 3) := by decide +kernel
theorem dX7_isIn_261 : decode cX7_isIn 261 = .ok (.iconst 1, 1) := by decide +kernel
theorem dX7_isIn_262 : decode cX7_isIn 262 = .ok (.goto 4, 3) := by decide +kernel
theorem dX7_isIn_265 : decode cX7_isIn 265 = .ok (.iconst 0, 1) := by decide +kernel
theorem dX7_isIn_266 : decode cX7_isIn 266 = .ok (.ireturn, 1) := by decide +kernel
theorem dX7_in_0 : decode cX7_in 0 = .ok (.aload_n 0, 1) := by decide +kernel
theorem dX7_in_1 : decode cX7_in 1 = .ok (.iconst 0, 1) := by decide +kernel
theorem dX7_in_2 : decode cX7_in 2 = .ok (.putfield 72, 3) := by decide +kernel
theorem dX7_in_5 : decode cX7_in 5 = .ok (.aload_n 0, 1) := by decide +kernel
theorem dX7_in_6 : decode cX7_in 6 = .ok (.aload_n 0, 1) := by decide +kernel
theorem dX7_in_7 : decode cX7_in 7 = .ok (.iload_n 1, 1) := by decide +kernel
theorem dX7_in_8 : decode cX7_in 8 = .ok (.iload_n 2, 1) := by decide +kernel
theorem dX7_in_9 : decode cX7_in 9 = .ok (.invokevirtual 110, 3) := by decide +kernel
theorem dX7_in_12 : decode cX7_in 12 = .ok (.ifCond .eq 15, 3) := by decide +kernel
theorem dX7_in_15 : decode cX7_in 15 = .ok (.iload_n 3, 1) := by decide +kernel
theorem dX7_in_16 : decode cX7_in 16 = .ok (.ifCond .lt 11, 3) := by decide +kernel
theorem dX7_in_19 : decode cX7_in 19 = .ok (.iload_n 3, 1) := by decide +kernel
theorem dX7_in_20 : decode cX7_in 20 = .ok (.aload_n 0, 1) := by decide +kernel
theorem dX7_in_21 : decode cX7_in 21 = .ok (.getfield 153, 3) := by decide +kernel
theorem dX7_in_24 : decode cX7_in 24 = .ok (.if_icmp .lt 7, 3) := by decide +kernel
theorem dX7_in_27 : decode cX7_in 27 = .ok (.iconst 1, 1) := by decide +kernel
theorem dX7_in_28 : decode cX7_in 28 = .ok (.goto 4, 3) := by decide +kernel
theorem dX7_in_31 : decode cX7_in 31 = .ok (.iconst 0, 1) := by decide +kernel
theorem dX7_in_32 : decode cX7_in 32 = .ok (.iconst 1, 1) := by decide +kernel
theorem dX7_in_33 : decode cX7_in 33 = .ok (.invokevirtual 82, 3) := by decide +kernel
theorem dX7_in_36 : decode cX7_in 36 = .ok (.ifCond .eq 5, 3) := by decide +kernel
theorem dX7_in_39 : decode cX7_in 39 = .ok (.iconst 0, 1) := by decide +kernel
theorem dX7_in_40 : decode cX7_in 40 = .ok (.ireturn, 1) := by decide +kernel
theorem dX7_in_41 : decode cX7_in 41 = .ok (.aload_n 0, 1) := by decide +kernel
theorem dX7_in_42 : decode cX7_in 42 = .ok (.bipush 60, 2) := by decide +kernel
theorem dX7_in_44 : decode cX7_in 44 = .ok (.iload_n 1, 1) := by decide +kernel
theorem dX7_in_45 : decode cX7_in 45 = .ok (.imul, 1) := by decide +kernel
theorem dX7_in_46 : decode cX7_in 46 = .ok (.iload_n 2, 1) := by decide +kernel
theorem dX7_in_47 : decode cX7_in 47 = .ok (.iadd, 1) := by decide +kernel
theorem dX7_in_48 : decode cX7_in 48 = .ok (.iload_n 3, 1) := by decide +kernel
theorem dX7_in_49 : decode cX7_in 49 = .ok (.invokevirtual 156, 3) := by decide +kernel
theorem dX7_in_52 : decode cX7_in 52 = .ok (.ireturn, 1) := by decide +kernel
theorem dX7_port_0 : decode cX7_port 0 = .ok (.aload_n 0, 1) := by decide +kernel
theorem dX7_port_1 : decode cX7_port 1 = .ok (.iconst 0, 1) := by decide +kernel
theorem dX7_port_2 : decode cX7_port 2 = .ok (.putfield 72, 3) := by decide +kernel
theorem dX7_port_5 : decode cX7_port 5 = .ok (.aload_n 0, 1) := by decide +kernel
theorem dX7_port_6 : decode cX7_port 6 = .ok (.aload_n 0, 1) := by decide +kernel
theorem dX7_port_7 : decode cX7_port 7 = .ok (.iload_n 1, 1) := by decide +kernel
theorem dX7_port_8 : decode cX7_port 8 = .ok (.iload_n 2, 1) := by decide +kernel
theorem dX7_port_9 : decode cX7_port 9 = .ok (.invokevirtual 110, 3) := by decide +kernel
theorem dX7_port_12 : decode cX7_port 12 = .ok (.ifCond .ne 7, 3) := by decide +kernel
theorem dX7_port_15 : decode cX7_port 15 = .ok (.iconst 1, 1) := by decide +kernel
theorem dX7_port_16 : decode cX7_port 16 = .ok (.goto 4, 3) := by decide +kernel
theorem dX7_port_19 : decode cX7_port 19 = .ok (.iconst 0, 1) := by decide +kernel
theorem dX7_port_20 : decode cX7_port 20 = .ok (.iconst 1, 1) := by decide +kernel
theorem dX7_port_21 : decode cX7_port 21 = .ok (.invokevirtual 82, 3) := by decide +kernel
theorem dX7_port_24 : decode cX7_port 24 = .ok (.ifCond .eq 5, 3) := by decide +kernel
theorem dX7_port_27 : decode cX7_port 27 = .ok (.iconst 0, 1) := by decide +kernel
theorem dX7_port_28 : decode cX7_port 28 = .ok (.ireturn, 1) := by decide +kernel
theorem dX7_port_29 : decode cX7_port 29 = .ok (.iconst 0, 1) := by decide +kernel
theorem dX7_port_30 : decode cX7_port 30 = .ok (.istore_n 3, 1) := by decide +kernel
theorem dX7_port_31 : decode cX7_port 31 = .ok (.iload_n 3, 1) := by decide +kernel
theorem dX7_port_32 : decode cX7_port 32 = .ok (.aload_n 0, 1) := by decide +kernel
theorem dX7_port_33 : decode cX7_port 33 = .ok (.getfield 153, 3) := by decide +kernel
theorem dX7_port_36 : decode cX7_port 36 = .ok (.if_icmp .ge 25, 3) := by decide +kernel
theorem dX7_port_39 : decode cX7_port 39 = .ok (.aload_n 0, 1) := by decide +kernel
theorem dX7_port_40 : decode cX7_port 40 = .ok (.bipush 60, 2) := by decide +kernel
theorem dX7_port_42 : decode cX7_port 42 = .ok (.iload_n 1, 1) := by decide +kernel
theorem dX7_port_43 : decode cX7_port 43 = .ok (.imul, 1) := by decide +kernel
theorem dX7_port_44 : decode cX7_port 44 = .ok (.iload_n 2, 1) := by decide +kernel
theorem dX7_port_45 : decode cX7_port 45 = .ok (.iadd, 1) := by decide +kernel
theorem dX7_port_46 : decode cX7_port 46 = .ok (.iload_n 3, 1) := by decide +kernel
theorem dX7_port_47 : decode cX7_port 47 = .ok (.invokevirtual 156, 3) := by decide +kernel
theorem dX7_port_50 : decode cX7_port 50 = .ok (.ifCond .eq 5, 3) := by decide +kernel
theorem dX7_port_53 : decode cX7_port 53 = .ok (.iload_n 3, 1) := by decide +kernel
theorem dX7_port_54 : decode cX7_port 54 = .ok (.ireturn, 1) := by decide +kernel
theorem dX7_port_55 : decode cX7_port 55 = .ok (.iinc 3 1, 3) := by decide +kernel
theorem dX7_port_58 : decode cX7_port 58 = .ok (.goto (-27), 3) := by decide +kernel
theorem dX7_port_61 : decode cX7_port 61 = .ok (.iconst (-1), 1) := by decide +kernel
theorem dX7_port_62 : decode cX7_port 62 = .ok (.ireturn, 1) := by decide +kernel
theorem dX7_put_0 : decode cX7_put 0 = .ok (.iload_n 1, 1) := by decide +kernel
theorem dX7_put_1 : decode cX7_put 1 = .ok (.ifCond .ge 12, 3) := by decide +kernel
theorem dX7_put_4 : decode cX7_put 4 = .ok (.bipush (-2), 2) := by decide +kernel
theorem dX7_put_6 : decode cX7_put 6 = .ok (.iload_n 1, 1) := by decide +kernel
theorem dX7_put_7 : decode cX7_put 7 = .ok (.imul, 1) := by decide +kernel
theorem dX7_put_8 : decode cX7_put 8 = .ok (.iconst 1, 1) := by decide +kernel
theorem dX7_put_9 : decode cX7_put 9 = .ok (.isub, 1) := by decide +kernel
theorem dX7_put_10 : decode cX7_put 10 = .ok (.goto 6, 3) := by decide +kernel
theorem dX7_put_13 : decode cX7_put 13 = .ok (.iconst 2, 1) := by decide +kernel
theorem dX7_put_14 : decode cX7_put 14 = .ok (.iload_n 1, 1) := by decide +kernel
theorem dX7_put_15 : decode cX7_put 15 = .ok (.imul, 1) := by decide +kernel
theorem dX7_put_16 : decode cX7_put 16 = .ok (.istore_n 2, 1) := by decide +kernel
theorem dX7_put_17 : decode cX7_put 17 = .ok (.iload_n 2, 1) := by decide +kernel
theorem dX7_put_18 : decode cX7_put 18 = .ok (.bipush 127, 2) := by decide +kernel
theorem dX7_put_20 : decode cX7_put 20 = .ok (.if_icmp .le 40, 3) := by decide +kernel
theorem dX7_put_23 : decode cX7_put 23 = .ok (.aload_n 0, 1) := by decide +kernel
theorem dX7_put_24 : decode cX7_put 24 = .ok (.getfield 50, 3) := by decide +kernel
theorem dX7_put_27 : decode cX7_put 27 = .ok (.aload_n 0, 1) := by decide +kernel
theorem dX7_put_28 : decode cX7_put 28 = .ok (.getfield 159, 3) := by decide +kernel
theorem dX7_put_31 : decode cX7_put 31 = .ok (.iload_n 2, 1) := by decide +kernel
theorem dX7_put_32 : decode cX7_put 32 = .ok (.sipush 128, 3) := by decide +kernel
theorem dX7_put_35 : decode cX7_put 35 = .ok (.irem, 1) := by decide +kernel
theorem dX7_put_36 : decode cX7_put 36 = .ok (.sipush 128, 3) := by decide +kernel
theorem dX7_put_39 : decode cX7_put 39 = .ok (.iadd, 1) := by decide +kernel
theorem dX7_put_40 : decode cX7_put 40 = .ok (.iastore, 1) := by decide +kernel
theorem dX7_put_41 : decode cX7_put 41 = .ok (.aload_n 0, 1) := by decide +kernel
theorem dX7_put_42 : decode cX7_put 42 = .ok (.dup, 1) := by decide +kernel
theorem dX7_put_43 : decode cX7_put 43 = .ok (.getfield 159, 3) := by decide +kernel
theorem dX7_put_46 : decode cX7_put 46 = .ok (.iconst 1, 1) := by decide +kernel
theorem dX7_put_47 : decode cX7_put 47 = .ok (.iadd, 1) := by decide +kernel
theorem dX7_put_48 : decode cX7_put 48 = .ok (.putfield 159, 3) := by decide +kernel
theorem dX7_put_51 : decode cX7_put 51 = .ok (.iload_n 2, 1) := by decide +kernel
theorem dX7_put_52 : decode cX7_put 52 = .ok (.sipush 128, 3) := by decide +kernel
theorem dX7_put_55 : decode cX7_put 55 = .ok (.idiv, 1) := by decide +kernel
theorem dX7_put_56 : decode cX7_put 56 = .ok (.istore_n 2, 1) := by decide +kernel
theorem dX7_put_57 : decode cX7_put 57 = .ok (.goto (-40), 3) := by decide +kernel
theorem dX7_put_60 : decode cX7_put 60 = .ok (.aload_n 0, 1) := by decide +kernel
theorem dX7_put_61 : decode cX7_put 61 = .ok (.getfield 50, 3) := by decide +kernel
theorem dX7_put_64 : decode cX7_put 64 = .ok (.aload_n 0, 1) := by decide +kernel
theorem dX7_put_65 : decode cX7_put 65 = .ok (.getfield 159, 3) := by decide +kernel
theorem dX7_put_68 : decode cX7_put 68 = .ok (.iload_n 2, 1) := by decide +kernel
theorem dX7_put_69 : decode cX7_put 69 = .ok (.iastore, 1) := by decide +kernel
theorem dX7_put_70 : decode cX7_put 70 = .ok (.aload_n 0, 1) := by decide +kernel
theorem dX7_put_71 : decode cX7_put 71 = .ok (.dup, 1) := by decide +kernel
theorem dX7_put_72 : decode cX7_put 72 = .ok (.getfield 159, 3) := by decide +kernel
theorem dX7_put_75 : decode cX7_put 75 = .ok (.iconst 1, 1) := by decide +kernel
theorem dX7_put_76 : decode cX7_put 76 = .ok (.iadd, 1) := by decide +kernel
theorem dX7_put_77 : decode cX7_put 77 = .ok (.putfield 159, 3) := by decide +kernel
theorem dX7_put_80 : decode cX7_put 80 = .ok (.return_, 1) := by decide +kernel
theorem dX7_pack_0 : decode cX7_pack 0 = .ok (.aload_n 0, 1) := by decide +kernel
theorem dX7_pack_1 : decode cX7_pack 1 = .ok (.iconst 0, 1) := by decide +kernel
theorem dX7_pack_2 : decode cX7_pack 2 = .ok (.putfield 72, 3) := by decide +kernel
theorem dX7_pack_5 : decode cX7_pack 5 = .ok (.aload_n 0, 1) := by decide +kernel
theorem dX7_pack_6 : decode cX7_pack 6 = .ok (.aload_n 0, 1) := by decide +kernel
theorem dX7_pack_7 : decode cX7_pack 7 = .ok (.iload_n 1, 1) := by decide +kernel
theorem dX7_pack_8 : decode cX7_pack 8 = .ok (.invokevirtual 78, 3) := by decide +kernel
theorem dX7_pack_11 : decode cX7_pack 11 = .ok (.ifCond .ne 7, 3) := by decide +kernel
theorem dX7_pack_14 : decode cX7_pack 14 = .ok (.iconst 1, 1) := by decide +kernel
theorem dX7_pack_15 : decode cX7_pack 15 = .ok (.goto 4, 3) := by decide +kernel
theorem dX7_pack_18 : decode cX7_pack 18 = .ok (.iconst 0, 1) := by decide +kernel
theorem dX7_pack_19 : decode cX7_pack 19 = .ok (.iconst 1, 1) := by decide +kernel
theorem dX7_pack_20 : decode cX7_pack 20 = .ok (.invokevirtual 82, 3) := by decide +kernel
theorem dX7_pack_23 : decode cX7_pack 23 = .ok (.ifCond .eq 5, 3) := by decide +kernel
theorem dX7_pack_26 : decode cX7_pack 26 = .ok (.iconst 0, 1) := by decide +kernel
theorem dX7_pack_27 : decode cX7_pack 27 = .ok (.ireturn, 1) := by decide +kernel
theorem dX7_pack_28 : decode cX7_pack 28 = .ok (.aload_n 0, 1) := by decide +kernel
theorem dX7_pack_29 : decode cX7_pack 29 = .ok (.iconst 0, 1) := by decide +kernel
theorem dX7_pack_30 : decode cX7_pack 30 = .ok (.putfield 159, 3) := by decide +kernel
theorem dX7_pack_33 : decode cX7_pack 33 = .ok (.iconst 0, 1) := by decide +kernel
theorem dX7_pack_34 : decode cX7_pack 34 = .ok (.istore_n 2, 1) := by decide +kernel
theorem dX7_pack_35 : decode cX7_pack 35 = .ok (.iload_n 2, 1) := by decide +kernel
theorem dX7_pack_36 : decode cX7_pack 36 = .ok (.aload_n 0, 1) := by decide +kernel
theorem dX7_pack_37 : decode cX7_pack 37 = .ok (.getfield 7, 3) := by decide +kernel
theorem dX7_pack_40 : decode cX7_pack 40 = .ok (.iload_n 1, 1) := by decide +kernel
theorem dX7_pack_41 : decode cX7_pack 41 = .ok (.iaload, 1) := by decide +kernel
theorem dX7_pack_42 : decode cX7_pack 42 = .ok (.if_icmp .ge 97, 3) := by decide +kernel
theorem dX7_pack_45 : decode cX7_pack 45 = .ok (.bipush 60, 2) := by decide +kernel
theorem dX7_pack_47 : decode cX7_pack 47 = .ok (.iload_n 1, 1) := by decide +kernel
theorem dX7_pack_48 : decode cX7_pack 48 = .ok (.imul, 1) := by decide +kernel
theorem dX7_pack_49 : decode cX7_pack 49 = .ok (.iload_n 2, 1) := by decide +kernel
theorem dX7_pack_50 : decode cX7_pack 50 = .ok (.iadd, 1) := by decide +kernel
theorem dX7_pack_51 : decode cX7_pack 51 = .ok (.istore_n 3, 1) := by decide +kernel
theorem dX7_pack_52 : decode cX7_pack 52 = .ok (.aload_n 0, 1) := by decide +kernel
theorem dX7_pack_53 : decode cX7_pack 53 = .ok (.aload_n 0, 1) := by decide +kernel
theorem dX7_pack_54 : decode cX7_pack 54 = .ok (.getfield 16, 3) := by decide +kernel
theorem dX7_pack_57 : decode cX7_pack 57 = .ok (.iload_n 3, 1) := by decide +kernel
theorem dX7_pack_58 : decode cX7_pack 58 = .ok (.iaload, 1) := by decide +kernel
theorem dX7_pack_59 : decode cX7_pack 59 = .ok (.iload_n 2, 1) := by decide +kernel
theorem dX7_pack_60 : decode cX7_pack 60 = .ok (.ifCond .le 14, 3) := by decide +kernel
theorem dX7_pack_63 : decode cX7_pack 63 = .ok (.aload_n 0, 1) := by decide +kernel
theorem dX7_pack_64 : decode cX7_pack 64 = .ok (.getfield 16, 3) := by decide +kernel
theorem dX7_pack_67 : decode cX7_pack 67 = .ok (.iload_n 3, 1) := by decide +kernel
theorem dX7_pack_68 : decode cX7_pack 68 = .ok (.iconst 1, 1) := by decide +kernel
theorem dX7_pack_69 : decode cX7_pack 69 = .ok (.isub, 1) := by decide +kernel
theorem dX7_pack_70 : decode cX7_pack 70 = .ok (.iaload, 1) := by decide +kernel
theorem dX7_pack_71 : decode cX7_pack 71 = .ok (.goto 4, 3) := by decide +kernel
theorem dX7_pack_74 : decode cX7_pack 74 = .ok (.iconst 0, 1) := by decide +kernel
theorem dX7_pack_75 : decode cX7_pack 75 = .ok (.isub, 1) := by decide +kernel
theorem dX7_pack_76 : decode cX7_pack 76 = .ok (.invokevirtual 162, 3) := by decide +kernel
theorem dX7_pack_79 : decode cX7_pack 79 = .ok (.aload_n 0, 1) := by decide +kernel
theorem dX7_pack_80 : decode cX7_pack 80 = .ok (.aload_n 0, 1) := by decide +kernel
theorem dX7_pack_81 : decode cX7_pack 81 = .ok (.getfield 19, 3) := by decide +kernel
theorem dX7_pack_84 : decode cX7_pack 84 = .ok (.iload_n 3, 1) := by decide +kernel
theorem dX7_pack_85 : decode cX7_pack 85 = .ok (.iaload, 1) := by decide +kernel
theorem dX7_pack_86 : decode cX7_pack 86 = .ok (.iload_n 2, 1) := by decide +kernel
theorem dX7_pack_87 : decode cX7_pack 87 = .ok (.ifCond .le 14, 3) := by decide +kernel
theorem dX7_pack_90 : decode cX7_pack 90 = .ok (.aload_n 0, 1) := by decide +kernel
theorem dX7_pack_91 : decode cX7_pack 91 = .ok (.getfield 19, 3) := by decide +kernel
theorem dX7_pack_94 : decode cX7_pack 94 = .ok (.iload_n 3, 1) := by decide +kernel
theorem dX7_pack_95 : decode cX7_pack 95 = .ok (.iconst 1, 1) := by decide +kernel
theorem dX7_pack_96 : decode cX7_pack 96 = .ok (.isub, 1) := by decide +kernel
theorem dX7_pack_97 : decode cX7_pack 97 = .ok (.iaload, 1) := by decide +kernel
theorem dX7_pack_98 : decode cX7_pack 98 = .ok (.goto 4, 3) := by decide +kernel
theorem dX7_pack_101 : decode cX7_pack 101 = .ok (.iconst 0, 1) := by decide +kernel
theorem dX7_pack_102 : decode cX7_pack 102 = .ok (.isub, 1) := by decide +kernel
theorem dX7_pack_103 : decode cX7_pack 103 = .ok (.invokevirtual 162, 3) := by decide +kernel
theorem dX7_pack_106 : decode cX7_pack 106 = .ok (.aload_n 0, 1) := by decide +kernel
theorem dX7_pack_107 : decode cX7_pack 107 = .ok (.aload_n 0, 1) := by decide +kernel
theorem dX7_pack_108 : decode cX7_pack 108 = .ok (.getfield 22, 3) := by decide +kernel
theorem dX7_pack_111 : decode cX7_pack 111 = .ok (.iload_n 3, 1) := by decide +kernel
theorem dX7_pack_112 : decode cX7_pack 112 = .ok (.iaload, 1) := by decide +kernel
theorem dX7_pack_113 : decode cX7_pack 113 = .ok (.iload_n 2, 1) := by decide +kernel
theorem dX7_pack_114 : decode cX7_pack 114 = .ok (.ifCond .le 14, 3) := by decide +kernel
theorem dX7_pack_117 : decode cX7_pack 117 = .ok (.aload_n 0, 1) := by decide +kernel
theorem dX7_pack_118 : decode cX7_pack 118 = .ok (.getfield 22, 3) := by decide +kernel
theorem dX7_pack_121 : decode cX7_pack 121 = .ok (.iload_n 3, 1) := by decide +kernel
theorem dX7_pack_122 : decode cX7_pack 122 = .ok (.iconst 1, 1) := by decide +kernel
theorem dX7_pack_123 : decode cX7_pack 123 = .ok (.isub, 1) := by decide +kernel
theorem dX7_pack_124 : decode cX7_pack 124 = .ok (.iaload, 1) := by decide +kernel
theorem dX7_pack_125 : decode cX7_pack 125 = .ok (.goto 4, 3) := by decide +kernel
theorem dX7_pack_128 : decode cX7_pack 128 = .ok (.iconst 0, 1) := by decide +kernel
theorem dX7_pack_129 : decode cX7_pack 129 = .ok (.isub, 1) := by decide +kernel
theorem dX7_pack_130 : decode cX7_pack 130 = .ok (.invokevirtual 162, 3) := by decide +kernel
theorem dX7_pack_133 : decode cX7_pack 133 = .ok (.iinc 2 1, 3) := by decide +kernel
theorem dX7_pack_136 : decode cX7_pack 136 = .ok (.goto (-101), 3) := by decide +kernel
theorem dX7_pack_139 : decode cX7_pack 139 = .ok (.aload_n 0, 1) := by decide +kernel
theorem dX7_pack_140 : decode cX7_pack 140 = .ok (.getfield 159, 3) := by decide +kernel
theorem dX7_pack_143 : decode cX7_pack 143 = .ok (.ireturn, 1) := by decide +kernel
theorem dX7_byteAt_0 : decode cX7_byteAt 0 = .ok (.aload_n 0, 1) := by decide +kernel
theorem dX7_byteAt_1 : decode cX7_byteAt 1 = .ok (.iconst 0, 1) := by decide +kernel
theorem dX7_byteAt_2 : decode cX7_byteAt 2 = .ok (.putfield 72, 3) := by decide +kernel
theorem dX7_byteAt_5 : decode cX7_byteAt 5 = .ok (.aload_n 0, 1) := by decide +kernel
theorem dX7_byteAt_6 : decode cX7_byteAt 6 = .ok (.iload_n 1, 1) := by decide +kernel
theorem dX7_byteAt_7 : decode cX7_byteAt 7 = .ok (.ifCond .lt 11, 3) := by decide +kernel
theorem dX7_byteAt_10 : decode cX7_byteAt 10 = .ok (.iload_n 1, 1) := by decide +kernel
theorem dX7_byteAt_11 : decode cX7_byteAt 11 = .ok (.aload_n 0, 1) := by decide +kernel
theorem dX7_byteAt_12 : decode cX7_byteAt 12 = .ok (.getfield 159, 3) := by decide +kernel
theorem dX7_byteAt_15 : decode cX7_byteAt 15 = .ok (.if_icmp .lt 7, 3) := by decide +kernel
theorem dX7_byteAt_18 : decode cX7_byteAt 18 = .ok (.iconst 1, 1) := by decide +kernel
theorem dX7_byteAt_19 : decode cX7_byteAt 19 = .ok (.goto 4, 3) := by decide +kernel
theorem dX7_byteAt_22 : decode cX7_byteAt 22 = .ok (.iconst 0, 1) := by decide +kernel
theorem dX7_byteAt_23 : decode cX7_byteAt 23 = .ok (.iconst 1, 1) := by decide +kernel
theorem dX7_byteAt_24 : decode cX7_byteAt 24 = .ok (.invokevirtual 82, 3) := by decide +kernel
theorem dX7_byteAt_27 : decode cX7_byteAt 27 = .ok (.ifCond .eq 7, 3) := by decide +kernel
theorem dX7_byteAt_30 : decode cX7_byteAt 30 = .ok (.iconst 0, 1) := by decide +kernel
theorem dX7_byteAt_31 : decode cX7_byteAt 31 = .ok (.goto 9, 3) := by decide +kernel
theorem dX7_byteAt_34 : decode cX7_byteAt 34 = .ok (.aload_n 0, 1) := by decide +kernel
theorem dX7_byteAt_35 : decode cX7_byteAt 35 = .ok (.getfield 50, 3) := by decide +kernel
theorem dX7_byteAt_38 : decode cX7_byteAt 38 = .ok (.iload_n 1, 1) := by decide +kernel
theorem dX7_byteAt_39 : decode cX7_byteAt 39 = .ok (.iaload, 1) := by decide +kernel
theorem dX7_byteAt_40 : decode cX7_byteAt 40 = .ok (.ireturn, 1) := by decide +kernel
theorem dX7_feed_0 : decode cX7_feed 0 = .ok (.aload_n 0, 1) := by decide +kernel
theorem dX7_feed_1 : decode cX7_feed 1 = .ok (.iconst 0, 1) := by decide +kernel
theorem dX7_feed_2 : decode cX7_feed 2 = .ok (.putfield 72, 3) := by decide +kernel
theorem dX7_feed_5 : decode cX7_feed 5 = .ok (.aload_n 0, 1) := by decide +kernel
theorem dX7_feed_6 : decode cX7_feed 6 = .ok (.iload_n 1, 1) := by decide +kernel
theorem dX7_feed_7 : decode cX7_feed 7 = .ok (.i2l, 1) := by decide +kernel
theorem dX7_feed_8 : decode cX7_feed 8 = .ok (.lconst 0, 1) := by decide +kernel
theorem dX7_feed_9 : decode cX7_feed 9 = .ok (.ldc2_w 166, 3) := by decide +kernel
theorem dX7_feed_12 : decode cX7_feed 12 = .ok (.invokestatic 90, 3) := by decide +kernel
theorem dX7_feed_15 : decode cX7_feed 15 = .ok (.ifCond .ne 7, 3) := by decide +kernel
theorem dX7_feed_18 : decode cX7_feed 18 = .ok (.iconst 1, 1) := by decide +kernel
theorem dX7_feed_19 : decode cX7_feed 19 = .ok (.goto 4, 3) := by decide +kernel
theorem dX7_feed_22 : decode cX7_feed 22 = .ok (.iconst 0, 1) := by decide +kernel
theorem dX7_feed_23 : decode cX7_feed 23 = .ok (.iconst 1, 1) := by decide +kernel
theorem dX7_feed_24 : decode cX7_feed 24 = .ok (.invokevirtual 82, 3) := by decide +kernel
theorem dX7_feed_27 : decode cX7_feed 27 = .ok (.ifCond .ne 26, 3) := by decide +kernel
theorem dX7_feed_30 : decode cX7_feed 30 = .ok (.aload_n 0, 1) := by decide +kernel
theorem dX7_feed_31 : decode cX7_feed 31 = .ok (.aload_n 0, 1) := by decide +kernel
theorem dX7_feed_32 : decode cX7_feed 32 = .ok (.getfield 168, 3) := by decide +kernel
theorem dX7_feed_35 : decode cX7_feed 35 = .ok (.sipush 600, 3) := by decide +kernel
theorem dX7_feed_38 : decode cX7_feed 38 = .ok (.if_icmp .ne 7, 3) := by decide +kernel
theorem dX7_feed_41 : decode cX7_feed 41 = .ok (.iconst 1, 1) := by decide +kernel
theorem dX7_feed_42 : decode cX7_feed 42 = .ok (.goto 4, 3) := by decide +kernel
theorem dX7_feed_45 : decode cX7_feed 45 = .ok (.iconst 0, 1) := by decide +kernel
theorem dX7_feed_46 : decode cX7_feed 46 = .ok (.iconst 2, 1) := by decide +kernel
theorem dX7_feed_47 : decode cX7_feed 47 = .ok (.invokevirtual 82, 3) := by decide +kernel
theorem dX7_feed_50 : decode cX7_feed 50 = .ok (.ifCond .eq 5, 3) := by decide +kernel
theorem dX7_feed_53 : decode cX7_feed 53 = .ok (.iconst 0, 1) := by decide +kernel
theorem dX7_feed_54 : decode cX7_feed 54 = .ok (.ireturn, 1) := by decide +kernel
theorem dX7_feed_55 : decode cX7_feed 55 = .ok (.aload_n 0, 1) := by decide +kernel
theorem dX7_feed_56 : decode cX7_feed 56 = .ok (.getfield 53, 3) := by decide +kernel
theorem dX7_feed_59 : decode cX7_feed 59 = .ok (.aload_n 0, 1) := by decide +kernel
theorem dX7_feed_60 : decode cX7_feed 60 = .ok (.getfield 168, 3) := by decide +kernel
theorem dX7_feed_63 : decode cX7_feed 63 = .ok (.iload_n 1, 1) := by decide +kernel
theorem dX7_feed_64 : decode cX7_feed 64 = .ok (.iastore, 1) := by decide +kernel
theorem dX7_feed_65 : decode cX7_feed 65 = .ok (.aload_n 0, 1) := by decide +kernel
theorem dX7_feed_66 : decode cX7_feed 66 = .ok (.dup, 1) := by decide +kernel
theorem dX7_feed_67 : decode cX7_feed 67 = .ok (.getfield 168, 3) := by decide +kernel
theorem dX7_feed_70 : decode cX7_feed 70 = .ok (.iconst 1, 1) := by decide +kernel
theorem dX7_feed_71 : decode cX7_feed 71 = .ok (.iadd, 1) := by decide +kernel
theorem dX7_feed_72 : decode cX7_feed 72 = .ok (.putfield 168, 3) := by decide +kernel
theorem dX7_feed_75 : decode cX7_feed 75 = .ok (.aload_n 0, 1) := by decide +kernel
theorem dX7_feed_76 : decode cX7_feed 76 = .ok (.getfield 168, 3) := by decide +kernel
theorem dX7_feed_79 : decode cX7_feed 79 = .ok (.ireturn, 1) := by decide +kernel
theorem dX7_difference_0 : decode cX7_difference 0 = .ok (.lconst 0, 1) := by decide +kernel
theorem dX7_difference_1 : decode cX7_difference 1 = .ok (.lstore_n 1, 1) := by decide +kernel
theorem dX7_difference_2 : decode cX7_difference 2 = .ok (.lconst 1, 1) := by decide +kernel
theorem dX7_difference_3 : decode cX7_difference 3 = .ok (.lstore_n 3, 1) := by decide +kernel
theorem dX7_difference_4 : decode cX7_difference 4 = .ok (.aload_n 0, 1) := by decide +kernel
theorem dX7_difference_5 : decode cX7_difference 5 = .ok (.getfield 171, 3) := by decide +kernel
theorem dX7_difference_8 : decode cX7_difference 8 = .ok (.istore 5, 2) := by decide +kernel
theorem dX7_difference_10 : decode cX7_difference 10 = .ok (.aload_n 0, 1) := by decide +kernel
theorem dX7_difference_11 : decode cX7_difference 11 = .ok (.getfield 171, 3) := by decide +kernel
theorem dX7_difference_14 : decode cX7_difference 14 = .ok (.aload_n 0, 1) := by decide +kernel
theorem dX7_difference_15 : decode cX7_difference 15 = .ok (.getfield 168, 3) := by decide +kernel
theorem dX7_difference_18 : decode cX7_difference 18 = .ok (.if_icmp .ge 66, 3) := by decide +kernel
theorem dX7_difference_21 : decode cX7_difference 21 = .ok (.aload_n 0, 1) := by decide +kernel
theorem dX7_difference_22 : decode cX7_difference 22 = .ok (.getfield 53, 3) := by decide +kernel
theorem dX7_difference_25 : decode cX7_difference 25 = .ok (.aload_n 0, 1) := by decide +kernel
theorem dX7_difference_26 : decode cX7_difference 26 = .ok (.getfield 171, 3) := by decide +kernel
theorem dX7_difference_29 : decode cX7_difference 29 = .ok (.iaload, 1) := by decide +kernel
theorem dX7_difference_30 : decode cX7_difference 30 = .ok (.bipush 127, 2) := by decide +kernel
theorem dX7_difference_32 : decode cX7_difference 32 = .ok (.if_icmp .le 52, 3) := by decide +kernel
theorem dX7_difference_35 : decode cX7_difference 35 = .ok (.aload_n 0, 1) := by decide +kernel
theorem dX7_difference_36 : decode cX7_difference 36 = .ok (.getfield 171, 3) := by decide +kernel
theorem dX7_difference_39 : decode cX7_difference 39 = .ok (.iload 5, 2) := by decide +kernel
theorem dX7_difference_41 : decode cX7_difference 41 = .ok (.iconst 4, 1) := by decide +kernel
theorem dX7_difference_42 : decode cX7_difference 42 = .ok (.iadd, 1) := by decide +kernel
theorem dX7_difference_43 : decode cX7_difference 43 = .ok (.if_icmp .ge 41, 3) := by decide +kernel
theorem dX7_difference_46 : decode cX7_difference 46 = .ok (.lload_n 1, 1) := by decide +kernel
theorem dX7_difference_47 : decode cX7_difference 47 = .ok (.aload_n 0, 1) := by decide +kernel
theorem dX7_difference_48 : decode cX7_difference 48 = .ok (.getfield 53, 3) := by decide +kernel
theorem dX7_difference_51 : decode cX7_difference 51 = .ok (.aload_n 0, 1) := by decide +kernel
theorem dX7_difference_52 : decode cX7_difference 52 = .ok (.getfield 171, 3) := by decide +kernel
theorem dX7_difference_55 : decode cX7_difference 55 = .ok (.iaload, 1) := by decide +kernel
theorem dX7_difference_56 : decode cX7_difference 56 = .ok (.sipush 128, 3) := by decide +kernel
theorem dX7_difference_59 : decode cX7_difference 59 = .ok (.isub, 1) := by decide +kernel
theorem dX7_difference_60 : decode cX7_difference 60 = .ok (.i2l, 1) := by decide +kernel
theorem dX7_difference_61 : decode cX7_difference 61 = .ok (.lload_n 3, 1) := by decide +kernel
theorem dX7_difference_62 : decode cX7_difference 62 = .ok (.lmul, 1) := by decide +kernel
theorem dX7_difference_63 : decode cX7_difference 63 = .ok (.ladd, 1) := by decide +kernel
theorem dX7_difference_64 : decode cX7_difference 64 = .ok (.lstore_n 1, 1) := by decide +kernel
theorem dX7_difference_65 : decode cX7_difference 65 = .ok (.ldc2_w 174, 3) := by decide +kernel
theorem dX7_difference_68 : decode cX7_difference 68 = .ok (.lload_n 3, 1) := by decide +kernel
theorem dX7_difference_69 : decode cX7_difference 69 = .ok (.lmul, 1) := by decide +kernel
theorem dX7_difference_70 : decode cX7_difference 70 = .ok (.lstore_n 3, 1) := by decide +kernel
theorem dX7_difference_71 : decode cX7_difference 71 = .ok (.aload_n 0, 1) := by decide +kernel
theorem dX7_difference_72 : decode cX7_difference 72 = .ok (.dup, 1) := by decide +kernel
theorem dX7_difference_73 : decode cX7_difference 73 = .ok (.getfield 171, 3) := by decide +kernel
theorem dX7_difference_76 : decode cX7_difference 76 = .ok (.iconst 1, 1) := by decide +kernel
theorem dX7_difference_77 : decode cX7_difference 77 = .ok (.iadd, 1) := by decide +kernel
theorem dX7_difference_78 : decode cX7_difference 78 = .ok (.putfield 171, 3) := by decide +kernel
theorem dX7_difference_81 : decode cX7_difference 81 = .ok (.goto (-71), 3) := by decide +kernel
theorem dX7_difference_84 : decode cX7_difference 84 = .ok (.aload_n 0, 1) := by decide +kernel
theorem dX7_difference_85 : decode cX7_difference 85 = .ok (.getfield 171, 3) := by decide +kernel
theorem dX7_difference_88 : decode cX7_difference 88 = .ok (.aload_n 0, 1) := by decide +kernel
theorem dX7_difference_89 : decode cX7_difference 89 = .ok (.getfield 168, 3) := by decide +kernel
theorem dX7_difference_92 : decode cX7_difference 92 = .ok (.if_icmp .eq 38, 3) := by decide +kernel
theorem dX7_difference_95 : decode cX7_difference 95 = .ok (.aload_n 0, 1) := by decide +kernel
theorem dX7_difference_96 : decode cX7_difference 96 = .ok (.getfield 53, 3) := by decide +kernel
theorem dX7_difference_99 : decode cX7_difference 99 = .ok (.aload_n 0, 1) := by decide +kernel
theorem dX7_difference_100 : decode cX7_difference 100 = .ok (.getfield 171, 3) := by decide +kernel
theorem dX7_difference_103 : decode cX7_difference 103 = .ok (.iaload, 1) := by decide +kernel
theorem dX7_difference_104 : decode cX7_difference 104 = .ok (.bipush 127, 2) := by decide +kernel
theorem dX7_difference_106 : decode cX7_difference 106 = .ok (.if_icmp .gt 24, 3) := by decide +kernel
theorem dX7_difference_109 : decode cX7_difference 109 = .ok (.aload_n 0, 1) := by decide +kernel
theorem dX7_difference_110 : decode cX7_difference 110 = .ok (.getfield 171, 3) := by decide +kernel
theorem dX7_difference_113 : decode cX7_difference 113 = .ok (.iload 5, 2) := by decide +kernel
theorem dX7_difference_115 : decode cX7_difference 115 = .ok (.if_icmp .le 18, 3) := by decide +kernel
theorem dX7_difference_118 : decode cX7_difference 118 = .ok (.aload_n 0, 1) := by decide +kernel
theorem dX7_difference_119 : decode cX7_difference 119 = .ok (.getfield 53, 3) := by decide +kernel
theorem dX7_difference_122 : decode cX7_difference 122 = .ok (.aload_n 0, 1) := by decide +kernel
theorem dX7_difference_123 : decode cX7_difference 123 = .ok (.getfield 171, 3) := by decide +kernel
theorem dX7_difference_126 : decode cX7_difference 126 = .ok (.iaload, 1) := by decide +kernel
theorem dX7_difference_127 : decode cX7_difference 127 = .ok (.ifCond .ne 6, 3) := by decide +kernel
theorem dX7_difference_130 : decode cX7_difference 130 = .ok (.ldc 176, 2) := by decide +kernel
theorem dX7_difference_132 : decode cX7_difference 132 = .ok (.ireturn, 1) := by decide +kernel
theorem dX7_difference_133 : decode cX7_difference 133 = .ok (.lload_n 1, 1) := by decide +kernel
theorem dX7_difference_134 : decode cX7_difference 134 = .ok (.aload_n 0, 1) := by decide +kernel
theorem dX7_difference_135 : decode cX7_difference 135 = .ok (.getfield 53, 3) := by decide +kernel
theorem dX7_difference_138 : decode cX7_difference 138 = .ok (.aload_n 0, 1) := by decide +kernel
theorem dX7_difference_139 : decode cX7_difference 139 = .ok (.getfield 171, 3) := by decide +kernel
theorem dX7_difference_142 : decode cX7_difference 142 = .ok (.iaload, 1) := by decide +kernel
theorem dX7_difference_143 : decode cX7_difference 143 = .ok (.i2l, 1) := by decide +kernel
theorem dX7_difference_144 : decode cX7_difference 144 = .ok (.lload_n 3, 1) := by decide +kernel
theorem dX7_difference_145 : decode cX7_difference 145 = .ok (.lmul, 1) := by decide +kernel
theorem dX7_difference_146 : decode cX7_difference 146 = .ok (.ladd, 1) := by decide +kernel
theorem dX7_difference_147 : decode cX7_difference 147 = .ok (.lstore_n 1, 1) := by decide +kernel
theorem dX7_difference_148 : decode cX7_difference 148 = .ok (.aload_n 0, 1) := by decide +kernel
theorem dX7_difference_149 : decode cX7_difference 149 = .ok (.dup, 1) := by decide +kernel
theorem dX7_difference_150 : decode cX7_difference 150 = .ok (.getfield 171, 3) := by decide +kernel
theorem dX7_difference_153 : decode cX7_difference 153 = .ok (.iconst 1, 1) := by decide +kernel
theorem dX7_difference_154 : decode cX7_difference 154 = .ok (.iadd, 1) := by decide +kernel
theorem dX7_difference_155 : decode cX7_difference 155 = .ok (.putfield 171, 3) := by decide +kernel
theorem dX7_difference_158 : decode cX7_difference 158 = .ok (.lload_n 1, 1) := by decide +kernel
theorem dX7_difference_159 : decode cX7_difference 159 = .ok (.ldc2_w 177, 3) := by decide +kernel
theorem dX7_difference_162 : decode cX7_difference 162 = .ok (.lcmp, 1) := by decide +kernel
theorem dX7_difference_163 : decode cX7_difference 163 = .ok (.ifCond .le 8, 3) := by decide +kernel
theorem dX7_difference_166 : decode cX7_difference 166 = .ok (.ldc 176, 2) := by decide +kernel
theorem dX7_difference_168 : decode cX7_difference 168 = .ok (.goto 31, 3) := by decide +kernel
theorem dX7_difference_171 : decode cX7_difference 171 = .ok (.lload_n 1, 1) := by decide +kernel
theorem dX7_difference_172 : decode cX7_difference 172 = .ok (.ldc2_w 136, 3) := by decide +kernel
theorem dX7_difference_175 : decode cX7_difference 175 = .ok (.lrem, 1) := by decide +kernel
theorem dX7_difference_176 : decode cX7_difference 176 = .ok (.lconst 0, 1) := by decide +kernel
theorem dX7_difference_177 : decode cX7_difference 177 = .ok (.lcmp, 1) := by decide +kernel
theorem dX7_difference_178 : decode cX7_difference 178 = .ok (.ifCond .ne 12, 3) := by decide +kernel
theorem dX7_difference_181 : decode cX7_difference 181 = .ok (.lload_n 1, 1) := by decide +kernel
theorem dX7_difference_182 : decode cX7_difference 182 = .ok (.ldc2_w 136, 3) := by decide +kernel
theorem dX7_difference_185 : decode cX7_difference 185 = .ok (.ldiv, 1) := by decide +kernel
theorem dX7_difference_186 : decode cX7_difference 186 = .ok (.l2i, 1) := by decide +kernel
theorem dX7_difference_187 : decode cX7_difference 187 = .ok (.goto 12, 3) := by decide +kernel
theorem dX7_difference_190 : decode cX7_difference 190 = .ok (.lload_n 1, 1) := by decide +kernel
theorem dX7_difference_191 : decode cX7_difference 191 = .ok (.lconst 1, 1) := by decide +kernel
theorem dX7_difference_192 : decode cX7_difference 192 = .ok (.ladd, 1) := by decide +kernel
theorem dX7_difference_193 : decode cX7_difference 193 = .ok (.lneg, 1) := by decide +kernel
theorem dX7_difference_194 : decode cX7_difference 194 = .ok (.ldc2_w 136, 3) := by decide +kernel
theorem dX7_difference_197 : decode cX7_difference 197 = .ok (.ldiv, 1) := by decide +kernel
theorem dX7_difference_198 : decode cX7_difference 198 = .ok (.l2i, 1) := by decide +kernel
theorem dX7_difference_199 : decode cX7_difference 199 = .ok (.ireturn, 1) := by decide +kernel
theorem dX7_read_0 : decode cX7_read 0 = .ok (.aload_n 0, 1) := by decide +kernel
theorem dX7_read_1 : decode cX7_read 1 = .ok (.iconst 0, 1) := by decide +kernel
theorem dX7_read_2 : decode cX7_read 2 = .ok (.putfield 72, 3) := by decide +kernel
theorem dX7_read_5 : decode cX7_read 5 = .ok (.aload_n 0, 1) := by decide +kernel
theorem dX7_read_6 : decode cX7_read 6 = .ok (.aload_n 0, 1) := by decide +kernel
theorem dX7_read_7 : decode cX7_read 7 = .ok (.iload_n 1, 1) := by decide +kernel
theorem dX7_read_8 : decode cX7_read 8 = .ok (.invokevirtual 78, 3) := by decide +kernel
theorem dX7_read_11 : decode cX7_read 11 = .ok (.ifCond .ne 7, 3) := by decide +kernel
theorem dX7_read_14 : decode cX7_read 14 = .ok (.iconst 1, 1) := by decide +kernel
theorem dX7_read_15 : decode cX7_read 15 = .ok (.goto 4, 3) := by decide +kernel
theorem dX7_read_18 : decode cX7_read 18 = .ok (.iconst 0, 1) := by decide +kernel
theorem dX7_read_19 : decode cX7_read 19 = .ok (.iconst 1, 1) := by decide +kernel
theorem dX7_read_20 : decode cX7_read 20 = .ok (.invokevirtual 82, 3) := by decide +kernel
theorem dX7_read_23 : decode cX7_read 23 = .ok (.ifCond .eq 5, 3) := by decide +kernel
theorem dX7_read_26 : decode cX7_read 26 = .ok (.iconst 0, 1) := by decide +kernel
theorem dX7_read_27 : decode cX7_read 27 = .ok (.ireturn, 1) := by decide +kernel
theorem dX7_read_28 : decode cX7_read 28 = .ok (.aload_n 0, 1) := by decide +kernel
theorem dX7_read_29 : decode cX7_read 29 = .ok (.iconst 0, 1) := by decide +kernel
theorem dX7_read_30 : decode cX7_read 30 = .ok (.putfield 171, 3) := by decide +kernel
theorem dX7_read_33 : decode cX7_read 33 = .ok (.iconst 0, 1) := by decide +kernel
theorem dX7_read_34 : decode cX7_read 34 = .ok (.istore_n 2, 1) := by decide +kernel
theorem dX7_read_35 : decode cX7_read 35 = .ok (.iconst 1, 1) := by decide +kernel
theorem dX7_read_36 : decode cX7_read 36 = .ok (.istore_n 3, 1) := by decide +kernel
theorem dX7_read_37 : decode cX7_read 37 = .ok (.iload_n 3, 1) := by decide +kernel
theorem dX7_read_38 : decode cX7_read 38 = .ok (.ifCond .eq 188, 3) := by decide +kernel
theorem dX7_read_41 : decode cX7_read 41 = .ok (.aload_n 0, 1) := by decide +kernel
theorem dX7_read_42 : decode cX7_read 42 = .ok (.getfield 171, 3) := by decide +kernel
theorem dX7_read_45 : decode cX7_read 45 = .ok (.aload_n 0, 1) := by decide +kernel
theorem dX7_read_46 : decode cX7_read 46 = .ok (.getfield 168, 3) := by decide +kernel
theorem dX7_read_49 : decode cX7_read 49 = .ok (.if_icmp .ge 177, 3) := by decide +kernel
theorem dX7_read_52 : decode cX7_read 52 = .ok (.aload_n 0, 1) := by decide +kernel
theorem dX7_read_53 : decode cX7_read 53 = .ok (.invokevirtual 179, 3) := by decide +kernel
theorem dX7_read_56 : decode cX7_read 56 = .ok (.iload_n 2, 1) := by decide +kernel
theorem dX7_read_57 : decode cX7_read 57 = .ok (.ifCond .le 16, 3) := by decide +kernel
theorem dX7_read_60 : decode cX7_read 60 = .ok (.aload_n 0, 1) := by decide +kernel
theorem dX7_read_61 : decode cX7_read 61 = .ok (.getfield 56, 3) := by decide +kernel
theorem dX7_read_64 : decode cX7_read 64 = .ok (.iconst 3, 1) := by decide +kernel
theorem dX7_read_65 : decode cX7_read 65 = .ok (.iload_n 2, 1) := by decide +kernel
theorem dX7_read_66 : decode cX7_read 66 = .ok (.imul, 1) := by decide +kernel
theorem dX7_read_67 : decode cX7_read 67 = .ok (.iconst 3, 1) := by decide +kernel
theorem dX7_read_68 : decode cX7_read 68 = .ok (.isub, 1) := by decide +kernel
theorem dX7_read_69 : decode cX7_read 69 = .ok (.iaload, 1) := by decide +kernel
theorem dX7_read_70 : decode cX7_read 70 = .ok (.goto 4, 3) := by decide +kernel
theorem dX7_read_73 : decode cX7_read 73 = .ok (.iconst 0, 1) := by decide +kernel
theorem dX7_read_74 : decode cX7_read 74 = .ok (.iadd, 1) := by decide +kernel
theorem dX7_read_75 : decode cX7_read 75 = .ok (.istore 4, 2) := by decide +kernel
theorem dX7_read_77 : decode cX7_read 77 = .ok (.aload_n 0, 1) := by decide +kernel
theorem dX7_read_78 : decode cX7_read 78 = .ok (.invokevirtual 179, 3) := by decide +kernel
theorem dX7_read_81 : decode cX7_read 81 = .ok (.iload_n 2, 1) := by decide +kernel
theorem dX7_read_82 : decode cX7_read 82 = .ok (.ifCond .le 16, 3) := by decide +kernel
theorem dX7_read_85 : decode cX7_read 85 = .ok (.aload_n 0, 1) := by decide +kernel
theorem dX7_read_86 : decode cX7_read 86 = .ok (.getfield 56, 3) := by decide +kernel
theorem dX7_read_89 : decode cX7_read 89 = .ok (.iconst 3, 1) := by decide +kernel
theorem dX7_read_90 : decode cX7_read 90 = .ok (.iload_n 2, 1) := by decide +kernel
theorem dX7_read_91 : decode cX7_read 91 = .ok (.imul, 1) := by decide +kernel
theorem dX7_read_92 : decode cX7_read 92 = .ok (.iconst 2, 1) := by decide +kernel
theorem dX7_read_93 : decode cX7_read 93 = .ok (.isub, 1) := by decide +kernel
theorem dX7_read_94 : decode cX7_read 94 = .ok (.iaload, 1) := by decide +kernel
theorem dX7_read_95 : decode cX7_read 95 = .ok (.goto 4, 3) := by decide +kernel
theorem dX7_read_98 : decode cX7_read 98 = .ok (.iconst 0, 1) := by decide +kernel
theorem dX7_read_99 : decode cX7_read 99 = .ok (.iadd, 1) := by decide +kernel
theorem dX7_read_100 : decode cX7_read 100 = .ok (.istore 5, 2) := by decide +kernel
theorem dX7_read_102 : decode cX7_read 102 = .ok (.aload_n 0, 1) := by decide +kernel
theorem dX7_read_103 : decode cX7_read 103 = .ok (.invokevirtual 179, 3) := by decide +kernel
theorem dX7_read_106 : decode cX7_read 106 = .ok (.iload_n 2, 1) := by decide +kernel
theorem dX7_read_107 : decode cX7_read 107 = .ok (.ifCond .le 16, 3) := by decide +kernel
theorem dX7_read_110 : decode cX7_read 110 = .ok (.aload_n 0, 1) := by decide +kernel
theorem dX7_read_111 : decode cX7_read 111 = .ok (.getfield 56, 3) := by decide +kernel
theorem dX7_read_114 : decode cX7_read 114 = .ok (.iconst 3, 1) := by decide +kernel
theorem dX7_read_115 : decode cX7_read 115 = .ok (.iload_n 2, 1) := by decide +kernel
theorem dX7_read_116 : decode cX7_read 116 = .ok (.imul, 1) := by decide +kernel
theorem dX7_read_117 : decode cX7_read 117 = .ok (.iconst 1, 1) := by decide +kernel
theorem dX7_read_118 : decode cX7_read 118 = .ok (.isub, 1) := by decide +kernel
theorem dX7_read_119 : decode cX7_read 119 = .ok (.iaload, 1) := by decide +kernel
theorem dX7_read_120 : decode cX7_read 120 = .ok (.goto 4, 3) := by decide +kernel
theorem dX7_read_123 : decode cX7_read 123 = .ok (.iconst 0, 1) := by decide +kernel
theorem dX7_read_124 : decode cX7_read 124 = .ok (.iadd, 1) := by decide +kernel
theorem dX7_read_125 : decode cX7_read 125 = .ok (.istore 6, 2) := by decide +kernel
theorem dX7_read_127 : decode cX7_read 127 = .ok (.iload_n 2, 1) := by decide +kernel
theorem dX7_read_128 : decode cX7_read 128 = .ok (.bipush 60, 2) := by decide +kernel
theorem dX7_read_130 : decode cX7_read 130 = .ok (.if_icmp .ge 50, 3) := by decide +kernel
theorem dX7_read_133 : decode cX7_read 133 = .ok (.iload 4, 2) := by decide +kernel
theorem dX7_read_135 : decode cX7_read 135 = .ok (.i2l, 1) := by decide +kernel
theorem dX7_read_136 : decode cX7_read 136 = .ok (.iload_n 2, 1) := by decide +kernel
theorem dX7_read_137 : decode cX7_read 137 = .ok (.ifCond .le 19, 3) := by decide +kernel
theorem dX7_read_140 : decode cX7_read 140 = .ok (.aload_n 0, 1) := by decide +kernel
theorem dX7_read_141 : decode cX7_read 141 = .ok (.getfield 56, 3) := by decide +kernel
theorem dX7_read_144 : decode cX7_read 144 = .ok (.iconst 3, 1) := by decide +kernel
theorem dX7_read_145 : decode cX7_read 145 = .ok (.iload_n 2, 1) := by decide +kernel
theorem dX7_read_146 : decode cX7_read 146 = .ok (.imul, 1) := by decide +kernel
theorem dX7_read_147 : decode cX7_read 147 = .ok (.iconst 3, 1) := by decide +kernel
theorem dX7_read_148 : decode cX7_read 148 = .ok (.isub, 1) := by decide +kernel
theorem dX7_read_149 : decode cX7_read 149 = .ok (.iaload, 1) := by decide +kernel
theorem dX7_read_150 : decode cX7_read 150 = .ok (.iconst 1, 1) := by decide +kernel
theorem dX7_read_151 : decode cX7_read 151 = .ok (.iadd, 1) := by decide +kernel
theorem dX7_read_152 : decode cX7_read 152 = .ok (.i2l, 1) := by decide +kernel
theorem dX7_read_153 : decode cX7_read 153 = .ok (.goto 4, 3) := by decide +kernel
theorem dX7_read_156 : decode cX7_read 156 = .ok (.lconst 0, 1) := by decide +kernel
theorem dX7_read_157 : decode cX7_read 157 = .ok (.ldc2_w 94, 3) := by decide +kernel
theorem dX7_read_160 : decode cX7_read 160 = .ok (.invokestatic 90, 3) := by decide +kernel
theorem dX7_read_163 : decode cX7_read 163 = .ok (.ifCond .eq 17, 3) := by decide +kernel
theorem dX7_read_166 : decode cX7_read 166 = .ok (.iload 5, 2) := by decide +kernel
theorem dX7_read_168 : decode cX7_read 168 = .ok (.iload 6, 2) := by decide +kernel
theorem dX7_read_170 : decode cX7_read 170 = .ok (.invokestatic 96, 3) := by decide +kernel
theorem dX7_read_173 : decode cX7_read 173 = .ok (.ifCond .eq 7, 3) := by decide +kernel
theorem dX7_read_176 : decode cX7_read 176 = .ok (.iconst 1, 1) := by decide +kernel
theorem dX7_read_177 : decode cX7_read 177 = .ok (.goto 4, 3) := by decide +kernel
theorem dX7_read_180 : decode cX7_read 180 = .ok (.iconst 0, 1) := by decide +kernel
theorem dX7_read_181 : decode cX7_read 181 = .ok (.istore_n 3, 1) := by decide +kernel
theorem dX7_read_182 : decode cX7_read 182 = .ok (.iload_n 3, 1) := by decide +kernel
theorem dX7_read_183 : decode cX7_read 183 = .ok (.ifCond .eq 40, 3) := by decide +kernel
theorem dX7_read_186 : decode cX7_read 186 = .ok (.aload_n 0, 1) := by decide +kernel
theorem dX7_read_187 : decode cX7_read 187 = .ok (.getfield 56, 3) := by decide +kernel
theorem dX7_read_190 : decode cX7_read 190 = .ok (.iconst 3, 1) := by decide +kernel
theorem dX7_read_191 : decode cX7_read 191 = .ok (.iload_n 2, 1) := by decide +kernel
theorem dX7_read_192 : decode cX7_read 192 = .ok (.imul, 1) := by decide +kernel
theorem dX7_read_193 : decode cX7_read 193 = .ok (.iload 4, 2) := by decide +kernel
theorem dX7_read_195 : decode cX7_read 195 = .ok (.iastore, 1) := by decide +kernel
theorem dX7_read_196 : decode cX7_read 196 = .ok (.aload_n 0, 1) := by decide +kernel
theorem dX7_read_197 : decode cX7_read 197 = .ok (.getfield 56, 3) := by decide +kernel
theorem dX7_read_200 : decode cX7_read 200 = .ok (.iconst 3, 1) := by decide +kernel
theorem dX7_read_201 : decode cX7_read 201 = .ok (.iload_n 2, 1) := by decide +kernel
theorem dX7_read_202 : decode cX7_read 202 = .ok (.imul, 1) := by decide +kernel
theorem dX7_read_203 : decode cX7_read 203 = .ok (.iconst 1, 1) := by decide +kernel
theorem dX7_read_204 : decode cX7_read 204 = .ok (.iadd, 1) := by decide +kernel
theorem dX7_read_205 : decode cX7_read 205 = .ok (.iload 5, 2) := by decide +kernel
theorem dX7_read_207 : decode cX7_read 207 = .ok (.iastore, 1) := by decide +kernel
theorem dX7_read_208 : decode cX7_read 208 = .ok (.aload_n 0, 1) := by decide +kernel
theorem dX7_read_209 : decode cX7_read 209 = .ok (.getfield 56, 3) := by decide +kernel
theorem dX7_read_212 : decode cX7_read 212 = .ok (.iconst 3, 1) := by decide +kernel
theorem dX7_read_213 : decode cX7_read 213 = .ok (.iload_n 2, 1) := by decide +kernel
theorem dX7_read_214 : decode cX7_read 214 = .ok (.imul, 1) := by decide +kernel
theorem dX7_read_215 : decode cX7_read 215 = .ok (.iconst 2, 1) := by decide +kernel
theorem dX7_read_216 : decode cX7_read 216 = .ok (.iadd, 1) := by decide +kernel
theorem dX7_read_217 : decode cX7_read 217 = .ok (.iload 6, 2) := by decide +kernel
theorem dX7_read_219 : decode cX7_read 219 = .ok (.iastore, 1) := by decide +kernel
theorem dX7_read_220 : decode cX7_read 220 = .ok (.iinc 2 1, 3) := by decide +kernel
theorem dX7_read_223 : decode cX7_read 223 = .ok (.goto (-186), 3) := by decide +kernel
theorem dX7_read_226 : decode cX7_read 226 = .ok (.aload_n 0, 1) := by decide +kernel
theorem dX7_read_227 : decode cX7_read 227 = .ok (.iconst 0, 1) := by decide +kernel
theorem dX7_read_228 : decode cX7_read 228 = .ok (.putfield 168, 3) := by decide +kernel
theorem dX7_read_231 : decode cX7_read 231 = .ok (.iload_n 3, 1) := by decide +kernel
theorem dX7_read_232 : decode cX7_read 232 = .ok (.ifCond .ne 5, 3) := by decide +kernel
theorem dX7_read_235 : decode cX7_read 235 = .ok (.iconst (-1), 1) := by decide +kernel
theorem dX7_read_236 : decode cX7_read 236 = .ok (.ireturn, 1) := by decide +kernel
theorem dX7_read_237 : decode cX7_read 237 = .ok (.iconst 0, 1) := by decide +kernel
theorem dX7_read_238 : decode cX7_read 238 = .ok (.istore 4, 2) := by decide +kernel
theorem dX7_read_240 : decode cX7_read 240 = .ok (.iload 4, 2) := by decide +kernel
theorem dX7_read_242 : decode cX7_read 242 = .ok (.iload_n 2, 1) := by decide +kernel
theorem dX7_read_243 : decode cX7_read 243 = .ok (.if_icmp .ge 76, 3) := by decide +kernel
theorem dX7_read_246 : decode cX7_read 246 = .ok (.aload_n 0, 1) := by decide +kernel
theorem dX7_read_247 : decode cX7_read 247 = .ok (.getfield 16, 3) := by decide +kernel
theorem dX7_read_250 : decode cX7_read 250 = .ok (.bipush 60, 2) := by decide +kernel
theorem dX7_read_252 : decode cX7_read 252 = .ok (.iload_n 1, 1) := by decide +kernel
theorem dX7_read_253 : decode cX7_read 253 = .ok (.imul, 1) := by decide +kernel
theorem dX7_read_254 : decode cX7_read 254 = .ok (.iload 4, 2) := by decide +kernel
theorem dX7_read_256 : decode cX7_read 256 = .ok (.iadd, 1) := by decide +kernel
theorem dX7_read_257 : decode cX7_read 257 = .ok (.aload_n 0, 1) := by decide +kernel
theorem dX7_read_258 : decode cX7_read 258 = .ok (.getfield 56, 3) := by decide +kernel
theorem dX7_read_261 : decode cX7_read 261 = .ok (.iconst 3, 1) := by decide +kernel
theorem dX7_read_262 : decode cX7_read 262 = .ok (.iload 4, 2) := by decide +kernel
theorem dX7_read_264 : decode cX7_read 264 = .ok (.imul, 1) := by decide +kernel
theorem dX7_read_265 : decode cX7_read 265 = .ok (.iaload, 1) := by decide +kernel
theorem dX7_read_266 : decode cX7_read 266 = .ok (.iastore, 1) := by decide +kernel
theorem dX7_read_267 : decode cX7_read 267 = .ok (.aload_n 0, 1) := by decide +kernel
theorem dX7_read_268 : decode cX7_read 268 = .ok (.getfield 19, 3) := by decide +kernel
theorem dX7_read_271 : decode cX7_read 271 = .ok (.bipush 60, 2) := by decide +kernel
theorem dX7_read_273 : decode cX7_read 273 = .ok (.iload_n 1, 1) := by decide +kernel
theorem dX7_read_274 : decode cX7_read 274 = .ok (.imul, 1) := by decide +kernel
theorem dX7_read_275 : decode cX7_read 275 = .ok (.iload 4, 2) := by decide +kernel
theorem dX7_read_277 : decode cX7_read 277 = .ok (.iadd, 1) := by decide +kernel
theorem dX7_read_278 : decode cX7_read 278 = .ok (.aload_n 0, 1) := by decide +kernel
theorem dX7_read_279 : decode cX7_read 279 = .ok (.getfield 56, 3) := by decide +kernel
theorem dX7_read_282 : decode cX7_read 282 = .ok (.iconst 3, 1) := by decide +kernel
theorem dX7_read_283 : decode cX7_read 283 = .ok (.iload 4, 2) := by decide +kernel
theorem dX7_read_285 : decode cX7_read 285 = .ok (.imul, 1) := by decide +kernel
theorem dX7_read_286 : decode cX7_read 286 = .ok (.iconst 1, 1) := by decide +kernel
theorem dX7_read_287 : decode cX7_read 287 = .ok (.iadd, 1) := by decide +kernel
theorem dX7_read_288 : decode cX7_read 288 = .ok (.iaload, 1) := by decide +kernel
theorem dX7_read_289 : decode cX7_read 289 = .ok (.iastore, 1) := by decide +kernel
theorem dX7_read_290 : decode cX7_read 290 = .ok (.aload_n 0, 1) := by decide +kernel
theorem dX7_read_291 : decode cX7_read 291 = .ok (.getfield 22, 3) := by decide +kernel
theorem dX7_read_294 : decode cX7_read 294 = .ok (.bipush 60, 2) := by decide +kernel
theorem dX7_read_296 : decode cX7_read 296 = .ok (.iload_n 1, 1) := by decide +kernel
theorem dX7_read_297 : decode cX7_read 297 = .ok (.imul, 1) := by decide +kernel
theorem dX7_read_298 : decode cX7_read 298 = .ok (.iload 4, 2) := by decide +kernel
theorem dX7_read_300 : decode cX7_read 300 = .ok (.iadd, 1) := by decide +kernel
theorem dX7_read_301 : decode cX7_read 301 = .ok (.aload_n 0, 1) := by decide +kernel
theorem dX7_read_302 : decode cX7_read 302 = .ok (.getfield 56, 3) := by decide +kernel
theorem dX7_read_305 : decode cX7_read 305 = .ok (.iconst 3, 1) := by decide +kernel
theorem dX7_read_306 : decode cX7_read 306 = .ok (.iload 4, 2) := by decide +kernel
theorem dX7_read_308 : decode cX7_read 308 = .ok (.imul, 1) := by decide +kernel
theorem dX7_read_309 : decode cX7_read 309 = .ok (.iconst 2, 1) := by decide +kernel
theorem dX7_read_310 : decode cX7_read 310 = .ok (.iadd, 1) := by decide +kernel
theorem dX7_read_311 : decode cX7_read 311 = .ok (.iaload, 1) := by decide +kernel
theorem dX7_read_312 : decode cX7_read 312 = .ok (.iastore, 1) := by decide +kernel
theorem dX7_read_313 : decode cX7_read 313 = .ok (.iinc 4 1, 3) := by decide +kernel
theorem dX7_read_316 : decode cX7_read 316 = .ok (.goto (-76), 3) := by decide +kernel
theorem dX7_read_319 : decode cX7_read 319 = .ok (.aload_n 0, 1) := by decide +kernel
theorem dX7_read_320 : decode cX7_read 320 = .ok (.getfield 7, 3) := by decide +kernel
theorem dX7_read_323 : decode cX7_read 323 = .ok (.iload_n 1, 1) := by decide +kernel
theorem dX7_read_324 : decode cX7_read 324 = .ok (.iload_n 2, 1) := by decide +kernel
theorem dX7_read_325 : decode cX7_read 325 = .ok (.iastore, 1) := by decide +kernel
theorem dX7_read_326 : decode cX7_read 326 = .ok (.iload_n 2, 1) := by decide +kernel
theorem dX7_read_327 : decode cX7_read 327 = .ok (.ireturn, 1) := by decide +kernel
theorem dX7_isSame_0 : decode cX7_isSame 0 = .ok (.bipush 60, 2) := by decide +kernel
theorem dX7_isSame_2 : decode cX7_isSame 2 = .ok (.iload_n 1, 1) := by decide +kernel
theorem dX7_isSame_3 : decode cX7_isSame 3 = .ok (.imul, 1) := by decide +kernel
theorem dX7_isSame_4 : decode cX7_isSame 4 = .ok (.iload_n 2, 1) := by decide +kernel
theorem dX7_isSame_5 : decode cX7_isSame 5 = .ok (.iadd, 1) := by decide +kernel
theorem dX7_isSame_6 : decode cX7_isSame 6 = .ok (.istore 4, 2) := by decide +kernel
theorem dX7_isSame_8 : decode cX7_isSame 8 = .ok (.bipush 60, 2) := by decide +kernel
theorem dX7_isSame_10 : decode cX7_isSame 10 = .ok (.iload_n 1, 1) := by decide +kernel
theorem dX7_isSame_11 : decode cX7_isSame 11 = .ok (.imul, 1) := by decide +kernel
theorem dX7_isSame_12 : decode cX7_isSame 12 = .ok (.iload_n 3, 1) := by decide +kernel
theorem dX7_isSame_13 : decode cX7_isSame 13 = .ok (.iadd, 1) := by decide +kernel
theorem dX7_isSame_14 : decode cX7_isSame 14 = .ok (.istore 5, 2) := by decide +kernel
theorem dX7_isSame_16 : decode cX7_isSame 16 = .ok (.aload_n 0, 1) := by decide +kernel
theorem dX7_isSame_17 : decode cX7_isSame 17 = .ok (.getfield 16, 3) := by decide +kernel
theorem dX7_isSame_20 : decode cX7_isSame 20 = .ok (.iload 4, 2) := by decide +kernel
theorem dX7_isSame_22 : decode cX7_isSame 22 = .ok (.iconst 1, 1) := by decide +kernel
theorem dX7_isSame_23 : decode cX7_isSame 23 = .ok (.iadd, 1) := by decide +kernel
theorem dX7_isSame_24 : decode cX7_isSame 24 = .ok (.iaload, 1) := by decide +kernel
theorem dX7_isSame_25 : decode cX7_isSame 25 = .ok (.aload_n 0, 1) := by decide +kernel
theorem dX7_isSame_26 : decode cX7_isSame 26 = .ok (.getfield 16, 3) := by decide +kernel
theorem dX7_isSame_29 : decode cX7_isSame 29 = .ok (.iload 4, 2) := by decide +kernel
theorem dX7_isSame_31 : decode cX7_isSame 31 = .ok (.iaload, 1) := by decide +kernel
theorem dX7_isSame_32 : decode cX7_isSame 32 = .ok (.isub, 1) := by decide +kernel
theorem dX7_isSame_33 : decode cX7_isSame 33 = .ok (.aload_n 0, 1) := by decide +kernel
theorem dX7_isSame_34 : decode cX7_isSame 34 = .ok (.getfield 16, 3) := by decide +kernel
theorem dX7_isSame_37 : decode cX7_isSame 37 = .ok (.iload 5, 2) := by decide +kernel
theorem dX7_isSame_39 : decode cX7_isSame 39 = .ok (.iconst 1, 1) := by decide +kernel
theorem dX7_isSame_40 : decode cX7_isSame 40 = .ok (.iadd, 1) := by decide +kernel
theorem dX7_isSame_41 : decode cX7_isSame 41 = .ok (.iaload, 1) := by decide +kernel
theorem dX7_isSame_42 : decode cX7_isSame 42 = .ok (.aload_n 0, 1) := by decide +kernel
theorem dX7_isSame_43 : decode cX7_isSame 43 = .ok (.getfield 16, 3) := by decide +kernel
theorem dX7_isSame_46 : decode cX7_isSame 46 = .ok (.iload 5, 2) := by decide +kernel
theorem dX7_isSame_48 : decode cX7_isSame 48 = .ok (.iaload, 1) := by decide +kernel
theorem dX7_isSame_49 : decode cX7_isSame 49 = .ok (.isub, 1) := by decide +kernel
theorem dX7_isSame_50 : decode cX7_isSame 50 = .ok (.if_icmp .ne 81, 3) := by decide +kernel
theorem dX7_isSame_53 : decode cX7_isSame 53 = .ok (.aload_n 0, 1) := by decide +kernel
theorem dX7_isSame_54 : decode cX7_isSame 54 = .ok (.getfield 19, 3) := by decide +kernel
theorem dX7_isSame_57 : decode cX7_isSame 57 = .ok (.iload 4, 2) := by decide +kernel
theorem dX7_isSame_59 : decode cX7_isSame 59 = .ok (.iconst 1, 1) := by decide +kernel
theorem dX7_isSame_60 : decode cX7_isSame 60 = .ok (.iadd, 1) := by decide +kernel
theorem dX7_isSame_61 : decode cX7_isSame 61 = .ok (.iaload, 1) := by decide +kernel
theorem dX7_isSame_62 : decode cX7_isSame 62 = .ok (.aload_n 0, 1) := by decide +kernel
theorem dX7_isSame_63 : decode cX7_isSame 63 = .ok (.getfield 19, 3) := by decide +kernel
theorem dX7_isSame_66 : decode cX7_isSame 66 = .ok (.iload 4, 2) := by decide +kernel
theorem dX7_isSame_68 : decode cX7_isSame 68 = .ok (.iaload, 1) := by decide +kernel
theorem dX7_isSame_69 : decode cX7_isSame 69 = .ok (.isub, 1) := by decide +kernel
theorem dX7_isSame_70 : decode cX7_isSame 70 = .ok (.aload_n 0, 1) := by decide +kernel
theorem dX7_isSame_71 : decode cX7_isSame 71 = .ok (.getfield 19, 3) := by decide +kernel
theorem dX7_isSame_74 : decode cX7_isSame 74 = .ok (.iload 5, 2) := by decide +kernel
theorem dX7_isSame_76 : decode cX7_isSame 76 = .ok (.iconst 1, 1) := by decide +kernel
theorem dX7_isSame_77 : decode cX7_isSame 77 = .ok (.iadd, 1) := by decide +kernel
theorem dX7_isSame_78 : decode cX7_isSame 78 = .ok (.iaload, 1) := by decide +kernel
theorem dX7_isSame_79 : decode cX7_isSame 79 = .ok (.aload_n 0, 1) := by decide +kernel
theorem dX7_isSame_80 : decode cX7_isSame 80 = .ok (.getfield 19, 3) := by decide +kernel
theorem dX7_isSame_83 : decode cX7_isSame 83 = .ok (.iload 5, 2) := by decide +kernel
theorem dX7_isSame_85 : decode cX7_isSame 85 = .ok (.iaload, 1) := by decide +kernel
theorem dX7_isSame_86 : decode cX7_isSame 86 = .ok (.isub, 1) := by decide +kernel
theorem dX7_isSame_87 : decode cX7_isSame 87 = .ok (.if_icmp .ne 44, 3) := by decide +kernel
theorem dX7_isSame_90 : decode cX7_isSame 90 = .ok (.aload_n 0, 1) := by decide +kernel
theorem dX7_isSame_91 : decode cX7_isSame 91 = .ok (.getfield 22, 3) := by decide +kernel
theorem dX7_isSame_94 : decode cX7_isSame 94 = .ok (.iload 4, 2) := by decide +kernel
theorem dX7_isSame_96 : decode cX7_isSame 96 = .ok (.iconst 1, 1) := by decide +kernel
theorem dX7_isSame_97 : decode cX7_isSame 97 = .ok (.iadd, 1) := by decide +kernel
theorem dX7_isSame_98 : decode cX7_isSame 98 = .ok (.iaload, 1) := by decide +kernel
theorem dX7_isSame_99 : decode cX7_isSame 99 = .ok (.aload_n 0, 1) := by decide +kernel
theorem dX7_isSame_100 : decode cX7_isSame 100 = .ok (.getfield 22, 3) := by decide +kernel
theorem dX7_isSame_103 : decode cX7_isSame 103 = .ok (.iload 4, 2) := by decide +kernel
theorem dX7_isSame_105 : decode cX7_isSame 105 = .ok (.iaload, 1) := by decide +kernel
theorem dX7_isSame_106 : decode cX7_isSame 106 = .ok (.isub, 1) := by decide +kernel
theorem dX7_isSame_107 : decode cX7_isSame 107 = .ok (.aload_n 0, 1) := by decide +kernel
theorem dX7_isSame_108 : decode cX7_isSame 108 = .ok (.getfield 22, 3) := by decide +kernel
theorem dX7_isSame_111 : decode cX7_isSame 111 = .ok (.iload 5, 2) := by decide +kernel
theorem dX7_isSame_113 : decode cX7_isSame 113 = .ok (.iconst 1, 1) := by decide +kernel
theorem dX7_isSame_114 : decode cX7_isSame 114 = .ok (.iadd, 1) := by decide +kernel
theorem dX7_isSame_115 : decode cX7_isSame 115 = .ok (.iaload, 1) := by decide +kernel
theorem dX7_isSame_116 : decode cX7_isSame 116 = .ok (.aload_n 0, 1) := by decide +kernel
theorem dX7_isSame_117 : decode cX7_isSame 117 = .ok (.getfield 22, 3) := by decide +kernel
theorem dX7_isSame_120 : decode cX7_isSame 120 = .ok (.iload 5, 2) := by decide +kernel
theorem dX7_isSame_122 : decode cX7_isSame 122 = .ok (.iaload, 1) := by decide +kernel
theorem dX7_isSame_123 : decode cX7_isSame 123 = .ok (.isub, 1) := by decide +kernel
theorem dX7_isSame_124 : decode cX7_isSame 124 = .ok (.if_icmp .ne 7, 3) := by decide +kernel
theorem dX7_isSame_127 : decode cX7_isSame 127 = .ok (.iconst 1, 1) := by decide +kernel
theorem dX7_isSame_128 : decode cX7_isSame 128 = .ok (.goto 4, 3) := by decide +kernel
theorem dX7_isSame_131 : decode cX7_isSame 131 = .ok (.iconst 0, 1) := by decide +kernel
theorem dX7_isSame_132 : decode cX7_isSame 132 = .ok (.ireturn, 1) := by decide +kernel
theorem dX7_repeat_0 : decode cX7_repeat 0 = .ok (.aload_n 0, 1) := by decide +kernel
theorem dX7_repeat_1 : decode cX7_repeat 1 = .ok (.iconst 0, 1) := by decide +kernel
theorem dX7_repeat_2 : decode cX7_repeat 2 = .ok (.putfield 72, 3) := by decide +kernel
theorem dX7_repeat_5 : decode cX7_repeat 5 = .ok (.aload_n 0, 1) := by decide +kernel
theorem dX7_repeat_6 : decode cX7_repeat 6 = .ok (.aload_n 0, 1) := by decide +kernel
theorem dX7_repeat_7 : decode cX7_repeat 7 = .ok (.iload_n 1, 1) := by decide +kernel
theorem dX7_repeat_8 : decode cX7_repeat 8 = .ok (.invokevirtual 78, 3) := by decide +kernel
theorem dX7_repeat_11 : decode cX7_repeat 11 = .ok (.ifCond .ne 7, 3) := by decide +kernel
theorem dX7_repeat_14 : decode cX7_repeat 14 = .ok (.iconst 1, 1) := by decide +kernel
theorem dX7_repeat_15 : decode cX7_repeat 15 = .ok (.goto 4, 3) := by decide +kernel
theorem dX7_repeat_18 : decode cX7_repeat 18 = .ok (.iconst 0, 1) := by decide +kernel
theorem dX7_repeat_19 : decode cX7_repeat 19 = .ok (.iconst 1, 1) := by decide +kernel
theorem dX7_repeat_20 : decode cX7_repeat 20 = .ok (.invokevirtual 82, 3) := by decide +kernel
theorem dX7_repeat_23 : decode cX7_repeat 23 = .ok (.ifCond .ne 28, 3) := by decide +kernel
theorem dX7_repeat_26 : decode cX7_repeat 26 = .ok (.aload_n 0, 1) := by decide +kernel
theorem dX7_repeat_27 : decode cX7_repeat 27 = .ok (.iload_n 2, 1) := by decide +kernel
theorem dX7_repeat_28 : decode cX7_repeat 28 = .ok (.i2l, 1) := by decide +kernel
theorem dX7_repeat_29 : decode cX7_repeat 29 = .ok (.lconst 1, 1) := by decide +kernel
theorem dX7_repeat_30 : decode cX7_repeat 30 = .ok (.ldc2_w 183, 3) := by decide +kernel
theorem dX7_repeat_33 : decode cX7_repeat 33 = .ok (.invokestatic 90, 3) := by decide +kernel
theorem dX7_repeat_36 : decode cX7_repeat 36 = .ok (.ifCond .ne 7, 3) := by decide +kernel
theorem dX7_repeat_39 : decode cX7_repeat 39 = .ok (.iconst 1, 1) := by decide +kernel
theorem dX7_repeat_40 : decode cX7_repeat 40 = .ok (.goto 4, 3) := by decide +kernel
theorem dX7_repeat_43 : decode cX7_repeat 43 = .ok (.iconst 0, 1) := by decide +kernel
theorem dX7_repeat_44 : decode cX7_repeat 44 = .ok (.iconst 2, 1) := by decide +kernel
theorem dX7_repeat_45 : decode cX7_repeat 45 = .ok (.invokevirtual 82, 3) := by decide +kernel
theorem dX7_repeat_48 : decode cX7_repeat 48 = .ok (.ifCond .eq 5, 3) := by decide +kernel
theorem dX7_repeat_51 : decode cX7_repeat 51 = .ok (.iconst 0, 1) := by decide +kernel
theorem dX7_repeat_52 : decode cX7_repeat 52 = .ok (.ireturn, 1) := by decide +kernel
theorem dX7_repeat_53 : decode cX7_repeat 53 = .ok (.iload_n 2, 1) := by decide +kernel
theorem dX7_repeat_54 : decode cX7_repeat 54 = .ok (.istore_n 3, 1) := by decide +kernel
theorem dX7_repeat_55 : decode cX7_repeat 55 = .ok (.iload_n 3, 1) := by decide +kernel
theorem dX7_repeat_56 : decode cX7_repeat 56 = .ok (.iload_n 2, 1) := by decide +kernel
theorem dX7_repeat_57 : decode cX7_repeat 57 = .ok (.iadd, 1) := by decide +kernel
theorem dX7_repeat_58 : decode cX7_repeat 58 = .ok (.aload_n 0, 1) := by decide +kernel
theorem dX7_repeat_59 : decode cX7_repeat 59 = .ok (.getfield 7, 3) := by decide +kernel
theorem dX7_repeat_62 : decode cX7_repeat 62 = .ok (.iload_n 1, 1) := by decide +kernel
theorem dX7_repeat_63 : decode cX7_repeat 63 = .ok (.iaload, 1) := by decide +kernel
theorem dX7_repeat_64 : decode cX7_repeat 64 = .ok (.if_icmp .ge 72, 3) := by decide +kernel
theorem dX7_repeat_67 : decode cX7_repeat 67 = .ok (.iconst 0, 1) := by decide +kernel
theorem dX7_repeat_68 : decode cX7_repeat 68 = .ok (.istore 4, 2) := by decide +kernel
theorem dX7_repeat_70 : decode cX7_repeat 70 = .ok (.iload 4, 2) := by decide +kernel
theorem dX7_repeat_72 : decode cX7_repeat 72 = .ok (.iload_n 2, 1) := by decide +kernel
theorem dX7_repeat_73 : decode cX7_repeat 73 = .ok (.iadd, 1) := by decide +kernel
theorem dX7_repeat_74 : decode cX7_repeat 74 = .ok (.iload_n 3, 1) := by decide +kernel
theorem dX7_repeat_75 : decode cX7_repeat 75 = .ok (.if_icmp .gt 55, 3) := by decide +kernel
theorem dX7_repeat_78 : decode cX7_repeat 78 = .ok (.iconst 1, 1) := by decide +kernel
theorem dX7_repeat_79 : decode cX7_repeat 79 = .ok (.istore 5, 2) := by decide +kernel
theorem dX7_repeat_81 : decode cX7_repeat 81 = .ok (.iconst 0, 1) := by decide +kernel
theorem dX7_repeat_82 : decode cX7_repeat 82 = .ok (.istore 6, 2) := by decide +kernel
theorem dX7_repeat_84 : decode cX7_repeat 84 = .ok (.iload 6, 2) := by decide +kernel
theorem dX7_repeat_86 : decode cX7_repeat 86 = .ok (.iload_n 2, 1) := by decide +kernel
theorem dX7_repeat_87 : decode cX7_repeat 87 = .ok (.if_icmp .ge 30, 3) := by decide +kernel
theorem dX7_repeat_90 : decode cX7_repeat 90 = .ok (.iload 5, 2) := by decide +kernel
theorem dX7_repeat_92 : decode cX7_repeat 92 = .ok (.ifCond .eq 25, 3) := by decide +kernel
theorem dX7_repeat_95 : decode cX7_repeat 95 = .ok (.aload_n 0, 1) := by decide +kernel
theorem dX7_repeat_96 : decode cX7_repeat 96 = .ok (.iload_n 1, 1) := by decide +kernel
theorem dX7_repeat_97 : decode cX7_repeat 97 = .ok (.iload 4, 2) := by decide +kernel
theorem dX7_repeat_99 : decode cX7_repeat 99 = .ok (.iload 6, 2) := by decide +kernel
theorem dX7_repeat_101 : decode cX7_repeat 101 = .ok (.iadd, 1) := by decide +kernel
theorem dX7_repeat_102 : decode cX7_repeat 102 = .ok (.iload_n 3, 1) := by decide +kernel
theorem dX7_repeat_103 : decode cX7_repeat 103 = .ok (.iload 6, 2) := by decide +kernel
theorem dX7_repeat_105 : decode cX7_repeat 105 = .ok (.iadd, 1) := by decide +kernel
theorem dX7_repeat_106 : decode cX7_repeat 106 = .ok (.invokevirtual 185, 3) := by decide +kernel
theorem dX7_repeat_109 : decode cX7_repeat 109 = .ok (.istore 5, 2) := by decide +kernel
theorem dX7_repeat_111 : decode cX7_repeat 111 = .ok (.iinc 6 1, 3) := by decide +kernel
theorem dX7_repeat_114 : decode cX7_repeat 114 = .ok (.goto (-30), 3) := by decide +kernel
theorem dX7_repeat_117 : decode cX7_repeat 117 = .ok (.iload 5, 2) := by decide +kernel
theorem dX7_repeat_119 : decode cX7_repeat 119 = .ok (.ifCond .eq 5, 3) := by decide +kernel
theorem dX7_repeat_122 : decode cX7_repeat 122 = .ok (.iload_n 3, 1) := by decide +kernel
theorem dX7_repeat_123 : decode cX7_repeat 123 = .ok (.ireturn, 1) := by decide +kernel
theorem dX7_repeat_124 : decode cX7_repeat 124 = .ok (.iinc 4 1, 3) := by decide +kernel
theorem dX7_repeat_127 : decode cX7_repeat 127 = .ok (.goto (-57), 3) := by decide +kernel
theorem dX7_repeat_130 : decode cX7_repeat 130 = .ok (.iinc 3 1, 3) := by decide +kernel
theorem dX7_repeat_133 : decode cX7_repeat 133 = .ok (.goto (-78), 3) := by decide +kernel
theorem dX7_repeat_136 : decode cX7_repeat 136 = .ok (.iconst (-1), 1) := by decide +kernel
theorem dX7_repeat_137 : decode cX7_repeat 137 = .ok (.ireturn, 1) := by decide +kernel
theorem dX7_sight_0 : decode cX7_sight 0 = .ok (.aload_n 0, 1) := by decide +kernel
theorem dX7_sight_1 : decode cX7_sight 1 = .ok (.iconst 0, 1) := by decide +kernel
theorem dX7_sight_2 : decode cX7_sight 2 = .ok (.putfield 72, 3) := by decide +kernel
theorem dX7_sight_5 : decode cX7_sight 5 = .ok (.aload_n 0, 1) := by decide +kernel
theorem dX7_sight_6 : decode cX7_sight 6 = .ok (.iload_n 1, 1) := by decide +kernel
theorem dX7_sight_7 : decode cX7_sight 7 = .ok (.i2l, 1) := by decide +kernel
theorem dX7_sight_8 : decode cX7_sight 8 = .ok (.lconst 0, 1) := by decide +kernel
theorem dX7_sight_9 : decode cX7_sight 9 = .ok (.ldc2_w 94, 3) := by decide +kernel
theorem dX7_sight_12 : decode cX7_sight 12 = .ok (.invokestatic 90, 3) := by decide +kernel
theorem dX7_sight_15 : decode cX7_sight 15 = .ok (.ifCond .eq 11, 3) := by decide +kernel
theorem dX7_sight_18 : decode cX7_sight 18 = .ok (.iload_n 2, 1) := by decide +kernel
theorem dX7_sight_19 : decode cX7_sight 19 = .ok (.iload_n 3, 1) := by decide +kernel
theorem dX7_sight_20 : decode cX7_sight 20 = .ok (.invokestatic 96, 3) := by decide +kernel
theorem dX7_sight_23 : decode cX7_sight 23 = .ok (.ifCond .ne 7, 3) := by decide +kernel
theorem dX7_sight_26 : decode cX7_sight 26 = .ok (.iconst 1, 1) := by decide +kernel
theorem dX7_sight_27 : decode cX7_sight 27 = .ok (.goto 4, 3) := by decide +kernel
theorem dX7_sight_30 : decode cX7_sight 30 = .ok (.iconst 0, 1) := by decide +kernel
theorem dX7_sight_31 : decode cX7_sight 31 = .ok (.iconst 1, 1) := by decide +kernel
theorem dX7_sight_32 : decode cX7_sight 32 = .ok (.invokevirtual 82, 3) := by decide +kernel
theorem dX7_sight_35 : decode cX7_sight 35 = .ok (.ifCond .ne 24, 3) := by decide +kernel
theorem dX7_sight_38 : decode cX7_sight 38 = .ok (.aload_n 0, 1) := by decide +kernel
theorem dX7_sight_39 : decode cX7_sight 39 = .ok (.aload_n 0, 1) := by decide +kernel
theorem dX7_sight_40 : decode cX7_sight 40 = .ok (.getfield 189, 3) := by decide +kernel
theorem dX7_sight_43 : decode cX7_sight 43 = .ok (.iconst 5, 1) := by decide +kernel
theorem dX7_sight_44 : decode cX7_sight 44 = .ok (.if_icmp .ne 7, 3) := by decide +kernel
theorem dX7_sight_47 : decode cX7_sight 47 = .ok (.iconst 1, 1) := by decide +kernel
theorem dX7_sight_48 : decode cX7_sight 48 = .ok (.goto 4, 3) := by decide +kernel
theorem dX7_sight_51 : decode cX7_sight 51 = .ok (.iconst 0, 1) := by decide +kernel
theorem dX7_sight_52 : decode cX7_sight 52 = .ok (.iconst 2, 1) := by decide +kernel
theorem dX7_sight_53 : decode cX7_sight 53 = .ok (.invokevirtual 82, 3) := by decide +kernel
theorem dX7_sight_56 : decode cX7_sight 56 = .ok (.ifCond .eq 5, 3) := by decide +kernel
theorem dX7_sight_59 : decode cX7_sight 59 = .ok (.iconst 0, 1) := by decide +kernel
theorem dX7_sight_60 : decode cX7_sight 60 = .ok (.ireturn, 1) := by decide +kernel
theorem dX7_sight_61 : decode cX7_sight 61 = .ok (.aload_n 0, 1) := by decide +kernel
theorem dX7_sight_62 : decode cX7_sight 62 = .ok (.getfield 59, 3) := by decide +kernel
theorem dX7_sight_65 : decode cX7_sight 65 = .ok (.aload_n 0, 1) := by decide +kernel
theorem dX7_sight_66 : decode cX7_sight 66 = .ok (.getfield 189, 3) := by decide +kernel
theorem dX7_sight_69 : decode cX7_sight 69 = .ok (.iload_n 1, 1) := by decide +kernel
theorem dX7_sight_70 : decode cX7_sight 70 = .ok (.iastore, 1) := by decide +kernel
theorem dX7_sight_71 : decode cX7_sight 71 = .ok (.aload_n 0, 1) := by decide +kernel
theorem dX7_sight_72 : decode cX7_sight 72 = .ok (.getfield 62, 3) := by decide +kernel
theorem dX7_sight_75 : decode cX7_sight 75 = .ok (.aload_n 0, 1) := by decide +kernel
theorem dX7_sight_76 : decode cX7_sight 76 = .ok (.getfield 189, 3) := by decide +kernel
theorem dX7_sight_79 : decode cX7_sight 79 = .ok (.iload_n 2, 1) := by decide +kernel
theorem dX7_sight_80 : decode cX7_sight 80 = .ok (.iastore, 1) := by decide +kernel
theorem dX7_sight_81 : decode cX7_sight 81 = .ok (.aload_n 0, 1) := by decide +kernel
theorem dX7_sight_82 : decode cX7_sight 82 = .ok (.getfield 65, 3) := by decide +kernel
theorem dX7_sight_85 : decode cX7_sight 85 = .ok (.aload_n 0, 1) := by decide +kernel
theorem dX7_sight_86 : decode cX7_sight 86 = .ok (.getfield 189, 3) := by decide +kernel
theorem dX7_sight_89 : decode cX7_sight 89 = .ok (.iload_n 3, 1) := by decide +kernel
theorem dX7_sight_90 : decode cX7_sight 90 = .ok (.iastore, 1) := by decide +kernel
theorem dX7_sight_91 : decode cX7_sight 91 = .ok (.aload_n 0, 1) := by decide +kernel
theorem dX7_sight_92 : decode cX7_sight 92 = .ok (.dup, 1) := by decide +kernel
theorem dX7_sight_93 : decode cX7_sight 93 = .ok (.getfield 189, 3) := by decide +kernel
theorem dX7_sight_96 : decode cX7_sight 96 = .ok (.iconst 1, 1) := by decide +kernel
theorem dX7_sight_97 : decode cX7_sight 97 = .ok (.iadd, 1) := by decide +kernel
theorem dX7_sight_98 : decode cX7_sight 98 = .ok (.putfield 189, 3) := by decide +kernel
theorem dX7_sight_101 : decode cX7_sight 101 = .ok (.aload_n 0, 1) := by decide +kernel
theorem dX7_sight_102 : decode cX7_sight 102 = .ok (.getfield 189, 3) := by decide +kernel
theorem dX7_sight_105 : decode cX7_sight 105 = .ok (.iconst 1, 1) := by decide +kernel
theorem dX7_sight_106 : decode cX7_sight 106 = .ok (.isub, 1) := by decide +kernel
theorem dX7_sight_107 : decode cX7_sight 107 = .ok (.ireturn, 1) := by decide +kernel
theorem dX7_size_0 : decode cX7_size 0 = .ok (.lload_n 0, 1) := by decide +kernel
theorem dX7_size_1 : decode cX7_size 1 = .ok (.lconst 0, 1) := by decide +kernel
theorem dX7_size_2 : decode cX7_size 2 = .ok (.lcmp, 1) := by decide +kernel
theorem dX7_size_3 : decode cX7_size 3 = .ok (.ifCond .ge 8, 3) := by decide +kernel
theorem dX7_size_6 : decode cX7_size 6 = .ok (.lload_n 0, 1) := by decide +kernel
theorem dX7_size_7 : decode cX7_size 7 = .ok (.lneg, 1) := by decide +kernel
theorem dX7_size_8 : decode cX7_size 8 = .ok (.goto 4, 3) := by decide +kernel
theorem dX7_size_11 : decode cX7_size 11 = .ok (.lload_n 0, 1) := by decide +kernel
theorem dX7_size_12 : decode cX7_size 12 = .ok (.lreturn, 1) := by decide +kernel
theorem dX7_weightOf_0 : decode cX7_weightOf 0 = .ok (.iconst (-1), 1) := by decide +kernel
theorem dX7_weightOf_1 : decode cX7_weightOf 1 = .ok (.istore_n 3, 1) := by decide +kernel
theorem dX7_weightOf_2 : decode cX7_weightOf 2 = .ok (.lconst 0, 1) := by decide +kernel
theorem dX7_weightOf_3 : decode cX7_weightOf 3 = .ok (.lstore 4, 2) := by decide +kernel
theorem dX7_weightOf_5 : decode cX7_weightOf 5 = .ok (.iconst 0, 1) := by decide +kernel
theorem dX7_weightOf_6 : decode cX7_weightOf 6 = .ok (.istore 6, 2) := by decide +kernel
theorem dX7_weightOf_8 : decode cX7_weightOf 8 = .ok (.iload 6, 2) := by decide +kernel
theorem dX7_weightOf_10 : decode cX7_weightOf 10 = .ok (.aload_n 0, 1) := by decide +kernel
theorem dX7_weightOf_11 : decode cX7_weightOf 11 = .ok (.getfield 7, 3) := by decide +kernel
theorem dX7_weightOf_14 : decode cX7_weightOf 14 = .ok (.iload_n 2, 1) := by decide +kernel
theorem dX7_weightOf_15 : decode cX7_weightOf 15 = .ok (.iaload, 1) := by decide +kernel
theorem dX7_weightOf_16 : decode cX7_weightOf 16 = .ok (.if_icmp .ge 65, 3) := by decide +kernel
theorem dX7_weightOf_19 : decode cX7_weightOf 19 = .ok (.aload_n 0, 1) := by decide +kernel
theorem dX7_weightOf_20 : decode cX7_weightOf 20 = .ok (.iload_n 2, 1) := by decide +kernel
theorem dX7_weightOf_21 : decode cX7_weightOf 21 = .ok (.aload_n 0, 1) := by decide +kernel
theorem dX7_weightOf_22 : decode cX7_weightOf 22 = .ok (.getfield 16, 3) := by decide +kernel
theorem dX7_weightOf_25 : decode cX7_weightOf 25 = .ok (.bipush 60, 2) := by decide +kernel
theorem dX7_weightOf_27 : decode cX7_weightOf 27 = .ok (.iload_n 2, 1) := by decide +kernel
theorem dX7_weightOf_28 : decode cX7_weightOf 28 = .ok (.imul, 1) := by decide +kernel
theorem dX7_weightOf_29 : decode cX7_weightOf 29 = .ok (.iload 6, 2) := by decide +kernel
theorem dX7_weightOf_31 : decode cX7_weightOf 31 = .ok (.iadd, 1) := by decide +kernel
theorem dX7_weightOf_32 : decode cX7_weightOf 32 = .ok (.iaload, 1) := by decide +kernel
theorem dX7_weightOf_33 : decode cX7_weightOf 33 = .ok (.invokevirtual 115, 3) := by decide +kernel
theorem dX7_weightOf_36 : decode cX7_weightOf 36 = .ok (.i2l, 1) := by decide +kernel
theorem dX7_weightOf_37 : decode cX7_weightOf 37 = .ok (.aload_n 0, 1) := by decide +kernel
theorem dX7_weightOf_38 : decode cX7_weightOf 38 = .ok (.getfield 59, 3) := by decide +kernel
theorem dX7_weightOf_41 : decode cX7_weightOf 41 = .ok (.iload_n 1, 1) := by decide +kernel
theorem dX7_weightOf_42 : decode cX7_weightOf 42 = .ok (.iaload, 1) := by decide +kernel
theorem dX7_weightOf_43 : decode cX7_weightOf 43 = .ok (.i2l, 1) := by decide +kernel
theorem dX7_weightOf_44 : decode cX7_weightOf 44 = .ok (.lsub, 1) := by decide +kernel
theorem dX7_weightOf_45 : decode cX7_weightOf 45 = .ok (.invokestatic 192, 3) := by decide +kernel
theorem dX7_weightOf_48 : decode cX7_weightOf 48 = .ok (.lstore 7, 2) := by decide +kernel
theorem dX7_weightOf_50 : decode cX7_weightOf 50 = .ok (.iload_n 3, 1) := by decide +kernel
theorem dX7_weightOf_51 : decode cX7_weightOf 51 = .ok (.iconst (-1), 1) := by decide +kernel
theorem dX7_weightOf_52 : decode cX7_weightOf 52 = .ok (.if_icmp .eq 11, 3) := by decide +kernel
theorem dX7_weightOf_55 : decode cX7_weightOf 55 = .ok (.lload 7, 2) := by decide +kernel
theorem dX7_weightOf_57 : decode cX7_weightOf 57 = .ok (.lload 4, 2) := by decide +kernel
theorem dX7_weightOf_59 : decode cX7_weightOf 59 = .ok (.lcmp, 1) := by decide +kernel
theorem dX7_weightOf_60 : decode cX7_weightOf 60 = .ok (.ifCond .ge 15, 3) := by decide +kernel
theorem dX7_weightOf_63 : decode cX7_weightOf 63 = .ok (.bipush 60, 2) := by decide +kernel
theorem dX7_weightOf_65 : decode cX7_weightOf 65 = .ok (.iload_n 2, 1) := by decide +kernel
theorem dX7_weightOf_66 : decode cX7_weightOf 66 = .ok (.imul, 1) := by decide +kernel
theorem dX7_weightOf_67 : decode cX7_weightOf 67 = .ok (.iload 6, 2) := by decide +kernel
theorem dX7_weightOf_69 : decode cX7_weightOf 69 = .ok (.iadd, 1) := by decide +kernel
theorem dX7_weightOf_70 : decode cX7_weightOf 70 = .ok (.istore_n 3, 1) := by decide +kernel
theorem dX7_weightOf_71 : decode cX7_weightOf 71 = .ok (.lload 7, 2) := by decide +kernel
theorem dX7_weightOf_73 : decode cX7_weightOf 73 = .ok (.lstore 4, 2) := by decide +kernel
theorem dX7_weightOf_75 : decode cX7_weightOf 75 = .ok (.iinc 6 1, 3) := by decide +kernel
theorem dX7_weightOf_78 : decode cX7_weightOf 78 = .ok (.goto (-70), 3) := by decide +kernel
theorem dX7_weightOf_81 : decode cX7_weightOf 81 = .ok (.iload_n 3, 1) := by decide +kernel
theorem dX7_weightOf_82 : decode cX7_weightOf 82 = .ok (.iconst (-1), 1) := by decide +kernel
theorem dX7_weightOf_83 : decode cX7_weightOf 83 = .ok (.if_icmp .ne 9, 3) := by decide +kernel
theorem dX7_weightOf_86 : decode cX7_weightOf 86 = .ok (.ldc2_w 195, 3) := by decide +kernel
theorem dX7_weightOf_89 : decode cX7_weightOf 89 = .ok (.goto 34, 3) := by decide +kernel
theorem dX7_weightOf_92 : decode cX7_weightOf 92 = .ok (.aload_n 0, 1) := by decide +kernel
theorem dX7_weightOf_93 : decode cX7_weightOf 93 = .ok (.getfield 19, 3) := by decide +kernel
theorem dX7_weightOf_96 : decode cX7_weightOf 96 = .ok (.iload_n 3, 1) := by decide +kernel
theorem dX7_weightOf_97 : decode cX7_weightOf 97 = .ok (.iaload, 1) := by decide +kernel
theorem dX7_weightOf_98 : decode cX7_weightOf 98 = .ok (.aload_n 0, 1) := by decide +kernel
theorem dX7_weightOf_99 : decode cX7_weightOf 99 = .ok (.getfield 62, 3) := by decide +kernel
theorem dX7_weightOf_102 : decode cX7_weightOf 102 = .ok (.iload_n 1, 1) := by decide +kernel
theorem dX7_weightOf_103 : decode cX7_weightOf 103 = .ok (.iaload, 1) := by decide +kernel
theorem dX7_weightOf_104 : decode cX7_weightOf 104 = .ok (.isub, 1) := by decide +kernel
theorem dX7_weightOf_105 : decode cX7_weightOf 105 = .ok (.i2l, 1) := by decide +kernel
theorem dX7_weightOf_106 : decode cX7_weightOf 106 = .ok (.aload_n 0, 1) := by decide +kernel
theorem dX7_weightOf_107 : decode cX7_weightOf 107 = .ok (.getfield 22, 3) := by decide +kernel
theorem dX7_weightOf_110 : decode cX7_weightOf 110 = .ok (.iload_n 3, 1) := by decide +kernel
theorem dX7_weightOf_111 : decode cX7_weightOf 111 = .ok (.iaload, 1) := by decide +kernel
theorem dX7_weightOf_112 : decode cX7_weightOf 112 = .ok (.aload_n 0, 1) := by decide +kernel
theorem dX7_weightOf_113 : decode cX7_weightOf 113 = .ok (.getfield 65, 3) := by decide +kernel
theorem dX7_weightOf_116 : decode cX7_weightOf 116 = .ok (.iload_n 1, 1) := by decide +kernel
theorem dX7_weightOf_117 : decode cX7_weightOf 117 = .ok (.iaload, 1) := by decide +kernel
theorem dX7_weightOf_118 : decode cX7_weightOf 118 = .ok (.isub, 1) := by decide +kernel
theorem dX7_weightOf_119 : decode cX7_weightOf 119 = .ok (.i2l, 1) := by decide +kernel
theorem dX7_weightOf_120 : decode cX7_weightOf 120 = .ok (.invokestatic 124, 3) := by decide +kernel
theorem dX7_weightOf_123 : decode cX7_weightOf 123 = .ok (.lreturn, 1) := by decide +kernel
theorem dX7_weight_0 : decode cX7_weight 0 = .ok (.aload_n 0, 1) := by decide +kernel
theorem dX7_weight_1 : decode cX7_weight 1 = .ok (.iconst 0, 1) := by decide +kernel
theorem dX7_weight_2 : decode cX7_weight 2 = .ok (.putfield 72, 3) := by decide +kernel
theorem dX7_weight_5 : decode cX7_weight 5 = .ok (.aload_n 0, 1) := by decide +kernel
theorem dX7_weight_6 : decode cX7_weight 6 = .ok (.iload_n 1, 1) := by decide +kernel
theorem dX7_weight_7 : decode cX7_weight 7 = .ok (.ifCond .lt 19, 3) := by decide +kernel
theorem dX7_weight_10 : decode cX7_weight 10 = .ok (.iload_n 1, 1) := by decide +kernel
theorem dX7_weight_11 : decode cX7_weight 11 = .ok (.aload_n 0, 1) := by decide +kernel
theorem dX7_weight_12 : decode cX7_weight 12 = .ok (.getfield 189, 3) := by decide +kernel
theorem dX7_weight_15 : decode cX7_weight 15 = .ok (.if_icmp .ge 11, 3) := by decide +kernel
theorem dX7_weight_18 : decode cX7_weight 18 = .ok (.aload_n 0, 1) := by decide +kernel
theorem dX7_weight_19 : decode cX7_weight 19 = .ok (.iload_n 2, 1) := by decide +kernel
theorem dX7_weight_20 : decode cX7_weight 20 = .ok (.invokevirtual 78, 3) := by decide +kernel
theorem dX7_weight_23 : decode cX7_weight 23 = .ok (.ifCond .ne 7, 3) := by decide +kernel
theorem dX7_weight_26 : decode cX7_weight 26 = .ok (.iconst 1, 1) := by decide +kernel
theorem dX7_weight_27 : decode cX7_weight 27 = .ok (.goto 4, 3) := by decide +kernel
theorem dX7_weight_30 : decode cX7_weight 30 = .ok (.iconst 0, 1) := by decide +kernel
theorem dX7_weight_31 : decode cX7_weight 31 = .ok (.iconst 1, 1) := by decide +kernel
theorem dX7_weight_32 : decode cX7_weight 32 = .ok (.invokevirtual 82, 3) := by decide +kernel
theorem dX7_weight_35 : decode cX7_weight 35 = .ok (.ifCond .eq 5, 3) := by decide +kernel
theorem dX7_weight_38 : decode cX7_weight 38 = .ok (.lconst 0, 1) := by decide +kernel
theorem dX7_weight_39 : decode cX7_weight 39 = .ok (.lreturn, 1) := by decide +kernel
theorem dX7_weight_40 : decode cX7_weight 40 = .ok (.aload_n 0, 1) := by decide +kernel
theorem dX7_weight_41 : decode cX7_weight 41 = .ok (.iload_n 1, 1) := by decide +kernel
theorem dX7_weight_42 : decode cX7_weight 42 = .ok (.iload_n 2, 1) := by decide +kernel
theorem dX7_weight_43 : decode cX7_weight 43 = .ok (.invokevirtual 197, 3) := by decide +kernel
theorem dX7_weight_46 : decode cX7_weight 46 = .ok (.lreturn, 1) := by decide +kernel
theorem dX7_digit_0 : decode cX7_digit 0 = .ok (.iload_n 1, 1) := by decide +kernel
theorem dX7_digit_1 : decode cX7_digit 1 = .ok (.istore_n 3, 1) := by decide +kernel
theorem dX7_digit_2 : decode cX7_digit 2 = .ok (.aload_n 0, 1) := by decide +kernel
theorem dX7_digit_3 : decode cX7_digit 3 = .ok (.getfield 189, 3) := by decide +kernel
theorem dX7_digit_6 : decode cX7_digit 6 = .ok (.iconst 1, 1) := by decide +kernel
theorem dX7_digit_7 : decode cX7_digit 7 = .ok (.isub, 1) := by decide +kernel
theorem dX7_digit_8 : decode cX7_digit 8 = .ok (.istore 4, 2) := by decide +kernel
theorem dX7_digit_10 : decode cX7_digit 10 = .ok (.iload 4, 2) := by decide +kernel
theorem dX7_digit_12 : decode cX7_digit 12 = .ok (.iload_n 2, 1) := by decide +kernel
theorem dX7_digit_13 : decode cX7_digit 13 = .ok (.if_icmp .le 14, 3) := by decide +kernel
theorem dX7_digit_16 : decode cX7_digit 16 = .ok (.iload_n 3, 1) := by decide +kernel
theorem dX7_digit_17 : decode cX7_digit 17 = .ok (.bipush 6, 2) := by decide +kernel
theorem dX7_digit_19 : decode cX7_digit 19 = .ok (.idiv, 1) := by decide +kernel
theorem dX7_digit_20 : decode cX7_digit 20 = .ok (.istore_n 3, 1) := by decide +kernel
theorem dX7_digit_21 : decode cX7_digit 21 = .ok (.iinc 4 (-1), 3) := by decide +kernel
theorem dX7_digit_24 : decode cX7_digit 24 = .ok (.goto (-14), 3) := by decide +kernel
theorem dX7_digit_27 : decode cX7_digit 27 = .ok (.iload_n 3, 1) := by decide +kernel
theorem dX7_digit_28 : decode cX7_digit 28 = .ok (.bipush 6, 2) := by decide +kernel
theorem dX7_digit_30 : decode cX7_digit 30 = .ok (.irem, 1) := by decide +kernel
theorem dX7_digit_31 : decode cX7_digit 31 = .ok (.ireturn, 1) := by decide +kernel
theorem dX7_findWay_0 : decode cX7_findWay 0 = .ok (.iconst 0, 1) := by decide +kernel
theorem dX7_findWay_1 : decode cX7_findWay 1 = .ok (.istore_n 1, 1) := by decide +kernel
theorem dX7_findWay_2 : decode cX7_findWay 2 = .ok (.iload_n 1, 1) := by decide +kernel
theorem dX7_findWay_3 : decode cX7_findWay 3 = .ok (.aload_n 0, 1) := by decide +kernel
theorem dX7_findWay_4 : decode cX7_findWay 4 = .ok (.getfield 189, 3) := by decide +kernel
theorem dX7_findWay_7 : decode cX7_findWay 7 = .ok (.if_icmp .ge 41, 3) := by decide +kernel
theorem dX7_findWay_10 : decode cX7_findWay 10 = .ok (.iconst 0, 1) := by decide +kernel
theorem dX7_findWay_11 : decode cX7_findWay 11 = .ok (.istore_n 2, 1) := by decide +kernel
theorem dX7_findWay_12 : decode cX7_findWay 12 = .ok (.iload_n 2, 1) := by decide +kernel
theorem dX7_findWay_13 : decode cX7_findWay 13 = .ok (.aload_n 0, 1) := by decide +kernel
theorem dX7_findWay_14 : decode cX7_findWay 14 = .ok (.getfield 75, 3) := by decide +kernel
theorem dX7_findWay_17 : decode cX7_findWay 17 = .ok (.if_icmp .ge 25, 3) := by decide +kernel
theorem dX7_findWay_20 : decode cX7_findWay 20 = .ok (.aload_n 0, 1) := by decide +kernel
theorem dX7_findWay_21 : decode cX7_findWay 21 = .ok (.getfield 68, 3) := by decide +kernel
theorem dX7_findWay_24 : decode cX7_findWay 24 = .ok (.iconst 5, 1) := by decide +kernel
theorem dX7_findWay_25 : decode cX7_findWay 25 = .ok (.iload_n 1, 1) := by decide +kernel
theorem dX7_findWay_26 : decode cX7_findWay 26 = .ok (.imul, 1) := by decide +kernel
theorem dX7_findWay_27 : decode cX7_findWay 27 = .ok (.iload_n 2, 1) := by decide +kernel
theorem dX7_findWay_28 : decode cX7_findWay 28 = .ok (.iadd, 1) := by decide +kernel
theorem dX7_findWay_29 : decode cX7_findWay 29 = .ok (.aload_n 0, 1) := by decide +kernel
theorem dX7_findWay_30 : decode cX7_findWay 30 = .ok (.iload_n 1, 1) := by decide +kernel
theorem dX7_findWay_31 : decode cX7_findWay 31 = .ok (.iload_n 2, 1) := by decide +kernel
theorem dX7_findWay_32 : decode cX7_findWay 32 = .ok (.invokevirtual 197, 3) := by decide +kernel
theorem dX7_findWay_35 : decode cX7_findWay 35 = .ok (.lastore, 1) := by decide +kernel
theorem dX7_findWay_36 : decode cX7_findWay 36 = .ok (.iinc 2 1, 3) := by decide +kernel
theorem dX7_findWay_39 : decode cX7_findWay 39 = .ok (.goto (-27), 3) := by decide +kernel
theorem dX7_findWay_42 : decode cX7_findWay 42 = .ok (.iinc 1 1, 3) := by decide +kernel
theorem dX7_findWay_45 : decode cX7_findWay 45 = .ok (.goto (-43), 3) := by decide +kernel
theorem dX7_findWay_48 : decode cX7_findWay 48 = .ok (.iconst 1, 1) := by decide +kernel
theorem dX7_findWay_49 : decode cX7_findWay 49 = .ok (.istore_n 1, 1) := by decide +kernel
theorem dX7_findWay_50 : decode cX7_findWay 50 = .ok (.iconst 0, 1) := by decide +kernel
theorem dX7_findWay_51 : decode cX7_findWay 51 = .ok (.istore_n 2, 1) := by decide +kernel
theorem dX7_findWay_52 : decode cX7_findWay 52 = .ok (.iload_n 2, 1) := by decide +kernel
theorem dX7_findWay_53 : decode cX7_findWay 53 = .ok (.aload_n 0, 1) := by decide +kernel
theorem dX7_findWay_54 : decode cX7_findWay 54 = .ok (.getfield 189, 3) := by decide +kernel
theorem dX7_findWay_57 : decode cX7_findWay 57 = .ok (.if_icmp .ge 14, 3) := by decide +kernel
theorem dX7_findWay_60 : decode cX7_findWay 60 = .ok (.bipush 6, 2) := by decide +kernel
theorem dX7_findWay_62 : decode cX7_findWay 62 = .ok (.iload_n 1, 1) := by decide +kernel
theorem dX7_findWay_63 : decode cX7_findWay 63 = .ok (.imul, 1) := by decide +kernel
theorem dX7_findWay_64 : decode cX7_findWay 64 = .ok (.istore_n 1, 1) := by decide +kernel
theorem dX7_findWay_65 : decode cX7_findWay 65 = .ok (.iinc 2 1, 3) := by decide +kernel
theorem dX7_findWay_68 : decode cX7_findWay 68 = .ok (.goto (-16), 3) := by decide +kernel
theorem dX7_findWay_71 : decode cX7_findWay 71 = .ok (.iconst (-1), 1) := by decide +kernel
theorem dX7_findWay_72 : decode cX7_findWay 72 = .ok (.istore_n 2, 1) := by decide +kernel
theorem dX7_findWay_73 : decode cX7_findWay 73 = .ok (.iconst 0, 1) := by decide +kernel
theorem dX7_findWay_74 : decode cX7_findWay 74 = .ok (.istore_n 3, 1) := by decide +kernel
theorem dX7_findWay_75 : decode cX7_findWay 75 = .ok (.iload_n 3, 1) := by decide +kernel
theorem dX7_findWay_76 : decode cX7_findWay 76 = .ok (.iload_n 1, 1) := by decide +kernel
theorem dX7_findWay_77 : decode cX7_findWay 77 = .ok (.if_icmp .ge 184, 3) := by decide +kernel
theorem dX7_findWay_80 : decode cX7_findWay 80 = .ok (.iconst 0, 1) := by decide +kernel
theorem dX7_findWay_81 : decode cX7_findWay 81 = .ok (.istore 4, 2) := by decide +kernel
theorem dX7_findWay_83 : decode cX7_findWay 83 = .ok (.iconst 0, 1) := by decide +kernel
theorem dX7_findWay_84 : decode cX7_findWay 84 = .ok (.istore 5, 2) := by decide +kernel
theorem dX7_findWay_86 : decode cX7_findWay 86 = .ok (.lconst 0, 1) := by decide +kernel
theorem dX7_findWay_87 : decode cX7_findWay 87 = .ok (.lstore 6, 2) := by decide +kernel
theorem dX7_findWay_89 : decode cX7_findWay 89 = .ok (.iconst 1, 1) := by decide +kernel
theorem dX7_findWay_90 : decode cX7_findWay 90 = .ok (.istore 8, 2) := by decide +kernel
theorem dX7_findWay_92 : decode cX7_findWay 92 = .ok (.iconst 0, 1) := by decide +kernel
theorem dX7_findWay_93 : decode cX7_findWay 93 = .ok (.istore 9, 2) := by decide +kernel
theorem dX7_findWay_95 : decode cX7_findWay 95 = .ok (.iload 9, 2) := by decide +kernel
theorem dX7_findWay_97 : decode cX7_findWay 97 = .ok (.aload_n 0, 1) := by decide +kernel
theorem dX7_findWay_98 : decode cX7_findWay 98 = .ok (.getfield 189, 3) := by decide +kernel
theorem dX7_findWay_101 : decode cX7_findWay 101 = .ok (.if_icmp .ge 113, 3) := by decide +kernel
theorem dX7_findWay_104 : decode cX7_findWay 104 = .ok (.iload 8, 2) := by decide +kernel
theorem dX7_findWay_106 : decode cX7_findWay 106 = .ok (.ifCond .eq 108, 3) := by decide +kernel
theorem dX7_findWay_109 : decode cX7_findWay 109 = .ok (.aload_n 0, 1) := by decide +kernel
theorem dX7_findWay_110 : decode cX7_findWay 110 = .ok (.iload_n 3, 1) := by decide +kernel
theorem dX7_findWay_111 : decode cX7_findWay 111 = .ok (.iload 9, 2) := by decide +kernel
theorem dX7_findWay_113 : decode cX7_findWay 113 = .ok (.invokevirtual 200, 3) := by decide +kernel
theorem dX7_findWay_116 : decode cX7_findWay 116 = .ok (.istore 10, 2) := by decide +kernel
theorem dX7_findWay_118 : decode cX7_findWay 118 = .ok (.iload 10, 2) := by decide +kernel
theorem dX7_findWay_120 : decode cX7_findWay 120 = .ok (.iconst 5, 1) := by decide +kernel
theorem dX7_findWay_121 : decode cX7_findWay 121 = .ok (.if_icmp .ne 6, 3) := by decide +kernel
theorem dX7_findWay_124 : decode cX7_findWay 124 = .ok (.goto 84, 3) := by decide +kernel
theorem dX7_findWay_127 : decode cX7_findWay 127 = .ok (.iload 10, 2) := by decide +kernel
theorem dX7_findWay_129 : decode cX7_findWay 129 = .ok (.aload_n 0, 1) := by decide +kernel
theorem dX7_findWay_130 : decode cX7_findWay 130 = .ok (.getfield 75, 3) := by decide +kernel
theorem dX7_findWay_133 : decode cX7_findWay 133 = .ok (.if_icmp .ge 34, 3) := by decide +kernel
theorem dX7_findWay_136 : decode cX7_findWay 136 = .ok (.iload 4, 2) := by decide +kernel
theorem dX7_findWay_138 : decode cX7_findWay 138 = .ok (.iload 10, 2) := by decide +kernel
theorem dX7_findWay_140 : decode cX7_findWay 140 = .ok (.ishr, 1) := by decide +kernel
theorem dX7_findWay_141 : decode cX7_findWay 141 = .ok (.iconst 1, 1) := by decide +kernel
theorem dX7_findWay_142 : decode cX7_findWay 142 = .ok (.iand, 1) := by decide +kernel
theorem dX7_findWay_143 : decode cX7_findWay 143 = .ok (.ifCond .ne 24, 3) := by decide +kernel
theorem dX7_findWay_146 : decode cX7_findWay 146 = .ok (.aload_n 0, 1) := by decide +kernel
theorem dX7_findWay_147 : decode cX7_findWay 147 = .ok (.getfield 68, 3) := by decide +kernel
theorem dX7_findWay_150 : decode cX7_findWay 150 = .ok (.iconst 5, 1) := by decide +kernel
theorem dX7_findWay_151 : decode cX7_findWay 151 = .ok (.iload 9, 2) := by decide +kernel
theorem dX7_findWay_153 : decode cX7_findWay 153 = .ok (.imul, 1) := by decide +kernel
theorem dX7_findWay_154 : decode cX7_findWay 154 = .ok (.iload 10, 2) := by decide +kernel
theorem dX7_findWay_156 : decode cX7_findWay 156 = .ok (.iadd, 1) := by decide +kernel
theorem dX7_findWay_157 : decode cX7_findWay 157 = .ok (.laload, 1) := by decide +kernel
theorem dX7_findWay_158 : decode cX7_findWay 158 = .ok (.lconst 0, 1) := by decide +kernel
theorem dX7_findWay_159 : decode cX7_findWay 159 = .ok (.lcmp, 1) := by decide +kernel
theorem dX7_findWay_160 : decode cX7_findWay 160 = .ok (.ifCond .lt 7, 3) := by decide +kernel
theorem dX7_findWay_163 : decode cX7_findWay 163 = .ok (.iconst 1, 1) := by decide +kernel
theorem dX7_findWay_164 : decode cX7_findWay 164 = .ok (.goto 4, 3) := by decide +kernel
theorem dX7_findWay_167 : decode cX7_findWay 167 = .ok (.iconst 0, 1) := by decide +kernel
theorem dX7_findWay_168 : decode cX7_findWay 168 = .ok (.istore 8, 2) := by decide +kernel
theorem dX7_findWay_170 : decode cX7_findWay 170 = .ok (.iload 4, 2) := by decide +kernel
theorem dX7_findWay_172 : decode cX7_findWay 172 = .ok (.iconst 1, 1) := by decide +kernel
theorem dX7_findWay_173 : decode cX7_findWay 173 = .ok (.iload 10, 2) := by decide +kernel
theorem dX7_findWay_175 : decode cX7_findWay 175 = .ok (.ishl, 1) := by decide +kernel
theorem dX7_findWay_176 : decode cX7_findWay 176 = .ok (.ior, 1) := by decide +kernel
theorem dX7_findWay_177 : decode cX7_findWay 177 = .ok (.istore 4, 2) := by decide +kernel
theorem dX7_findWay_179 : decode cX7_findWay 179 = .ok (.iinc 5 1, 3) := by decide +kernel
theorem dX7_findWay_182 : decode cX7_findWay 182 = .ok (.lload 6, 2) := by decide +kernel
theorem dX7_findWay_184 : decode cX7_findWay 184 = .ok (.iload 8, 2) := by decide +kernel
theorem dX7_findWay_186 : decode cX7_findWay 186 = .ok (.ifCond .eq 18, 3) := by decide +kernel
theorem dX7_findWay_189 : decode cX7_findWay 189 = .ok (.aload_n 0, 1) := by decide +kernel
theorem dX7_findWay_190 : decode cX7_findWay 190 = .ok (.getfield 68, 3) := by decide +kernel
theorem dX7_findWay_193 : decode cX7_findWay 193 = .ok (.iconst 5, 1) := by decide +kernel
theorem dX7_findWay_194 : decode cX7_findWay 194 = .ok (.iload 9, 2) := by decide +kernel
theorem dX7_findWay_196 : decode cX7_findWay 196 = .ok (.imul, 1) := by decide +kernel
theorem dX7_findWay_197 : decode cX7_findWay 197 = .ok (.iload 10, 2) := by decide +kernel
theorem dX7_findWay_199 : decode cX7_findWay 199 = .ok (.iadd, 1) := by decide +kernel
theorem dX7_findWay_200 : decode cX7_findWay 200 = .ok (.laload, 1) := by decide +kernel
theorem dX7_findWay_201 : decode cX7_findWay 201 = .ok (.goto 4, 3) := by decide +kernel
theorem dX7_findWay_204 : decode cX7_findWay 204 = .ok (.lconst 0, 1) := by decide +kernel
theorem dX7_findWay_205 : decode cX7_findWay 205 = .ok (.ladd, 1) := by decide +kernel
theorem dX7_findWay_206 : decode cX7_findWay 206 = .ok (.lstore 6, 2) := by decide +kernel
theorem dX7_findWay_208 : decode cX7_findWay 208 = .ok (.iinc 9 1, 3) := by decide +kernel
theorem dX7_findWay_211 : decode cX7_findWay 211 = .ok (.goto (-116), 3) := by decide +kernel
theorem dX7_findWay_214 : decode cX7_findWay 214 = .ok (.iload 8, 2) := by decide +kernel
theorem dX7_findWay_216 : decode cX7_findWay 216 = .ok (.ifCond .eq 39, 3) := by decide +kernel
theorem dX7_findWay_219 : decode cX7_findWay 219 = .ok (.iload 5, 2) := by decide +kernel
theorem dX7_findWay_221 : decode cX7_findWay 221 = .ok (.iload_n 2, 1) := by decide +kernel
theorem dX7_findWay_222 : decode cX7_findWay 222 = .ok (.if_icmp .gt 19, 3) := by decide +kernel
theorem dX7_findWay_225 : decode cX7_findWay 225 = .ok (.iload 5, 2) := by decide +kernel
theorem dX7_findWay_227 : decode cX7_findWay 227 = .ok (.iload_n 2, 1) := by decide +kernel
theorem dX7_findWay_228 : decode cX7_findWay 228 = .ok (.if_icmp .ne 27, 3) := by decide +kernel
theorem dX7_findWay_231 : decode cX7_findWay 231 = .ok (.lload 6, 2) := by decide +kernel
theorem dX7_findWay_233 : decode cX7_findWay 233 = .ok (.aload_n 0, 1) := by decide +kernel
theorem dX7_findWay_234 : decode cX7_findWay 234 = .ok (.getfield 203, 3) := by decide +kernel
theorem dX7_findWay_237 : decode cX7_findWay 237 = .ok (.lcmp, 1) := by decide +kernel
theorem dX7_findWay_238 : decode cX7_findWay 238 = .ok (.ifCond .ge 17, 3) := by decide +kernel
theorem dX7_findWay_241 : decode cX7_findWay 241 = .ok (.iload 5, 2) := by decide +kernel
theorem dX7_findWay_243 : decode cX7_findWay 243 = .ok (.istore_n 2, 1) := by decide +kernel
theorem dX7_findWay_244 : decode cX7_findWay 244 = .ok (.aload_n 0, 1) := by decide +kernel
theorem dX7_findWay_245 : decode cX7_findWay 245 = .ok (.lload 6, 2) := by decide +kernel
theorem dX7_findWay_247 : decode cX7_findWay 247 = .ok (.putfield 203, 3) := by decide +kernel
theorem dX7_findWay_250 : decode cX7_findWay 250 = .ok (.aload_n 0, 1) := by decide +kernel
theorem dX7_findWay_251 : decode cX7_findWay 251 = .ok (.iload_n 3, 1) := by decide +kernel
theorem dX7_findWay_252 : decode cX7_findWay 252 = .ok (.putfield 207, 3) := by decide +kernel
theorem dX7_findWay_255 : decode cX7_findWay 255 = .ok (.iinc 3 1, 3) := by decide +kernel
theorem dX7_findWay_258 : decode cX7_findWay 258 = .ok (.goto (-183), 3) := by decide +kernel
theorem dX7_findWay_261 : decode cX7_findWay 261 = .ok (.return_, 1) := by decide +kernel
theorem dX7_matched_0 : decode cX7_matched 0 = .ok (.aload_n 0, 1) := by decide +kernel
theorem dX7_matched_1 : decode cX7_matched 1 = .ok (.iconst 0, 1) := by decide +kernel
theorem dX7_matched_2 : decode cX7_matched 2 = .ok (.putfield 72, 3) := by decide +kernel
theorem dX7_matched_5 : decode cX7_matched 5 = .ok (.aload_n 0, 1) := by decide +kernel
theorem dX7_matched_6 : decode cX7_matched 6 = .ok (.invokevirtual 209, 3) := by decide +kernel
theorem dX7_matched_9 : decode cX7_matched 9 = .ok (.aload_n 0, 1) := by decide +kernel
theorem dX7_matched_10 : decode cX7_matched 10 = .ok (.getfield 203, 3) := by decide +kernel
theorem dX7_matched_13 : decode cX7_matched 13 = .ok (.lreturn, 1) := by decide +kernel
theorem dX7_match_0 : decode cX7_match 0 = .ok (.aload_n 0, 1) := by decide +kernel
theorem dX7_match_1 : decode cX7_match 1 = .ok (.iconst 0, 1) := by decide +kernel
theorem dX7_match_2 : decode cX7_match 2 = .ok (.putfield 72, 3) := by decide +kernel
theorem dX7_match_5 : decode cX7_match 5 = .ok (.aload_n 0, 1) := by decide +kernel
theorem dX7_match_6 : decode cX7_match 6 = .ok (.iload_n 1, 1) := by decide +kernel
theorem dX7_match_7 : decode cX7_match 7 = .ok (.ifCond .lt 11, 3) := by decide +kernel
theorem dX7_match_10 : decode cX7_match 10 = .ok (.iload_n 1, 1) := by decide +kernel
theorem dX7_match_11 : decode cX7_match 11 = .ok (.aload_n 0, 1) := by decide +kernel
theorem dX7_match_12 : decode cX7_match 12 = .ok (.getfield 189, 3) := by decide +kernel
theorem dX7_match_15 : decode cX7_match 15 = .ok (.if_icmp .lt 7, 3) := by decide +kernel
theorem dX7_match_18 : decode cX7_match 18 = .ok (.iconst 1, 1) := by decide +kernel
theorem dX7_match_19 : decode cX7_match 19 = .ok (.goto 4, 3) := by decide +kernel
theorem dX7_match_22 : decode cX7_match 22 = .ok (.iconst 0, 1) := by decide +kernel
theorem dX7_match_23 : decode cX7_match 23 = .ok (.iconst 1, 1) := by decide +kernel
theorem dX7_match_24 : decode cX7_match 24 = .ok (.invokevirtual 82, 3) := by decide +kernel
theorem dX7_match_27 : decode cX7_match 27 = .ok (.ifCond .eq 5, 3) := by decide +kernel
theorem dX7_match_30 : decode cX7_match 30 = .ok (.iconst 0, 1) := by decide +kernel
theorem dX7_match_31 : decode cX7_match 31 = .ok (.ireturn, 1) := by decide +kernel
theorem dX7_match_32 : decode cX7_match 32 = .ok (.aload_n 0, 1) := by decide +kernel
theorem dX7_match_33 : decode cX7_match 33 = .ok (.invokevirtual 209, 3) := by decide +kernel
theorem dX7_match_36 : decode cX7_match 36 = .ok (.aload_n 0, 1) := by decide +kernel
theorem dX7_match_37 : decode cX7_match 37 = .ok (.aload_n 0, 1) := by decide +kernel
theorem dX7_match_38 : decode cX7_match 38 = .ok (.getfield 207, 3) := by decide +kernel
theorem dX7_match_41 : decode cX7_match 41 = .ok (.iload_n 1, 1) := by decide +kernel
theorem dX7_match_42 : decode cX7_match 42 = .ok (.invokevirtual 200, 3) := by decide +kernel
theorem dX7_match_45 : decode cX7_match 45 = .ok (.istore_n 2, 1) := by decide +kernel
theorem dX7_match_46 : decode cX7_match 46 = .ok (.iload_n 2, 1) := by decide +kernel
theorem dX7_match_47 : decode cX7_match 47 = .ok (.iconst 5, 1) := by decide +kernel
theorem dX7_match_48 : decode cX7_match 48 = .ok (.if_icmp .ne 7, 3) := by decide +kernel
theorem dX7_match_51 : decode cX7_match 51 = .ok (.iconst (-1), 1) := by decide +kernel
theorem dX7_match_52 : decode cX7_match 52 = .ok (.goto 4, 3) := by decide +kernel
theorem dX7_match_55 : decode cX7_match 55 = .ok (.iload_n 2, 1) := by decide +kernel
theorem dX7_match_56 : decode cX7_match 56 = .ok (.ireturn, 1) := by decide +kernel
theorem dX7_told_0 : decode cX7_told 0 = .ok (.aload_n 0, 1) := by decide +kernel
theorem dX7_told_1 : decode cX7_told 1 = .ok (.iconst 0, 1) := by decide +kernel
theorem dX7_told_2 : decode cX7_told 2 = .ok (.putfield 72, 3) := by decide +kernel
theorem dX7_told_5 : decode cX7_told 5 = .ok (.aload_n 0, 1) := by decide +kernel
theorem dX7_told_6 : decode cX7_told 6 = .ok (.iload_n 1, 1) := by decide +kernel
theorem dX7_told_7 : decode cX7_told 7 = .ok (.i2l, 1) := by decide +kernel
theorem dX7_told_8 : decode cX7_told 8 = .ok (.lconst 0, 1) := by decide +kernel
theorem dX7_told_9 : decode cX7_told 9 = .ok (.ldc2_w 212, 3) := by decide +kernel
theorem dX7_told_12 : decode cX7_told 12 = .ok (.invokestatic 90, 3) := by decide +kernel
theorem dX7_told_15 : decode cX7_told 15 = .ok (.ifCond .ne 7, 3) := by decide +kernel
theorem dX7_told_18 : decode cX7_told 18 = .ok (.iconst 1, 1) := by decide +kernel
theorem dX7_told_19 : decode cX7_told 19 = .ok (.goto 4, 3) := by decide +kernel
theorem dX7_told_22 : decode cX7_told 22 = .ok (.iconst 0, 1) := by decide +kernel
theorem dX7_told_23 : decode cX7_told 23 = .ok (.iconst 1, 1) := by decide +kernel
theorem dX7_told_24 : decode cX7_told 24 = .ok (.invokevirtual 82, 3) := by decide +kernel
theorem dX7_told_27 : decode cX7_told 27 = .ok (.ifCond .eq 5, 3) := by decide +kernel
theorem dX7_told_30 : decode cX7_told 30 = .ok (.iconst 0, 1) := by decide +kernel
theorem dX7_told_31 : decode cX7_told 31 = .ok (.ireturn, 1) := by decide +kernel
theorem dX7_told_32 : decode cX7_told 32 = .ok (.iload_n 1, 1) := by decide +kernel
theorem dX7_told_33 : decode cX7_told 33 = .ok (.ifCond .ne 10, 3) := by decide +kernel
theorem dX7_told_36 : decode cX7_told 36 = .ok (.aload_n 0, 1) := by decide +kernel
theorem dX7_told_37 : decode cX7_told 37 = .ok (.getfield 75, 3) := by decide +kernel
theorem dX7_told_40 : decode cX7_told 40 = .ok (.goto 67, 3) := by decide +kernel
theorem dX7_told_43 : decode cX7_told 43 = .ok (.iload_n 1, 1) := by decide +kernel
theorem dX7_told_44 : decode cX7_told 44 = .ok (.iconst 1, 1) := by decide +kernel
theorem dX7_told_45 : decode cX7_told 45 = .ok (.if_icmp .ne 10, 3) := by decide +kernel
theorem dX7_told_48 : decode cX7_told 48 = .ok (.aload_n 0, 1) := by decide +kernel
theorem dX7_told_49 : decode cX7_told 49 = .ok (.getfield 153, 3) := by decide +kernel
theorem dX7_told_52 : decode cX7_told 52 = .ok (.goto 55, 3) := by decide +kernel
theorem dX7_told_55 : decode cX7_told 55 = .ok (.iload_n 1, 1) := by decide +kernel
theorem dX7_told_56 : decode cX7_told 56 = .ok (.iconst 2, 1) := by decide +kernel
theorem dX7_told_57 : decode cX7_told 57 = .ok (.if_icmp .ne 10, 3) := by decide +kernel
theorem dX7_told_60 : decode cX7_told 60 = .ok (.aload_n 0, 1) := by decide +kernel
theorem dX7_told_61 : decode cX7_told 61 = .ok (.getfield 189, 3) := by decide +kernel
theorem dX7_told_64 : decode cX7_told 64 = .ok (.goto 43, 3) := by decide +kernel
theorem dX7_told_67 : decode cX7_told 67 = .ok (.iload_n 1, 1) := by decide +kernel
theorem dX7_told_68 : decode cX7_told 68 = .ok (.iconst 3, 1) := by decide +kernel
theorem dX7_told_69 : decode cX7_told 69 = .ok (.if_icmp .ne 10, 3) := by decide +kernel
theorem dX7_told_72 : decode cX7_told 72 = .ok (.aload_n 0, 1) := by decide +kernel
theorem dX7_told_73 : decode cX7_told 73 = .ok (.getfield 159, 3) := by decide +kernel
theorem dX7_told_76 : decode cX7_told 76 = .ok (.goto 31, 3) := by decide +kernel
theorem dX7_told_79 : decode cX7_told 79 = .ok (.iload_n 1, 1) := by decide +kernel
theorem dX7_told_80 : decode cX7_told 80 = .ok (.iconst 4, 1) := by decide +kernel
theorem dX7_told_81 : decode cX7_told 81 = .ok (.if_icmp .ne 10, 3) := by decide +kernel
theorem dX7_told_84 : decode cX7_told 84 = .ok (.aload_n 0, 1) := by decide +kernel
theorem dX7_told_85 : decode cX7_told 85 = .ok (.getfield 168, 3) := by decide +kernel
theorem dX7_told_88 : decode cX7_told 88 = .ok (.goto 19, 3) := by decide +kernel
theorem dX7_told_91 : decode cX7_told 91 = .ok (.iload_n 1, 1) := by decide +kernel
theorem dX7_told_92 : decode cX7_told 92 = .ok (.iconst 5, 1) := by decide +kernel
theorem dX7_told_93 : decode cX7_told 93 = .ok (.if_icmp .ne 10, 3) := by decide +kernel
theorem dX7_told_96 : decode cX7_told 96 = .ok (.aload_n 0, 1) := by decide +kernel
theorem dX7_told_97 : decode cX7_told 97 = .ok (.getfield 34, 3) := by decide +kernel
theorem dX7_told_100 : decode cX7_told 100 = .ok (.goto 7, 3) := by decide +kernel
theorem dX7_told_103 : decode cX7_told 103 = .ok (.aload_n 0, 1) := by decide +kernel
theorem dX7_told_104 : decode cX7_told 104 = .ok (.getfield 38, 3) := by decide +kernel
theorem dX7_told_107 : decode cX7_told 107 = .ok (.ireturn, 1) := by decide +kernel
theorem dJ9_abs_0f7a4_0 : decode cJ9_abs_0f7a4 0 = .ok (.iload_n 0, 1) := by decide +kernel
theorem dJ9_abs_0f7a4_1 : decode cJ9_abs_0f7a4 1 = .ok (.ifCond .ge 8, 3) := by decide +kernel
theorem dJ9_abs_0f7a4_4 : decode cJ9_abs_0f7a4 4 = .ok (.iload_n 0, 1) := by decide +kernel
theorem dJ9_abs_0f7a4_5 : decode cJ9_abs_0f7a4 5 = .ok (.ineg, 1) := by decide +kernel
theorem dJ9_abs_0f7a4_6 : decode cJ9_abs_0f7a4 6 = .ok (.goto 4, 3) := by decide +kernel
theorem dJ9_abs_0f7a4_9 : decode cJ9_abs_0f7a4 9 = .ok (.iload_n 0, 1) := by decide +kernel
theorem dJ9_abs_0f7a4_10 : decode cJ9_abs_0f7a4 10 = .ok (.ireturn, 1) := by decide +kernel
theorem dJ9_max_7cf53_0 : decode cJ9_max_7cf53 0 = .ok (.iload_n 0, 1) := by decide +kernel
theorem dJ9_max_7cf53_1 : decode cJ9_max_7cf53 1 = .ok (.iload_n 1, 1) := by decide +kernel
theorem dJ9_max_7cf53_2 : decode cJ9_max_7cf53 2 = .ok (.if_icmp .lt 7, 3) := by decide +kernel
theorem dJ9_max_7cf53_5 : decode cJ9_max_7cf53 5 = .ok (.iload_n 0, 1) := by decide +kernel
theorem dJ9_max_7cf53_6 : decode cJ9_max_7cf53 6 = .ok (.goto 4, 3) := by decide +kernel
theorem dJ9_max_7cf53_9 : decode cJ9_max_7cf53 9 = .ok (.iload_n 1, 1) := by decide +kernel
theorem dJ9_max_7cf53_10 : decode cJ9_max_7cf53 10 = .ok (.ireturn, 1) := by decide +kernel
theorem dJ9_min_7cf53_0 : decode cJ9_min_7cf53 0 = .ok (.iload_n 0, 1) := by decide +kernel
theorem dJ9_min_7cf53_1 : decode cJ9_min_7cf53 1 = .ok (.iload_n 1, 1) := by decide +kernel
theorem dJ9_min_7cf53_2 : decode cJ9_min_7cf53 2 = .ok (.if_icmp .gt 7, 3) := by decide +kernel
theorem dJ9_min_7cf53_5 : decode cJ9_min_7cf53 5 = .ok (.iload_n 0, 1) := by decide +kernel
theorem dJ9_min_7cf53_6 : decode cJ9_min_7cf53 6 = .ok (.goto 4, 3) := by decide +kernel
theorem dJ9_min_7cf53_9 : decode cJ9_min_7cf53 9 = .ok (.iload_n 1, 1) := by decide +kernel
theorem dJ9_min_7cf53_10 : decode cJ9_min_7cf53 10 = .ok (.ireturn, 1) := by decide +kernel
theorem dL_device_0 : decode cL_device 0 = .ok (.aload_n 1, 1) := by decide +kernel
theorem dL_device_1 : decode cL_device 1 = .ok (.iconst 0, 1) := by decide +kernel
theorem dL_device_2 : decode cL_device 2 = .ok (.aload_n 0, 1) := by decide +kernel
theorem dL_device_3 : decode cL_device 3 = .ok (.invokevirtual 7, 3) := by decide +kernel
theorem dL_device_6 : decode cL_device 6 = .ok (.i2l, 1) := by decide +kernel
theorem dL_device_7 : decode cL_device 7 = .ok (.lastore, 1) := by decide +kernel
theorem dL_device_8 : decode cL_device 8 = .ok (.goto 6, 3) := by decide +kernel
theorem dL_device_11 : decode cL_device 11 = .ok (.astore_n 2, 1) := by decide +kernel
theorem dL_device_12 : decode cL_device 12 = .ok (.iconst 1, 1) := by decide +kernel
theorem dL_device_13 : decode cL_device 13 = .ok (.ireturn, 1) := by decide +kernel
theorem dL_device_14 : decode cL_device 14 = .ok (.iconst 0, 1) := by decide +kernel
theorem dL_device_15 : decode cL_device 15 = .ok (.ireturn, 1) := by decide +kernel
theorem dL_place_0 : decode cL_place 0 = .ok (.aload 5, 2) := by decide +kernel
theorem dL_place_2 : decode cL_place 2 = .ok (.iconst 0, 1) := by decide +kernel
theorem dL_place_3 : decode cL_place 3 = .ok (.aload_n 0, 1) := by decide +kernel
theorem dL_place_4 : decode cL_place 4 = .ok (.iload_n 1, 1) := by decide +kernel
theorem dL_place_5 : decode cL_place 5 = .ok (.iload_n 2, 1) := by decide +kernel
theorem dL_place_6 : decode cL_place 6 = .ok (.iload_n 3, 1) := by decide +kernel
theorem dL_place_7 : decode cL_place 7 = .ok (.iload 4, 2) := by decide +kernel
theorem dL_place_9 : decode cL_place 9 = .ok (.invokevirtual 15, 3) := by decide +kernel
theorem dL_place_12 : decode cL_place 12 = .ok (.i2l, 1) := by decide +kernel
theorem dL_place_13 : decode cL_place 13 = .ok (.lastore, 1) := by decide +kernel
theorem dL_place_14 : decode cL_place 14 = .ok (.goto 15, 3) := by decide +kernel
theorem dL_place_17 : decode cL_place 17 = .ok (.astore 6, 2) := by decide +kernel
theorem dL_place_19 : decode cL_place 19 = .ok (.iconst 1, 1) := by decide +kernel
theorem dL_place_20 : decode cL_place 20 = .ok (.ireturn, 1) := by decide +kernel
theorem dL_place_21 : decode cL_place 21 = .ok (.astore 6, 2) := by decide +kernel
theorem dL_place_23 : decode cL_place 23 = .ok (.iconst 2, 1) := by decide +kernel
theorem dL_place_24 : decode cL_place 24 = .ok (.ireturn, 1) := by decide +kernel
theorem dL_place_25 : decode cL_place 25 = .ok (.astore 6, 2) := by decide +kernel
theorem dL_place_27 : decode cL_place 27 = .ok (.iconst 3, 1) := by decide +kernel
theorem dL_place_28 : decode cL_place 28 = .ok (.ireturn, 1) := by decide +kernel
theorem dL_place_29 : decode cL_place 29 = .ok (.iconst 0, 1) := by decide +kernel
theorem dL_place_30 : decode cL_place 30 = .ok (.ireturn, 1) := by decide +kernel
theorem dL_has_0 : decode cL_has 0 = .ok (.aload_n 3, 1) := by decide +kernel
theorem dL_has_1 : decode cL_has 1 = .ok (.iconst 0, 1) := by decide +kernel
theorem dL_has_2 : decode cL_has 2 = .ok (.aload_n 0, 1) := by decide +kernel
theorem dL_has_3 : decode cL_has 3 = .ok (.iload_n 1, 1) := by decide +kernel
theorem dL_has_4 : decode cL_has 4 = .ok (.iload_n 2, 1) := by decide +kernel
theorem dL_has_5 : decode cL_has 5 = .ok (.invokevirtual 23, 3) := by decide +kernel
theorem dL_has_8 : decode cL_has 8 = .ok (.i2l, 1) := by decide +kernel
theorem dL_has_9 : decode cL_has 9 = .ok (.lastore, 1) := by decide +kernel
theorem dL_has_10 : decode cL_has 10 = .ok (.goto 11, 3) := by decide +kernel
theorem dL_has_13 : decode cL_has 13 = .ok (.astore 4, 2) := by decide +kernel
theorem dL_has_15 : decode cL_has 15 = .ok (.iconst 1, 1) := by decide +kernel
theorem dL_has_16 : decode cL_has 16 = .ok (.ireturn, 1) := by decide +kernel
theorem dL_has_17 : decode cL_has 17 = .ok (.astore 4, 2) := by decide +kernel
theorem dL_has_19 : decode cL_has 19 = .ok (.iconst 2, 1) := by decide +kernel
theorem dL_has_20 : decode cL_has 20 = .ok (.ireturn, 1) := by decide +kernel
theorem dL_has_21 : decode cL_has 21 = .ok (.iconst 0, 1) := by decide +kernel
theorem dL_has_22 : decode cL_has 22 = .ok (.ireturn, 1) := by decide +kernel
theorem dL_at_0 : decode cL_at 0 = .ok (.aload 4, 2) := by decide +kernel
theorem dL_at_2 : decode cL_at 2 = .ok (.iconst 0, 1) := by decide +kernel
theorem dL_at_3 : decode cL_at 3 = .ok (.aload_n 0, 1) := by decide +kernel
theorem dL_at_4 : decode cL_at 4 = .ok (.iload_n 1, 1) := by decide +kernel
theorem dL_at_5 : decode cL_at 5 = .ok (.iload_n 2, 1) := by decide +kernel
theorem dL_at_6 : decode cL_at 6 = .ok (.iload_n 3, 1) := by decide +kernel
theorem dL_at_7 : decode cL_at 7 = .ok (.invokevirtual 27, 3) := by decide +kernel
theorem dL_at_10 : decode cL_at 10 = .ok (.i2l, 1) := by decide +kernel
theorem dL_at_11 : decode cL_at 11 = .ok (.lastore, 1) := by decide +kernel
theorem dL_at_12 : decode cL_at 12 = .ok (.goto 11, 3) := by decide +kernel
theorem dL_at_15 : decode cL_at 15 = .ok (.astore 5, 2) := by decide +kernel
theorem dL_at_17 : decode cL_at 17 = .ok (.iconst 1, 1) := by decide +kernel
theorem dL_at_18 : decode cL_at 18 = .ok (.ireturn, 1) := by decide +kernel
theorem dL_at_19 : decode cL_at 19 = .ok (.astore 5, 2) := by decide +kernel
theorem dL_at_21 : decode cL_at 21 = .ok (.iconst 2, 1) := by decide +kernel
theorem dL_at_22 : decode cL_at 22 = .ok (.ireturn, 1) := by decide +kernel
theorem dL_at_23 : decode cL_at 23 = .ok (.iconst 0, 1) := by decide +kernel
theorem dL_at_24 : decode cL_at 24 = .ok (.ireturn, 1) := by decide +kernel
theorem dL_mark_0 : decode cL_mark 0 = .ok (.aload 4, 2) := by decide +kernel
theorem dL_mark_2 : decode cL_mark 2 = .ok (.iconst 0, 1) := by decide +kernel
theorem dL_mark_3 : decode cL_mark 3 = .ok (.aload_n 0, 1) := by decide +kernel
theorem dL_mark_4 : decode cL_mark 4 = .ok (.iload_n 1, 1) := by decide +kernel
theorem dL_mark_5 : decode cL_mark 5 = .ok (.iload_n 2, 1) := by decide +kernel
theorem dL_mark_6 : decode cL_mark 6 = .ok (.iload_n 3, 1) := by decide +kernel
theorem dL_mark_7 : decode cL_mark 7 = .ok (.invokevirtual 31, 3) := by decide +kernel
theorem dL_mark_10 : decode cL_mark 10 = .ok (.i2l, 1) := by decide +kernel
theorem dL_mark_11 : decode cL_mark 11 = .ok (.lastore, 1) := by decide +kernel
theorem dL_mark_12 : decode cL_mark 12 = .ok (.goto 15, 3) := by decide +kernel
theorem dL_mark_15 : decode cL_mark 15 = .ok (.astore 5, 2) := by decide +kernel
theorem dL_mark_17 : decode cL_mark 17 = .ok (.iconst 1, 1) := by decide +kernel
theorem dL_mark_18 : decode cL_mark 18 = .ok (.ireturn, 1) := by decide +kernel
theorem dL_mark_19 : decode cL_mark 19 = .ok (.astore 5, 2) := by decide +kernel
theorem dL_mark_21 : decode cL_mark 21 = .ok (.iconst 2, 1) := by decide +kernel
theorem dL_mark_22 : decode cL_mark 22 = .ok (.ireturn, 1) := by decide +kernel
theorem dL_mark_23 : decode cL_mark 23 = .ok (.astore 5, 2) := by decide +kernel
theorem dL_mark_25 : decode cL_mark 25 = .ok (.iconst 3, 1) := by decide +kernel
theorem dL_mark_26 : decode cL_mark 26 = .ok (.ireturn, 1) := by decide +kernel
theorem dL_mark_27 : decode cL_mark 27 = .ok (.iconst 0, 1) := by decide +kernel
theorem dL_mark_28 : decode cL_mark 28 = .ok (.ireturn, 1) := by decide +kernel
theorem dL_time_0 : decode cL_time 0 = .ok (.aload_n 3, 1) := by decide +kernel
theorem dL_time_1 : decode cL_time 1 = .ok (.iconst 0, 1) := by decide +kernel
theorem dL_time_2 : decode cL_time 2 = .ok (.aload_n 0, 1) := by decide +kernel
theorem dL_time_3 : decode cL_time 3 = .ok (.iload_n 1, 1) := by decide +kernel
theorem dL_time_4 : decode cL_time 4 = .ok (.iload_n 2, 1) := by decide +kernel
theorem dL_time_5 : decode cL_time 5 = .ok (.invokevirtual 34, 3) := by decide +kernel
theorem dL_time_8 : decode cL_time 8 = .ok (.i2l, 1) := by decide +kernel
theorem dL_time_9 : decode cL_time 9 = .ok (.lastore, 1) := by decide +kernel
theorem dL_time_10 : decode cL_time 10 = .ok (.goto 11, 3) := by decide +kernel
theorem dL_time_13 : decode cL_time 13 = .ok (.astore 4, 2) := by decide +kernel
theorem dL_time_15 : decode cL_time 15 = .ok (.iconst 1, 1) := by decide +kernel
theorem dL_time_16 : decode cL_time 16 = .ok (.ireturn, 1) := by decide +kernel
theorem dL_time_17 : decode cL_time 17 = .ok (.astore 4, 2) := by decide +kernel
theorem dL_time_19 : decode cL_time 19 = .ok (.iconst 2, 1) := by decide +kernel
theorem dL_time_20 : decode cL_time 20 = .ok (.ireturn, 1) := by decide +kernel
theorem dL_time_21 : decode cL_time 21 = .ok (.iconst 0, 1) := by decide +kernel
theorem dL_time_22 : decode cL_time 22 = .ok (.ireturn, 1) := by decide +kernel
theorem dL_speed_0 : decode cL_speed 0 = .ok (.aload_n 2, 1) := by decide +kernel
theorem dL_speed_1 : decode cL_speed 1 = .ok (.iconst 0, 1) := by decide +kernel
theorem dL_speed_2 : decode cL_speed 2 = .ok (.aload_n 0, 1) := by decide +kernel
theorem dL_speed_3 : decode cL_speed 3 = .ok (.iload_n 1, 1) := by decide +kernel
theorem dL_speed_4 : decode cL_speed 4 = .ok (.invokevirtual 37, 3) := by decide +kernel
theorem dL_speed_7 : decode cL_speed 7 = .ok (.i2l, 1) := by decide +kernel
theorem dL_speed_8 : decode cL_speed 8 = .ok (.lastore, 1) := by decide +kernel
theorem dL_speed_9 : decode cL_speed 9 = .ok (.goto 6, 3) := by decide +kernel
theorem dL_speed_12 : decode cL_speed 12 = .ok (.astore_n 3, 1) := by decide +kernel
theorem dL_speed_13 : decode cL_speed 13 = .ok (.iconst 1, 1) := by decide +kernel
theorem dL_speed_14 : decode cL_speed 14 = .ok (.ireturn, 1) := by decide +kernel
theorem dL_speed_15 : decode cL_speed 15 = .ok (.iconst 0, 1) := by decide +kernel
theorem dL_speed_16 : decode cL_speed 16 = .ok (.ireturn, 1) := by decide +kernel
theorem dL_limit_0 : decode cL_limit 0 = .ok (.aload_n 2, 1) := by decide +kernel
theorem dL_limit_1 : decode cL_limit 1 = .ok (.iconst 0, 1) := by decide +kernel
theorem dL_limit_2 : decode cL_limit 2 = .ok (.aload_n 0, 1) := by decide +kernel
theorem dL_limit_3 : decode cL_limit 3 = .ok (.iload_n 1, 1) := by decide +kernel
theorem dL_limit_4 : decode cL_limit 4 = .ok (.invokevirtual 41, 3) := by decide +kernel
theorem dL_limit_7 : decode cL_limit 7 = .ok (.i2l, 1) := by decide +kernel
theorem dL_limit_8 : decode cL_limit 8 = .ok (.lastore, 1) := by decide +kernel
theorem dL_limit_9 : decode cL_limit 9 = .ok (.goto 6, 3) := by decide +kernel
theorem dL_limit_12 : decode cL_limit 12 = .ok (.astore_n 3, 1) := by decide +kernel
theorem dL_limit_13 : decode cL_limit 13 = .ok (.iconst 1, 1) := by decide +kernel
theorem dL_limit_14 : decode cL_limit 14 = .ok (.ireturn, 1) := by decide +kernel
theorem dL_limit_15 : decode cL_limit 15 = .ok (.iconst 0, 1) := by decide +kernel
theorem dL_limit_16 : decode cL_limit 16 = .ok (.ireturn, 1) := by decide +kernel
theorem dL_jump_0 : decode cL_jump 0 = .ok (.aload_n 3, 1) := by decide +kernel
theorem dL_jump_1 : decode cL_jump 1 = .ok (.iconst 0, 1) := by decide +kernel
theorem dL_jump_2 : decode cL_jump 2 = .ok (.aload_n 0, 1) := by decide +kernel
theorem dL_jump_3 : decode cL_jump 3 = .ok (.iload_n 1, 1) := by decide +kernel
theorem dL_jump_4 : decode cL_jump 4 = .ok (.iload_n 2, 1) := by decide +kernel
theorem dL_jump_5 : decode cL_jump 5 = .ok (.invokevirtual 44, 3) := by decide +kernel
theorem dL_jump_8 : decode cL_jump 8 = .ok (.i2l, 1) := by decide +kernel
theorem dL_jump_9 : decode cL_jump 9 = .ok (.lastore, 1) := by decide +kernel
theorem dL_jump_10 : decode cL_jump 10 = .ok (.goto 7, 3) := by decide +kernel
theorem dL_jump_13 : decode cL_jump 13 = .ok (.astore 4, 2) := by decide +kernel
theorem dL_jump_15 : decode cL_jump 15 = .ok (.iconst 1, 1) := by decide +kernel
theorem dL_jump_16 : decode cL_jump 16 = .ok (.ireturn, 1) := by decide +kernel
theorem dL_jump_17 : decode cL_jump 17 = .ok (.iconst 0, 1) := by decide +kernel
theorem dL_jump_18 : decode cL_jump 18 = .ok (.ireturn, 1) := by decide +kernel
theorem dL_gap_0 : decode cL_gap 0 = .ok (.aload_n 3, 1) := by decide +kernel
theorem dL_gap_1 : decode cL_gap 1 = .ok (.iconst 0, 1) := by decide +kernel
theorem dL_gap_2 : decode cL_gap 2 = .ok (.aload_n 0, 1) := by decide +kernel
theorem dL_gap_3 : decode cL_gap 3 = .ok (.iload_n 1, 1) := by decide +kernel
theorem dL_gap_4 : decode cL_gap 4 = .ok (.iload_n 2, 1) := by decide +kernel
theorem dL_gap_5 : decode cL_gap 5 = .ok (.invokevirtual 47, 3) := by decide +kernel
theorem dL_gap_8 : decode cL_gap 8 = .ok (.i2l, 1) := by decide +kernel
theorem dL_gap_9 : decode cL_gap 9 = .ok (.lastore, 1) := by decide +kernel
theorem dL_gap_10 : decode cL_gap 10 = .ok (.goto 7, 3) := by decide +kernel
theorem dL_gap_13 : decode cL_gap 13 = .ok (.astore 4, 2) := by decide +kernel
theorem dL_gap_15 : decode cL_gap 15 = .ok (.iconst 1, 1) := by decide +kernel
theorem dL_gap_16 : decode cL_gap 16 = .ok (.ireturn, 1) := by decide +kernel
theorem dL_gap_17 : decode cL_gap 17 = .ok (.iconst 0, 1) := by decide +kernel
theorem dL_gap_18 : decode cL_gap 18 = .ok (.ireturn, 1) := by decide +kernel
theorem dL_could_0 : decode cL_could 0 = .ok (.aload 5, 2) := by decide +kernel
theorem dL_could_2 : decode cL_could 2 = .ok (.iconst 0, 1) := by decide +kernel
theorem dL_could_3 : decode cL_could 3 = .ok (.aload_n 0, 1) := by decide +kernel
theorem dL_could_4 : decode cL_could 4 = .ok (.iload_n 1, 1) := by decide +kernel
theorem dL_could_5 : decode cL_could 5 = .ok (.iload_n 2, 1) := by decide +kernel
theorem dL_could_6 : decode cL_could 6 = .ok (.iload_n 3, 1) := by decide +kernel
theorem dL_could_7 : decode cL_could 7 = .ok (.iload 4, 2) := by decide +kernel
theorem dL_could_9 : decode cL_could 9 = .ok (.invokevirtual 50, 3) := by decide +kernel
theorem dL_could_12 : decode cL_could 12 = .ok (.ifCond .eq 7, 3) := by decide +kernel
theorem dL_could_15 : decode cL_could 15 = .ok (.lconst 1, 1) := by decide +kernel
theorem dL_could_16 : decode cL_could 16 = .ok (.goto 4, 3) := by decide +kernel
theorem dL_could_19 : decode cL_could 19 = .ok (.lconst 0, 1) := by decide +kernel
theorem dL_could_20 : decode cL_could 20 = .ok (.lastore, 1) := by decide +kernel
theorem dL_could_21 : decode cL_could 21 = .ok (.goto 11, 3) := by decide +kernel
theorem dL_could_24 : decode cL_could 24 = .ok (.astore 6, 2) := by decide +kernel
theorem dL_could_26 : decode cL_could 26 = .ok (.iconst 1, 1) := by decide +kernel
theorem dL_could_27 : decode cL_could 27 = .ok (.ireturn, 1) := by decide +kernel
theorem dL_could_28 : decode cL_could 28 = .ok (.astore 6, 2) := by decide +kernel
theorem dL_could_30 : decode cL_could 30 = .ok (.iconst 2, 1) := by decide +kernel
theorem dL_could_31 : decode cL_could 31 = .ok (.ireturn, 1) := by decide +kernel
theorem dL_could_32 : decode cL_could 32 = .ok (.iconst 0, 1) := by decide +kernel
theorem dL_could_33 : decode cL_could 33 = .ok (.ireturn, 1) := by decide +kernel
theorem dL_fence_0 : decode cL_fence 0 = .ok (.aload_n 1, 1) := by decide +kernel
theorem dL_fence_1 : decode cL_fence 1 = .ok (.iconst 0, 1) := by decide +kernel
theorem dL_fence_2 : decode cL_fence 2 = .ok (.aload_n 0, 1) := by decide +kernel
theorem dL_fence_3 : decode cL_fence 3 = .ok (.invokevirtual 54, 3) := by decide +kernel
theorem dL_fence_6 : decode cL_fence 6 = .ok (.i2l, 1) := by decide +kernel
theorem dL_fence_7 : decode cL_fence 7 = .ok (.lastore, 1) := by decide +kernel
theorem dL_fence_8 : decode cL_fence 8 = .ok (.goto 6, 3) := by decide +kernel
theorem dL_fence_11 : decode cL_fence 11 = .ok (.astore_n 2, 1) := by decide +kernel
theorem dL_fence_12 : decode cL_fence 12 = .ok (.iconst 1, 1) := by decide +kernel
theorem dL_fence_13 : decode cL_fence 13 = .ok (.ireturn, 1) := by decide +kernel
theorem dL_fence_14 : decode cL_fence 14 = .ok (.iconst 0, 1) := by decide +kernel
theorem dL_fence_15 : decode cL_fence 15 = .ok (.ireturn, 1) := by decide +kernel
theorem dL_corner_0 : decode cL_corner 0 = .ok (.aload 4, 2) := by decide +kernel
theorem dL_corner_2 : decode cL_corner 2 = .ok (.iconst 0, 1) := by decide +kernel
theorem dL_corner_3 : decode cL_corner 3 = .ok (.aload_n 0, 1) := by decide +kernel
theorem dL_corner_4 : decode cL_corner 4 = .ok (.iload_n 1, 1) := by decide +kernel
theorem dL_corner_5 : decode cL_corner 5 = .ok (.iload_n 2, 1) := by decide +kernel
theorem dL_corner_6 : decode cL_corner 6 = .ok (.iload_n 3, 1) := by decide +kernel
theorem dL_corner_7 : decode cL_corner 7 = .ok (.invokevirtual 57, 3) := by decide +kernel
theorem dL_corner_10 : decode cL_corner 10 = .ok (.i2l, 1) := by decide +kernel
theorem dL_corner_11 : decode cL_corner 11 = .ok (.lastore, 1) := by decide +kernel
theorem dL_corner_12 : decode cL_corner 12 = .ok (.goto 15, 3) := by decide +kernel
theorem dL_corner_15 : decode cL_corner 15 = .ok (.astore 5, 2) := by decide +kernel
theorem dL_corner_17 : decode cL_corner 17 = .ok (.iconst 1, 1) := by decide +kernel
theorem dL_corner_18 : decode cL_corner 18 = .ok (.ireturn, 1) := by decide +kernel
theorem dL_corner_19 : decode cL_corner 19 = .ok (.astore 5, 2) := by decide +kernel
theorem dL_corner_21 : decode cL_corner 21 = .ok (.iconst 2, 1) := by decide +kernel
theorem dL_corner_22 : decode cL_corner 22 = .ok (.ireturn, 1) := by decide +kernel
theorem dL_corner_23 : decode cL_corner 23 = .ok (.astore 5, 2) := by decide +kernel
theorem dL_corner_25 : decode cL_corner 25 = .ok (.iconst 3, 1) := by decide +kernel
theorem dL_corner_26 : decode cL_corner 26 = .ok (.ireturn, 1) := by decide +kernel
theorem dL_corner_27 : decode cL_corner 27 = .ok (.iconst 0, 1) := by decide +kernel
theorem dL_corner_28 : decode cL_corner 28 = .ok (.ireturn, 1) := by decide +kernel
theorem dL_in_0 : decode cL_in 0 = .ok (.aload 4, 2) := by decide +kernel
theorem dL_in_2 : decode cL_in 2 = .ok (.iconst 0, 1) := by decide +kernel
theorem dL_in_3 : decode cL_in 3 = .ok (.aload_n 0, 1) := by decide +kernel
theorem dL_in_4 : decode cL_in 4 = .ok (.iload_n 1, 1) := by decide +kernel
theorem dL_in_5 : decode cL_in 5 = .ok (.iload_n 2, 1) := by decide +kernel
theorem dL_in_6 : decode cL_in 6 = .ok (.iload_n 3, 1) := by decide +kernel
theorem dL_in_7 : decode cL_in 7 = .ok (.invokevirtual 60, 3) := by decide +kernel
theorem dL_in_10 : decode cL_in 10 = .ok (.ifCond .eq 7, 3) := by decide +kernel
theorem dL_in_13 : decode cL_in 13 = .ok (.lconst 1, 1) := by decide +kernel
theorem dL_in_14 : decode cL_in 14 = .ok (.goto 4, 3) := by decide +kernel
theorem dL_in_17 : decode cL_in 17 = .ok (.lconst 0, 1) := by decide +kernel
theorem dL_in_18 : decode cL_in 18 = .ok (.lastore, 1) := by decide +kernel
theorem dL_in_19 : decode cL_in 19 = .ok (.goto 7, 3) := by decide +kernel
theorem dL_in_22 : decode cL_in 22 = .ok (.astore 5, 2) := by decide +kernel
theorem dL_in_24 : decode cL_in 24 = .ok (.iconst 1, 1) := by decide +kernel
theorem dL_in_25 : decode cL_in 25 = .ok (.ireturn, 1) := by decide +kernel
theorem dL_in_26 : decode cL_in 26 = .ok (.iconst 0, 1) := by decide +kernel
theorem dL_in_27 : decode cL_in 27 = .ok (.ireturn, 1) := by decide +kernel
theorem dL_port_0 : decode cL_port 0 = .ok (.aload_n 3, 1) := by decide +kernel
theorem dL_port_1 : decode cL_port 1 = .ok (.iconst 0, 1) := by decide +kernel
theorem dL_port_2 : decode cL_port 2 = .ok (.aload_n 0, 1) := by decide +kernel
theorem dL_port_3 : decode cL_port 3 = .ok (.iload_n 1, 1) := by decide +kernel
theorem dL_port_4 : decode cL_port 4 = .ok (.iload_n 2, 1) := by decide +kernel
theorem dL_port_5 : decode cL_port 5 = .ok (.invokevirtual 64, 3) := by decide +kernel
theorem dL_port_8 : decode cL_port 8 = .ok (.i2l, 1) := by decide +kernel
theorem dL_port_9 : decode cL_port 9 = .ok (.lastore, 1) := by decide +kernel
theorem dL_port_10 : decode cL_port 10 = .ok (.goto 7, 3) := by decide +kernel
theorem dL_port_13 : decode cL_port 13 = .ok (.astore 4, 2) := by decide +kernel
theorem dL_port_15 : decode cL_port 15 = .ok (.iconst 1, 1) := by decide +kernel
theorem dL_port_16 : decode cL_port 16 = .ok (.ireturn, 1) := by decide +kernel
theorem dL_port_17 : decode cL_port 17 = .ok (.iconst 0, 1) := by decide +kernel
theorem dL_port_18 : decode cL_port 18 = .ok (.ireturn, 1) := by decide +kernel
theorem dL_pack_0 : decode cL_pack 0 = .ok (.aload_n 2, 1) := by decide +kernel
theorem dL_pack_1 : decode cL_pack 1 = .ok (.iconst 0, 1) := by decide +kernel
theorem dL_pack_2 : decode cL_pack 2 = .ok (.aload_n 0, 1) := by decide +kernel
theorem dL_pack_3 : decode cL_pack 3 = .ok (.iload_n 1, 1) := by decide +kernel
theorem dL_pack_4 : decode cL_pack 4 = .ok (.invokevirtual 67, 3) := by decide +kernel
theorem dL_pack_7 : decode cL_pack 7 = .ok (.i2l, 1) := by decide +kernel
theorem dL_pack_8 : decode cL_pack 8 = .ok (.lastore, 1) := by decide +kernel
theorem dL_pack_9 : decode cL_pack 9 = .ok (.goto 6, 3) := by decide +kernel
theorem dL_pack_12 : decode cL_pack 12 = .ok (.astore_n 3, 1) := by decide +kernel
theorem dL_pack_13 : decode cL_pack 13 = .ok (.iconst 1, 1) := by decide +kernel
theorem dL_pack_14 : decode cL_pack 14 = .ok (.ireturn, 1) := by decide +kernel
theorem dL_pack_15 : decode cL_pack 15 = .ok (.iconst 0, 1) := by decide +kernel
theorem dL_pack_16 : decode cL_pack 16 = .ok (.ireturn, 1) := by decide +kernel
theorem dL_byteAt_0 : decode cL_byteAt 0 = .ok (.aload_n 2, 1) := by decide +kernel
theorem dL_byteAt_1 : decode cL_byteAt 1 = .ok (.iconst 0, 1) := by decide +kernel
theorem dL_byteAt_2 : decode cL_byteAt 2 = .ok (.aload_n 0, 1) := by decide +kernel
theorem dL_byteAt_3 : decode cL_byteAt 3 = .ok (.iload_n 1, 1) := by decide +kernel
theorem dL_byteAt_4 : decode cL_byteAt 4 = .ok (.invokevirtual 70, 3) := by decide +kernel
theorem dL_byteAt_7 : decode cL_byteAt 7 = .ok (.i2l, 1) := by decide +kernel
theorem dL_byteAt_8 : decode cL_byteAt 8 = .ok (.lastore, 1) := by decide +kernel
theorem dL_byteAt_9 : decode cL_byteAt 9 = .ok (.goto 6, 3) := by decide +kernel
theorem dL_byteAt_12 : decode cL_byteAt 12 = .ok (.astore_n 3, 1) := by decide +kernel
theorem dL_byteAt_13 : decode cL_byteAt 13 = .ok (.iconst 1, 1) := by decide +kernel
theorem dL_byteAt_14 : decode cL_byteAt 14 = .ok (.ireturn, 1) := by decide +kernel
theorem dL_byteAt_15 : decode cL_byteAt 15 = .ok (.iconst 0, 1) := by decide +kernel
theorem dL_byteAt_16 : decode cL_byteAt 16 = .ok (.ireturn, 1) := by decide +kernel
theorem dL_feed_0 : decode cL_feed 0 = .ok (.aload_n 2, 1) := by decide +kernel
theorem dL_feed_1 : decode cL_feed 1 = .ok (.iconst 0, 1) := by decide +kernel
theorem dL_feed_2 : decode cL_feed 2 = .ok (.aload_n 0, 1) := by decide +kernel
theorem dL_feed_3 : decode cL_feed 3 = .ok (.iload_n 1, 1) := by decide +kernel
theorem dL_feed_4 : decode cL_feed 4 = .ok (.invokevirtual 73, 3) := by decide +kernel
theorem dL_feed_7 : decode cL_feed 7 = .ok (.i2l, 1) := by decide +kernel
theorem dL_feed_8 : decode cL_feed 8 = .ok (.lastore, 1) := by decide +kernel
theorem dL_feed_9 : decode cL_feed 9 = .ok (.goto 9, 3) := by decide +kernel
theorem dL_feed_12 : decode cL_feed 12 = .ok (.astore_n 3, 1) := by decide +kernel
theorem dL_feed_13 : decode cL_feed 13 = .ok (.iconst 1, 1) := by decide +kernel
theorem dL_feed_14 : decode cL_feed 14 = .ok (.ireturn, 1) := by decide +kernel
theorem dL_feed_15 : decode cL_feed 15 = .ok (.astore_n 3, 1) := by decide +kernel
theorem dL_feed_16 : decode cL_feed 16 = .ok (.iconst 2, 1) := by decide +kernel
theorem dL_feed_17 : decode cL_feed 17 = .ok (.ireturn, 1) := by decide +kernel
theorem dL_feed_18 : decode cL_feed 18 = .ok (.iconst 0, 1) := by decide +kernel
theorem dL_feed_19 : decode cL_feed 19 = .ok (.ireturn, 1) := by decide +kernel
theorem dL_read_0 : decode cL_read 0 = .ok (.aload_n 2, 1) := by decide +kernel
theorem dL_read_1 : decode cL_read 1 = .ok (.iconst 0, 1) := by decide +kernel
theorem dL_read_2 : decode cL_read 2 = .ok (.aload_n 0, 1) := by decide +kernel
theorem dL_read_3 : decode cL_read 3 = .ok (.iload_n 1, 1) := by decide +kernel
theorem dL_read_4 : decode cL_read 4 = .ok (.invokevirtual 76, 3) := by decide +kernel
theorem dL_read_7 : decode cL_read 7 = .ok (.i2l, 1) := by decide +kernel
theorem dL_read_8 : decode cL_read 8 = .ok (.lastore, 1) := by decide +kernel
theorem dL_read_9 : decode cL_read 9 = .ok (.goto 6, 3) := by decide +kernel
theorem dL_read_12 : decode cL_read 12 = .ok (.astore_n 3, 1) := by decide +kernel
theorem dL_read_13 : decode cL_read 13 = .ok (.iconst 1, 1) := by decide +kernel
theorem dL_read_14 : decode cL_read 14 = .ok (.ireturn, 1) := by decide +kernel
theorem dL_read_15 : decode cL_read 15 = .ok (.iconst 0, 1) := by decide +kernel
theorem dL_read_16 : decode cL_read 16 = .ok (.ireturn, 1) := by decide +kernel
theorem dL_repeat_0 : decode cL_repeat 0 = .ok (.aload_n 3, 1) := by decide +kernel
theorem dL_repeat_1 : decode cL_repeat 1 = .ok (.iconst 0, 1) := by decide +kernel
theorem dL_repeat_2 : decode cL_repeat 2 = .ok (.aload_n 0, 1) := by decide +kernel
theorem dL_repeat_3 : decode cL_repeat 3 = .ok (.iload_n 1, 1) := by decide +kernel
theorem dL_repeat_4 : decode cL_repeat 4 = .ok (.iload_n 2, 1) := by decide +kernel
theorem dL_repeat_5 : decode cL_repeat 5 = .ok (.invokevirtual 79, 3) := by decide +kernel
theorem dL_repeat_8 : decode cL_repeat 8 = .ok (.i2l, 1) := by decide +kernel
theorem dL_repeat_9 : decode cL_repeat 9 = .ok (.lastore, 1) := by decide +kernel
theorem dL_repeat_10 : decode cL_repeat 10 = .ok (.goto 11, 3) := by decide +kernel
theorem dL_repeat_13 : decode cL_repeat 13 = .ok (.astore 4, 2) := by decide +kernel
theorem dL_repeat_15 : decode cL_repeat 15 = .ok (.iconst 1, 1) := by decide +kernel
theorem dL_repeat_16 : decode cL_repeat 16 = .ok (.ireturn, 1) := by decide +kernel
theorem dL_repeat_17 : decode cL_repeat 17 = .ok (.astore 4, 2) := by decide +kernel
theorem dL_repeat_19 : decode cL_repeat 19 = .ok (.iconst 2, 1) := by decide +kernel
theorem dL_repeat_20 : decode cL_repeat 20 = .ok (.ireturn, 1) := by decide +kernel
theorem dL_repeat_21 : decode cL_repeat 21 = .ok (.iconst 0, 1) := by decide +kernel
theorem dL_repeat_22 : decode cL_repeat 22 = .ok (.ireturn, 1) := by decide +kernel
theorem dL_sight_0 : decode cL_sight 0 = .ok (.aload 4, 2) := by decide +kernel
theorem dL_sight_2 : decode cL_sight 2 = .ok (.iconst 0, 1) := by decide +kernel
theorem dL_sight_3 : decode cL_sight 3 = .ok (.aload_n 0, 1) := by decide +kernel
theorem dL_sight_4 : decode cL_sight 4 = .ok (.iload_n 1, 1) := by decide +kernel
theorem dL_sight_5 : decode cL_sight 5 = .ok (.iload_n 2, 1) := by decide +kernel
theorem dL_sight_6 : decode cL_sight 6 = .ok (.iload_n 3, 1) := by decide +kernel
theorem dL_sight_7 : decode cL_sight 7 = .ok (.invokevirtual 82, 3) := by decide +kernel
theorem dL_sight_10 : decode cL_sight 10 = .ok (.i2l, 1) := by decide +kernel
theorem dL_sight_11 : decode cL_sight 11 = .ok (.lastore, 1) := by decide +kernel
theorem dL_sight_12 : decode cL_sight 12 = .ok (.goto 11, 3) := by decide +kernel
theorem dL_sight_15 : decode cL_sight 15 = .ok (.astore 5, 2) := by decide +kernel
theorem dL_sight_17 : decode cL_sight 17 = .ok (.iconst 1, 1) := by decide +kernel
theorem dL_sight_18 : decode cL_sight 18 = .ok (.ireturn, 1) := by decide +kernel
theorem dL_sight_19 : decode cL_sight 19 = .ok (.astore 5, 2) := by decide +kernel
theorem dL_sight_21 : decode cL_sight 21 = .ok (.iconst 2, 1) := by decide +kernel
theorem dL_sight_22 : decode cL_sight 22 = .ok (.ireturn, 1) := by decide +kernel
theorem dL_sight_23 : decode cL_sight 23 = .ok (.iconst 0, 1) := by decide +kernel
theorem dL_sight_24 : decode cL_sight 24 = .ok (.ireturn, 1) := by decide +kernel
theorem dL_weight_0 : decode cL_weight 0 = .ok (.aload_n 3, 1) := by decide +kernel
theorem dL_weight_1 : decode cL_weight 1 = .ok (.iconst 0, 1) := by decide +kernel
theorem dL_weight_2 : decode cL_weight 2 = .ok (.aload_n 0, 1) := by decide +kernel
theorem dL_weight_3 : decode cL_weight 3 = .ok (.iload_n 1, 1) := by decide +kernel
theorem dL_weight_4 : decode cL_weight 4 = .ok (.iload_n 2, 1) := by decide +kernel
theorem dL_weight_5 : decode cL_weight 5 = .ok (.invokevirtual 85, 3) := by decide +kernel
theorem dL_weight_8 : decode cL_weight 8 = .ok (.lastore, 1) := by decide +kernel
theorem dL_weight_9 : decode cL_weight 9 = .ok (.goto 7, 3) := by decide +kernel
theorem dL_weight_12 : decode cL_weight 12 = .ok (.astore 4, 2) := by decide +kernel
theorem dL_weight_14 : decode cL_weight 14 = .ok (.iconst 1, 1) := by decide +kernel
theorem dL_weight_15 : decode cL_weight 15 = .ok (.ireturn, 1) := by decide +kernel
theorem dL_weight_16 : decode cL_weight 16 = .ok (.iconst 0, 1) := by decide +kernel
theorem dL_weight_17 : decode cL_weight 17 = .ok (.ireturn, 1) := by decide +kernel
theorem dL_match_0 : decode cL_match 0 = .ok (.aload_n 2, 1) := by decide +kernel
theorem dL_match_1 : decode cL_match 1 = .ok (.iconst 0, 1) := by decide +kernel
theorem dL_match_2 : decode cL_match 2 = .ok (.aload_n 0, 1) := by decide +kernel
theorem dL_match_3 : decode cL_match 3 = .ok (.iload_n 1, 1) := by decide +kernel
theorem dL_match_4 : decode cL_match 4 = .ok (.invokevirtual 89, 3) := by decide +kernel
theorem dL_match_7 : decode cL_match 7 = .ok (.i2l, 1) := by decide +kernel
theorem dL_match_8 : decode cL_match 8 = .ok (.lastore, 1) := by decide +kernel
theorem dL_match_9 : decode cL_match 9 = .ok (.goto 6, 3) := by decide +kernel
theorem dL_match_12 : decode cL_match 12 = .ok (.astore_n 3, 1) := by decide +kernel
theorem dL_match_13 : decode cL_match 13 = .ok (.iconst 1, 1) := by decide +kernel
theorem dL_match_14 : decode cL_match 14 = .ok (.ireturn, 1) := by decide +kernel
theorem dL_match_15 : decode cL_match 15 = .ok (.iconst 0, 1) := by decide +kernel
theorem dL_match_16 : decode cL_match 16 = .ok (.ireturn, 1) := by decide +kernel
theorem dL_told_0 : decode cL_told 0 = .ok (.aload_n 2, 1) := by decide +kernel
theorem dL_told_1 : decode cL_told 1 = .ok (.iconst 0, 1) := by decide +kernel
theorem dL_told_2 : decode cL_told 2 = .ok (.aload_n 0, 1) := by decide +kernel
theorem dL_told_3 : decode cL_told 3 = .ok (.iload_n 1, 1) := by decide +kernel
theorem dL_told_4 : decode cL_told 4 = .ok (.invokevirtual 92, 3) := by decide +kernel
theorem dL_told_7 : decode cL_told 7 = .ok (.i2l, 1) := by decide +kernel
theorem dL_told_8 : decode cL_told 8 = .ok (.lastore, 1) := by decide +kernel
theorem dL_told_9 : decode cL_told 9 = .ok (.goto 6, 3) := by decide +kernel
theorem dL_told_12 : decode cL_told 12 = .ok (.astore_n 3, 1) := by decide +kernel
theorem dL_told_13 : decode cL_told 13 = .ok (.iconst 1, 1) := by decide +kernel
theorem dL_told_14 : decode cL_told 14 = .ok (.ireturn, 1) := by decide +kernel
theorem dL_told_15 : decode cL_told 15 = .ok (.iconst 0, 1) := by decide +kernel
theorem dL_told_16 : decode cL_told 16 = .ok (.ireturn, 1) := by decide +kernel
theorem dL_law_0 : decode cL_law 0 = .ok (.new 8, 3) := by decide +kernel
theorem dL_law_3 : decode cL_law 3 = .ok (.dup, 1) := by decide +kernel
theorem dL_law_4 : decode cL_law 4 = .ok (.invokespecial 95, 3) := by decide +kernel
theorem dL_law_7 : decode cL_law 7 = .ok (.astore_n 1, 1) := by decide +kernel
theorem dL_law_8 : decode cL_law 8 = .ok (.new 96, 3) := by decide +kernel
theorem dL_law_11 : decode cL_law 11 = .ok (.dup, 1) := by decide +kernel
theorem dL_law_12 : decode cL_law 12 = .ok (.invokespecial 98, 3) := by decide +kernel
theorem dL_law_15 : decode cL_law 15 = .ok (.astore_n 2, 1) := by decide +kernel
theorem dL_law_16 : decode cL_law 16 = .ok (.iconst 1, 1) := by decide +kernel
theorem dL_law_17 : decode cL_law 17 = .ok (.newarray .long, 2) := by decide +kernel
theorem dL_law_19 : decode cL_law 19 = .ok (.astore_n 3, 1) := by decide +kernel
theorem dL_law_20 : decode cL_law 20 = .ok (.iconst 0, 1) := by decide +kernel
theorem dL_law_21 : decode cL_law 21 = .ok (.istore 4, 2) := by decide +kernel
theorem dL_law_23 : decode cL_law 23 = .ok (.iload 4, 2) := by decide +kernel
theorem dL_law_25 : decode cL_law 25 = .ok (.aload_n 0, 1) := by decide +kernel
theorem dL_law_26 : decode cL_law 26 = .ok (.arraylength, 1) := by decide +kernel
theorem dL_law_27 : decode cL_law 27 = .ok (.iconst 5, 1) := by decide +kernel
theorem dL_law_28 : decode cL_law 28 = .ok (.isub, 1) := by decide +kernel
theorem dL_law_29 : decode cL_law 29 = .ok (.if_icmp .gt 1752, 3) := by decide +kernel
theorem dL_law_32 : decode cL_law 32 = .ok (.aload_n 0, 1) := by decide +kernel
theorem dL_law_33 : decode cL_law 33 = .ok (.iload 4, 2) := by decide +kernel
theorem dL_law_35 : decode cL_law 35 = .ok (.iaload, 1) := by decide +kernel
theorem dL_law_36 : decode cL_law 36 = .ok (.bipush 31, 2) := by decide +kernel
theorem dL_law_38 : decode cL_law 38 = .ok (.iand, 1) := by decide +kernel
theorem dL_law_39 : decode cL_law 39 = .ok (.tableswitch 1736 0 24 #[113, 157, 249, 317, 397, 477, 545, 601, 657, 725, 793, 892, 936, 1016, 1103, 1171, 1227, 1283, 1339, 1395, 1463, 1543, 1610, 1624, 1680], 113) := by decide +kernel
theorem dL_law_152 : decode cL_law 152 = .ok (.aload_n 1, 1) := by decide +kernel
theorem dL_law_153 : decode cL_law 153 = .ok (.aload_n 3, 1) := by decide +kernel
theorem dL_law_154 : decode cL_law 154 = .ok (.invokestatic 99, 3) := by decide +kernel
theorem dL_law_157 : decode cL_law 157 = .ok (.istore 5, 2) := by decide +kernel
theorem dL_law_159 : decode cL_law 159 = .ok (.aload_n 2, 1) := by decide +kernel
theorem dL_law_160 : decode cL_law 160 = .ok (.invokevirtual 104, 3) := by decide +kernel
theorem dL_law_163 : decode cL_law 163 = .ok (.istore 6, 2) := by decide +kernel
theorem dL_law_165 : decode cL_law 165 = .ok (.aload_n 2, 1) := by decide +kernel
theorem dL_law_166 : decode cL_law 166 = .ok (.invokevirtual 105, 3) := by decide +kernel
theorem dL_law_169 : decode cL_law 169 = .ok (.iload 5, 2) := by decide +kernel
theorem dL_law_171 : decode cL_law 171 = .ok (.if_icmp .eq 5, 3) := by decide +kernel
theorem dL_law_174 : decode cL_law 174 = .ok (.iconst 0, 1) := by decide +kernel
theorem dL_law_175 : decode cL_law 175 = .ok (.ireturn, 1) := by decide +kernel
theorem dL_law_176 : decode cL_law 176 = .ok (.iload 5, 2) := by decide +kernel
theorem dL_law_178 : decode cL_law 178 = .ok (.ifCond .ne 15, 3) := by decide +kernel
theorem dL_law_181 : decode cL_law 181 = .ok (.aload_n 3, 1) := by decide +kernel
theorem dL_law_182 : decode cL_law 182 = .ok (.iconst 0, 1) := by decide +kernel
theorem dL_law_183 : decode cL_law 183 = .ok (.laload, 1) := by decide +kernel
theorem dL_law_184 : decode cL_law 184 = .ok (.iload 6, 2) := by decide +kernel
theorem dL_law_186 : decode cL_law 186 = .ok (.i2l, 1) := by decide +kernel
theorem dL_law_187 : decode cL_law 187 = .ok (.lcmp, 1) := by decide +kernel
theorem dL_law_188 : decode cL_law 188 = .ok (.ifCond .eq 5, 3) := by decide +kernel
theorem dL_law_191 : decode cL_law 191 = .ok (.iconst 0, 1) := by decide +kernel
theorem dL_law_192 : decode cL_law 192 = .ok (.ireturn, 1) := by decide +kernel
theorem dL_law_193 : decode cL_law 193 = .ok (.goto 1582, 3) := by decide +kernel
theorem dL_law_196 : decode cL_law 196 = .ok (.aload_n 1, 1) := by decide +kernel
theorem dL_law_197 : decode cL_law 197 = .ok (.aload_n 0, 1) := by decide +kernel
theorem dL_law_198 : decode cL_law 198 = .ok (.iload 4, 2) := by decide +kernel
theorem dL_law_200 : decode cL_law 200 = .ok (.iconst 1, 1) := by decide +kernel
theorem dL_law_201 : decode cL_law 201 = .ok (.iadd, 1) := by decide +kernel
theorem dL_law_202 : decode cL_law 202 = .ok (.iaload, 1) := by decide +kernel
theorem dL_law_203 : decode cL_law 203 = .ok (.aload_n 0, 1) := by decide +kernel
theorem dL_law_204 : decode cL_law 204 = .ok (.iload 4, 2) := by decide +kernel
theorem dL_law_206 : decode cL_law 206 = .ok (.iconst 2, 1) := by decide +kernel
theorem dL_law_207 : decode cL_law 207 = .ok (.iadd, 1) := by decide +kernel
theorem dL_law_208 : decode cL_law 208 = .ok (.iaload, 1) := by decide +kernel
theorem dL_law_209 : decode cL_law 209 = .ok (.aload_n 0, 1) := by decide +kernel
theorem dL_law_210 : decode cL_law 210 = .ok (.iload 4, 2) := by decide +kernel
theorem dL_law_212 : decode cL_law 212 = .ok (.iconst 3, 1) := by decide +kernel
theorem dL_law_213 : decode cL_law 213 = .ok (.iadd, 1) := by decide +kernel
theorem dL_law_214 : decode cL_law 214 = .ok (.iaload, 1) := by decide +kernel
theorem dL_law_215 : decode cL_law 215 = .ok (.aload_n 0, 1) := by decide +kernel
theorem dL_law_216 : decode cL_law 216 = .ok (.iload 4, 2) := by decide +kernel
theorem dL_law_218 : decode cL_law 218 = .ok (.iconst 4, 1) := by decide +kernel
theorem dL_law_219 : decode cL_law 219 = .ok (.iadd, 1) := by decide +kernel
theorem dL_law_220 : decode cL_law 220 = .ok (.iaload, 1) := by decide +kernel
theorem dL_law_221 : decode cL_law 221 = .ok (.aload_n 3, 1) := by decide +kernel
theorem dL_law_222 : decode cL_law 222 = .ok (.invokestatic 108, 3) := by decide +kernel
theorem dL_law_225 : decode cL_law 225 = .ok (.istore 5, 2) := by decide +kernel
theorem dL_law_227 : decode cL_law 227 = .ok (.aload_n 2, 1) := by decide +kernel
theorem dL_law_228 : decode cL_law 228 = .ok (.aload_n 0, 1) := by decide +kernel
theorem dL_law_229 : decode cL_law 229 = .ok (.iload 4, 2) := by decide +kernel
theorem dL_law_231 : decode cL_law 231 = .ok (.iconst 1, 1) := by decide +kernel
theorem dL_law_232 : decode cL_law 232 = .ok (.iadd, 1) := by decide +kernel
theorem dL_law_233 : decode cL_law 233 = .ok (.iaload, 1) := by decide +kernel
theorem dL_law_234 : decode cL_law 234 = .ok (.aload_n 0, 1) := by decide +kernel
theorem dL_law_235 : decode cL_law 235 = .ok (.iload 4, 2) := by decide +kernel
theorem dL_law_237 : decode cL_law 237 = .ok (.iconst 2, 1) := by decide +kernel
theorem dL_law_238 : decode cL_law 238 = .ok (.iadd, 1) := by decide +kernel
theorem dL_law_239 : decode cL_law 239 = .ok (.iaload, 1) := by decide +kernel
theorem dL_law_240 : decode cL_law 240 = .ok (.aload_n 0, 1) := by decide +kernel
theorem dL_law_241 : decode cL_law 241 = .ok (.iload 4, 2) := by decide +kernel
theorem dL_law_243 : decode cL_law 243 = .ok (.iconst 3, 1) := by decide +kernel
theorem dL_law_244 : decode cL_law 244 = .ok (.iadd, 1) := by decide +kernel
theorem dL_law_245 : decode cL_law 245 = .ok (.iaload, 1) := by decide +kernel
theorem dL_law_246 : decode cL_law 246 = .ok (.aload_n 0, 1) := by decide +kernel
theorem dL_law_247 : decode cL_law 247 = .ok (.iload 4, 2) := by decide +kernel
theorem dL_law_249 : decode cL_law 249 = .ok (.iconst 4, 1) := by decide +kernel
theorem dL_law_250 : decode cL_law 250 = .ok (.iadd, 1) := by decide +kernel
theorem dL_law_251 : decode cL_law 251 = .ok (.iaload, 1) := by decide +kernel
theorem dL_law_252 : decode cL_law 252 = .ok (.invokevirtual 111, 3) := by decide +kernel
theorem dL_law_255 : decode cL_law 255 = .ok (.istore 6, 2) := by decide +kernel
theorem dL_law_257 : decode cL_law 257 = .ok (.aload_n 2, 1) := by decide +kernel
theorem dL_law_258 : decode cL_law 258 = .ok (.invokevirtual 105, 3) := by decide +kernel
theorem dL_law_261 : decode cL_law 261 = .ok (.iload 5, 2) := by decide +kernel
theorem dL_law_263 : decode cL_law 263 = .ok (.if_icmp .eq 5, 3) := by decide +kernel
theorem dL_law_266 : decode cL_law 266 = .ok (.iconst 0, 1) := by decide +kernel
theorem dL_law_267 : decode cL_law 267 = .ok (.ireturn, 1) := by decide +kernel
theorem dL_law_268 : decode cL_law 268 = .ok (.iload 5, 2) := by decide +kernel
theorem dL_law_270 : decode cL_law 270 = .ok (.ifCond .ne 15, 3) := by decide +kernel
theorem dL_law_273 : decode cL_law 273 = .ok (.aload_n 3, 1) := by decide +kernel
theorem dL_law_274 : decode cL_law 274 = .ok (.iconst 0, 1) := by decide +kernel
theorem dL_law_275 : decode cL_law 275 = .ok (.laload, 1) := by decide +kernel
theorem dL_law_276 : decode cL_law 276 = .ok (.iload 6, 2) := by decide +kernel
theorem dL_law_278 : decode cL_law 278 = .ok (.i2l, 1) := by decide +kernel
theorem dL_law_279 : decode cL_law 279 = .ok (.lcmp, 1) := by decide +kernel
theorem dL_law_280 : decode cL_law 280 = .ok (.ifCond .eq 5, 3) := by decide +kernel
theorem dL_law_283 : decode cL_law 283 = .ok (.iconst 0, 1) := by decide +kernel
theorem dL_law_284 : decode cL_law 284 = .ok (.ireturn, 1) := by decide +kernel
theorem dL_law_285 : decode cL_law 285 = .ok (.goto 1490, 3) := by decide +kernel
theorem dL_law_288 : decode cL_law 288 = .ok (.aload_n 1, 1) := by decide +kernel
theorem dL_law_289 : decode cL_law 289 = .ok (.aload_n 0, 1) := by decide +kernel
theorem dL_law_290 : decode cL_law 290 = .ok (.iload 4, 2) := by decide +kernel
theorem dL_law_292 : decode cL_law 292 = .ok (.iconst 1, 1) := by decide +kernel
theorem dL_law_293 : decode cL_law 293 = .ok (.iadd, 1) := by decide +kernel
theorem dL_law_294 : decode cL_law 294 = .ok (.iaload, 1) := by decide +kernel
theorem dL_law_295 : decode cL_law 295 = .ok (.aload_n 0, 1) := by decide +kernel
theorem dL_law_296 : decode cL_law 296 = .ok (.iload 4, 2) := by decide +kernel
theorem dL_law_298 : decode cL_law 298 = .ok (.iconst 2, 1) := by decide +kernel
theorem dL_law_299 : decode cL_law 299 = .ok (.iadd, 1) := by decide +kernel
theorem dL_law_300 : decode cL_law 300 = .ok (.iaload, 1) := by decide +kernel
theorem dL_law_301 : decode cL_law 301 = .ok (.aload_n 3, 1) := by decide +kernel
theorem dL_law_302 : decode cL_law 302 = .ok (.invokestatic 112, 3) := by decide +kernel
theorem dL_law_305 : decode cL_law 305 = .ok (.istore 5, 2) := by decide +kernel
theorem dL_law_307 : decode cL_law 307 = .ok (.aload_n 2, 1) := by decide +kernel
theorem dL_law_308 : decode cL_law 308 = .ok (.aload_n 0, 1) := by decide +kernel
theorem dL_law_309 : decode cL_law 309 = .ok (.iload 4, 2) := by decide +kernel
theorem dL_law_311 : decode cL_law 311 = .ok (.iconst 1, 1) := by decide +kernel
theorem dL_law_312 : decode cL_law 312 = .ok (.iadd, 1) := by decide +kernel
theorem dL_law_313 : decode cL_law 313 = .ok (.iaload, 1) := by decide +kernel
theorem dL_law_314 : decode cL_law 314 = .ok (.aload_n 0, 1) := by decide +kernel
theorem dL_law_315 : decode cL_law 315 = .ok (.iload 4, 2) := by decide +kernel
theorem dL_law_317 : decode cL_law 317 = .ok (.iconst 2, 1) := by decide +kernel
theorem dL_law_318 : decode cL_law 318 = .ok (.iadd, 1) := by decide +kernel
theorem dL_law_319 : decode cL_law 319 = .ok (.iaload, 1) := by decide +kernel
theorem dL_law_320 : decode cL_law 320 = .ok (.invokevirtual 115, 3) := by decide +kernel
theorem dL_law_323 : decode cL_law 323 = .ok (.istore 6, 2) := by decide +kernel
theorem dL_law_325 : decode cL_law 325 = .ok (.aload_n 2, 1) := by decide +kernel
theorem dL_law_326 : decode cL_law 326 = .ok (.invokevirtual 105, 3) := by decide +kernel
theorem dL_law_329 : decode cL_law 329 = .ok (.iload 5, 2) := by decide +kernel
theorem dL_law_331 : decode cL_law 331 = .ok (.if_icmp .eq 5, 3) := by decide +kernel
theorem dL_law_334 : decode cL_law 334 = .ok (.iconst 0, 1) := by decide +kernel
theorem dL_law_335 : decode cL_law 335 = .ok (.ireturn, 1) := by decide +kernel
theorem dL_law_336 : decode cL_law 336 = .ok (.iload 5, 2) := by decide +kernel
theorem dL_law_338 : decode cL_law 338 = .ok (.ifCond .ne 15, 3) := by decide +kernel
theorem dL_law_341 : decode cL_law 341 = .ok (.aload_n 3, 1) := by decide +kernel
theorem dL_law_342 : decode cL_law 342 = .ok (.iconst 0, 1) := by decide +kernel
theorem dL_law_343 : decode cL_law 343 = .ok (.laload, 1) := by decide +kernel
theorem dL_law_344 : decode cL_law 344 = .ok (.iload 6, 2) := by decide +kernel
theorem dL_law_346 : decode cL_law 346 = .ok (.i2l, 1) := by decide +kernel
theorem dL_law_347 : decode cL_law 347 = .ok (.lcmp, 1) := by decide +kernel
theorem dL_law_348 : decode cL_law 348 = .ok (.ifCond .eq 5, 3) := by decide +kernel
theorem dL_law_351 : decode cL_law 351 = .ok (.iconst 0, 1) := by decide +kernel
theorem dL_law_352 : decode cL_law 352 = .ok (.ireturn, 1) := by decide +kernel
theorem dL_law_353 : decode cL_law 353 = .ok (.goto 1422, 3) := by decide +kernel
theorem dL_law_356 : decode cL_law 356 = .ok (.aload_n 1, 1) := by decide +kernel
theorem dL_law_357 : decode cL_law 357 = .ok (.aload_n 0, 1) := by decide +kernel
theorem dL_law_358 : decode cL_law 358 = .ok (.iload 4, 2) := by decide +kernel
theorem dL_law_360 : decode cL_law 360 = .ok (.iconst 1, 1) := by decide +kernel
theorem dL_law_361 : decode cL_law 361 = .ok (.iadd, 1) := by decide +kernel
theorem dL_law_362 : decode cL_law 362 = .ok (.iaload, 1) := by decide +kernel
theorem dL_law_363 : decode cL_law 363 = .ok (.aload_n 0, 1) := by decide +kernel
theorem dL_law_364 : decode cL_law 364 = .ok (.iload 4, 2) := by decide +kernel
theorem dL_law_366 : decode cL_law 366 = .ok (.iconst 2, 1) := by decide +kernel
theorem dL_law_367 : decode cL_law 367 = .ok (.iadd, 1) := by decide +kernel
theorem dL_law_368 : decode cL_law 368 = .ok (.iaload, 1) := by decide +kernel
theorem dL_law_369 : decode cL_law 369 = .ok (.aload_n 0, 1) := by decide +kernel
theorem dL_law_370 : decode cL_law 370 = .ok (.iload 4, 2) := by decide +kernel
theorem dL_law_372 : decode cL_law 372 = .ok (.iconst 3, 1) := by decide +kernel
theorem dL_law_373 : decode cL_law 373 = .ok (.iadd, 1) := by decide +kernel
theorem dL_law_374 : decode cL_law 374 = .ok (.iaload, 1) := by decide +kernel
theorem dL_law_375 : decode cL_law 375 = .ok (.aload_n 3, 1) := by decide +kernel
theorem dL_law_376 : decode cL_law 376 = .ok (.invokestatic 116, 3) := by decide +kernel
theorem dL_law_379 : decode cL_law 379 = .ok (.istore 5, 2) := by decide +kernel
theorem dL_law_381 : decode cL_law 381 = .ok (.aload_n 2, 1) := by decide +kernel
theorem dL_law_382 : decode cL_law 382 = .ok (.aload_n 0, 1) := by decide +kernel
theorem dL_law_383 : decode cL_law 383 = .ok (.iload 4, 2) := by decide +kernel
theorem dL_law_385 : decode cL_law 385 = .ok (.iconst 1, 1) := by decide +kernel
theorem dL_law_386 : decode cL_law 386 = .ok (.iadd, 1) := by decide +kernel
theorem dL_law_387 : decode cL_law 387 = .ok (.iaload, 1) := by decide +kernel
theorem dL_law_388 : decode cL_law 388 = .ok (.aload_n 0, 1) := by decide +kernel
theorem dL_law_389 : decode cL_law 389 = .ok (.iload 4, 2) := by decide +kernel
theorem dL_law_391 : decode cL_law 391 = .ok (.iconst 2, 1) := by decide +kernel
theorem dL_law_392 : decode cL_law 392 = .ok (.iadd, 1) := by decide +kernel
theorem dL_law_393 : decode cL_law 393 = .ok (.iaload, 1) := by decide +kernel
theorem dL_law_394 : decode cL_law 394 = .ok (.aload_n 0, 1) := by decide +kernel
theorem dL_law_395 : decode cL_law 395 = .ok (.iload 4, 2) := by decide +kernel
theorem dL_law_397 : decode cL_law 397 = .ok (.iconst 3, 1) := by decide +kernel
theorem dL_law_398 : decode cL_law 398 = .ok (.iadd, 1) := by decide +kernel
theorem dL_law_399 : decode cL_law 399 = .ok (.iaload, 1) := by decide +kernel
theorem dL_law_400 : decode cL_law 400 = .ok (.invokevirtual 119, 3) := by decide +kernel
theorem dL_law_403 : decode cL_law 403 = .ok (.istore 6, 2) := by decide +kernel
theorem dL_law_405 : decode cL_law 405 = .ok (.aload_n 2, 1) := by decide +kernel
theorem dL_law_406 : decode cL_law 406 = .ok (.invokevirtual 105, 3) := by decide +kernel
theorem dL_law_409 : decode cL_law 409 = .ok (.iload 5, 2) := by decide +kernel
theorem dL_law_411 : decode cL_law 411 = .ok (.if_icmp .eq 5, 3) := by decide +kernel
theorem dL_law_414 : decode cL_law 414 = .ok (.iconst 0, 1) := by decide +kernel
theorem dL_law_415 : decode cL_law 415 = .ok (.ireturn, 1) := by decide +kernel
theorem dL_law_416 : decode cL_law 416 = .ok (.iload 5, 2) := by decide +kernel
theorem dL_law_418 : decode cL_law 418 = .ok (.ifCond .ne 15, 3) := by decide +kernel
theorem dL_law_421 : decode cL_law 421 = .ok (.aload_n 3, 1) := by decide +kernel
theorem dL_law_422 : decode cL_law 422 = .ok (.iconst 0, 1) := by decide +kernel
theorem dL_law_423 : decode cL_law 423 = .ok (.laload, 1) := by decide +kernel
theorem dL_law_424 : decode cL_law 424 = .ok (.iload 6, 2) := by decide +kernel
theorem dL_law_426 : decode cL_law 426 = .ok (.i2l, 1) := by decide +kernel
theorem dL_law_427 : decode cL_law 427 = .ok (.lcmp, 1) := by decide +kernel
theorem dL_law_428 : decode cL_law 428 = .ok (.ifCond .eq 5, 3) := by decide +kernel
theorem dL_law_431 : decode cL_law 431 = .ok (.iconst 0, 1) := by decide +kernel
theorem dL_law_432 : decode cL_law 432 = .ok (.ireturn, 1) := by decide +kernel
theorem dL_law_433 : decode cL_law 433 = .ok (.goto 1342, 3) := by decide +kernel
theorem dL_law_436 : decode cL_law 436 = .ok (.aload_n 1, 1) := by decide +kernel
theorem dL_law_437 : decode cL_law 437 = .ok (.aload_n 0, 1) := by decide +kernel
theorem dL_law_438 : decode cL_law 438 = .ok (.iload 4, 2) := by decide +kernel
theorem dL_law_440 : decode cL_law 440 = .ok (.iconst 1, 1) := by decide +kernel
theorem dL_law_441 : decode cL_law 441 = .ok (.iadd, 1) := by decide +kernel
theorem dL_law_442 : decode cL_law 442 = .ok (.iaload, 1) := by decide +kernel
theorem dL_law_443 : decode cL_law 443 = .ok (.aload_n 0, 1) := by decide +kernel
theorem dL_law_444 : decode cL_law 444 = .ok (.iload 4, 2) := by decide +kernel
theorem dL_law_446 : decode cL_law 446 = .ok (.iconst 2, 1) := by decide +kernel
theorem dL_law_447 : decode cL_law 447 = .ok (.iadd, 1) := by decide +kernel
theorem dL_law_448 : decode cL_law 448 = .ok (.iaload, 1) := by decide +kernel
theorem dL_law_449 : decode cL_law 449 = .ok (.aload_n 0, 1) := by decide +kernel
theorem dL_law_450 : decode cL_law 450 = .ok (.iload 4, 2) := by decide +kernel
theorem dL_law_452 : decode cL_law 452 = .ok (.iconst 3, 1) := by decide +kernel
theorem dL_law_453 : decode cL_law 453 = .ok (.iadd, 1) := by decide +kernel
theorem dL_law_454 : decode cL_law 454 = .ok (.iaload, 1) := by decide +kernel
theorem dL_law_455 : decode cL_law 455 = .ok (.aload_n 3, 1) := by decide +kernel
theorem dL_law_456 : decode cL_law 456 = .ok (.invokestatic 120, 3) := by decide +kernel
theorem dL_law_459 : decode cL_law 459 = .ok (.istore 5, 2) := by decide +kernel
theorem dL_law_461 : decode cL_law 461 = .ok (.aload_n 2, 1) := by decide +kernel
theorem dL_law_462 : decode cL_law 462 = .ok (.aload_n 0, 1) := by decide +kernel
theorem dL_law_463 : decode cL_law 463 = .ok (.iload 4, 2) := by decide +kernel
theorem dL_law_465 : decode cL_law 465 = .ok (.iconst 1, 1) := by decide +kernel
theorem dL_law_466 : decode cL_law 466 = .ok (.iadd, 1) := by decide +kernel
theorem dL_law_467 : decode cL_law 467 = .ok (.iaload, 1) := by decide +kernel
theorem dL_law_468 : decode cL_law 468 = .ok (.aload_n 0, 1) := by decide +kernel
theorem dL_law_469 : decode cL_law 469 = .ok (.iload 4, 2) := by decide +kernel
theorem dL_law_471 : decode cL_law 471 = .ok (.iconst 2, 1) := by decide +kernel
theorem dL_law_472 : decode cL_law 472 = .ok (.iadd, 1) := by decide +kernel
theorem dL_law_473 : decode cL_law 473 = .ok (.iaload, 1) := by decide +kernel
theorem dL_law_474 : decode cL_law 474 = .ok (.aload_n 0, 1) := by decide +kernel
theorem dL_law_475 : decode cL_law 475 = .ok (.iload 4, 2) := by decide +kernel
theorem dL_law_477 : decode cL_law 477 = .ok (.iconst 3, 1) := by decide +kernel
theorem dL_law_478 : decode cL_law 478 = .ok (.iadd, 1) := by decide +kernel
theorem dL_law_479 : decode cL_law 479 = .ok (.iaload, 1) := by decide +kernel
theorem dL_law_480 : decode cL_law 480 = .ok (.invokevirtual 122, 3) := by decide +kernel
theorem dL_law_483 : decode cL_law 483 = .ok (.istore 6, 2) := by decide +kernel
theorem dL_law_485 : decode cL_law 485 = .ok (.aload_n 2, 1) := by decide +kernel
theorem dL_law_486 : decode cL_law 486 = .ok (.invokevirtual 105, 3) := by decide +kernel
theorem dL_law_489 : decode cL_law 489 = .ok (.iload 5, 2) := by decide +kernel
theorem dL_law_491 : decode cL_law 491 = .ok (.if_icmp .eq 5, 3) := by decide +kernel
theorem dL_law_494 : decode cL_law 494 = .ok (.iconst 0, 1) := by decide +kernel
theorem dL_law_495 : decode cL_law 495 = .ok (.ireturn, 1) := by decide +kernel
theorem dL_law_496 : decode cL_law 496 = .ok (.iload 5, 2) := by decide +kernel
theorem dL_law_498 : decode cL_law 498 = .ok (.ifCond .ne 15, 3) := by decide +kernel
theorem dL_law_501 : decode cL_law 501 = .ok (.aload_n 3, 1) := by decide +kernel
theorem dL_law_502 : decode cL_law 502 = .ok (.iconst 0, 1) := by decide +kernel
theorem dL_law_503 : decode cL_law 503 = .ok (.laload, 1) := by decide +kernel
theorem dL_law_504 : decode cL_law 504 = .ok (.iload 6, 2) := by decide +kernel
theorem dL_law_506 : decode cL_law 506 = .ok (.i2l, 1) := by decide +kernel
theorem dL_law_507 : decode cL_law 507 = .ok (.lcmp, 1) := by decide +kernel
theorem dL_law_508 : decode cL_law 508 = .ok (.ifCond .eq 5, 3) := by decide +kernel
theorem dL_law_511 : decode cL_law 511 = .ok (.iconst 0, 1) := by decide +kernel
theorem dL_law_512 : decode cL_law 512 = .ok (.ireturn, 1) := by decide +kernel
theorem dL_law_513 : decode cL_law 513 = .ok (.goto 1262, 3) := by decide +kernel
theorem dL_law_516 : decode cL_law 516 = .ok (.aload_n 1, 1) := by decide +kernel
theorem dL_law_517 : decode cL_law 517 = .ok (.aload_n 0, 1) := by decide +kernel
theorem dL_law_518 : decode cL_law 518 = .ok (.iload 4, 2) := by decide +kernel
theorem dL_law_520 : decode cL_law 520 = .ok (.iconst 1, 1) := by decide +kernel
theorem dL_law_521 : decode cL_law 521 = .ok (.iadd, 1) := by decide +kernel
theorem dL_law_522 : decode cL_law 522 = .ok (.iaload, 1) := by decide +kernel
theorem dL_law_523 : decode cL_law 523 = .ok (.aload_n 0, 1) := by decide +kernel
theorem dL_law_524 : decode cL_law 524 = .ok (.iload 4, 2) := by decide +kernel
theorem dL_law_526 : decode cL_law 526 = .ok (.iconst 2, 1) := by decide +kernel
theorem dL_law_527 : decode cL_law 527 = .ok (.iadd, 1) := by decide +kernel
theorem dL_law_528 : decode cL_law 528 = .ok (.iaload, 1) := by decide +kernel
theorem dL_law_529 : decode cL_law 529 = .ok (.aload_n 3, 1) := by decide +kernel
theorem dL_law_530 : decode cL_law 530 = .ok (.invokestatic 123, 3) := by decide +kernel
theorem dL_law_533 : decode cL_law 533 = .ok (.istore 5, 2) := by decide +kernel
theorem dL_law_535 : decode cL_law 535 = .ok (.aload_n 2, 1) := by decide +kernel
theorem dL_law_536 : decode cL_law 536 = .ok (.aload_n 0, 1) := by decide +kernel
theorem dL_law_537 : decode cL_law 537 = .ok (.iload 4, 2) := by decide +kernel
theorem dL_law_539 : decode cL_law 539 = .ok (.iconst 1, 1) := by decide +kernel
theorem dL_law_540 : decode cL_law 540 = .ok (.iadd, 1) := by decide +kernel
theorem dL_law_541 : decode cL_law 541 = .ok (.iaload, 1) := by decide +kernel
theorem dL_law_542 : decode cL_law 542 = .ok (.aload_n 0, 1) := by decide +kernel
theorem dL_law_543 : decode cL_law 543 = .ok (.iload 4, 2) := by decide +kernel
theorem dL_law_545 : decode cL_law 545 = .ok (.iconst 2, 1) := by decide +kernel
theorem dL_law_546 : decode cL_law 546 = .ok (.iadd, 1) := by decide +kernel
theorem dL_law_547 : decode cL_law 547 = .ok (.iaload, 1) := by decide +kernel
theorem dL_law_548 : decode cL_law 548 = .ok (.invokevirtual 125, 3) := by decide +kernel
theorem dL_law_551 : decode cL_law 551 = .ok (.istore 6, 2) := by decide +kernel
theorem dL_law_553 : decode cL_law 553 = .ok (.aload_n 2, 1) := by decide +kernel
theorem dL_law_554 : decode cL_law 554 = .ok (.invokevirtual 105, 3) := by decide +kernel
theorem dL_law_557 : decode cL_law 557 = .ok (.iload 5, 2) := by decide +kernel
theorem dL_law_559 : decode cL_law 559 = .ok (.if_icmp .eq 5, 3) := by decide +kernel
theorem dL_law_562 : decode cL_law 562 = .ok (.iconst 0, 1) := by decide +kernel
theorem dL_law_563 : decode cL_law 563 = .ok (.ireturn, 1) := by decide +kernel
theorem dL_law_564 : decode cL_law 564 = .ok (.iload 5, 2) := by decide +kernel
theorem dL_law_566 : decode cL_law 566 = .ok (.ifCond .ne 15, 3) := by decide +kernel
theorem dL_law_569 : decode cL_law 569 = .ok (.aload_n 3, 1) := by decide +kernel
theorem dL_law_570 : decode cL_law 570 = .ok (.iconst 0, 1) := by decide +kernel
theorem dL_law_571 : decode cL_law 571 = .ok (.laload, 1) := by decide +kernel
theorem dL_law_572 : decode cL_law 572 = .ok (.iload 6, 2) := by decide +kernel
theorem dL_law_574 : decode cL_law 574 = .ok (.i2l, 1) := by decide +kernel
theorem dL_law_575 : decode cL_law 575 = .ok (.lcmp, 1) := by decide +kernel
theorem dL_law_576 : decode cL_law 576 = .ok (.ifCond .eq 5, 3) := by decide +kernel
theorem dL_law_579 : decode cL_law 579 = .ok (.iconst 0, 1) := by decide +kernel
theorem dL_law_580 : decode cL_law 580 = .ok (.ireturn, 1) := by decide +kernel
theorem dL_law_581 : decode cL_law 581 = .ok (.goto 1194, 3) := by decide +kernel
theorem dL_law_584 : decode cL_law 584 = .ok (.aload_n 1, 1) := by decide +kernel
theorem dL_law_585 : decode cL_law 585 = .ok (.aload_n 0, 1) := by decide +kernel
theorem dL_law_586 : decode cL_law 586 = .ok (.iload 4, 2) := by decide +kernel
theorem dL_law_588 : decode cL_law 588 = .ok (.iconst 1, 1) := by decide +kernel
theorem dL_law_589 : decode cL_law 589 = .ok (.iadd, 1) := by decide +kernel
theorem dL_law_590 : decode cL_law 590 = .ok (.iaload, 1) := by decide +kernel
theorem dL_law_591 : decode cL_law 591 = .ok (.aload_n 3, 1) := by decide +kernel
theorem dL_law_592 : decode cL_law 592 = .ok (.invokestatic 126, 3) := by decide +kernel
theorem dL_law_595 : decode cL_law 595 = .ok (.istore 5, 2) := by decide +kernel
theorem dL_law_597 : decode cL_law 597 = .ok (.aload_n 2, 1) := by decide +kernel
theorem dL_law_598 : decode cL_law 598 = .ok (.aload_n 0, 1) := by decide +kernel
theorem dL_law_599 : decode cL_law 599 = .ok (.iload 4, 2) := by decide +kernel
theorem dL_law_601 : decode cL_law 601 = .ok (.iconst 1, 1) := by decide +kernel
theorem dL_law_602 : decode cL_law 602 = .ok (.iadd, 1) := by decide +kernel
theorem dL_law_603 : decode cL_law 603 = .ok (.iaload, 1) := by decide +kernel
theorem dL_law_604 : decode cL_law 604 = .ok (.invokevirtual 129, 3) := by decide +kernel
theorem dL_law_607 : decode cL_law 607 = .ok (.istore 6, 2) := by decide +kernel
theorem dL_law_609 : decode cL_law 609 = .ok (.aload_n 2, 1) := by decide +kernel
theorem dL_law_610 : decode cL_law 610 = .ok (.invokevirtual 105, 3) := by decide +kernel
theorem dL_law_613 : decode cL_law 613 = .ok (.iload 5, 2) := by decide +kernel
theorem dL_law_615 : decode cL_law 615 = .ok (.if_icmp .eq 5, 3) := by decide +kernel
theorem dL_law_618 : decode cL_law 618 = .ok (.iconst 0, 1) := by decide +kernel
theorem dL_law_619 : decode cL_law 619 = .ok (.ireturn, 1) := by decide +kernel
theorem dL_law_620 : decode cL_law 620 = .ok (.iload 5, 2) := by decide +kernel
theorem dL_law_622 : decode cL_law 622 = .ok (.ifCond .ne 15, 3) := by decide +kernel
theorem dL_law_625 : decode cL_law 625 = .ok (.aload_n 3, 1) := by decide +kernel
theorem dL_law_626 : decode cL_law 626 = .ok (.iconst 0, 1) := by decide +kernel
theorem dL_law_627 : decode cL_law 627 = .ok (.laload, 1) := by decide +kernel
theorem dL_law_628 : decode cL_law 628 = .ok (.iload 6, 2) := by decide +kernel
theorem dL_law_630 : decode cL_law 630 = .ok (.i2l, 1) := by decide +kernel
theorem dL_law_631 : decode cL_law 631 = .ok (.lcmp, 1) := by decide +kernel
theorem dL_law_632 : decode cL_law 632 = .ok (.ifCond .eq 5, 3) := by decide +kernel
theorem dL_law_635 : decode cL_law 635 = .ok (.iconst 0, 1) := by decide +kernel
theorem dL_law_636 : decode cL_law 636 = .ok (.ireturn, 1) := by decide +kernel
theorem dL_law_637 : decode cL_law 637 = .ok (.goto 1138, 3) := by decide +kernel
theorem dL_law_640 : decode cL_law 640 = .ok (.aload_n 1, 1) := by decide +kernel
theorem dL_law_641 : decode cL_law 641 = .ok (.aload_n 0, 1) := by decide +kernel
theorem dL_law_642 : decode cL_law 642 = .ok (.iload 4, 2) := by decide +kernel
theorem dL_law_644 : decode cL_law 644 = .ok (.iconst 1, 1) := by decide +kernel
theorem dL_law_645 : decode cL_law 645 = .ok (.iadd, 1) := by decide +kernel
theorem dL_law_646 : decode cL_law 646 = .ok (.iaload, 1) := by decide +kernel
theorem dL_law_647 : decode cL_law 647 = .ok (.aload_n 3, 1) := by decide +kernel
theorem dL_law_648 : decode cL_law 648 = .ok (.invokestatic 130, 3) := by decide +kernel
theorem dL_law_651 : decode cL_law 651 = .ok (.istore 5, 2) := by decide +kernel
theorem dL_law_653 : decode cL_law 653 = .ok (.aload_n 2, 1) := by decide +kernel
theorem dL_law_654 : decode cL_law 654 = .ok (.aload_n 0, 1) := by decide +kernel
theorem dL_law_655 : decode cL_law 655 = .ok (.iload 4, 2) := by decide +kernel
theorem dL_law_657 : decode cL_law 657 = .ok (.iconst 1, 1) := by decide +kernel
theorem dL_law_658 : decode cL_law 658 = .ok (.iadd, 1) := by decide +kernel
theorem dL_law_659 : decode cL_law 659 = .ok (.iaload, 1) := by decide +kernel
theorem dL_law_660 : decode cL_law 660 = .ok (.invokevirtual 132, 3) := by decide +kernel
theorem dL_law_663 : decode cL_law 663 = .ok (.istore 6, 2) := by decide +kernel
theorem dL_law_665 : decode cL_law 665 = .ok (.aload_n 2, 1) := by decide +kernel
theorem dL_law_666 : decode cL_law 666 = .ok (.invokevirtual 105, 3) := by decide +kernel
theorem dL_law_669 : decode cL_law 669 = .ok (.iload 5, 2) := by decide +kernel
theorem dL_law_671 : decode cL_law 671 = .ok (.if_icmp .eq 5, 3) := by decide +kernel
theorem dL_law_674 : decode cL_law 674 = .ok (.iconst 0, 1) := by decide +kernel
theorem dL_law_675 : decode cL_law 675 = .ok (.ireturn, 1) := by decide +kernel
theorem dL_law_676 : decode cL_law 676 = .ok (.iload 5, 2) := by decide +kernel
theorem dL_law_678 : decode cL_law 678 = .ok (.ifCond .ne 15, 3) := by decide +kernel
theorem dL_law_681 : decode cL_law 681 = .ok (.aload_n 3, 1) := by decide +kernel
theorem dL_law_682 : decode cL_law 682 = .ok (.iconst 0, 1) := by decide +kernel
theorem dL_law_683 : decode cL_law 683 = .ok (.laload, 1) := by decide +kernel
theorem dL_law_684 : decode cL_law 684 = .ok (.iload 6, 2) := by decide +kernel
theorem dL_law_686 : decode cL_law 686 = .ok (.i2l, 1) := by decide +kernel
theorem dL_law_687 : decode cL_law 687 = .ok (.lcmp, 1) := by decide +kernel
theorem dL_law_688 : decode cL_law 688 = .ok (.ifCond .eq 5, 3) := by decide +kernel
theorem dL_law_691 : decode cL_law 691 = .ok (.iconst 0, 1) := by decide +kernel
theorem dL_law_692 : decode cL_law 692 = .ok (.ireturn, 1) := by decide +kernel
theorem dL_law_693 : decode cL_law 693 = .ok (.goto 1082, 3) := by decide +kernel
theorem dL_law_696 : decode cL_law 696 = .ok (.aload_n 1, 1) := by decide +kernel
theorem dL_law_697 : decode cL_law 697 = .ok (.aload_n 0, 1) := by decide +kernel
theorem dL_law_698 : decode cL_law 698 = .ok (.iload 4, 2) := by decide +kernel
theorem dL_law_700 : decode cL_law 700 = .ok (.iconst 1, 1) := by decide +kernel
theorem dL_law_701 : decode cL_law 701 = .ok (.iadd, 1) := by decide +kernel
theorem dL_law_702 : decode cL_law 702 = .ok (.iaload, 1) := by decide +kernel
theorem dL_law_703 : decode cL_law 703 = .ok (.aload_n 0, 1) := by decide +kernel
theorem dL_law_704 : decode cL_law 704 = .ok (.iload 4, 2) := by decide +kernel
theorem dL_law_706 : decode cL_law 706 = .ok (.iconst 2, 1) := by decide +kernel
theorem dL_law_707 : decode cL_law 707 = .ok (.iadd, 1) := by decide +kernel
theorem dL_law_708 : decode cL_law 708 = .ok (.iaload, 1) := by decide +kernel
theorem dL_law_709 : decode cL_law 709 = .ok (.aload_n 3, 1) := by decide +kernel
theorem dL_law_710 : decode cL_law 710 = .ok (.invokestatic 133, 3) := by decide +kernel
theorem dL_law_713 : decode cL_law 713 = .ok (.istore 5, 2) := by decide +kernel
theorem dL_law_715 : decode cL_law 715 = .ok (.aload_n 2, 1) := by decide +kernel
theorem dL_law_716 : decode cL_law 716 = .ok (.aload_n 0, 1) := by decide +kernel
theorem dL_law_717 : decode cL_law 717 = .ok (.iload 4, 2) := by decide +kernel
theorem dL_law_719 : decode cL_law 719 = .ok (.iconst 1, 1) := by decide +kernel
theorem dL_law_720 : decode cL_law 720 = .ok (.iadd, 1) := by decide +kernel
theorem dL_law_721 : decode cL_law 721 = .ok (.iaload, 1) := by decide +kernel
theorem dL_law_722 : decode cL_law 722 = .ok (.aload_n 0, 1) := by decide +kernel
theorem dL_law_723 : decode cL_law 723 = .ok (.iload 4, 2) := by decide +kernel
theorem dL_law_725 : decode cL_law 725 = .ok (.iconst 2, 1) := by decide +kernel
theorem dL_law_726 : decode cL_law 726 = .ok (.iadd, 1) := by decide +kernel
theorem dL_law_727 : decode cL_law 727 = .ok (.iaload, 1) := by decide +kernel
theorem dL_law_728 : decode cL_law 728 = .ok (.invokevirtual 135, 3) := by decide +kernel
theorem dL_law_731 : decode cL_law 731 = .ok (.istore 6, 2) := by decide +kernel
theorem dL_law_733 : decode cL_law 733 = .ok (.aload_n 2, 1) := by decide +kernel
theorem dL_law_734 : decode cL_law 734 = .ok (.invokevirtual 105, 3) := by decide +kernel
theorem dL_law_737 : decode cL_law 737 = .ok (.iload 5, 2) := by decide +kernel
theorem dL_law_739 : decode cL_law 739 = .ok (.if_icmp .eq 5, 3) := by decide +kernel
theorem dL_law_742 : decode cL_law 742 = .ok (.iconst 0, 1) := by decide +kernel
theorem dL_law_743 : decode cL_law 743 = .ok (.ireturn, 1) := by decide +kernel
theorem dL_law_744 : decode cL_law 744 = .ok (.iload 5, 2) := by decide +kernel
theorem dL_law_746 : decode cL_law 746 = .ok (.ifCond .ne 15, 3) := by decide +kernel
theorem dL_law_749 : decode cL_law 749 = .ok (.aload_n 3, 1) := by decide +kernel
theorem dL_law_750 : decode cL_law 750 = .ok (.iconst 0, 1) := by decide +kernel
theorem dL_law_751 : decode cL_law 751 = .ok (.laload, 1) := by decide +kernel
theorem dL_law_752 : decode cL_law 752 = .ok (.iload 6, 2) := by decide +kernel
theorem dL_law_754 : decode cL_law 754 = .ok (.i2l, 1) := by decide +kernel
theorem dL_law_755 : decode cL_law 755 = .ok (.lcmp, 1) := by decide +kernel
theorem dL_law_756 : decode cL_law 756 = .ok (.ifCond .eq 5, 3) := by decide +kernel
theorem dL_law_759 : decode cL_law 759 = .ok (.iconst 0, 1) := by decide +kernel
theorem dL_law_760 : decode cL_law 760 = .ok (.ireturn, 1) := by decide +kernel
theorem dL_law_761 : decode cL_law 761 = .ok (.goto 1014, 3) := by decide +kernel
theorem dL_law_764 : decode cL_law 764 = .ok (.aload_n 1, 1) := by decide +kernel
theorem dL_law_765 : decode cL_law 765 = .ok (.aload_n 0, 1) := by decide +kernel
theorem dL_law_766 : decode cL_law 766 = .ok (.iload 4, 2) := by decide +kernel
theorem dL_law_768 : decode cL_law 768 = .ok (.iconst 1, 1) := by decide +kernel
theorem dL_law_769 : decode cL_law 769 = .ok (.iadd, 1) := by decide +kernel
theorem dL_law_770 : decode cL_law 770 = .ok (.iaload, 1) := by decide +kernel
theorem dL_law_771 : decode cL_law 771 = .ok (.aload_n 0, 1) := by decide +kernel
theorem dL_law_772 : decode cL_law 772 = .ok (.iload 4, 2) := by decide +kernel
theorem dL_law_774 : decode cL_law 774 = .ok (.iconst 2, 1) := by decide +kernel
theorem dL_law_775 : decode cL_law 775 = .ok (.iadd, 1) := by decide +kernel
theorem dL_law_776 : decode cL_law 776 = .ok (.iaload, 1) := by decide +kernel
theorem dL_law_777 : decode cL_law 777 = .ok (.aload_n 3, 1) := by decide +kernel
theorem dL_law_778 : decode cL_law 778 = .ok (.invokestatic 136, 3) := by decide +kernel
theorem dL_law_781 : decode cL_law 781 = .ok (.istore 5, 2) := by decide +kernel
theorem dL_law_783 : decode cL_law 783 = .ok (.aload_n 2, 1) := by decide +kernel
theorem dL_law_784 : decode cL_law 784 = .ok (.aload_n 0, 1) := by decide +kernel
theorem dL_law_785 : decode cL_law 785 = .ok (.iload 4, 2) := by decide +kernel
theorem dL_law_787 : decode cL_law 787 = .ok (.iconst 1, 1) := by decide +kernel
theorem dL_law_788 : decode cL_law 788 = .ok (.iadd, 1) := by decide +kernel
theorem dL_law_789 : decode cL_law 789 = .ok (.iaload, 1) := by decide +kernel
theorem dL_law_790 : decode cL_law 790 = .ok (.aload_n 0, 1) := by decide +kernel
theorem dL_law_791 : decode cL_law 791 = .ok (.iload 4, 2) := by decide +kernel
theorem dL_law_793 : decode cL_law 793 = .ok (.iconst 2, 1) := by decide +kernel
theorem dL_law_794 : decode cL_law 794 = .ok (.iadd, 1) := by decide +kernel
theorem dL_law_795 : decode cL_law 795 = .ok (.iaload, 1) := by decide +kernel
theorem dL_law_796 : decode cL_law 796 = .ok (.invokevirtual 138, 3) := by decide +kernel
theorem dL_law_799 : decode cL_law 799 = .ok (.istore 6, 2) := by decide +kernel
theorem dL_law_801 : decode cL_law 801 = .ok (.aload_n 2, 1) := by decide +kernel
theorem dL_law_802 : decode cL_law 802 = .ok (.invokevirtual 105, 3) := by decide +kernel
theorem dL_law_805 : decode cL_law 805 = .ok (.iload 5, 2) := by decide +kernel
theorem dL_law_807 : decode cL_law 807 = .ok (.if_icmp .eq 5, 3) := by decide +kernel
theorem dL_law_810 : decode cL_law 810 = .ok (.iconst 0, 1) := by decide +kernel
theorem dL_law_811 : decode cL_law 811 = .ok (.ireturn, 1) := by decide +kernel
theorem dL_law_812 : decode cL_law 812 = .ok (.iload 5, 2) := by decide +kernel
theorem dL_law_814 : decode cL_law 814 = .ok (.ifCond .ne 15, 3) := by decide +kernel
theorem dL_law_817 : decode cL_law 817 = .ok (.aload_n 3, 1) := by decide +kernel
theorem dL_law_818 : decode cL_law 818 = .ok (.iconst 0, 1) := by decide +kernel
theorem dL_law_819 : decode cL_law 819 = .ok (.laload, 1) := by decide +kernel
theorem dL_law_820 : decode cL_law 820 = .ok (.iload 6, 2) := by decide +kernel
theorem dL_law_822 : decode cL_law 822 = .ok (.i2l, 1) := by decide +kernel
theorem dL_law_823 : decode cL_law 823 = .ok (.lcmp, 1) := by decide +kernel
theorem dL_law_824 : decode cL_law 824 = .ok (.ifCond .eq 5, 3) := by decide +kernel
theorem dL_law_827 : decode cL_law 827 = .ok (.iconst 0, 1) := by decide +kernel
theorem dL_law_828 : decode cL_law 828 = .ok (.ireturn, 1) := by decide +kernel
theorem dL_law_829 : decode cL_law 829 = .ok (.goto 946, 3) := by decide +kernel
theorem dL_law_832 : decode cL_law 832 = .ok (.aload_n 1, 1) := by decide +kernel
theorem dL_law_833 : decode cL_law 833 = .ok (.aload_n 0, 1) := by decide +kernel
theorem dL_law_834 : decode cL_law 834 = .ok (.iload 4, 2) := by decide +kernel
theorem dL_law_836 : decode cL_law 836 = .ok (.iconst 1, 1) := by decide +kernel
theorem dL_law_837 : decode cL_law 837 = .ok (.iadd, 1) := by decide +kernel
theorem dL_law_838 : decode cL_law 838 = .ok (.iaload, 1) := by decide +kernel
theorem dL_law_839 : decode cL_law 839 = .ok (.aload_n 0, 1) := by decide +kernel
theorem dL_law_840 : decode cL_law 840 = .ok (.iload 4, 2) := by decide +kernel
theorem dL_law_842 : decode cL_law 842 = .ok (.iconst 2, 1) := by decide +kernel
theorem dL_law_843 : decode cL_law 843 = .ok (.iadd, 1) := by decide +kernel
theorem dL_law_844 : decode cL_law 844 = .ok (.iaload, 1) := by decide +kernel
theorem dL_law_845 : decode cL_law 845 = .ok (.aload_n 0, 1) := by decide +kernel
theorem dL_law_846 : decode cL_law 846 = .ok (.iload 4, 2) := by decide +kernel
theorem dL_law_848 : decode cL_law 848 = .ok (.iconst 3, 1) := by decide +kernel
theorem dL_law_849 : decode cL_law 849 = .ok (.iadd, 1) := by decide +kernel
theorem dL_law_850 : decode cL_law 850 = .ok (.iaload, 1) := by decide +kernel
theorem dL_law_851 : decode cL_law 851 = .ok (.aload_n 0, 1) := by decide +kernel
theorem dL_law_852 : decode cL_law 852 = .ok (.iload 4, 2) := by decide +kernel
theorem dL_law_854 : decode cL_law 854 = .ok (.iconst 4, 1) := by decide +kernel
theorem dL_law_855 : decode cL_law 855 = .ok (.iadd, 1) := by decide +kernel
theorem dL_law_856 : decode cL_law 856 = .ok (.iaload, 1) := by decide +kernel
theorem dL_law_857 : decode cL_law 857 = .ok (.aload_n 3, 1) := by decide +kernel
theorem dL_law_858 : decode cL_law 858 = .ok (.invokestatic 139, 3) := by decide +kernel
theorem dL_law_861 : decode cL_law 861 = .ok (.istore 5, 2) := by decide +kernel
theorem dL_law_863 : decode cL_law 863 = .ok (.aload_n 2, 1) := by decide +kernel
theorem dL_law_864 : decode cL_law 864 = .ok (.aload_n 0, 1) := by decide +kernel
theorem dL_law_865 : decode cL_law 865 = .ok (.iload 4, 2) := by decide +kernel
theorem dL_law_867 : decode cL_law 867 = .ok (.iconst 1, 1) := by decide +kernel
theorem dL_law_868 : decode cL_law 868 = .ok (.iadd, 1) := by decide +kernel
theorem dL_law_869 : decode cL_law 869 = .ok (.iaload, 1) := by decide +kernel
theorem dL_law_870 : decode cL_law 870 = .ok (.aload_n 0, 1) := by decide +kernel
theorem dL_law_871 : decode cL_law 871 = .ok (.iload 4, 2) := by decide +kernel
theorem dL_law_873 : decode cL_law 873 = .ok (.iconst 2, 1) := by decide +kernel
theorem dL_law_874 : decode cL_law 874 = .ok (.iadd, 1) := by decide +kernel
theorem dL_law_875 : decode cL_law 875 = .ok (.iaload, 1) := by decide +kernel
theorem dL_law_876 : decode cL_law 876 = .ok (.aload_n 0, 1) := by decide +kernel
theorem dL_law_877 : decode cL_law 877 = .ok (.iload 4, 2) := by decide +kernel
theorem dL_law_879 : decode cL_law 879 = .ok (.iconst 3, 1) := by decide +kernel
theorem dL_law_880 : decode cL_law 880 = .ok (.iadd, 1) := by decide +kernel
theorem dL_law_881 : decode cL_law 881 = .ok (.iaload, 1) := by decide +kernel
theorem dL_law_882 : decode cL_law 882 = .ok (.aload_n 0, 1) := by decide +kernel
theorem dL_law_883 : decode cL_law 883 = .ok (.iload 4, 2) := by decide +kernel
theorem dL_law_885 : decode cL_law 885 = .ok (.iconst 4, 1) := by decide +kernel
theorem dL_law_886 : decode cL_law 886 = .ok (.iadd, 1) := by decide +kernel
theorem dL_law_887 : decode cL_law 887 = .ok (.iaload, 1) := by decide +kernel
theorem dL_law_888 : decode cL_law 888 = .ok (.invokevirtual 141, 3) := by decide +kernel
theorem dL_law_891 : decode cL_law 891 = .ok (.istore 6, 2) := by decide +kernel
theorem dL_law_893 : decode cL_law 893 = .ok (.aload_n 2, 1) := by decide +kernel
theorem dL_law_894 : decode cL_law 894 = .ok (.invokevirtual 105, 3) := by decide +kernel
theorem dL_law_897 : decode cL_law 897 = .ok (.iload 5, 2) := by decide +kernel
theorem dL_law_899 : decode cL_law 899 = .ok (.if_icmp .eq 5, 3) := by decide +kernel
theorem dL_law_902 : decode cL_law 902 = .ok (.iconst 0, 1) := by decide +kernel
theorem dL_law_903 : decode cL_law 903 = .ok (.ireturn, 1) := by decide +kernel
theorem dL_law_904 : decode cL_law 904 = .ok (.iload 5, 2) := by decide +kernel
theorem dL_law_906 : decode cL_law 906 = .ok (.ifCond .ne 22, 3) := by decide +kernel
theorem dL_law_909 : decode cL_law 909 = .ok (.aload_n 3, 1) := by decide +kernel
theorem dL_law_910 : decode cL_law 910 = .ok (.iconst 0, 1) := by decide +kernel
theorem dL_law_911 : decode cL_law 911 = .ok (.laload, 1) := by decide +kernel
theorem dL_law_912 : decode cL_law 912 = .ok (.iload 6, 2) := by decide +kernel
theorem dL_law_914 : decode cL_law 914 = .ok (.ifCond .eq 7, 3) := by decide +kernel
theorem dL_law_917 : decode cL_law 917 = .ok (.lconst 1, 1) := by decide +kernel
theorem dL_law_918 : decode cL_law 918 = .ok (.goto 4, 3) := by decide +kernel
theorem dL_law_921 : decode cL_law 921 = .ok (.lconst 0, 1) := by decide +kernel
theorem dL_law_922 : decode cL_law 922 = .ok (.lcmp, 1) := by decide +kernel
theorem dL_law_923 : decode cL_law 923 = .ok (.ifCond .eq 5, 3) := by decide +kernel
theorem dL_law_926 : decode cL_law 926 = .ok (.iconst 0, 1) := by decide +kernel
theorem dL_law_927 : decode cL_law 927 = .ok (.ireturn, 1) := by decide +kernel
theorem dL_law_928 : decode cL_law 928 = .ok (.goto 847, 3) := by decide +kernel
theorem dL_law_931 : decode cL_law 931 = .ok (.aload_n 1, 1) := by decide +kernel
theorem dL_law_932 : decode cL_law 932 = .ok (.aload_n 3, 1) := by decide +kernel
theorem dL_law_933 : decode cL_law 933 = .ok (.invokestatic 142, 3) := by decide +kernel
theorem dL_law_936 : decode cL_law 936 = .ok (.istore 5, 2) := by decide +kernel
theorem dL_law_938 : decode cL_law 938 = .ok (.aload_n 2, 1) := by decide +kernel
theorem dL_law_939 : decode cL_law 939 = .ok (.invokevirtual 144, 3) := by decide +kernel
theorem dL_law_942 : decode cL_law 942 = .ok (.istore 6, 2) := by decide +kernel
theorem dL_law_944 : decode cL_law 944 = .ok (.aload_n 2, 1) := by decide +kernel
theorem dL_law_945 : decode cL_law 945 = .ok (.invokevirtual 105, 3) := by decide +kernel
theorem dL_law_948 : decode cL_law 948 = .ok (.iload 5, 2) := by decide +kernel
theorem dL_law_950 : decode cL_law 950 = .ok (.if_icmp .eq 5, 3) := by decide +kernel
theorem dL_law_953 : decode cL_law 953 = .ok (.iconst 0, 1) := by decide +kernel
theorem dL_law_954 : decode cL_law 954 = .ok (.ireturn, 1) := by decide +kernel
theorem dL_law_955 : decode cL_law 955 = .ok (.iload 5, 2) := by decide +kernel
theorem dL_law_957 : decode cL_law 957 = .ok (.ifCond .ne 15, 3) := by decide +kernel
theorem dL_law_960 : decode cL_law 960 = .ok (.aload_n 3, 1) := by decide +kernel
theorem dL_law_961 : decode cL_law 961 = .ok (.iconst 0, 1) := by decide +kernel
theorem dL_law_962 : decode cL_law 962 = .ok (.laload, 1) := by decide +kernel
theorem dL_law_963 : decode cL_law 963 = .ok (.iload 6, 2) := by decide +kernel
theorem dL_law_965 : decode cL_law 965 = .ok (.i2l, 1) := by decide +kernel
theorem dL_law_966 : decode cL_law 966 = .ok (.lcmp, 1) := by decide +kernel
theorem dL_law_967 : decode cL_law 967 = .ok (.ifCond .eq 5, 3) := by decide +kernel
theorem dL_law_970 : decode cL_law 970 = .ok (.iconst 0, 1) := by decide +kernel
theorem dL_law_971 : decode cL_law 971 = .ok (.ireturn, 1) := by decide +kernel
theorem dL_law_972 : decode cL_law 972 = .ok (.goto 803, 3) := by decide +kernel
theorem dL_law_975 : decode cL_law 975 = .ok (.aload_n 1, 1) := by decide +kernel
theorem dL_law_976 : decode cL_law 976 = .ok (.aload_n 0, 1) := by decide +kernel
theorem dL_law_977 : decode cL_law 977 = .ok (.iload 4, 2) := by decide +kernel
theorem dL_law_979 : decode cL_law 979 = .ok (.iconst 1, 1) := by decide +kernel
theorem dL_law_980 : decode cL_law 980 = .ok (.iadd, 1) := by decide +kernel
theorem dL_law_981 : decode cL_law 981 = .ok (.iaload, 1) := by decide +kernel
theorem dL_law_982 : decode cL_law 982 = .ok (.aload_n 0, 1) := by decide +kernel
theorem dL_law_983 : decode cL_law 983 = .ok (.iload 4, 2) := by decide +kernel
theorem dL_law_985 : decode cL_law 985 = .ok (.iconst 2, 1) := by decide +kernel
theorem dL_law_986 : decode cL_law 986 = .ok (.iadd, 1) := by decide +kernel
theorem dL_law_987 : decode cL_law 987 = .ok (.iaload, 1) := by decide +kernel
theorem dL_law_988 : decode cL_law 988 = .ok (.aload_n 0, 1) := by decide +kernel
theorem dL_law_989 : decode cL_law 989 = .ok (.iload 4, 2) := by decide +kernel
theorem dL_law_991 : decode cL_law 991 = .ok (.iconst 3, 1) := by decide +kernel
theorem dL_law_992 : decode cL_law 992 = .ok (.iadd, 1) := by decide +kernel
theorem dL_law_993 : decode cL_law 993 = .ok (.iaload, 1) := by decide +kernel
theorem dL_law_994 : decode cL_law 994 = .ok (.aload_n 3, 1) := by decide +kernel
theorem dL_law_995 : decode cL_law 995 = .ok (.invokestatic 145, 3) := by decide +kernel
theorem dL_law_998 : decode cL_law 998 = .ok (.istore 5, 2) := by decide +kernel
theorem dL_law_1000 : decode cL_law 1000 = .ok (.aload_n 2, 1) := by decide +kernel
theorem dL_law_1001 : decode cL_law 1001 = .ok (.aload_n 0, 1) := by decide +kernel
theorem dL_law_1002 : decode cL_law 1002 = .ok (.iload 4, 2) := by decide +kernel
theorem dL_law_1004 : decode cL_law 1004 = .ok (.iconst 1, 1) := by decide +kernel
theorem dL_law_1005 : decode cL_law 1005 = .ok (.iadd, 1) := by decide +kernel
theorem dL_law_1006 : decode cL_law 1006 = .ok (.iaload, 1) := by decide +kernel
theorem dL_law_1007 : decode cL_law 1007 = .ok (.aload_n 0, 1) := by decide +kernel
theorem dL_law_1008 : decode cL_law 1008 = .ok (.iload 4, 2) := by decide +kernel
theorem dL_law_1010 : decode cL_law 1010 = .ok (.iconst 2, 1) := by decide +kernel
theorem dL_law_1011 : decode cL_law 1011 = .ok (.iadd, 1) := by decide +kernel
theorem dL_law_1012 : decode cL_law 1012 = .ok (.iaload, 1) := by decide +kernel
theorem dL_law_1013 : decode cL_law 1013 = .ok (.aload_n 0, 1) := by decide +kernel
theorem dL_law_1014 : decode cL_law 1014 = .ok (.iload 4, 2) := by decide +kernel
theorem dL_law_1016 : decode cL_law 1016 = .ok (.iconst 3, 1) := by decide +kernel
theorem dL_law_1017 : decode cL_law 1017 = .ok (.iadd, 1) := by decide +kernel
theorem dL_law_1018 : decode cL_law 1018 = .ok (.iaload, 1) := by decide +kernel
theorem dL_law_1019 : decode cL_law 1019 = .ok (.invokevirtual 147, 3) := by decide +kernel
theorem dL_law_1022 : decode cL_law 1022 = .ok (.istore 6, 2) := by decide +kernel
theorem dL_law_1024 : decode cL_law 1024 = .ok (.aload_n 2, 1) := by decide +kernel
theorem dL_law_1025 : decode cL_law 1025 = .ok (.invokevirtual 105, 3) := by decide +kernel
theorem dL_law_1028 : decode cL_law 1028 = .ok (.iload 5, 2) := by decide +kernel
theorem dL_law_1030 : decode cL_law 1030 = .ok (.if_icmp .eq 5, 3) := by decide +kernel
theorem dL_law_1033 : decode cL_law 1033 = .ok (.iconst 0, 1) := by decide +kernel
theorem dL_law_1034 : decode cL_law 1034 = .ok (.ireturn, 1) := by decide +kernel
theorem dL_law_1035 : decode cL_law 1035 = .ok (.iload 5, 2) := by decide +kernel
theorem dL_law_1037 : decode cL_law 1037 = .ok (.ifCond .ne 15, 3) := by decide +kernel
theorem dL_law_1040 : decode cL_law 1040 = .ok (.aload_n 3, 1) := by decide +kernel
theorem dL_law_1041 : decode cL_law 1041 = .ok (.iconst 0, 1) := by decide +kernel
theorem dL_law_1042 : decode cL_law 1042 = .ok (.laload, 1) := by decide +kernel
theorem dL_law_1043 : decode cL_law 1043 = .ok (.iload 6, 2) := by decide +kernel
theorem dL_law_1045 : decode cL_law 1045 = .ok (.i2l, 1) := by decide +kernel
theorem dL_law_1046 : decode cL_law 1046 = .ok (.lcmp, 1) := by decide +kernel
theorem dL_law_1047 : decode cL_law 1047 = .ok (.ifCond .eq 5, 3) := by decide +kernel
theorem dL_law_1050 : decode cL_law 1050 = .ok (.iconst 0, 1) := by decide +kernel
theorem dL_law_1051 : decode cL_law 1051 = .ok (.ireturn, 1) := by decide +kernel
theorem dL_law_1052 : decode cL_law 1052 = .ok (.goto 723, 3) := by decide +kernel
theorem dL_law_1055 : decode cL_law 1055 = .ok (.aload_n 1, 1) := by decide +kernel
theorem dL_law_1056 : decode cL_law 1056 = .ok (.aload_n 0, 1) := by decide +kernel
theorem dL_law_1057 : decode cL_law 1057 = .ok (.iload 4, 2) := by decide +kernel
theorem dL_law_1059 : decode cL_law 1059 = .ok (.iconst 1, 1) := by decide +kernel
theorem dL_law_1060 : decode cL_law 1060 = .ok (.iadd, 1) := by decide +kernel
theorem dL_law_1061 : decode cL_law 1061 = .ok (.iaload, 1) := by decide +kernel
theorem dL_law_1062 : decode cL_law 1062 = .ok (.aload_n 0, 1) := by decide +kernel
theorem dL_law_1063 : decode cL_law 1063 = .ok (.iload 4, 2) := by decide +kernel
theorem dL_law_1065 : decode cL_law 1065 = .ok (.iconst 2, 1) := by decide +kernel
theorem dL_law_1066 : decode cL_law 1066 = .ok (.iadd, 1) := by decide +kernel
theorem dL_law_1067 : decode cL_law 1067 = .ok (.iaload, 1) := by decide +kernel
theorem dL_law_1068 : decode cL_law 1068 = .ok (.aload_n 0, 1) := by decide +kernel
theorem dL_law_1069 : decode cL_law 1069 = .ok (.iload 4, 2) := by decide +kernel
theorem dL_law_1071 : decode cL_law 1071 = .ok (.iconst 3, 1) := by decide +kernel
theorem dL_law_1072 : decode cL_law 1072 = .ok (.iadd, 1) := by decide +kernel
theorem dL_law_1073 : decode cL_law 1073 = .ok (.iaload, 1) := by decide +kernel
theorem dL_law_1074 : decode cL_law 1074 = .ok (.aload_n 3, 1) := by decide +kernel
theorem dL_law_1075 : decode cL_law 1075 = .ok (.invokestatic 148, 3) := by decide +kernel
theorem dL_law_1078 : decode cL_law 1078 = .ok (.istore 5, 2) := by decide +kernel
theorem dL_law_1080 : decode cL_law 1080 = .ok (.aload_n 2, 1) := by decide +kernel
theorem dL_law_1081 : decode cL_law 1081 = .ok (.aload_n 0, 1) := by decide +kernel
theorem dL_law_1082 : decode cL_law 1082 = .ok (.iload 4, 2) := by decide +kernel
theorem dL_law_1084 : decode cL_law 1084 = .ok (.iconst 1, 1) := by decide +kernel
theorem dL_law_1085 : decode cL_law 1085 = .ok (.iadd, 1) := by decide +kernel
theorem dL_law_1086 : decode cL_law 1086 = .ok (.iaload, 1) := by decide +kernel
theorem dL_law_1087 : decode cL_law 1087 = .ok (.aload_n 0, 1) := by decide +kernel
theorem dL_law_1088 : decode cL_law 1088 = .ok (.iload 4, 2) := by decide +kernel
theorem dL_law_1090 : decode cL_law 1090 = .ok (.iconst 2, 1) := by decide +kernel
theorem dL_law_1091 : decode cL_law 1091 = .ok (.iadd, 1) := by decide +kernel
theorem dL_law_1092 : decode cL_law 1092 = .ok (.iaload, 1) := by decide +kernel
theorem dL_law_1093 : decode cL_law 1093 = .ok (.aload_n 0, 1) := by decide +kernel
theorem dL_law_1094 : decode cL_law 1094 = .ok (.iload 4, 2) := by decide +kernel
theorem dL_law_1096 : decode cL_law 1096 = .ok (.iconst 3, 1) := by decide +kernel
theorem dL_law_1097 : decode cL_law 1097 = .ok (.iadd, 1) := by decide +kernel
theorem dL_law_1098 : decode cL_law 1098 = .ok (.iaload, 1) := by decide +kernel
theorem dL_law_1099 : decode cL_law 1099 = .ok (.invokevirtual 150, 3) := by decide +kernel
theorem dL_law_1102 : decode cL_law 1102 = .ok (.istore 6, 2) := by decide +kernel
theorem dL_law_1104 : decode cL_law 1104 = .ok (.aload_n 2, 1) := by decide +kernel
theorem dL_law_1105 : decode cL_law 1105 = .ok (.invokevirtual 105, 3) := by decide +kernel
theorem dL_law_1108 : decode cL_law 1108 = .ok (.iload 5, 2) := by decide +kernel
theorem dL_law_1110 : decode cL_law 1110 = .ok (.if_icmp .eq 5, 3) := by decide +kernel
theorem dL_law_1113 : decode cL_law 1113 = .ok (.iconst 0, 1) := by decide +kernel
theorem dL_law_1114 : decode cL_law 1114 = .ok (.ireturn, 1) := by decide +kernel
theorem dL_law_1115 : decode cL_law 1115 = .ok (.iload 5, 2) := by decide +kernel
theorem dL_law_1117 : decode cL_law 1117 = .ok (.ifCond .ne 22, 3) := by decide +kernel
theorem dL_law_1120 : decode cL_law 1120 = .ok (.aload_n 3, 1) := by decide +kernel
theorem dL_law_1121 : decode cL_law 1121 = .ok (.iconst 0, 1) := by decide +kernel
theorem dL_law_1122 : decode cL_law 1122 = .ok (.laload, 1) := by decide +kernel
theorem dL_law_1123 : decode cL_law 1123 = .ok (.iload 6, 2) := by decide +kernel
theorem dL_law_1125 : decode cL_law 1125 = .ok (.ifCond .eq 7, 3) := by decide +kernel
theorem dL_law_1128 : decode cL_law 1128 = .ok (.lconst 1, 1) := by decide +kernel
theorem dL_law_1129 : decode cL_law 1129 = .ok (.goto 4, 3) := by decide +kernel
theorem dL_law_1132 : decode cL_law 1132 = .ok (.lconst 0, 1) := by decide +kernel
theorem dL_law_1133 : decode cL_law 1133 = .ok (.lcmp, 1) := by decide +kernel
theorem dL_law_1134 : decode cL_law 1134 = .ok (.ifCond .eq 5, 3) := by decide +kernel
theorem dL_law_1137 : decode cL_law 1137 = .ok (.iconst 0, 1) := by decide +kernel
theorem dL_law_1138 : decode cL_law 1138 = .ok (.ireturn, 1) := by decide +kernel
theorem dL_law_1139 : decode cL_law 1139 = .ok (.goto 636, 3) := by decide +kernel
theorem dL_law_1142 : decode cL_law 1142 = .ok (.aload_n 1, 1) := by decide +kernel
theorem dL_law_1143 : decode cL_law 1143 = .ok (.aload_n 0, 1) := by decide +kernel
theorem dL_law_1144 : decode cL_law 1144 = .ok (.iload 4, 2) := by decide +kernel
theorem dL_law_1146 : decode cL_law 1146 = .ok (.iconst 1, 1) := by decide +kernel
theorem dL_law_1147 : decode cL_law 1147 = .ok (.iadd, 1) := by decide +kernel
theorem dL_law_1148 : decode cL_law 1148 = .ok (.iaload, 1) := by decide +kernel
theorem dL_law_1149 : decode cL_law 1149 = .ok (.aload_n 0, 1) := by decide +kernel
theorem dL_law_1150 : decode cL_law 1150 = .ok (.iload 4, 2) := by decide +kernel
theorem dL_law_1152 : decode cL_law 1152 = .ok (.iconst 2, 1) := by decide +kernel
theorem dL_law_1153 : decode cL_law 1153 = .ok (.iadd, 1) := by decide +kernel
theorem dL_law_1154 : decode cL_law 1154 = .ok (.iaload, 1) := by decide +kernel
theorem dL_law_1155 : decode cL_law 1155 = .ok (.aload_n 3, 1) := by decide +kernel
theorem dL_law_1156 : decode cL_law 1156 = .ok (.invokestatic 151, 3) := by decide +kernel
theorem dL_law_1159 : decode cL_law 1159 = .ok (.istore 5, 2) := by decide +kernel
theorem dL_law_1161 : decode cL_law 1161 = .ok (.aload_n 2, 1) := by decide +kernel
theorem dL_law_1162 : decode cL_law 1162 = .ok (.aload_n 0, 1) := by decide +kernel
theorem dL_law_1163 : decode cL_law 1163 = .ok (.iload 4, 2) := by decide +kernel
theorem dL_law_1165 : decode cL_law 1165 = .ok (.iconst 1, 1) := by decide +kernel
theorem dL_law_1166 : decode cL_law 1166 = .ok (.iadd, 1) := by decide +kernel
theorem dL_law_1167 : decode cL_law 1167 = .ok (.iaload, 1) := by decide +kernel
theorem dL_law_1168 : decode cL_law 1168 = .ok (.aload_n 0, 1) := by decide +kernel
theorem dL_law_1169 : decode cL_law 1169 = .ok (.iload 4, 2) := by decide +kernel
theorem dL_law_1171 : decode cL_law 1171 = .ok (.iconst 2, 1) := by decide +kernel
theorem dL_law_1172 : decode cL_law 1172 = .ok (.iadd, 1) := by decide +kernel
theorem dL_law_1173 : decode cL_law 1173 = .ok (.iaload, 1) := by decide +kernel
theorem dL_law_1174 : decode cL_law 1174 = .ok (.invokevirtual 153, 3) := by decide +kernel
theorem dL_law_1177 : decode cL_law 1177 = .ok (.istore 6, 2) := by decide +kernel
theorem dL_law_1179 : decode cL_law 1179 = .ok (.aload_n 2, 1) := by decide +kernel
theorem dL_law_1180 : decode cL_law 1180 = .ok (.invokevirtual 105, 3) := by decide +kernel
theorem dL_law_1183 : decode cL_law 1183 = .ok (.iload 5, 2) := by decide +kernel
theorem dL_law_1185 : decode cL_law 1185 = .ok (.if_icmp .eq 5, 3) := by decide +kernel
theorem dL_law_1188 : decode cL_law 1188 = .ok (.iconst 0, 1) := by decide +kernel
theorem dL_law_1189 : decode cL_law 1189 = .ok (.ireturn, 1) := by decide +kernel
theorem dL_law_1190 : decode cL_law 1190 = .ok (.iload 5, 2) := by decide +kernel
theorem dL_law_1192 : decode cL_law 1192 = .ok (.ifCond .ne 15, 3) := by decide +kernel
theorem dL_law_1195 : decode cL_law 1195 = .ok (.aload_n 3, 1) := by decide +kernel
theorem dL_law_1196 : decode cL_law 1196 = .ok (.iconst 0, 1) := by decide +kernel
theorem dL_law_1197 : decode cL_law 1197 = .ok (.laload, 1) := by decide +kernel
theorem dL_law_1198 : decode cL_law 1198 = .ok (.iload 6, 2) := by decide +kernel
theorem dL_law_1200 : decode cL_law 1200 = .ok (.i2l, 1) := by decide +kernel
theorem dL_law_1201 : decode cL_law 1201 = .ok (.lcmp, 1) := by decide +kernel
theorem dL_law_1202 : decode cL_law 1202 = .ok (.ifCond .eq 5, 3) := by decide +kernel
theorem dL_law_1205 : decode cL_law 1205 = .ok (.iconst 0, 1) := by decide +kernel
theorem dL_law_1206 : decode cL_law 1206 = .ok (.ireturn, 1) := by decide +kernel
theorem dL_law_1207 : decode cL_law 1207 = .ok (.goto 568, 3) := by decide +kernel
theorem dL_law_1210 : decode cL_law 1210 = .ok (.aload_n 1, 1) := by decide +kernel
theorem dL_law_1211 : decode cL_law 1211 = .ok (.aload_n 0, 1) := by decide +kernel
theorem dL_law_1212 : decode cL_law 1212 = .ok (.iload 4, 2) := by decide +kernel
theorem dL_law_1214 : decode cL_law 1214 = .ok (.iconst 1, 1) := by decide +kernel
theorem dL_law_1215 : decode cL_law 1215 = .ok (.iadd, 1) := by decide +kernel
theorem dL_law_1216 : decode cL_law 1216 = .ok (.iaload, 1) := by decide +kernel
theorem dL_law_1217 : decode cL_law 1217 = .ok (.aload_n 3, 1) := by decide +kernel
theorem dL_law_1218 : decode cL_law 1218 = .ok (.invokestatic 154, 3) := by decide +kernel
theorem dL_law_1221 : decode cL_law 1221 = .ok (.istore 5, 2) := by decide +kernel
theorem dL_law_1223 : decode cL_law 1223 = .ok (.aload_n 2, 1) := by decide +kernel
theorem dL_law_1224 : decode cL_law 1224 = .ok (.aload_n 0, 1) := by decide +kernel
theorem dL_law_1225 : decode cL_law 1225 = .ok (.iload 4, 2) := by decide +kernel
theorem dL_law_1227 : decode cL_law 1227 = .ok (.iconst 1, 1) := by decide +kernel
theorem dL_law_1228 : decode cL_law 1228 = .ok (.iadd, 1) := by decide +kernel
theorem dL_law_1229 : decode cL_law 1229 = .ok (.iaload, 1) := by decide +kernel
theorem dL_law_1230 : decode cL_law 1230 = .ok (.invokevirtual 156, 3) := by decide +kernel
theorem dL_law_1233 : decode cL_law 1233 = .ok (.istore 6, 2) := by decide +kernel
theorem dL_law_1235 : decode cL_law 1235 = .ok (.aload_n 2, 1) := by decide +kernel
theorem dL_law_1236 : decode cL_law 1236 = .ok (.invokevirtual 105, 3) := by decide +kernel
theorem dL_law_1239 : decode cL_law 1239 = .ok (.iload 5, 2) := by decide +kernel
theorem dL_law_1241 : decode cL_law 1241 = .ok (.if_icmp .eq 5, 3) := by decide +kernel
theorem dL_law_1244 : decode cL_law 1244 = .ok (.iconst 0, 1) := by decide +kernel
theorem dL_law_1245 : decode cL_law 1245 = .ok (.ireturn, 1) := by decide +kernel
theorem dL_law_1246 : decode cL_law 1246 = .ok (.iload 5, 2) := by decide +kernel
theorem dL_law_1248 : decode cL_law 1248 = .ok (.ifCond .ne 15, 3) := by decide +kernel
theorem dL_law_1251 : decode cL_law 1251 = .ok (.aload_n 3, 1) := by decide +kernel
theorem dL_law_1252 : decode cL_law 1252 = .ok (.iconst 0, 1) := by decide +kernel
theorem dL_law_1253 : decode cL_law 1253 = .ok (.laload, 1) := by decide +kernel
theorem dL_law_1254 : decode cL_law 1254 = .ok (.iload 6, 2) := by decide +kernel
theorem dL_law_1256 : decode cL_law 1256 = .ok (.i2l, 1) := by decide +kernel
theorem dL_law_1257 : decode cL_law 1257 = .ok (.lcmp, 1) := by decide +kernel
theorem dL_law_1258 : decode cL_law 1258 = .ok (.ifCond .eq 5, 3) := by decide +kernel
theorem dL_law_1261 : decode cL_law 1261 = .ok (.iconst 0, 1) := by decide +kernel
theorem dL_law_1262 : decode cL_law 1262 = .ok (.ireturn, 1) := by decide +kernel
theorem dL_law_1263 : decode cL_law 1263 = .ok (.goto 512, 3) := by decide +kernel
theorem dL_law_1266 : decode cL_law 1266 = .ok (.aload_n 1, 1) := by decide +kernel
theorem dL_law_1267 : decode cL_law 1267 = .ok (.aload_n 0, 1) := by decide +kernel
theorem dL_law_1268 : decode cL_law 1268 = .ok (.iload 4, 2) := by decide +kernel
theorem dL_law_1270 : decode cL_law 1270 = .ok (.iconst 1, 1) := by decide +kernel
theorem dL_law_1271 : decode cL_law 1271 = .ok (.iadd, 1) := by decide +kernel
theorem dL_law_1272 : decode cL_law 1272 = .ok (.iaload, 1) := by decide +kernel
theorem dL_law_1273 : decode cL_law 1273 = .ok (.aload_n 3, 1) := by decide +kernel
theorem dL_law_1274 : decode cL_law 1274 = .ok (.invokestatic 157, 3) := by decide +kernel
theorem dL_law_1277 : decode cL_law 1277 = .ok (.istore 5, 2) := by decide +kernel
theorem dL_law_1279 : decode cL_law 1279 = .ok (.aload_n 2, 1) := by decide +kernel
theorem dL_law_1280 : decode cL_law 1280 = .ok (.aload_n 0, 1) := by decide +kernel
theorem dL_law_1281 : decode cL_law 1281 = .ok (.iload 4, 2) := by decide +kernel
theorem dL_law_1283 : decode cL_law 1283 = .ok (.iconst 1, 1) := by decide +kernel
theorem dL_law_1284 : decode cL_law 1284 = .ok (.iadd, 1) := by decide +kernel
theorem dL_law_1285 : decode cL_law 1285 = .ok (.iaload, 1) := by decide +kernel
theorem dL_law_1286 : decode cL_law 1286 = .ok (.invokevirtual 159, 3) := by decide +kernel
theorem dL_law_1289 : decode cL_law 1289 = .ok (.istore 6, 2) := by decide +kernel
theorem dL_law_1291 : decode cL_law 1291 = .ok (.aload_n 2, 1) := by decide +kernel
theorem dL_law_1292 : decode cL_law 1292 = .ok (.invokevirtual 105, 3) := by decide +kernel
theorem dL_law_1295 : decode cL_law 1295 = .ok (.iload 5, 2) := by decide +kernel
theorem dL_law_1297 : decode cL_law 1297 = .ok (.if_icmp .eq 5, 3) := by decide +kernel
theorem dL_law_1300 : decode cL_law 1300 = .ok (.iconst 0, 1) := by decide +kernel
theorem dL_law_1301 : decode cL_law 1301 = .ok (.ireturn, 1) := by decide +kernel
theorem dL_law_1302 : decode cL_law 1302 = .ok (.iload 5, 2) := by decide +kernel
theorem dL_law_1304 : decode cL_law 1304 = .ok (.ifCond .ne 15, 3) := by decide +kernel
theorem dL_law_1307 : decode cL_law 1307 = .ok (.aload_n 3, 1) := by decide +kernel
theorem dL_law_1308 : decode cL_law 1308 = .ok (.iconst 0, 1) := by decide +kernel
theorem dL_law_1309 : decode cL_law 1309 = .ok (.laload, 1) := by decide +kernel
theorem dL_law_1310 : decode cL_law 1310 = .ok (.iload 6, 2) := by decide +kernel
theorem dL_law_1312 : decode cL_law 1312 = .ok (.i2l, 1) := by decide +kernel
theorem dL_law_1313 : decode cL_law 1313 = .ok (.lcmp, 1) := by decide +kernel
theorem dL_law_1314 : decode cL_law 1314 = .ok (.ifCond .eq 5, 3) := by decide +kernel
theorem dL_law_1317 : decode cL_law 1317 = .ok (.iconst 0, 1) := by decide +kernel
theorem dL_law_1318 : decode cL_law 1318 = .ok (.ireturn, 1) := by decide +kernel
theorem dL_law_1319 : decode cL_law 1319 = .ok (.goto 456, 3) := by decide +kernel
theorem dL_law_1322 : decode cL_law 1322 = .ok (.aload_n 1, 1) := by decide +kernel
theorem dL_law_1323 : decode cL_law 1323 = .ok (.aload_n 0, 1) := by decide +kernel
theorem dL_law_1324 : decode cL_law 1324 = .ok (.iload 4, 2) := by decide +kernel
theorem dL_law_1326 : decode cL_law 1326 = .ok (.iconst 1, 1) := by decide +kernel
theorem dL_law_1327 : decode cL_law 1327 = .ok (.iadd, 1) := by decide +kernel
theorem dL_law_1328 : decode cL_law 1328 = .ok (.iaload, 1) := by decide +kernel
theorem dL_law_1329 : decode cL_law 1329 = .ok (.aload_n 3, 1) := by decide +kernel
theorem dL_law_1330 : decode cL_law 1330 = .ok (.invokestatic 160, 3) := by decide +kernel
theorem dL_law_1333 : decode cL_law 1333 = .ok (.istore 5, 2) := by decide +kernel
theorem dL_law_1335 : decode cL_law 1335 = .ok (.aload_n 2, 1) := by decide +kernel
theorem dL_law_1336 : decode cL_law 1336 = .ok (.aload_n 0, 1) := by decide +kernel
theorem dL_law_1337 : decode cL_law 1337 = .ok (.iload 4, 2) := by decide +kernel
theorem dL_law_1339 : decode cL_law 1339 = .ok (.iconst 1, 1) := by decide +kernel
theorem dL_law_1340 : decode cL_law 1340 = .ok (.iadd, 1) := by decide +kernel
theorem dL_law_1341 : decode cL_law 1341 = .ok (.iaload, 1) := by decide +kernel
theorem dL_law_1342 : decode cL_law 1342 = .ok (.invokevirtual 162, 3) := by decide +kernel
theorem dL_law_1345 : decode cL_law 1345 = .ok (.istore 6, 2) := by decide +kernel
theorem dL_law_1347 : decode cL_law 1347 = .ok (.aload_n 2, 1) := by decide +kernel
theorem dL_law_1348 : decode cL_law 1348 = .ok (.invokevirtual 105, 3) := by decide +kernel
theorem dL_law_1351 : decode cL_law 1351 = .ok (.iload 5, 2) := by decide +kernel
theorem dL_law_1353 : decode cL_law 1353 = .ok (.if_icmp .eq 5, 3) := by decide +kernel
theorem dL_law_1356 : decode cL_law 1356 = .ok (.iconst 0, 1) := by decide +kernel
theorem dL_law_1357 : decode cL_law 1357 = .ok (.ireturn, 1) := by decide +kernel
theorem dL_law_1358 : decode cL_law 1358 = .ok (.iload 5, 2) := by decide +kernel
theorem dL_law_1360 : decode cL_law 1360 = .ok (.ifCond .ne 15, 3) := by decide +kernel
theorem dL_law_1363 : decode cL_law 1363 = .ok (.aload_n 3, 1) := by decide +kernel
theorem dL_law_1364 : decode cL_law 1364 = .ok (.iconst 0, 1) := by decide +kernel
theorem dL_law_1365 : decode cL_law 1365 = .ok (.laload, 1) := by decide +kernel
theorem dL_law_1366 : decode cL_law 1366 = .ok (.iload 6, 2) := by decide +kernel
theorem dL_law_1368 : decode cL_law 1368 = .ok (.i2l, 1) := by decide +kernel
theorem dL_law_1369 : decode cL_law 1369 = .ok (.lcmp, 1) := by decide +kernel
theorem dL_law_1370 : decode cL_law 1370 = .ok (.ifCond .eq 5, 3) := by decide +kernel
theorem dL_law_1373 : decode cL_law 1373 = .ok (.iconst 0, 1) := by decide +kernel
theorem dL_law_1374 : decode cL_law 1374 = .ok (.ireturn, 1) := by decide +kernel
theorem dL_law_1375 : decode cL_law 1375 = .ok (.goto 400, 3) := by decide +kernel
theorem dL_law_1378 : decode cL_law 1378 = .ok (.aload_n 1, 1) := by decide +kernel
theorem dL_law_1379 : decode cL_law 1379 = .ok (.aload_n 0, 1) := by decide +kernel
theorem dL_law_1380 : decode cL_law 1380 = .ok (.iload 4, 2) := by decide +kernel
theorem dL_law_1382 : decode cL_law 1382 = .ok (.iconst 1, 1) := by decide +kernel
theorem dL_law_1383 : decode cL_law 1383 = .ok (.iadd, 1) := by decide +kernel
theorem dL_law_1384 : decode cL_law 1384 = .ok (.iaload, 1) := by decide +kernel
theorem dL_law_1385 : decode cL_law 1385 = .ok (.aload_n 3, 1) := by decide +kernel
theorem dL_law_1386 : decode cL_law 1386 = .ok (.invokestatic 163, 3) := by decide +kernel
theorem dL_law_1389 : decode cL_law 1389 = .ok (.istore 5, 2) := by decide +kernel
theorem dL_law_1391 : decode cL_law 1391 = .ok (.aload_n 2, 1) := by decide +kernel
theorem dL_law_1392 : decode cL_law 1392 = .ok (.aload_n 0, 1) := by decide +kernel
theorem dL_law_1393 : decode cL_law 1393 = .ok (.iload 4, 2) := by decide +kernel
theorem dL_law_1395 : decode cL_law 1395 = .ok (.iconst 1, 1) := by decide +kernel
theorem dL_law_1396 : decode cL_law 1396 = .ok (.iadd, 1) := by decide +kernel
theorem dL_law_1397 : decode cL_law 1397 = .ok (.iaload, 1) := by decide +kernel
theorem dL_law_1398 : decode cL_law 1398 = .ok (.invokevirtual 165, 3) := by decide +kernel
theorem dL_law_1401 : decode cL_law 1401 = .ok (.istore 6, 2) := by decide +kernel
theorem dL_law_1403 : decode cL_law 1403 = .ok (.aload_n 2, 1) := by decide +kernel
theorem dL_law_1404 : decode cL_law 1404 = .ok (.invokevirtual 105, 3) := by decide +kernel
theorem dL_law_1407 : decode cL_law 1407 = .ok (.iload 5, 2) := by decide +kernel
theorem dL_law_1409 : decode cL_law 1409 = .ok (.if_icmp .eq 5, 3) := by decide +kernel
theorem dL_law_1412 : decode cL_law 1412 = .ok (.iconst 0, 1) := by decide +kernel
theorem dL_law_1413 : decode cL_law 1413 = .ok (.ireturn, 1) := by decide +kernel
theorem dL_law_1414 : decode cL_law 1414 = .ok (.iload 5, 2) := by decide +kernel
theorem dL_law_1416 : decode cL_law 1416 = .ok (.ifCond .ne 15, 3) := by decide +kernel
theorem dL_law_1419 : decode cL_law 1419 = .ok (.aload_n 3, 1) := by decide +kernel
theorem dL_law_1420 : decode cL_law 1420 = .ok (.iconst 0, 1) := by decide +kernel
theorem dL_law_1421 : decode cL_law 1421 = .ok (.laload, 1) := by decide +kernel
theorem dL_law_1422 : decode cL_law 1422 = .ok (.iload 6, 2) := by decide +kernel
theorem dL_law_1424 : decode cL_law 1424 = .ok (.i2l, 1) := by decide +kernel
theorem dL_law_1425 : decode cL_law 1425 = .ok (.lcmp, 1) := by decide +kernel
theorem dL_law_1426 : decode cL_law 1426 = .ok (.ifCond .eq 5, 3) := by decide +kernel
theorem dL_law_1429 : decode cL_law 1429 = .ok (.iconst 0, 1) := by decide +kernel
theorem dL_law_1430 : decode cL_law 1430 = .ok (.ireturn, 1) := by decide +kernel
theorem dL_law_1431 : decode cL_law 1431 = .ok (.goto 344, 3) := by decide +kernel
theorem dL_law_1434 : decode cL_law 1434 = .ok (.aload_n 1, 1) := by decide +kernel
theorem dL_law_1435 : decode cL_law 1435 = .ok (.aload_n 0, 1) := by decide +kernel
theorem dL_law_1436 : decode cL_law 1436 = .ok (.iload 4, 2) := by decide +kernel
theorem dL_law_1438 : decode cL_law 1438 = .ok (.iconst 1, 1) := by decide +kernel
theorem dL_law_1439 : decode cL_law 1439 = .ok (.iadd, 1) := by decide +kernel
theorem dL_law_1440 : decode cL_law 1440 = .ok (.iaload, 1) := by decide +kernel
theorem dL_law_1441 : decode cL_law 1441 = .ok (.aload_n 0, 1) := by decide +kernel
theorem dL_law_1442 : decode cL_law 1442 = .ok (.iload 4, 2) := by decide +kernel
theorem dL_law_1444 : decode cL_law 1444 = .ok (.iconst 2, 1) := by decide +kernel
theorem dL_law_1445 : decode cL_law 1445 = .ok (.iadd, 1) := by decide +kernel
theorem dL_law_1446 : decode cL_law 1446 = .ok (.iaload, 1) := by decide +kernel
theorem dL_law_1447 : decode cL_law 1447 = .ok (.aload_n 3, 1) := by decide +kernel
theorem dL_law_1448 : decode cL_law 1448 = .ok (.invokestatic 166, 3) := by decide +kernel
theorem dL_law_1451 : decode cL_law 1451 = .ok (.istore 5, 2) := by decide +kernel
theorem dL_law_1453 : decode cL_law 1453 = .ok (.aload_n 2, 1) := by decide +kernel
theorem dL_law_1454 : decode cL_law 1454 = .ok (.aload_n 0, 1) := by decide +kernel
theorem dL_law_1455 : decode cL_law 1455 = .ok (.iload 4, 2) := by decide +kernel
theorem dL_law_1457 : decode cL_law 1457 = .ok (.iconst 1, 1) := by decide +kernel
theorem dL_law_1458 : decode cL_law 1458 = .ok (.iadd, 1) := by decide +kernel
theorem dL_law_1459 : decode cL_law 1459 = .ok (.iaload, 1) := by decide +kernel
theorem dL_law_1460 : decode cL_law 1460 = .ok (.aload_n 0, 1) := by decide +kernel
theorem dL_law_1461 : decode cL_law 1461 = .ok (.iload 4, 2) := by decide +kernel
theorem dL_law_1463 : decode cL_law 1463 = .ok (.iconst 2, 1) := by decide +kernel
theorem dL_law_1464 : decode cL_law 1464 = .ok (.iadd, 1) := by decide +kernel
theorem dL_law_1465 : decode cL_law 1465 = .ok (.iaload, 1) := by decide +kernel
theorem dL_law_1466 : decode cL_law 1466 = .ok (.invokevirtual 168, 3) := by decide +kernel
theorem dL_law_1469 : decode cL_law 1469 = .ok (.istore 6, 2) := by decide +kernel
theorem dL_law_1471 : decode cL_law 1471 = .ok (.aload_n 2, 1) := by decide +kernel
theorem dL_law_1472 : decode cL_law 1472 = .ok (.invokevirtual 105, 3) := by decide +kernel
theorem dL_law_1475 : decode cL_law 1475 = .ok (.iload 5, 2) := by decide +kernel
theorem dL_law_1477 : decode cL_law 1477 = .ok (.if_icmp .eq 5, 3) := by decide +kernel
theorem dL_law_1480 : decode cL_law 1480 = .ok (.iconst 0, 1) := by decide +kernel
theorem dL_law_1481 : decode cL_law 1481 = .ok (.ireturn, 1) := by decide +kernel
theorem dL_law_1482 : decode cL_law 1482 = .ok (.iload 5, 2) := by decide +kernel
theorem dL_law_1484 : decode cL_law 1484 = .ok (.ifCond .ne 15, 3) := by decide +kernel
theorem dL_law_1487 : decode cL_law 1487 = .ok (.aload_n 3, 1) := by decide +kernel
theorem dL_law_1488 : decode cL_law 1488 = .ok (.iconst 0, 1) := by decide +kernel
theorem dL_law_1489 : decode cL_law 1489 = .ok (.laload, 1) := by decide +kernel
theorem dL_law_1490 : decode cL_law 1490 = .ok (.iload 6, 2) := by decide +kernel
theorem dL_law_1492 : decode cL_law 1492 = .ok (.i2l, 1) := by decide +kernel
theorem dL_law_1493 : decode cL_law 1493 = .ok (.lcmp, 1) := by decide +kernel
theorem dL_law_1494 : decode cL_law 1494 = .ok (.ifCond .eq 5, 3) := by decide +kernel
theorem dL_law_1497 : decode cL_law 1497 = .ok (.iconst 0, 1) := by decide +kernel
theorem dL_law_1498 : decode cL_law 1498 = .ok (.ireturn, 1) := by decide +kernel
theorem dL_law_1499 : decode cL_law 1499 = .ok (.goto 276, 3) := by decide +kernel
theorem dL_law_1502 : decode cL_law 1502 = .ok (.aload_n 1, 1) := by decide +kernel
theorem dL_law_1503 : decode cL_law 1503 = .ok (.aload_n 0, 1) := by decide +kernel
theorem dL_law_1504 : decode cL_law 1504 = .ok (.iload 4, 2) := by decide +kernel
theorem dL_law_1506 : decode cL_law 1506 = .ok (.iconst 1, 1) := by decide +kernel
theorem dL_law_1507 : decode cL_law 1507 = .ok (.iadd, 1) := by decide +kernel
theorem dL_law_1508 : decode cL_law 1508 = .ok (.iaload, 1) := by decide +kernel
theorem dL_law_1509 : decode cL_law 1509 = .ok (.aload_n 0, 1) := by decide +kernel
theorem dL_law_1510 : decode cL_law 1510 = .ok (.iload 4, 2) := by decide +kernel
theorem dL_law_1512 : decode cL_law 1512 = .ok (.iconst 2, 1) := by decide +kernel
theorem dL_law_1513 : decode cL_law 1513 = .ok (.iadd, 1) := by decide +kernel
theorem dL_law_1514 : decode cL_law 1514 = .ok (.iaload, 1) := by decide +kernel
theorem dL_law_1515 : decode cL_law 1515 = .ok (.aload_n 0, 1) := by decide +kernel
theorem dL_law_1516 : decode cL_law 1516 = .ok (.iload 4, 2) := by decide +kernel
theorem dL_law_1518 : decode cL_law 1518 = .ok (.iconst 3, 1) := by decide +kernel
theorem dL_law_1519 : decode cL_law 1519 = .ok (.iadd, 1) := by decide +kernel
theorem dL_law_1520 : decode cL_law 1520 = .ok (.iaload, 1) := by decide +kernel
theorem dL_law_1521 : decode cL_law 1521 = .ok (.aload_n 3, 1) := by decide +kernel
theorem dL_law_1522 : decode cL_law 1522 = .ok (.invokestatic 169, 3) := by decide +kernel
theorem dL_law_1525 : decode cL_law 1525 = .ok (.istore 5, 2) := by decide +kernel
theorem dL_law_1527 : decode cL_law 1527 = .ok (.aload_n 2, 1) := by decide +kernel
theorem dL_law_1528 : decode cL_law 1528 = .ok (.aload_n 0, 1) := by decide +kernel
theorem dL_law_1529 : decode cL_law 1529 = .ok (.iload 4, 2) := by decide +kernel
theorem dL_law_1531 : decode cL_law 1531 = .ok (.iconst 1, 1) := by decide +kernel
theorem dL_law_1532 : decode cL_law 1532 = .ok (.iadd, 1) := by decide +kernel
theorem dL_law_1533 : decode cL_law 1533 = .ok (.iaload, 1) := by decide +kernel
theorem dL_law_1534 : decode cL_law 1534 = .ok (.aload_n 0, 1) := by decide +kernel
theorem dL_law_1535 : decode cL_law 1535 = .ok (.iload 4, 2) := by decide +kernel
theorem dL_law_1537 : decode cL_law 1537 = .ok (.iconst 2, 1) := by decide +kernel
theorem dL_law_1538 : decode cL_law 1538 = .ok (.iadd, 1) := by decide +kernel
theorem dL_law_1539 : decode cL_law 1539 = .ok (.iaload, 1) := by decide +kernel
theorem dL_law_1540 : decode cL_law 1540 = .ok (.aload_n 0, 1) := by decide +kernel
theorem dL_law_1541 : decode cL_law 1541 = .ok (.iload 4, 2) := by decide +kernel
theorem dL_law_1543 : decode cL_law 1543 = .ok (.iconst 3, 1) := by decide +kernel
theorem dL_law_1544 : decode cL_law 1544 = .ok (.iadd, 1) := by decide +kernel
theorem dL_law_1545 : decode cL_law 1545 = .ok (.iaload, 1) := by decide +kernel
theorem dL_law_1546 : decode cL_law 1546 = .ok (.invokevirtual 171, 3) := by decide +kernel
theorem dL_law_1549 : decode cL_law 1549 = .ok (.istore 6, 2) := by decide +kernel
theorem dL_law_1551 : decode cL_law 1551 = .ok (.aload_n 2, 1) := by decide +kernel
theorem dL_law_1552 : decode cL_law 1552 = .ok (.invokevirtual 105, 3) := by decide +kernel
theorem dL_law_1555 : decode cL_law 1555 = .ok (.iload 5, 2) := by decide +kernel
theorem dL_law_1557 : decode cL_law 1557 = .ok (.if_icmp .eq 5, 3) := by decide +kernel
theorem dL_law_1560 : decode cL_law 1560 = .ok (.iconst 0, 1) := by decide +kernel
theorem dL_law_1561 : decode cL_law 1561 = .ok (.ireturn, 1) := by decide +kernel
theorem dL_law_1562 : decode cL_law 1562 = .ok (.iload 5, 2) := by decide +kernel
theorem dL_law_1564 : decode cL_law 1564 = .ok (.ifCond .ne 15, 3) := by decide +kernel
theorem dL_law_1567 : decode cL_law 1567 = .ok (.aload_n 3, 1) := by decide +kernel
theorem dL_law_1568 : decode cL_law 1568 = .ok (.iconst 0, 1) := by decide +kernel
theorem dL_law_1569 : decode cL_law 1569 = .ok (.laload, 1) := by decide +kernel
theorem dL_law_1570 : decode cL_law 1570 = .ok (.iload 6, 2) := by decide +kernel
theorem dL_law_1572 : decode cL_law 1572 = .ok (.i2l, 1) := by decide +kernel
theorem dL_law_1573 : decode cL_law 1573 = .ok (.lcmp, 1) := by decide +kernel
theorem dL_law_1574 : decode cL_law 1574 = .ok (.ifCond .eq 5, 3) := by decide +kernel
theorem dL_law_1577 : decode cL_law 1577 = .ok (.iconst 0, 1) := by decide +kernel
theorem dL_law_1578 : decode cL_law 1578 = .ok (.ireturn, 1) := by decide +kernel
theorem dL_law_1579 : decode cL_law 1579 = .ok (.goto 196, 3) := by decide +kernel
theorem dL_law_1582 : decode cL_law 1582 = .ok (.aload_n 1, 1) := by decide +kernel
theorem dL_law_1583 : decode cL_law 1583 = .ok (.aload_n 0, 1) := by decide +kernel
theorem dL_law_1584 : decode cL_law 1584 = .ok (.iload 4, 2) := by decide +kernel
theorem dL_law_1586 : decode cL_law 1586 = .ok (.iconst 1, 1) := by decide +kernel
theorem dL_law_1587 : decode cL_law 1587 = .ok (.iadd, 1) := by decide +kernel
theorem dL_law_1588 : decode cL_law 1588 = .ok (.iaload, 1) := by decide +kernel
theorem dL_law_1589 : decode cL_law 1589 = .ok (.aload_n 0, 1) := by decide +kernel
theorem dL_law_1590 : decode cL_law 1590 = .ok (.iload 4, 2) := by decide +kernel
theorem dL_law_1592 : decode cL_law 1592 = .ok (.iconst 2, 1) := by decide +kernel
theorem dL_law_1593 : decode cL_law 1593 = .ok (.iadd, 1) := by decide +kernel
theorem dL_law_1594 : decode cL_law 1594 = .ok (.iaload, 1) := by decide +kernel
theorem dL_law_1595 : decode cL_law 1595 = .ok (.aload_n 3, 1) := by decide +kernel
theorem dL_law_1596 : decode cL_law 1596 = .ok (.invokestatic 172, 3) := by decide +kernel
theorem dL_law_1599 : decode cL_law 1599 = .ok (.istore 5, 2) := by decide +kernel
theorem dL_law_1601 : decode cL_law 1601 = .ok (.aload_n 2, 1) := by decide +kernel
theorem dL_law_1602 : decode cL_law 1602 = .ok (.aload_n 0, 1) := by decide +kernel
theorem dL_law_1603 : decode cL_law 1603 = .ok (.iload 4, 2) := by decide +kernel
theorem dL_law_1605 : decode cL_law 1605 = .ok (.iconst 1, 1) := by decide +kernel
theorem dL_law_1606 : decode cL_law 1606 = .ok (.iadd, 1) := by decide +kernel
theorem dL_law_1607 : decode cL_law 1607 = .ok (.iaload, 1) := by decide +kernel
theorem dL_law_1608 : decode cL_law 1608 = .ok (.aload_n 0, 1) := by decide +kernel
theorem dL_law_1609 : decode cL_law 1609 = .ok (.iload 4, 2) := by decide +kernel
theorem dL_law_1611 : decode cL_law 1611 = .ok (.iconst 2, 1) := by decide +kernel
theorem dL_law_1612 : decode cL_law 1612 = .ok (.iadd, 1) := by decide +kernel
theorem dL_law_1613 : decode cL_law 1613 = .ok (.iaload, 1) := by decide +kernel
theorem dL_law_1614 : decode cL_law 1614 = .ok (.invokevirtual 174, 3) := by decide +kernel
theorem dL_law_1617 : decode cL_law 1617 = .ok (.lstore 6, 2) := by decide +kernel
theorem dL_law_1619 : decode cL_law 1619 = .ok (.aload_n 2, 1) := by decide +kernel
theorem dL_law_1620 : decode cL_law 1620 = .ok (.invokevirtual 105, 3) := by decide +kernel
theorem dL_law_1623 : decode cL_law 1623 = .ok (.iload 5, 2) := by decide +kernel
theorem dL_law_1625 : decode cL_law 1625 = .ok (.if_icmp .eq 5, 3) := by decide +kernel
theorem dL_law_1628 : decode cL_law 1628 = .ok (.iconst 0, 1) := by decide +kernel
theorem dL_law_1629 : decode cL_law 1629 = .ok (.ireturn, 1) := by decide +kernel
theorem dL_law_1630 : decode cL_law 1630 = .ok (.iload 5, 2) := by decide +kernel
theorem dL_law_1632 : decode cL_law 1632 = .ok (.ifCond .ne 14, 3) := by decide +kernel
theorem dL_law_1635 : decode cL_law 1635 = .ok (.aload_n 3, 1) := by decide +kernel
theorem dL_law_1636 : decode cL_law 1636 = .ok (.iconst 0, 1) := by decide +kernel
theorem dL_law_1637 : decode cL_law 1637 = .ok (.laload, 1) := by decide +kernel
theorem dL_law_1638 : decode cL_law 1638 = .ok (.lload 6, 2) := by decide +kernel
theorem dL_law_1640 : decode cL_law 1640 = .ok (.lcmp, 1) := by decide +kernel
theorem dL_law_1641 : decode cL_law 1641 = .ok (.ifCond .eq 5, 3) := by decide +kernel
theorem dL_law_1644 : decode cL_law 1644 = .ok (.iconst 0, 1) := by decide +kernel
theorem dL_law_1645 : decode cL_law 1645 = .ok (.ireturn, 1) := by decide +kernel
theorem dL_law_1646 : decode cL_law 1646 = .ok (.goto 129, 3) := by decide +kernel
theorem dL_law_1649 : decode cL_law 1649 = .ok (.aload_n 1, 1) := by decide +kernel
theorem dL_law_1650 : decode cL_law 1650 = .ok (.invokevirtual 175, 3) := by decide +kernel
theorem dL_law_1653 : decode cL_law 1653 = .ok (.aload_n 2, 1) := by decide +kernel
theorem dL_law_1654 : decode cL_law 1654 = .ok (.invokevirtual 179, 3) := by decide +kernel
theorem dL_law_1657 : decode cL_law 1657 = .ok (.lcmp, 1) := by decide +kernel
theorem dL_law_1658 : decode cL_law 1658 = .ok (.ifCond .eq 117, 3) := by decide +kernel
theorem dL_law_1661 : decode cL_law 1661 = .ok (.iconst 0, 1) := by decide +kernel
theorem dL_law_1662 : decode cL_law 1662 = .ok (.ireturn, 1) := by decide +kernel
theorem dL_law_1663 : decode cL_law 1663 = .ok (.aload_n 1, 1) := by decide +kernel
theorem dL_law_1664 : decode cL_law 1664 = .ok (.aload_n 0, 1) := by decide +kernel
theorem dL_law_1665 : decode cL_law 1665 = .ok (.iload 4, 2) := by decide +kernel
theorem dL_law_1667 : decode cL_law 1667 = .ok (.iconst 1, 1) := by decide +kernel
theorem dL_law_1668 : decode cL_law 1668 = .ok (.iadd, 1) := by decide +kernel
theorem dL_law_1669 : decode cL_law 1669 = .ok (.iaload, 1) := by decide +kernel
theorem dL_law_1670 : decode cL_law 1670 = .ok (.aload_n 3, 1) := by decide +kernel
theorem dL_law_1671 : decode cL_law 1671 = .ok (.invokestatic 180, 3) := by decide +kernel
theorem dL_law_1674 : decode cL_law 1674 = .ok (.istore 5, 2) := by decide +kernel
theorem dL_law_1676 : decode cL_law 1676 = .ok (.aload_n 2, 1) := by decide +kernel
theorem dL_law_1677 : decode cL_law 1677 = .ok (.aload_n 0, 1) := by decide +kernel
theorem dL_law_1678 : decode cL_law 1678 = .ok (.iload 4, 2) := by decide +kernel
theorem dL_law_1680 : decode cL_law 1680 = .ok (.iconst 1, 1) := by decide +kernel
theorem dL_law_1681 : decode cL_law 1681 = .ok (.iadd, 1) := by decide +kernel
theorem dL_law_1682 : decode cL_law 1682 = .ok (.iaload, 1) := by decide +kernel
theorem dL_law_1683 : decode cL_law 1683 = .ok (.invokevirtual 182, 3) := by decide +kernel
theorem dL_law_1686 : decode cL_law 1686 = .ok (.istore 6, 2) := by decide +kernel
theorem dL_law_1688 : decode cL_law 1688 = .ok (.aload_n 2, 1) := by decide +kernel
theorem dL_law_1689 : decode cL_law 1689 = .ok (.invokevirtual 105, 3) := by decide +kernel
theorem dL_law_1692 : decode cL_law 1692 = .ok (.iload 5, 2) := by decide +kernel
theorem dL_law_1694 : decode cL_law 1694 = .ok (.if_icmp .eq 5, 3) := by decide +kernel
theorem dL_law_1697 : decode cL_law 1697 = .ok (.iconst 0, 1) := by decide +kernel
theorem dL_law_1698 : decode cL_law 1698 = .ok (.ireturn, 1) := by decide +kernel
theorem dL_law_1699 : decode cL_law 1699 = .ok (.iload 5, 2) := by decide +kernel
theorem dL_law_1701 : decode cL_law 1701 = .ok (.ifCond .ne 15, 3) := by decide +kernel
theorem dL_law_1704 : decode cL_law 1704 = .ok (.aload_n 3, 1) := by decide +kernel
theorem dL_law_1705 : decode cL_law 1705 = .ok (.iconst 0, 1) := by decide +kernel
theorem dL_law_1706 : decode cL_law 1706 = .ok (.laload, 1) := by decide +kernel
theorem dL_law_1707 : decode cL_law 1707 = .ok (.iload 6, 2) := by decide +kernel
theorem dL_law_1709 : decode cL_law 1709 = .ok (.i2l, 1) := by decide +kernel
theorem dL_law_1710 : decode cL_law 1710 = .ok (.lcmp, 1) := by decide +kernel
theorem dL_law_1711 : decode cL_law 1711 = .ok (.ifCond .eq 5, 3) := by decide +kernel
theorem dL_law_1714 : decode cL_law 1714 = .ok (.iconst 0, 1) := by decide +kernel
theorem dL_law_1715 : decode cL_law 1715 = .ok (.ireturn, 1) := by decide +kernel
theorem dL_law_1716 : decode cL_law 1716 = .ok (.goto 59, 3) := by decide +kernel
theorem dL_law_1719 : decode cL_law 1719 = .ok (.aload_n 1, 1) := by decide +kernel
theorem dL_law_1720 : decode cL_law 1720 = .ok (.aload_n 0, 1) := by decide +kernel
theorem dL_law_1721 : decode cL_law 1721 = .ok (.iload 4, 2) := by decide +kernel
theorem dL_law_1723 : decode cL_law 1723 = .ok (.iconst 1, 1) := by decide +kernel
theorem dL_law_1724 : decode cL_law 1724 = .ok (.iadd, 1) := by decide +kernel
theorem dL_law_1725 : decode cL_law 1725 = .ok (.iaload, 1) := by decide +kernel
theorem dL_law_1726 : decode cL_law 1726 = .ok (.aload_n 3, 1) := by decide +kernel
theorem dL_law_1727 : decode cL_law 1727 = .ok (.invokestatic 183, 3) := by decide +kernel
theorem dL_law_1730 : decode cL_law 1730 = .ok (.istore 5, 2) := by decide +kernel
theorem dL_law_1732 : decode cL_law 1732 = .ok (.aload_n 2, 1) := by decide +kernel
theorem dL_law_1733 : decode cL_law 1733 = .ok (.aload_n 0, 1) := by decide +kernel
theorem dL_law_1734 : decode cL_law 1734 = .ok (.iload 4, 2) := by decide +kernel
theorem dL_law_1736 : decode cL_law 1736 = .ok (.iconst 1, 1) := by decide +kernel
theorem dL_law_1737 : decode cL_law 1737 = .ok (.iadd, 1) := by decide +kernel
theorem dL_law_1738 : decode cL_law 1738 = .ok (.iaload, 1) := by decide +kernel
theorem dL_law_1739 : decode cL_law 1739 = .ok (.invokevirtual 185, 3) := by decide +kernel
theorem dL_law_1742 : decode cL_law 1742 = .ok (.istore 6, 2) := by decide +kernel
theorem dL_law_1744 : decode cL_law 1744 = .ok (.aload_n 2, 1) := by decide +kernel
theorem dL_law_1745 : decode cL_law 1745 = .ok (.invokevirtual 105, 3) := by decide +kernel
theorem dL_law_1748 : decode cL_law 1748 = .ok (.iload 5, 2) := by decide +kernel
theorem dL_law_1750 : decode cL_law 1750 = .ok (.if_icmp .eq 5, 3) := by decide +kernel
theorem dL_law_1753 : decode cL_law 1753 = .ok (.iconst 0, 1) := by decide +kernel
theorem dL_law_1754 : decode cL_law 1754 = .ok (.ireturn, 1) := by decide +kernel
theorem dL_law_1755 : decode cL_law 1755 = .ok (.iload 5, 2) := by decide +kernel
theorem dL_law_1757 : decode cL_law 1757 = .ok (.ifCond .ne 15, 3) := by decide +kernel
theorem dL_law_1760 : decode cL_law 1760 = .ok (.aload_n 3, 1) := by decide +kernel
theorem dL_law_1761 : decode cL_law 1761 = .ok (.iconst 0, 1) := by decide +kernel
theorem dL_law_1762 : decode cL_law 1762 = .ok (.laload, 1) := by decide +kernel
theorem dL_law_1763 : decode cL_law 1763 = .ok (.iload 6, 2) := by decide +kernel
theorem dL_law_1765 : decode cL_law 1765 = .ok (.i2l, 1) := by decide +kernel
theorem dL_law_1766 : decode cL_law 1766 = .ok (.lcmp, 1) := by decide +kernel
theorem dL_law_1767 : decode cL_law 1767 = .ok (.ifCond .eq 5, 3) := by decide +kernel
theorem dL_law_1770 : decode cL_law 1770 = .ok (.iconst 0, 1) := by decide +kernel
theorem dL_law_1771 : decode cL_law 1771 = .ok (.ireturn, 1) := by decide +kernel
theorem dL_law_1772 : decode cL_law 1772 = .ok (.goto 3, 3) := by decide +kernel
theorem dL_law_1775 : decode cL_law 1775 = .ok (.iinc 4 5, 3) := by decide +kernel
theorem dL_law_1778 : decode cL_law 1778 = .ok (.goto (-1755), 3) := by decide +kernel
theorem dL_law_1781 : decode cL_law 1781 = .ok (.iconst 1, 1) := by decide +kernel
theorem dL_law_1782 : decode cL_law 1782 = .ok (.ireturn, 1) := by decide +kernel
