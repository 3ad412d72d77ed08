theorem d_Mt_min_0 : decode c_Mt_min 0 = .ok (.iload_n 0, 1) := by decide +kernel
theorem d_Mt_min_1 : decode c_Mt_min 1 = .ok (.iload_n 1, 1) := by decide +kernel
theorem d_Mt_min_2 : decode c_Mt_min 2 = .ok (.if_icmp .gt 7, 3) := by decide +kernel
theorem d_Mt_min_5 : decode c_Mt_min 5 = .ok (.iload_n 0, 1) := by decide +kernel
theorem d_Mt_min_6 : decode c_Mt_min 6 = .ok (.goto 4, 3) := by decide +kernel
theorem d_Mt_min_9 : decode c_Mt_min 9 = .ok (.iload_n 1, 1) := by decide +kernel
theorem d_Mt_min_10 : decode c_Mt_min 10 = .ok (.ireturn, 1) := by decide +kernel
theorem d_Mt_max_0 : decode c_Mt_max 0 = .ok (.iload_n 0, 1) := by decide +kernel
theorem d_Mt_max_1 : decode c_Mt_max 1 = .ok (.iload_n 1, 1) := by decide +kernel
theorem d_Mt_max_2 : decode c_Mt_max 2 = .ok (.if_icmp .lt 7, 3) := by decide +kernel
theorem d_Mt_max_5 : decode c_Mt_max 5 = .ok (.iload_n 0, 1) := by decide +kernel
theorem d_Mt_max_6 : decode c_Mt_max 6 = .ok (.goto 4, 3) := by decide +kernel
theorem d_Mt_max_9 : decode c_Mt_max 9 = .ok (.iload_n 1, 1) := by decide +kernel
theorem d_Mt_max_10 : decode c_Mt_max 10 = .ok (.ireturn, 1) := by decide +kernel
theorem d_Hr_init_0 : decode c_Hr_init 0 = .ok (.aload_n 0, 1) := by decide +kernel
theorem d_Hr_init_1 : decode c_Hr_init 1 = .ok (.invokespecial 1, 3) := by decide +kernel
theorem d_Hr_init_4 : decode c_Hr_init 4 = .ok (.aload_n 0, 1) := by decide +kernel
theorem d_Hr_init_5 : decode c_Hr_init 5 = .ok (.iconst 0, 1) := by decide +kernel
theorem d_Hr_init_6 : decode c_Hr_init 6 = .ok (.putfield 7, 3) := by decide +kernel
theorem d_Hr_init_9 : decode c_Hr_init 9 = .ok (.aload_n 0, 1) := by decide +kernel
theorem d_Hr_init_10 : decode c_Hr_init 10 = .ok (.iconst 0, 1) := by decide +kernel
theorem d_Hr_init_11 : decode c_Hr_init 11 = .ok (.putfield 13, 3) := by decide +kernel
theorem d_Hr_init_14 : decode c_Hr_init 14 = .ok (.aload_n 0, 1) := by decide +kernel
theorem d_Hr_init_15 : decode c_Hr_init 15 = .ok (.iconst 0, 1) := by decide +kernel
theorem d_Hr_init_16 : decode c_Hr_init 16 = .ok (.putfield 16, 3) := by decide +kernel
theorem d_Hr_init_19 : decode c_Hr_init 19 = .ok (.aload_n 0, 1) := by decide +kernel
theorem d_Hr_init_20 : decode c_Hr_init 20 = .ok (.iconst 0, 1) := by decide +kernel
theorem d_Hr_init_21 : decode c_Hr_init 21 = .ok (.putfield 19, 3) := by decide +kernel
theorem d_Hr_init_24 : decode c_Hr_init 24 = .ok (.return_, 1) := by decide +kernel
theorem d_Bx_isAllowed_0 : decode c_Bx_isAllowed 0 = .ok (.bipush (-100), 2) := by decide +kernel
theorem d_Bx_isAllowed_2 : decode c_Bx_isAllowed 2 = .ok (.iload_n 0, 1) := by decide +kernel
theorem d_Bx_isAllowed_3 : decode c_Bx_isAllowed 3 = .ok (.if_icmp .gt 57, 3) := by decide +kernel
theorem d_Bx_isAllowed_6 : decode c_Bx_isAllowed 6 = .ok (.iload_n 0, 1) := by decide +kernel
theorem d_Bx_isAllowed_7 : decode c_Bx_isAllowed 7 = .ok (.iload_n 3, 1) := by decide +kernel
theorem d_Bx_isAllowed_8 : decode c_Bx_isAllowed 8 = .ok (.if_icmp .ge 52, 3) := by decide +kernel
theorem d_Bx_isAllowed_11 : decode c_Bx_isAllowed 11 = .ok (.iload_n 3, 1) := by decide +kernel
theorem d_Bx_isAllowed_12 : decode c_Bx_isAllowed 12 = .ok (.sipush 200, 3) := by decide +kernel
theorem d_Bx_isAllowed_15 : decode c_Bx_isAllowed 15 = .ok (.if_icmp .gt 45, 3) := by decide +kernel
theorem d_Bx_isAllowed_18 : decode c_Bx_isAllowed 18 = .ok (.bipush (-100), 2) := by decide +kernel
theorem d_Bx_isAllowed_20 : decode c_Bx_isAllowed 20 = .ok (.iload_n 1, 1) := by decide +kernel
theorem d_Bx_isAllowed_21 : decode c_Bx_isAllowed 21 = .ok (.if_icmp .gt 39, 3) := by decide +kernel
theorem d_Bx_isAllowed_24 : decode c_Bx_isAllowed 24 = .ok (.iload_n 1, 1) := by decide +kernel
theorem d_Bx_isAllowed_25 : decode c_Bx_isAllowed 25 = .ok (.iload 4, 2) := by decide +kernel
theorem d_Bx_isAllowed_27 : decode c_Bx_isAllowed 27 = .ok (.if_icmp .ge 33, 3) := by decide +kernel
theorem d_Bx_isAllowed_30 : decode c_Bx_isAllowed 30 = .ok (.iload 4, 2) := by decide +kernel
theorem d_Bx_isAllowed_32 : decode c_Bx_isAllowed 32 = .ok (.sipush 200, 3) := by decide +kernel
theorem d_Bx_isAllowed_35 : decode c_Bx_isAllowed 35 = .ok (.if_icmp .gt 25, 3) := by decide +kernel
theorem d_Bx_isAllowed_38 : decode c_Bx_isAllowed 38 = .ok (.iconst 0, 1) := by decide +kernel
theorem d_Bx_isAllowed_39 : decode c_Bx_isAllowed 39 = .ok (.iload_n 2, 1) := by decide +kernel
theorem d_Bx_isAllowed_40 : decode c_Bx_isAllowed 40 = .ok (.if_icmp .gt 20, 3) := by decide +kernel
theorem d_Bx_isAllowed_43 : decode c_Bx_isAllowed 43 = .ok (.iload_n 2, 1) := by decide +kernel
theorem d_Bx_isAllowed_44 : decode c_Bx_isAllowed 44 = .ok (.iload 5, 2) := by decide +kernel
theorem d_Bx_isAllowed_46 : decode c_Bx_isAllowed 46 = .ok (.if_icmp .gt 14, 3) := by decide +kernel
theorem d_Bx_isAllowed_49 : decode c_Bx_isAllowed 49 = .ok (.iload 5, 2) := by decide +kernel
theorem d_Bx_isAllowed_51 : decode c_Bx_isAllowed 51 = .ok (.bipush 100, 2) := by decide +kernel
theorem d_Bx_isAllowed_53 : decode c_Bx_isAllowed 53 = .ok (.if_icmp .gt 7, 3) := by decide +kernel
theorem d_Bx_isAllowed_56 : decode c_Bx_isAllowed 56 = .ok (.iconst 1, 1) := by decide +kernel
theorem d_Bx_isAllowed_57 : decode c_Bx_isAllowed 57 = .ok (.goto 4, 3) := by decide +kernel
theorem d_Bx_isAllowed_60 : decode c_Bx_isAllowed 60 = .ok (.iconst 0, 1) := by decide +kernel
theorem d_Bx_isAllowed_61 : decode c_Bx_isAllowed 61 = .ok (.ireturn, 1) := by decide +kernel
theorem d_Bx_init_0 : decode c_Bx_init 0 = .ok (.aload_n 0, 1) := by decide +kernel
theorem d_Bx_init_1 : decode c_Bx_init 1 = .ok (.invokespecial 3, 3) := by decide +kernel
theorem d_Bx_init_4 : decode c_Bx_init 4 = .ok (.aload_n 0, 1) := by decide +kernel
theorem d_Bx_init_5 : decode c_Bx_init 5 = .ok (.iconst 1, 1) := by decide +kernel
theorem d_Bx_init_6 : decode c_Bx_init 6 = .ok (.putfield 9, 3) := by decide +kernel
theorem d_Bx_init_9 : decode c_Bx_init 9 = .ok (.aload_n 0, 1) := by decide +kernel
theorem d_Bx_init_10 : decode c_Bx_init 10 = .ok (.iload_n 1, 1) := by decide +kernel
theorem d_Bx_init_11 : decode c_Bx_init 11 = .ok (.putfield 15, 3) := by decide +kernel
theorem d_Bx_init_14 : decode c_Bx_init 14 = .ok (.aload_n 0, 1) := by decide +kernel
theorem d_Bx_init_15 : decode c_Bx_init 15 = .ok (.iload_n 2, 1) := by decide +kernel
theorem d_Bx_init_16 : decode c_Bx_init 16 = .ok (.putfield 19, 3) := by decide +kernel
theorem d_Bx_init_19 : decode c_Bx_init 19 = .ok (.aload_n 0, 1) := by decide +kernel
theorem d_Bx_init_20 : decode c_Bx_init 20 = .ok (.iload_n 3, 1) := by decide +kernel
theorem d_Bx_init_21 : decode c_Bx_init 21 = .ok (.putfield 22, 3) := by decide +kernel
theorem d_Bx_init_24 : decode c_Bx_init 24 = .ok (.aload_n 0, 1) := by decide +kernel
theorem d_Bx_init_25 : decode c_Bx_init 25 = .ok (.iload 4, 2) := by decide +kernel
theorem d_Bx_init_27 : decode c_Bx_init 27 = .ok (.putfield 25, 3) := by decide +kernel
theorem d_Bx_init_30 : decode c_Bx_init 30 = .ok (.aload_n 0, 1) := by decide +kernel
theorem d_Bx_init_31 : decode c_Bx_init 31 = .ok (.iload 5, 2) := by decide +kernel
theorem d_Bx_init_33 : decode c_Bx_init 33 = .ok (.putfield 28, 3) := by decide +kernel
theorem d_Bx_init_36 : decode c_Bx_init 36 = .ok (.aload_n 0, 1) := by decide +kernel
theorem d_Bx_init_37 : decode c_Bx_init 37 = .ok (.iload 6, 2) := by decide +kernel
theorem d_Bx_init_39 : decode c_Bx_init 39 = .ok (.putfield 31, 3) := by decide +kernel
theorem d_Bx_init_42 : decode c_Bx_init 42 = .ok (.return_, 1) := by decide +kernel
theorem d_Bx_shiftIfAllowed_0 : decode c_Bx_shiftIfAllowed 0 = .ok (.aload_n 0, 1) := by decide +kernel
theorem d_Bx_shiftIfAllowed_1 : decode c_Bx_shiftIfAllowed 1 = .ok (.getfield 15, 3) := by decide +kernel
theorem d_Bx_shiftIfAllowed_4 : decode c_Bx_shiftIfAllowed 4 = .ok (.iload_n 1, 1) := by decide +kernel
theorem d_Bx_shiftIfAllowed_5 : decode c_Bx_shiftIfAllowed 5 = .ok (.iadd, 1) := by decide +kernel
theorem d_Bx_shiftIfAllowed_6 : decode c_Bx_shiftIfAllowed 6 = .ok (.aload_n 0, 1) := by decide +kernel
theorem d_Bx_shiftIfAllowed_7 : decode c_Bx_shiftIfAllowed 7 = .ok (.getfield 19, 3) := by decide +kernel
theorem d_Bx_shiftIfAllowed_10 : decode c_Bx_shiftIfAllowed 10 = .ok (.iload_n 2, 1) := by decide +kernel
theorem d_Bx_shiftIfAllowed_11 : decode c_Bx_shiftIfAllowed 11 = .ok (.iadd, 1) := by decide +kernel
theorem d_Bx_shiftIfAllowed_12 : decode c_Bx_shiftIfAllowed 12 = .ok (.aload_n 0, 1) := by decide +kernel
theorem d_Bx_shiftIfAllowed_13 : decode c_Bx_shiftIfAllowed 13 = .ok (.getfield 22, 3) := by decide +kernel
theorem d_Bx_shiftIfAllowed_16 : decode c_Bx_shiftIfAllowed 16 = .ok (.iload_n 3, 1) := by decide +kernel
theorem d_Bx_shiftIfAllowed_17 : decode c_Bx_shiftIfAllowed 17 = .ok (.iadd, 1) := by decide +kernel
theorem d_Bx_shiftIfAllowed_18 : decode c_Bx_shiftIfAllowed 18 = .ok (.aload_n 0, 1) := by decide +kernel
theorem d_Bx_shiftIfAllowed_19 : decode c_Bx_shiftIfAllowed 19 = .ok (.getfield 25, 3) := by decide +kernel
theorem d_Bx_shiftIfAllowed_22 : decode c_Bx_shiftIfAllowed 22 = .ok (.iload_n 1, 1) := by decide +kernel
theorem d_Bx_shiftIfAllowed_23 : decode c_Bx_shiftIfAllowed 23 = .ok (.iadd, 1) := by decide +kernel
theorem d_Bx_shiftIfAllowed_24 : decode c_Bx_shiftIfAllowed 24 = .ok (.aload_n 0, 1) := by decide +kernel
theorem d_Bx_shiftIfAllowed_25 : decode c_Bx_shiftIfAllowed 25 = .ok (.getfield 28, 3) := by decide +kernel
theorem d_Bx_shiftIfAllowed_28 : decode c_Bx_shiftIfAllowed 28 = .ok (.iload_n 2, 1) := by decide +kernel
theorem d_Bx_shiftIfAllowed_29 : decode c_Bx_shiftIfAllowed 29 = .ok (.iadd, 1) := by decide +kernel
theorem d_Bx_shiftIfAllowed_30 : decode c_Bx_shiftIfAllowed 30 = .ok (.aload_n 0, 1) := by decide +kernel
theorem d_Bx_shiftIfAllowed_31 : decode c_Bx_shiftIfAllowed 31 = .ok (.getfield 31, 3) := by decide +kernel
theorem d_Bx_shiftIfAllowed_34 : decode c_Bx_shiftIfAllowed 34 = .ok (.iload_n 3, 1) := by decide +kernel
theorem d_Bx_shiftIfAllowed_35 : decode c_Bx_shiftIfAllowed 35 = .ok (.iadd, 1) := by decide +kernel
theorem d_Bx_shiftIfAllowed_36 : decode c_Bx_shiftIfAllowed 36 = .ok (.invokestatic 34, 3) := by decide +kernel
theorem d_Bx_shiftIfAllowed_39 : decode c_Bx_shiftIfAllowed 39 = .ok (.ifCond .ne 5, 3) := by decide +kernel
theorem d_Bx_shiftIfAllowed_42 : decode c_Bx_shiftIfAllowed 42 = .ok (.iconst 0, 1) := by decide +kernel
theorem d_Bx_shiftIfAllowed_43 : decode c_Bx_shiftIfAllowed 43 = .ok (.ireturn, 1) := by decide +kernel
theorem d_Bx_shiftIfAllowed_44 : decode c_Bx_shiftIfAllowed 44 = .ok (.aload_n 0, 1) := by decide +kernel
theorem d_Bx_shiftIfAllowed_45 : decode c_Bx_shiftIfAllowed 45 = .ok (.dup, 1) := by decide +kernel
theorem d_Bx_shiftIfAllowed_46 : decode c_Bx_shiftIfAllowed 46 = .ok (.getfield 15, 3) := by decide +kernel
theorem d_Bx_shiftIfAllowed_49 : decode c_Bx_shiftIfAllowed 49 = .ok (.iload_n 1, 1) := by decide +kernel
theorem d_Bx_shiftIfAllowed_50 : decode c_Bx_shiftIfAllowed 50 = .ok (.iadd, 1) := by decide +kernel
theorem d_Bx_shiftIfAllowed_51 : decode c_Bx_shiftIfAllowed 51 = .ok (.putfield 15, 3) := by decide +kernel
theorem d_Bx_shiftIfAllowed_54 : decode c_Bx_shiftIfAllowed 54 = .ok (.aload_n 0, 1) := by decide +kernel
theorem d_Bx_shiftIfAllowed_55 : decode c_Bx_shiftIfAllowed 55 = .ok (.dup, 1) := by decide +kernel
theorem d_Bx_shiftIfAllowed_56 : decode c_Bx_shiftIfAllowed 56 = .ok (.getfield 19, 3) := by decide +kernel
theorem d_Bx_shiftIfAllowed_59 : decode c_Bx_shiftIfAllowed 59 = .ok (.iload_n 2, 1) := by decide +kernel
theorem d_Bx_shiftIfAllowed_60 : decode c_Bx_shiftIfAllowed 60 = .ok (.iadd, 1) := by decide +kernel
theorem d_Bx_shiftIfAllowed_61 : decode c_Bx_shiftIfAllowed 61 = .ok (.putfield 19, 3) := by decide +kernel
theorem d_Bx_shiftIfAllowed_64 : decode c_Bx_shiftIfAllowed 64 = .ok (.aload_n 0, 1) := by decide +kernel
theorem d_Bx_shiftIfAllowed_65 : decode c_Bx_shiftIfAllowed 65 = .ok (.dup, 1) := by decide +kernel
theorem d_Bx_shiftIfAllowed_66 : decode c_Bx_shiftIfAllowed 66 = .ok (.getfield 22, 3) := by decide +kernel
theorem d_Bx_shiftIfAllowed_69 : decode c_Bx_shiftIfAllowed 69 = .ok (.iload_n 3, 1) := by decide +kernel
theorem d_Bx_shiftIfAllowed_70 : decode c_Bx_shiftIfAllowed 70 = .ok (.iadd, 1) := by decide +kernel
theorem d_Bx_shiftIfAllowed_71 : decode c_Bx_shiftIfAllowed 71 = .ok (.putfield 22, 3) := by decide +kernel
theorem d_Bx_shiftIfAllowed_74 : decode c_Bx_shiftIfAllowed 74 = .ok (.aload_n 0, 1) := by decide +kernel
theorem d_Bx_shiftIfAllowed_75 : decode c_Bx_shiftIfAllowed 75 = .ok (.dup, 1) := by decide +kernel
theorem d_Bx_shiftIfAllowed_76 : decode c_Bx_shiftIfAllowed 76 = .ok (.getfield 25, 3) := by decide +kernel
theorem d_Bx_shiftIfAllowed_79 : decode c_Bx_shiftIfAllowed 79 = .ok (.iload_n 1, 1) := by decide +kernel
theorem d_Bx_shiftIfAllowed_80 : decode c_Bx_shiftIfAllowed 80 = .ok (.iadd, 1) := by decide +kernel
theorem d_Bx_shiftIfAllowed_81 : decode c_Bx_shiftIfAllowed 81 = .ok (.putfield 25, 3) := by decide +kernel
theorem d_Bx_shiftIfAllowed_84 : decode c_Bx_shiftIfAllowed 84 = .ok (.aload_n 0, 1) := by decide +kernel
theorem d_Bx_shiftIfAllowed_85 : decode c_Bx_shiftIfAllowed 85 = .ok (.dup, 1) := by decide +kernel
theorem d_Bx_shiftIfAllowed_86 : decode c_Bx_shiftIfAllowed 86 = .ok (.getfield 28, 3) := by decide +kernel
theorem d_Bx_shiftIfAllowed_89 : decode c_Bx_shiftIfAllowed 89 = .ok (.iload_n 2, 1) := by decide +kernel
theorem d_Bx_shiftIfAllowed_90 : decode c_Bx_shiftIfAllowed 90 = .ok (.iadd, 1) := by decide +kernel
theorem d_Bx_shiftIfAllowed_91 : decode c_Bx_shiftIfAllowed 91 = .ok (.putfield 28, 3) := by decide +kernel
theorem d_Bx_shiftIfAllowed_94 : decode c_Bx_shiftIfAllowed 94 = .ok (.aload_n 0, 1) := by decide +kernel
theorem d_Bx_shiftIfAllowed_95 : decode c_Bx_shiftIfAllowed 95 = .ok (.dup, 1) := by decide +kernel
theorem d_Bx_shiftIfAllowed_96 : decode c_Bx_shiftIfAllowed 96 = .ok (.getfield 31, 3) := by decide +kernel
theorem d_Bx_shiftIfAllowed_99 : decode c_Bx_shiftIfAllowed 99 = .ok (.iload_n 3, 1) := by decide +kernel
theorem d_Bx_shiftIfAllowed_100 : decode c_Bx_shiftIfAllowed 100 = .ok (.iadd, 1) := by decide +kernel
theorem d_Bx_shiftIfAllowed_101 : decode c_Bx_shiftIfAllowed 101 = .ok (.putfield 31, 3) := by decide +kernel
theorem d_Bx_shiftIfAllowed_104 : decode c_Bx_shiftIfAllowed 104 = .ok (.iconst 1, 1) := by decide +kernel
theorem d_Bx_shiftIfAllowed_105 : decode c_Bx_shiftIfAllowed 105 = .ok (.ireturn, 1) := by decide +kernel
theorem d_Wn_init_0 : decode c_Wn_init 0 = .ok (.aload_n 0, 1) := by decide +kernel
theorem d_Wn_init_1 : decode c_Wn_init 1 = .ok (.invokespecial 1, 3) := by decide +kernel
theorem d_Wn_init_4 : decode c_Wn_init 4 = .ok (.aload_n 0, 1) := by decide +kernel
theorem d_Wn_init_5 : decode c_Wn_init 5 = .ok (.iload_n 1, 1) := by decide +kernel
theorem d_Wn_init_6 : decode c_Wn_init 6 = .ok (.putfield 7, 3) := by decide +kernel
theorem d_Wn_init_9 : decode c_Wn_init 9 = .ok (.aload_n 0, 1) := by decide +kernel
theorem d_Wn_init_10 : decode c_Wn_init 10 = .ok (.iload_n 2, 1) := by decide +kernel
theorem d_Wn_init_11 : decode c_Wn_init 11 = .ok (.putfield 13, 3) := by decide +kernel
theorem d_Wn_init_14 : decode c_Wn_init 14 = .ok (.aload_n 0, 1) := by decide +kernel
theorem d_Wn_init_15 : decode c_Wn_init 15 = .ok (.iload_n 3, 1) := by decide +kernel
theorem d_Wn_init_16 : decode c_Wn_init 16 = .ok (.putfield 16, 3) := by decide +kernel
theorem d_Wn_init_19 : decode c_Wn_init 19 = .ok (.aload_n 0, 1) := by decide +kernel
theorem d_Wn_init_20 : decode c_Wn_init 20 = .ok (.iload 4, 2) := by decide +kernel
theorem d_Wn_init_22 : decode c_Wn_init 22 = .ok (.putfield 19, 3) := by decide +kernel
theorem d_Wn_init_25 : decode c_Wn_init 25 = .ok (.return_, 1) := by decide +kernel
theorem d_Hr_hasSun_0 : decode c_Hr_hasSun 0 = .ok (.aload_n 0, 1) := by decide +kernel
theorem d_Hr_hasSun_1 : decode c_Hr_hasSun 1 = .ok (.getfield 16, 3) := by decide +kernel
theorem d_Hr_hasSun_4 : decode c_Hr_hasSun 4 = .ok (.ifCond .le 7, 3) := by decide +kernel
theorem d_Hr_hasSun_7 : decode c_Hr_hasSun 7 = .ok (.iconst 1, 1) := by decide +kernel
theorem d_Hr_hasSun_8 : decode c_Hr_hasSun 8 = .ok (.goto 4, 3) := by decide +kernel
theorem d_Hr_hasSun_11 : decode c_Hr_hasSun 11 = .ok (.iconst 0, 1) := by decide +kernel
theorem d_Hr_hasSun_12 : decode c_Hr_hasSun 12 = .ok (.ireturn, 1) := by decide +kernel
theorem d_Bx_shadeThrownOnRow_0 : decode c_Bx_shadeThrownOnRow 0 = .ok (.iconst 2, 1) := by decide +kernel
theorem d_Bx_shadeThrownOnRow_1 : decode c_Bx_shadeThrownOnRow 1 = .ok (.iload_n 1, 1) := by decide +kernel
theorem d_Bx_shadeThrownOnRow_2 : decode c_Bx_shadeThrownOnRow 2 = .ok (.imul, 1) := by decide +kernel
theorem d_Bx_shadeThrownOnRow_3 : decode c_Bx_shadeThrownOnRow 3 = .ok (.iconst 1, 1) := by decide +kernel
theorem d_Bx_shadeThrownOnRow_4 : decode c_Bx_shadeThrownOnRow 4 = .ok (.iadd, 1) := by decide +kernel
theorem d_Bx_shadeThrownOnRow_5 : decode c_Bx_shadeThrownOnRow 5 = .ok (.istore 4, 2) := by decide +kernel
theorem d_Bx_shadeThrownOnRow_7 : decode c_Bx_shadeThrownOnRow 7 = .ok (.aload_n 0, 1) := by decide +kernel
theorem d_Bx_shadeThrownOnRow_8 : decode c_Bx_shadeThrownOnRow 8 = .ok (.getfield 9, 3) := by decide +kernel
theorem d_Bx_shadeThrownOnRow_11 : decode c_Bx_shadeThrownOnRow 11 = .ok (.ifCond .eq 26, 3) := by decide +kernel
theorem d_Bx_shadeThrownOnRow_14 : decode c_Bx_shadeThrownOnRow 14 = .ok (.aload_n 2, 1) := by decide +kernel
theorem d_Bx_shadeThrownOnRow_15 : decode c_Bx_shadeThrownOnRow 15 = .ok (.invokevirtual 38, 3) := by decide +kernel
theorem d_Bx_shadeThrownOnRow_18 : decode c_Bx_shadeThrownOnRow 18 = .ok (.ifCond .eq 19, 3) := by decide +kernel
theorem d_Bx_shadeThrownOnRow_21 : decode c_Bx_shadeThrownOnRow 21 = .ok (.aload_n 2, 1) := by decide +kernel
theorem d_Bx_shadeThrownOnRow_22 : decode c_Bx_shadeThrownOnRow 22 = .ok (.getfield 44, 3) := by decide +kernel
theorem d_Bx_shadeThrownOnRow_25 : decode c_Bx_shadeThrownOnRow 25 = .ok (.ifCond .ne 14, 3) := by decide +kernel
theorem d_Bx_shadeThrownOnRow_28 : decode c_Bx_shadeThrownOnRow 28 = .ok (.aload_n 0, 1) := by decide +kernel
theorem d_Bx_shadeThrownOnRow_29 : decode c_Bx_shadeThrownOnRow 29 = .ok (.iload 4, 2) := by decide +kernel
theorem d_Bx_shadeThrownOnRow_31 : decode c_Bx_shadeThrownOnRow 31 = .ok (.invokevirtual 47, 3) := by decide +kernel
theorem d_Bx_shadeThrownOnRow_34 : decode c_Bx_shadeThrownOnRow 34 = .ok (.ifCond .ne 5, 3) := by decide +kernel
theorem d_Bx_shadeThrownOnRow_37 : decode c_Bx_shadeThrownOnRow 37 = .ok (.lconst 0, 1) := by decide +kernel
theorem d_Bx_shadeThrownOnRow_38 : decode c_Bx_shadeThrownOnRow 38 = .ok (.lreturn, 1) := by decide +kernel
theorem d_Bx_shadeThrownOnRow_39 : decode c_Bx_shadeThrownOnRow 39 = .ok (.aload_n 2, 1) := by decide +kernel
theorem d_Bx_shadeThrownOnRow_40 : decode c_Bx_shadeThrownOnRow 40 = .ok (.getfield 44, 3) := by decide +kernel
theorem d_Bx_shadeThrownOnRow_43 : decode c_Bx_shadeThrownOnRow 43 = .ok (.ifCond .ne 7, 3) := by decide +kernel
theorem d_Bx_shadeThrownOnRow_46 : decode c_Bx_shadeThrownOnRow 46 = .ok (.iconst 1, 1) := by decide +kernel
theorem d_Bx_shadeThrownOnRow_47 : decode c_Bx_shadeThrownOnRow 47 = .ok (.goto 12, 3) := by decide +kernel
theorem d_Bx_shadeThrownOnRow_50 : decode c_Bx_shadeThrownOnRow 50 = .ok (.iconst 2, 1) := by decide +kernel
theorem d_Bx_shadeThrownOnRow_51 : decode c_Bx_shadeThrownOnRow 51 = .ok (.aload_n 2, 1) := by decide +kernel
theorem d_Bx_shadeThrownOnRow_52 : decode c_Bx_shadeThrownOnRow 52 = .ok (.getfield 44, 3) := by decide +kernel
theorem d_Bx_shadeThrownOnRow_55 : decode c_Bx_shadeThrownOnRow 55 = .ok (.invokestatic 51, 3) := by decide +kernel
theorem d_Bx_shadeThrownOnRow_58 : decode c_Bx_shadeThrownOnRow 58 = .ok (.imul, 1) := by decide +kernel
theorem d_Bx_shadeThrownOnRow_59 : decode c_Bx_shadeThrownOnRow 59 = .ok (.istore 5, 2) := by decide +kernel
theorem d_Bx_shadeThrownOnRow_61 : decode c_Bx_shadeThrownOnRow 61 = .ok (.aload_n 0, 1) := by decide +kernel
theorem d_Bx_shadeThrownOnRow_62 : decode c_Bx_shadeThrownOnRow 62 = .ok (.iload 4, 2) := by decide +kernel
theorem d_Bx_shadeThrownOnRow_64 : decode c_Bx_shadeThrownOnRow 64 = .ok (.aload_n 2, 1) := by decide +kernel
theorem d_Bx_shadeThrownOnRow_65 : decode c_Bx_shadeThrownOnRow 65 = .ok (.iload 5, 2) := by decide +kernel
theorem d_Bx_shadeThrownOnRow_67 : decode c_Bx_shadeThrownOnRow 67 = .ok (.invokevirtual 57, 3) := by decide +kernel
theorem d_Bx_shadeThrownOnRow_70 : decode c_Bx_shadeThrownOnRow 70 = .ok (.istore 6, 2) := by decide +kernel
theorem d_Bx_shadeThrownOnRow_72 : decode c_Bx_shadeThrownOnRow 72 = .ok (.aload_n 0, 1) := by decide +kernel
theorem d_Bx_shadeThrownOnRow_73 : decode c_Bx_shadeThrownOnRow 73 = .ok (.iload 4, 2) := by decide +kernel
theorem d_Bx_shadeThrownOnRow_75 : decode c_Bx_shadeThrownOnRow 75 = .ok (.aload_n 2, 1) := by decide +kernel
theorem d_Bx_shadeThrownOnRow_76 : decode c_Bx_shadeThrownOnRow 76 = .ok (.iload 5, 2) := by decide +kernel
theorem d_Bx_shadeThrownOnRow_78 : decode c_Bx_shadeThrownOnRow 78 = .ok (.invokevirtual 61, 3) := by decide +kernel
theorem d_Bx_shadeThrownOnRow_81 : decode c_Bx_shadeThrownOnRow 81 = .ok (.istore 7, 2) := by decide +kernel
theorem d_Bx_shadeThrownOnRow_83 : decode c_Bx_shadeThrownOnRow 83 = .ok (.iload 6, 2) := by decide +kernel
theorem d_Bx_shadeThrownOnRow_85 : decode c_Bx_shadeThrownOnRow 85 = .ok (.iload 7, 2) := by decide +kernel
theorem d_Bx_shadeThrownOnRow_87 : decode c_Bx_shadeThrownOnRow 87 = .ok (.if_icmp .le 5, 3) := by decide +kernel
theorem d_Bx_shadeThrownOnRow_90 : decode c_Bx_shadeThrownOnRow 90 = .ok (.lconst 0, 1) := by decide +kernel
theorem d_Bx_shadeThrownOnRow_91 : decode c_Bx_shadeThrownOnRow 91 = .ok (.lreturn, 1) := by decide +kernel
theorem d_Bx_shadeThrownOnRow_92 : decode c_Bx_shadeThrownOnRow 92 = .ok (.iload 5, 2) := by decide +kernel
theorem d_Bx_shadeThrownOnRow_94 : decode c_Bx_shadeThrownOnRow 94 = .ok (.aload_n 2, 1) := by decide +kernel
theorem d_Bx_shadeThrownOnRow_95 : decode c_Bx_shadeThrownOnRow 95 = .ok (.getfield 64, 3) := by decide +kernel
theorem d_Bx_shadeThrownOnRow_98 : decode c_Bx_shadeThrownOnRow 98 = .ok (.imul, 1) := by decide +kernel
theorem d_Bx_shadeThrownOnRow_99 : decode c_Bx_shadeThrownOnRow 99 = .ok (.istore 8, 2) := by decide +kernel
theorem d_Bx_shadeThrownOnRow_101 : decode c_Bx_shadeThrownOnRow 101 = .ok (.iload 6, 2) := by decide +kernel
theorem d_Bx_shadeThrownOnRow_103 : decode c_Bx_shadeThrownOnRow 103 = .ok (.aload_n 2, 1) := by decide +kernel
theorem d_Bx_shadeThrownOnRow_104 : decode c_Bx_shadeThrownOnRow 104 = .ok (.getfield 67, 3) := by decide +kernel
theorem d_Bx_shadeThrownOnRow_107 : decode c_Bx_shadeThrownOnRow 107 = .ok (.imul, 1) := by decide +kernel
theorem d_Bx_shadeThrownOnRow_108 : decode c_Bx_shadeThrownOnRow 108 = .ok (.iload 7, 2) := by decide +kernel
theorem d_Bx_shadeThrownOnRow_110 : decode c_Bx_shadeThrownOnRow 110 = .ok (.aload_n 2, 1) := by decide +kernel
theorem d_Bx_shadeThrownOnRow_111 : decode c_Bx_shadeThrownOnRow 111 = .ok (.getfield 67, 3) := by decide +kernel
theorem d_Bx_shadeThrownOnRow_114 : decode c_Bx_shadeThrownOnRow 114 = .ok (.imul, 1) := by decide +kernel
theorem d_Bx_shadeThrownOnRow_115 : decode c_Bx_shadeThrownOnRow 115 = .ok (.invokestatic 70, 3) := by decide +kernel
theorem d_Bx_shadeThrownOnRow_118 : decode c_Bx_shadeThrownOnRow 118 = .ok (.istore 9, 2) := by decide +kernel
theorem d_Bx_shadeThrownOnRow_120 : decode c_Bx_shadeThrownOnRow 120 = .ok (.iload 6, 2) := by decide +kernel
theorem d_Bx_shadeThrownOnRow_122 : decode c_Bx_shadeThrownOnRow 122 = .ok (.aload_n 2, 1) := by decide +kernel
theorem d_Bx_shadeThrownOnRow_123 : decode c_Bx_shadeThrownOnRow 123 = .ok (.getfield 67, 3) := by decide +kernel
theorem d_Bx_shadeThrownOnRow_126 : decode c_Bx_shadeThrownOnRow 126 = .ok (.imul, 1) := by decide +kernel
theorem d_Bx_shadeThrownOnRow_127 : decode c_Bx_shadeThrownOnRow 127 = .ok (.iload 7, 2) := by decide +kernel
theorem d_Bx_shadeThrownOnRow_129 : decode c_Bx_shadeThrownOnRow 129 = .ok (.aload_n 2, 1) := by decide +kernel
theorem d_Bx_shadeThrownOnRow_130 : decode c_Bx_shadeThrownOnRow 130 = .ok (.getfield 67, 3) := by decide +kernel
theorem d_Bx_shadeThrownOnRow_133 : decode c_Bx_shadeThrownOnRow 133 = .ok (.imul, 1) := by decide +kernel
theorem d_Bx_shadeThrownOnRow_134 : decode c_Bx_shadeThrownOnRow 134 = .ok (.invokestatic 74, 3) := by decide +kernel
theorem d_Bx_shadeThrownOnRow_137 : decode c_Bx_shadeThrownOnRow 137 = .ok (.istore 10, 2) := by decide +kernel
theorem d_Bx_shadeThrownOnRow_139 : decode c_Bx_shadeThrownOnRow 139 = .ok (.iload 8, 2) := by decide +kernel
theorem d_Bx_shadeThrownOnRow_141 : decode c_Bx_shadeThrownOnRow 141 = .ok (.iconst 2, 1) := by decide +kernel
theorem d_Bx_shadeThrownOnRow_142 : decode c_Bx_shadeThrownOnRow 142 = .ok (.aload_n 0, 1) := by decide +kernel
theorem d_Bx_shadeThrownOnRow_143 : decode c_Bx_shadeThrownOnRow 143 = .ok (.getfield 15, 3) := by decide +kernel
theorem d_Bx_shadeThrownOnRow_146 : decode c_Bx_shadeThrownOnRow 146 = .ok (.iload 8, 2) := by decide +kernel
theorem d_Bx_shadeThrownOnRow_148 : decode c_Bx_shadeThrownOnRow 148 = .ok (.imul, 1) := by decide +kernel
theorem d_Bx_shadeThrownOnRow_149 : decode c_Bx_shadeThrownOnRow 149 = .ok (.iload 9, 2) := by decide +kernel
theorem d_Bx_shadeThrownOnRow_151 : decode c_Bx_shadeThrownOnRow 151 = .ok (.iadd, 1) := by decide +kernel
theorem d_Bx_shadeThrownOnRow_152 : decode c_Bx_shadeThrownOnRow 152 = .ok (.imul, 1) := by decide +kernel
theorem d_Bx_shadeThrownOnRow_153 : decode c_Bx_shadeThrownOnRow 153 = .ok (.isub, 1) := by decide +kernel
theorem d_Bx_shadeThrownOnRow_154 : decode c_Bx_shadeThrownOnRow 154 = .ok (.iconst 2, 1) := by decide +kernel
theorem d_Bx_shadeThrownOnRow_155 : decode c_Bx_shadeThrownOnRow 155 = .ok (.iload 8, 2) := by decide +kernel
theorem d_Bx_shadeThrownOnRow_157 : decode c_Bx_shadeThrownOnRow 157 = .ok (.imul, 1) := by decide +kernel
theorem d_Bx_shadeThrownOnRow_158 : decode c_Bx_shadeThrownOnRow 158 = .ok (.invokestatic 77, 3) := by decide +kernel
theorem d_Bx_shadeThrownOnRow_161 : decode c_Bx_shadeThrownOnRow 161 = .ok (.ineg, 1) := by decide +kernel
theorem d_Bx_shadeThrownOnRow_162 : decode c_Bx_shadeThrownOnRow 162 = .ok (.istore 11, 2) := by decide +kernel
theorem d_Bx_shadeThrownOnRow_164 : decode c_Bx_shadeThrownOnRow 164 = .ok (.iconst 2, 1) := by decide +kernel
theorem d_Bx_shadeThrownOnRow_165 : decode c_Bx_shadeThrownOnRow 165 = .ok (.aload_n 0, 1) := by decide +kernel
theorem d_Bx_shadeThrownOnRow_166 : decode c_Bx_shadeThrownOnRow 166 = .ok (.getfield 25, 3) := by decide +kernel
theorem d_Bx_shadeThrownOnRow_169 : decode c_Bx_shadeThrownOnRow 169 = .ok (.iload 8, 2) := by decide +kernel
theorem d_Bx_shadeThrownOnRow_171 : decode c_Bx_shadeThrownOnRow 171 = .ok (.imul, 1) := by decide +kernel
theorem d_Bx_shadeThrownOnRow_172 : decode c_Bx_shadeThrownOnRow 172 = .ok (.iload 10, 2) := by decide +kernel
theorem d_Bx_shadeThrownOnRow_174 : decode c_Bx_shadeThrownOnRow 174 = .ok (.iadd, 1) := by decide +kernel
theorem d_Bx_shadeThrownOnRow_175 : decode c_Bx_shadeThrownOnRow 175 = .ok (.imul, 1) := by decide +kernel
theorem d_Bx_shadeThrownOnRow_176 : decode c_Bx_shadeThrownOnRow 176 = .ok (.iload 8, 2) := by decide +kernel
theorem d_Bx_shadeThrownOnRow_178 : decode c_Bx_shadeThrownOnRow 178 = .ok (.isub, 1) := by decide +kernel
theorem d_Bx_shadeThrownOnRow_179 : decode c_Bx_shadeThrownOnRow 179 = .ok (.iconst 2, 1) := by decide +kernel
theorem d_Bx_shadeThrownOnRow_180 : decode c_Bx_shadeThrownOnRow 180 = .ok (.iload 8, 2) := by decide +kernel
theorem d_Bx_shadeThrownOnRow_182 : decode c_Bx_shadeThrownOnRow 182 = .ok (.imul, 1) := by decide +kernel
theorem d_Bx_shadeThrownOnRow_183 : decode c_Bx_shadeThrownOnRow 183 = .ok (.invokestatic 77, 3) := by decide +kernel
theorem d_Bx_shadeThrownOnRow_186 : decode c_Bx_shadeThrownOnRow 186 = .ok (.istore 12, 2) := by decide +kernel
theorem d_Bx_shadeThrownOnRow_188 : decode c_Bx_shadeThrownOnRow 188 = .ok (.iload 11, 2) := by decide +kernel
theorem d_Bx_shadeThrownOnRow_190 : decode c_Bx_shadeThrownOnRow 190 = .ok (.iconst 0, 1) := by decide +kernel
theorem d_Bx_shadeThrownOnRow_191 : decode c_Bx_shadeThrownOnRow 191 = .ok (.invokestatic 74, 3) := by decide +kernel
theorem d_Bx_shadeThrownOnRow_194 : decode c_Bx_shadeThrownOnRow 194 = .ok (.iload 12, 2) := by decide +kernel
theorem d_Bx_shadeThrownOnRow_196 : decode c_Bx_shadeThrownOnRow 196 = .ok (.iload_n 3, 1) := by decide +kernel
theorem d_Bx_shadeThrownOnRow_197 : decode c_Bx_shadeThrownOnRow 197 = .ok (.iconst 1, 1) := by decide +kernel
theorem d_Bx_shadeThrownOnRow_198 : decode c_Bx_shadeThrownOnRow 198 = .ok (.isub, 1) := by decide +kernel
theorem d_Bx_shadeThrownOnRow_199 : decode c_Bx_shadeThrownOnRow 199 = .ok (.invokestatic 70, 3) := by decide +kernel
theorem d_Bx_shadeThrownOnRow_202 : decode c_Bx_shadeThrownOnRow 202 = .ok (.invokestatic 80, 3) := by decide +kernel
theorem d_Bx_shadeThrownOnRow_205 : decode c_Bx_shadeThrownOnRow 205 = .ok (.lreturn, 1) := by decide +kernel
theorem d_Bx_spansLine_0 : decode c_Bx_spansLine 0 = .ok (.iconst 2, 1) := by decide +kernel
theorem d_Bx_spansLine_1 : decode c_Bx_spansLine 1 = .ok (.aload_n 0, 1) := by decide +kernel
theorem d_Bx_spansLine_2 : decode c_Bx_spansLine 2 = .ok (.getfield 19, 3) := by decide +kernel
theorem d_Bx_spansLine_5 : decode c_Bx_spansLine 5 = .ok (.imul, 1) := by decide +kernel
theorem d_Bx_spansLine_6 : decode c_Bx_spansLine 6 = .ok (.iload_n 1, 1) := by decide +kernel
theorem d_Bx_spansLine_7 : decode c_Bx_spansLine 7 = .ok (.if_icmp .gt 17, 3) := by decide +kernel
theorem d_Bx_spansLine_10 : decode c_Bx_spansLine 10 = .ok (.iload_n 1, 1) := by decide +kernel
theorem d_Bx_spansLine_11 : decode c_Bx_spansLine 11 = .ok (.iconst 2, 1) := by decide +kernel
theorem d_Bx_spansLine_12 : decode c_Bx_spansLine 12 = .ok (.aload_n 0, 1) := by decide +kernel
theorem d_Bx_spansLine_13 : decode c_Bx_spansLine 13 = .ok (.getfield 28, 3) := by decide +kernel
theorem d_Bx_spansLine_16 : decode c_Bx_spansLine 16 = .ok (.imul, 1) := by decide +kernel
theorem d_Bx_spansLine_17 : decode c_Bx_spansLine 17 = .ok (.if_icmp .gt 7, 3) := by decide +kernel
theorem d_Bx_spansLine_20 : decode c_Bx_spansLine 20 = .ok (.iconst 1, 1) := by decide +kernel
theorem d_Bx_spansLine_21 : decode c_Bx_spansLine 21 = .ok (.goto 4, 3) := by decide +kernel
theorem d_Bx_spansLine_24 : decode c_Bx_spansLine 24 = .ok (.iconst 0, 1) := by decide +kernel
theorem d_Bx_spansLine_25 : decode c_Bx_spansLine 25 = .ok (.ireturn, 1) := by decide +kernel
theorem d_Mt_abs_0 : decode c_Mt_abs 0 = .ok (.iload_n 0, 1) := by decide +kernel
theorem d_Mt_abs_1 : decode c_Mt_abs 1 = .ok (.ifCond .ge 8, 3) := by decide +kernel
theorem d_Mt_abs_4 : decode c_Mt_abs 4 = .ok (.iload_n 0, 1) := by decide +kernel
theorem d_Mt_abs_5 : decode c_Mt_abs 5 = .ok (.ineg, 1) := by decide +kernel
theorem d_Mt_abs_6 : decode c_Mt_abs 6 = .ok (.goto 4, 3) := by decide +kernel
theorem d_Mt_abs_9 : decode c_Mt_abs 9 = .ok (.iload_n 0, 1) := by decide +kernel
theorem d_Mt_abs_10 : decode c_Mt_abs 10 = .ok (.ireturn, 1) := by decide +kernel
theorem d_Bx_nearest_0 : decode c_Bx_nearest 0 = .ok (.aload_n 0, 1) := by decide +kernel
theorem d_Bx_nearest_1 : decode c_Bx_nearest 1 = .ok (.getfield 22, 3) := by decide +kernel
theorem d_Bx_nearest_4 : decode c_Bx_nearest 4 = .ok (.iload_n 3, 1) := by decide +kernel
theorem d_Bx_nearest_5 : decode c_Bx_nearest 5 = .ok (.imul, 1) := by decide +kernel
theorem d_Bx_nearest_6 : decode c_Bx_nearest 6 = .ok (.istore 4, 2) := by decide +kernel
theorem d_Bx_nearest_8 : decode c_Bx_nearest 8 = .ok (.aload_n 2, 1) := by decide +kernel
theorem d_Bx_nearest_9 : decode c_Bx_nearest 9 = .ok (.getfield 44, 3) := by decide +kernel
theorem d_Bx_nearest_12 : decode c_Bx_nearest 12 = .ok (.ifCond .le 26, 3) := by decide +kernel
theorem d_Bx_nearest_15 : decode c_Bx_nearest 15 = .ok (.iload 4, 2) := by decide +kernel
theorem d_Bx_nearest_17 : decode c_Bx_nearest 17 = .ok (.iload_n 1, 1) := by decide +kernel
theorem d_Bx_nearest_18 : decode c_Bx_nearest 18 = .ok (.iconst 2, 1) := by decide +kernel
theorem d_Bx_nearest_19 : decode c_Bx_nearest 19 = .ok (.aload_n 0, 1) := by decide +kernel
theorem d_Bx_nearest_20 : decode c_Bx_nearest 20 = .ok (.getfield 28, 3) := by decide +kernel
theorem d_Bx_nearest_23 : decode c_Bx_nearest 23 = .ok (.imul, 1) := by decide +kernel
theorem d_Bx_nearest_24 : decode c_Bx_nearest 24 = .ok (.isub, 1) := by decide +kernel
theorem d_Bx_nearest_25 : decode c_Bx_nearest 25 = .ok (.aload_n 2, 1) := by decide +kernel
theorem d_Bx_nearest_26 : decode c_Bx_nearest 26 = .ok (.getfield 64, 3) := by decide +kernel
theorem d_Bx_nearest_29 : decode c_Bx_nearest 29 = .ok (.imul, 1) := by decide +kernel
theorem d_Bx_nearest_30 : decode c_Bx_nearest 30 = .ok (.invokestatic 74, 3) := by decide +kernel
theorem d_Bx_nearest_33 : decode c_Bx_nearest 33 = .ok (.istore 4, 2) := by decide +kernel
theorem d_Bx_nearest_35 : decode c_Bx_nearest 35 = .ok (.goto 30, 3) := by decide +kernel
theorem d_Bx_nearest_38 : decode c_Bx_nearest 38 = .ok (.aload_n 2, 1) := by decide +kernel
theorem d_Bx_nearest_39 : decode c_Bx_nearest 39 = .ok (.getfield 44, 3) := by decide +kernel
theorem d_Bx_nearest_42 : decode c_Bx_nearest 42 = .ok (.ifCond .ge 23, 3) := by decide +kernel
theorem d_Bx_nearest_45 : decode c_Bx_nearest 45 = .ok (.iload 4, 2) := by decide +kernel
theorem d_Bx_nearest_47 : decode c_Bx_nearest 47 = .ok (.iconst 2, 1) := by decide +kernel
theorem d_Bx_nearest_48 : decode c_Bx_nearest 48 = .ok (.aload_n 0, 1) := by decide +kernel
theorem d_Bx_nearest_49 : decode c_Bx_nearest 49 = .ok (.getfield 19, 3) := by decide +kernel
theorem d_Bx_nearest_52 : decode c_Bx_nearest 52 = .ok (.imul, 1) := by decide +kernel
theorem d_Bx_nearest_53 : decode c_Bx_nearest 53 = .ok (.iload_n 1, 1) := by decide +kernel
theorem d_Bx_nearest_54 : decode c_Bx_nearest 54 = .ok (.isub, 1) := by decide +kernel
theorem d_Bx_nearest_55 : decode c_Bx_nearest 55 = .ok (.aload_n 2, 1) := by decide +kernel
theorem d_Bx_nearest_56 : decode c_Bx_nearest 56 = .ok (.getfield 64, 3) := by decide +kernel
theorem d_Bx_nearest_59 : decode c_Bx_nearest 59 = .ok (.imul, 1) := by decide +kernel
theorem d_Bx_nearest_60 : decode c_Bx_nearest 60 = .ok (.invokestatic 74, 3) := by decide +kernel
theorem d_Bx_nearest_63 : decode c_Bx_nearest 63 = .ok (.istore 4, 2) := by decide +kernel
theorem d_Bx_nearest_65 : decode c_Bx_nearest 65 = .ok (.iload 4, 2) := by decide +kernel
theorem d_Bx_nearest_67 : decode c_Bx_nearest 67 = .ok (.ireturn, 1) := by decide +kernel
theorem d_Bx_farthest_0 : decode c_Bx_farthest 0 = .ok (.aload_n 0, 1) := by decide +kernel
theorem d_Bx_farthest_1 : decode c_Bx_farthest 1 = .ok (.getfield 31, 3) := by decide +kernel
theorem d_Bx_farthest_4 : decode c_Bx_farthest 4 = .ok (.iload_n 3, 1) := by decide +kernel
theorem d_Bx_farthest_5 : decode c_Bx_farthest 5 = .ok (.imul, 1) := by decide +kernel
theorem d_Bx_farthest_6 : decode c_Bx_farthest 6 = .ok (.istore 4, 2) := by decide +kernel
theorem d_Bx_farthest_8 : decode c_Bx_farthest 8 = .ok (.aload_n 2, 1) := by decide +kernel
theorem d_Bx_farthest_9 : decode c_Bx_farthest 9 = .ok (.getfield 44, 3) := by decide +kernel
theorem d_Bx_farthest_12 : decode c_Bx_farthest 12 = .ok (.ifCond .le 26, 3) := by decide +kernel
theorem d_Bx_farthest_15 : decode c_Bx_farthest 15 = .ok (.iload 4, 2) := by decide +kernel
theorem d_Bx_farthest_17 : decode c_Bx_farthest 17 = .ok (.iload_n 1, 1) := by decide +kernel
theorem d_Bx_farthest_18 : decode c_Bx_farthest 18 = .ok (.iconst 2, 1) := by decide +kernel
theorem d_Bx_farthest_19 : decode c_Bx_farthest 19 = .ok (.aload_n 0, 1) := by decide +kernel
theorem d_Bx_farthest_20 : decode c_Bx_farthest 20 = .ok (.getfield 19, 3) := by decide +kernel
theorem d_Bx_farthest_23 : decode c_Bx_farthest 23 = .ok (.imul, 1) := by decide +kernel
theorem d_Bx_farthest_24 : decode c_Bx_farthest 24 = .ok (.isub, 1) := by decide +kernel
theorem d_Bx_farthest_25 : decode c_Bx_farthest 25 = .ok (.aload_n 2, 1) := by decide +kernel
theorem d_Bx_farthest_26 : decode c_Bx_farthest 26 = .ok (.getfield 64, 3) := by decide +kernel
theorem d_Bx_farthest_29 : decode c_Bx_farthest 29 = .ok (.imul, 1) := by decide +kernel
theorem d_Bx_farthest_30 : decode c_Bx_farthest 30 = .ok (.invokestatic 70, 3) := by decide +kernel
theorem d_Bx_farthest_33 : decode c_Bx_farthest 33 = .ok (.istore 4, 2) := by decide +kernel
theorem d_Bx_farthest_35 : decode c_Bx_farthest 35 = .ok (.goto 30, 3) := by decide +kernel
theorem d_Bx_farthest_38 : decode c_Bx_farthest 38 = .ok (.aload_n 2, 1) := by decide +kernel
theorem d_Bx_farthest_39 : decode c_Bx_farthest 39 = .ok (.getfield 44, 3) := by decide +kernel
theorem d_Bx_farthest_42 : decode c_Bx_farthest 42 = .ok (.ifCond .ge 23, 3) := by decide +kernel
theorem d_Bx_farthest_45 : decode c_Bx_farthest 45 = .ok (.iload 4, 2) := by decide +kernel
theorem d_Bx_farthest_47 : decode c_Bx_farthest 47 = .ok (.iconst 2, 1) := by decide +kernel
theorem d_Bx_farthest_48 : decode c_Bx_farthest 48 = .ok (.aload_n 0, 1) := by decide +kernel
theorem d_Bx_farthest_49 : decode c_Bx_farthest 49 = .ok (.getfield 28, 3) := by decide +kernel
theorem d_Bx_farthest_52 : decode c_Bx_farthest 52 = .ok (.imul, 1) := by decide +kernel
theorem d_Bx_farthest_53 : decode c_Bx_farthest 53 = .ok (.iload_n 1, 1) := by decide +kernel
theorem d_Bx_farthest_54 : decode c_Bx_farthest 54 = .ok (.isub, 1) := by decide +kernel
theorem d_Bx_farthest_55 : decode c_Bx_farthest 55 = .ok (.aload_n 2, 1) := by decide +kernel
theorem d_Bx_farthest_56 : decode c_Bx_farthest 56 = .ok (.getfield 64, 3) := by decide +kernel
theorem d_Bx_farthest_59 : decode c_Bx_farthest 59 = .ok (.imul, 1) := by decide +kernel
theorem d_Bx_farthest_60 : decode c_Bx_farthest 60 = .ok (.invokestatic 70, 3) := by decide +kernel
theorem d_Bx_farthest_63 : decode c_Bx_farthest 63 = .ok (.istore 4, 2) := by decide +kernel
theorem d_Bx_farthest_65 : decode c_Bx_farthest 65 = .ok (.iload 4, 2) := by decide +kernel
theorem d_Bx_farthest_67 : decode c_Bx_farthest 67 = .ok (.ireturn, 1) := by decide +kernel
theorem d_Bx_floorOver_0 : decode c_Bx_floorOver 0 = .ok (.iload_n 1, 1) := by decide +kernel
theorem d_Bx_floorOver_1 : decode c_Bx_floorOver 1 = .ok (.ifCond .le 11, 3) := by decide +kernel
theorem d_Bx_floorOver_4 : decode c_Bx_floorOver 4 = .ok (.iload_n 0, 1) := by decide +kernel
theorem d_Bx_floorOver_5 : decode c_Bx_floorOver 5 = .ok (.iload_n 1, 1) := by decide +kernel
theorem d_Bx_floorOver_6 : decode c_Bx_floorOver 6 = .ok (.invokestatic 84, 3) := by decide +kernel
theorem d_Bx_floorOver_9 : decode c_Bx_floorOver 9 = .ok (.goto 4, 3) := by decide +kernel
theorem d_Bx_floorOver_12 : decode c_Bx_floorOver 12 = .ok (.iconst 0, 1) := by decide +kernel
theorem d_Bx_floorOver_13 : decode c_Bx_floorOver 13 = .ok (.ireturn, 1) := by decide +kernel
theorem d_Mt_floorDiv_0 : decode c_Mt_floorDiv 0 = .ok (.iload_n 0, 1) := by decide +kernel
theorem d_Mt_floorDiv_1 : decode c_Mt_floorDiv 1 = .ok (.iload_n 1, 1) := by decide +kernel
theorem d_Mt_floorDiv_2 : decode c_Mt_floorDiv 2 = .ok (.idiv, 1) := by decide +kernel
theorem d_Mt_floorDiv_3 : decode c_Mt_floorDiv 3 = .ok (.istore_n 2, 1) := by decide +kernel
theorem d_Mt_floorDiv_4 : decode c_Mt_floorDiv 4 = .ok (.iload_n 0, 1) := by decide +kernel
theorem d_Mt_floorDiv_5 : decode c_Mt_floorDiv 5 = .ok (.iload_n 1, 1) := by decide +kernel
theorem d_Mt_floorDiv_6 : decode c_Mt_floorDiv 6 = .ok (.ixor, 1) := by decide +kernel
theorem d_Mt_floorDiv_7 : decode c_Mt_floorDiv 7 = .ok (.ifCond .ge 14, 3) := by decide +kernel
theorem d_Mt_floorDiv_10 : decode c_Mt_floorDiv 10 = .ok (.iload_n 2, 1) := by decide +kernel
theorem d_Mt_floorDiv_11 : decode c_Mt_floorDiv 11 = .ok (.iload_n 1, 1) := by decide +kernel
theorem d_Mt_floorDiv_12 : decode c_Mt_floorDiv 12 = .ok (.imul, 1) := by decide +kernel
theorem d_Mt_floorDiv_13 : decode c_Mt_floorDiv 13 = .ok (.iload_n 0, 1) := by decide +kernel
theorem d_Mt_floorDiv_14 : decode c_Mt_floorDiv 14 = .ok (.if_icmp .eq 7, 3) := by decide +kernel
theorem d_Mt_floorDiv_17 : decode c_Mt_floorDiv 17 = .ok (.iload_n 2, 1) := by decide +kernel
theorem d_Mt_floorDiv_18 : decode c_Mt_floorDiv 18 = .ok (.iconst 1, 1) := by decide +kernel
theorem d_Mt_floorDiv_19 : decode c_Mt_floorDiv 19 = .ok (.isub, 1) := by decide +kernel
theorem d_Mt_floorDiv_20 : decode c_Mt_floorDiv 20 = .ok (.ireturn, 1) := by decide +kernel
theorem d_Mt_floorDiv_21 : decode c_Mt_floorDiv 21 = .ok (.iload_n 2, 1) := by decide +kernel
theorem d_Mt_floorDiv_22 : decode c_Mt_floorDiv 22 = .ok (.ireturn, 1) := by decide +kernel
theorem d_Lo_bitCount_0 : decode c_Lo_bitCount 0 = .ok (.lload_n 0, 1) := by decide +kernel
theorem d_Lo_bitCount_1 : decode c_Lo_bitCount 1 = .ok (.lload_n 0, 1) := by decide +kernel
theorem d_Lo_bitCount_2 : decode c_Lo_bitCount 2 = .ok (.iconst 1, 1) := by decide +kernel
theorem d_Lo_bitCount_3 : decode c_Lo_bitCount 3 = .ok (.lushr, 1) := by decide +kernel
theorem d_Lo_bitCount_4 : decode c_Lo_bitCount 4 = .ok (.ldc2_w 314, 3) := by decide +kernel
theorem d_Lo_bitCount_7 : decode c_Lo_bitCount 7 = .ok (.land, 1) := by decide +kernel
theorem d_Lo_bitCount_8 : decode c_Lo_bitCount 8 = .ok (.lsub, 1) := by decide +kernel
theorem d_Lo_bitCount_9 : decode c_Lo_bitCount 9 = .ok (.lstore_n 0, 1) := by decide +kernel
theorem d_Lo_bitCount_10 : decode c_Lo_bitCount 10 = .ok (.lload_n 0, 1) := by decide +kernel
theorem d_Lo_bitCount_11 : decode c_Lo_bitCount 11 = .ok (.ldc2_w 316, 3) := by decide +kernel
theorem d_Lo_bitCount_14 : decode c_Lo_bitCount 14 = .ok (.land, 1) := by decide +kernel
theorem d_Lo_bitCount_15 : decode c_Lo_bitCount 15 = .ok (.lload_n 0, 1) := by decide +kernel
theorem d_Lo_bitCount_16 : decode c_Lo_bitCount 16 = .ok (.iconst 2, 1) := by decide +kernel
theorem d_Lo_bitCount_17 : decode c_Lo_bitCount 17 = .ok (.lushr, 1) := by decide +kernel
theorem d_Lo_bitCount_18 : decode c_Lo_bitCount 18 = .ok (.ldc2_w 316, 3) := by decide +kernel
theorem d_Lo_bitCount_21 : decode c_Lo_bitCount 21 = .ok (.land, 1) := by decide +kernel
theorem d_Lo_bitCount_22 : decode c_Lo_bitCount 22 = .ok (.ladd, 1) := by decide +kernel
theorem d_Lo_bitCount_23 : decode c_Lo_bitCount 23 = .ok (.lstore_n 0, 1) := by decide +kernel
theorem d_Lo_bitCount_24 : decode c_Lo_bitCount 24 = .ok (.lload_n 0, 1) := by decide +kernel
theorem d_Lo_bitCount_25 : decode c_Lo_bitCount 25 = .ok (.lload_n 0, 1) := by decide +kernel
theorem d_Lo_bitCount_26 : decode c_Lo_bitCount 26 = .ok (.iconst 4, 1) := by decide +kernel
theorem d_Lo_bitCount_27 : decode c_Lo_bitCount 27 = .ok (.lushr, 1) := by decide +kernel
theorem d_Lo_bitCount_28 : decode c_Lo_bitCount 28 = .ok (.ladd, 1) := by decide +kernel
theorem d_Lo_bitCount_29 : decode c_Lo_bitCount 29 = .ok (.ldc2_w 318, 3) := by decide +kernel
theorem d_Lo_bitCount_32 : decode c_Lo_bitCount 32 = .ok (.land, 1) := by decide +kernel
theorem d_Lo_bitCount_33 : decode c_Lo_bitCount 33 = .ok (.lstore_n 0, 1) := by decide +kernel
theorem d_Lo_bitCount_34 : decode c_Lo_bitCount 34 = .ok (.lload_n 0, 1) := by decide +kernel
theorem d_Lo_bitCount_35 : decode c_Lo_bitCount 35 = .ok (.lload_n 0, 1) := by decide +kernel
theorem d_Lo_bitCount_36 : decode c_Lo_bitCount 36 = .ok (.bipush 8, 2) := by decide +kernel
theorem d_Lo_bitCount_38 : decode c_Lo_bitCount 38 = .ok (.lushr, 1) := by decide +kernel
theorem d_Lo_bitCount_39 : decode c_Lo_bitCount 39 = .ok (.ladd, 1) := by decide +kernel
theorem d_Lo_bitCount_40 : decode c_Lo_bitCount 40 = .ok (.lstore_n 0, 1) := by decide +kernel
theorem d_Lo_bitCount_41 : decode c_Lo_bitCount 41 = .ok (.lload_n 0, 1) := by decide +kernel
theorem d_Lo_bitCount_42 : decode c_Lo_bitCount 42 = .ok (.lload_n 0, 1) := by decide +kernel
theorem d_Lo_bitCount_43 : decode c_Lo_bitCount 43 = .ok (.bipush 16, 2) := by decide +kernel
theorem d_Lo_bitCount_45 : decode c_Lo_bitCount 45 = .ok (.lushr, 1) := by decide +kernel
theorem d_Lo_bitCount_46 : decode c_Lo_bitCount 46 = .ok (.ladd, 1) := by decide +kernel
theorem d_Lo_bitCount_47 : decode c_Lo_bitCount 47 = .ok (.lstore_n 0, 1) := by decide +kernel
theorem d_Lo_bitCount_48 : decode c_Lo_bitCount 48 = .ok (.lload_n 0, 1) := by decide +kernel
theorem d_Lo_bitCount_49 : decode c_Lo_bitCount 49 = .ok (.lload_n 0, 1) := by decide +kernel
theorem d_Lo_bitCount_50 : decode c_Lo_bitCount 50 = .ok (.bipush 32, 2) := by decide +kernel
theorem d_Lo_bitCount_52 : decode c_Lo_bitCount 52 = .ok (.lushr, 1) := by decide +kernel
theorem d_Lo_bitCount_53 : decode c_Lo_bitCount 53 = .ok (.ladd, 1) := by decide +kernel
theorem d_Lo_bitCount_54 : decode c_Lo_bitCount 54 = .ok (.lstore_n 0, 1) := by decide +kernel
theorem d_Lo_bitCount_55 : decode c_Lo_bitCount 55 = .ok (.lload_n 0, 1) := by decide +kernel
theorem d_Lo_bitCount_56 : decode c_Lo_bitCount 56 = .ok (.l2i, 1) := by decide +kernel
theorem d_Lo_bitCount_57 : decode c_Lo_bitCount 57 = .ok (.bipush 127, 2) := by decide +kernel
theorem d_Lo_bitCount_59 : decode c_Lo_bitCount 59 = .ok (.iand, 1) := by decide +kernel
theorem d_Lo_bitCount_60 : decode c_Lo_bitCount 60 = .ok (.ireturn, 1) := by decide +kernel
theorem d_Wn_columns_0 : decode c_Wn_columns 0 = .ok (.aload_n 0, 1) := by decide +kernel
theorem d_Wn_columns_1 : decode c_Wn_columns 1 = .ok (.getfield 7, 3) := by decide +kernel
theorem d_Wn_columns_4 : decode c_Wn_columns 4 = .ok (.aload_n 0, 1) := by decide +kernel
theorem d_Wn_columns_5 : decode c_Wn_columns 5 = .ok (.getfield 16, 3) := by decide +kernel
theorem d_Wn_columns_8 : decode c_Wn_columns 8 = .ok (.iconst 1, 1) := by decide +kernel
theorem d_Wn_columns_9 : decode c_Wn_columns 9 = .ok (.isub, 1) := by decide +kernel
theorem d_Wn_columns_10 : decode c_Wn_columns 10 = .ok (.invokestatic 22, 3) := by decide +kernel
theorem d_Wn_columns_13 : decode c_Wn_columns 13 = .ok (.lreturn, 1) := by decide +kernel
theorem d_Wn_cellCount_0 : decode c_Wn_cellCount 0 = .ok (.aload_n 0, 1) := by decide +kernel
theorem d_Wn_cellCount_1 : decode c_Wn_cellCount 1 = .ok (.getfield 16, 3) := by decide +kernel
theorem d_Wn_cellCount_4 : decode c_Wn_cellCount 4 = .ok (.aload_n 0, 1) := by decide +kernel
theorem d_Wn_cellCount_5 : decode c_Wn_cellCount 5 = .ok (.getfield 7, 3) := by decide +kernel
theorem d_Wn_cellCount_8 : decode c_Wn_cellCount 8 = .ok (.isub, 1) := by decide +kernel
theorem d_Wn_cellCount_9 : decode c_Wn_cellCount 9 = .ok (.aload_n 0, 1) := by decide +kernel
theorem d_Wn_cellCount_10 : decode c_Wn_cellCount 10 = .ok (.getfield 19, 3) := by decide +kernel
theorem d_Wn_cellCount_13 : decode c_Wn_cellCount 13 = .ok (.aload_n 0, 1) := by decide +kernel
theorem d_Wn_cellCount_14 : decode c_Wn_cellCount 14 = .ok (.getfield 13, 3) := by decide +kernel
theorem d_Wn_cellCount_17 : decode c_Wn_cellCount 17 = .ok (.isub, 1) := by decide +kernel
theorem d_Wn_cellCount_18 : decode c_Wn_cellCount 18 = .ok (.imul, 1) := by decide +kernel
theorem d_Wn_cellCount_19 : decode c_Wn_cellCount 19 = .ok (.ireturn, 1) := by decide +kernel
theorem d_Wn_ledgeOf_0 : decode c_Wn_ledgeOf 0 = .ok (.new 28, 3) := by decide +kernel
theorem d_Wn_ledgeOf_3 : decode c_Wn_ledgeOf 3 = .ok (.dup, 1) := by decide +kernel
theorem d_Wn_ledgeOf_4 : decode c_Wn_ledgeOf 4 = .ok (.aload_n 0, 1) := by decide +kernel
theorem d_Wn_ledgeOf_5 : decode c_Wn_ledgeOf 5 = .ok (.getfield 7, 3) := by decide +kernel
theorem d_Wn_ledgeOf_8 : decode c_Wn_ledgeOf 8 = .ok (.aload_n 0, 1) := by decide +kernel
theorem d_Wn_ledgeOf_9 : decode c_Wn_ledgeOf 9 = .ok (.getfield 19, 3) := by decide +kernel
theorem d_Wn_ledgeOf_12 : decode c_Wn_ledgeOf 12 = .ok (.iconst 0, 1) := by decide +kernel
theorem d_Wn_ledgeOf_13 : decode c_Wn_ledgeOf 13 = .ok (.aload_n 0, 1) := by decide +kernel
theorem d_Wn_ledgeOf_14 : decode c_Wn_ledgeOf 14 = .ok (.getfield 16, 3) := by decide +kernel
theorem d_Wn_ledgeOf_17 : decode c_Wn_ledgeOf 17 = .ok (.aload_n 0, 1) := by decide +kernel
theorem d_Wn_ledgeOf_18 : decode c_Wn_ledgeOf 18 = .ok (.getfield 19, 3) := by decide +kernel
theorem d_Wn_ledgeOf_21 : decode c_Wn_ledgeOf 21 = .ok (.iconst 1, 1) := by decide +kernel
theorem d_Wn_ledgeOf_22 : decode c_Wn_ledgeOf 22 = .ok (.iadd, 1) := by decide +kernel
theorem d_Wn_ledgeOf_23 : decode c_Wn_ledgeOf 23 = .ok (.iload_n 1, 1) := by decide +kernel
theorem d_Wn_ledgeOf_24 : decode c_Wn_ledgeOf 24 = .ok (.invokespecial 30, 3) := by decide +kernel
theorem d_Wn_ledgeOf_27 : decode c_Wn_ledgeOf 27 = .ok (.areturn, 1) := by decide +kernel
