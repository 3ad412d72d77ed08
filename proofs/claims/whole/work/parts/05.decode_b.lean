theorem d_Ss_init_0 : decode c_Ss_init 0 = .ok (.aload_n 0, 1) := by decide +kernel
theorem d_Ss_init_1 : decode c_Ss_init 1 = .ok (.invokespecial 1, 3) := by decide +kernel
theorem d_Ss_init_4 : decode c_Ss_init 4 = .ok (.aload_n 0, 1) := by decide +kernel
theorem d_Ss_init_5 : decode c_Ss_init 5 = .ok (.bipush 10, 2) := by decide +kernel
theorem d_Ss_init_7 : decode c_Ss_init 7 = .ok (.anewarray 9, 3) := by decide +kernel
theorem d_Ss_init_10 : decode c_Ss_init 10 = .ok (.putfield 11, 3) := by decide +kernel
theorem d_Ss_init_13 : decode c_Ss_init 13 = .ok (.aload_n 0, 1) := by decide +kernel
theorem d_Ss_init_14 : decode c_Ss_init 14 = .ok (.bipush 10, 2) := by decide +kernel
theorem d_Ss_init_16 : decode c_Ss_init 16 = .ok (.anewarray 15, 3) := by decide +kernel
theorem d_Ss_init_19 : decode c_Ss_init 19 = .ok (.putfield 17, 3) := by decide +kernel
theorem d_Ss_init_22 : decode c_Ss_init 22 = .ok (.aload_n 0, 1) := by decide +kernel
theorem d_Ss_init_23 : decode c_Ss_init 23 = .ok (.bipush 24, 2) := by decide +kernel
theorem d_Ss_init_25 : decode c_Ss_init 25 = .ok (.anewarray 21, 3) := by decide +kernel
theorem d_Ss_init_28 : decode c_Ss_init 28 = .ok (.putfield 23, 3) := by decide +kernel
theorem d_Ss_init_31 : decode c_Ss_init 31 = .ok (.aload_n 0, 1) := by decide +kernel
theorem d_Ss_init_32 : decode c_Ss_init 32 = .ok (.bipush 10, 2) := by decide +kernel
theorem d_Ss_init_34 : decode c_Ss_init 34 = .ok (.newarray .long, 2) := by decide +kernel
theorem d_Ss_init_36 : decode c_Ss_init 36 = .ok (.putfield 27, 3) := by decide +kernel
theorem d_Ss_init_39 : decode c_Ss_init 39 = .ok (.aload_n 0, 1) := by decide +kernel
theorem d_Ss_init_40 : decode c_Ss_init 40 = .ok (.bipush 10, 2) := by decide +kernel
theorem d_Ss_init_42 : decode c_Ss_init 42 = .ok (.newarray .int, 2) := by decide +kernel
theorem d_Ss_init_44 : decode c_Ss_init 44 = .ok (.putfield 31, 3) := by decide +kernel
theorem d_Ss_init_47 : decode c_Ss_init 47 = .ok (.aload_n 0, 1) := by decide +kernel
theorem d_Ss_init_48 : decode c_Ss_init 48 = .ok (.iconst 0, 1) := by decide +kernel
theorem d_Ss_init_49 : decode c_Ss_init 49 = .ok (.putfield 35, 3) := by decide +kernel
theorem d_Ss_init_52 : decode c_Ss_init 52 = .ok (.aload_n 0, 1) := by decide +kernel
theorem d_Ss_init_53 : decode c_Ss_init 53 = .ok (.iconst 0, 1) := by decide +kernel
theorem d_Ss_init_54 : decode c_Ss_init 54 = .ok (.putfield 39, 3) := by decide +kernel
theorem d_Ss_init_57 : decode c_Ss_init 57 = .ok (.aload_n 0, 1) := by decide +kernel
theorem d_Ss_init_58 : decode c_Ss_init 58 = .ok (.iconst 1, 1) := by decide +kernel
theorem d_Ss_init_59 : decode c_Ss_init 59 = .ok (.iload_n 1, 1) := by decide +kernel
theorem d_Ss_init_60 : decode c_Ss_init 60 = .ok (.bipush 60, 2) := by decide +kernel
theorem d_Ss_init_62 : decode c_Ss_init 62 = .ok (.invokestatic 42, 3) := by decide +kernel
theorem d_Ss_init_65 : decode c_Ss_init 65 = .ok (.invokestatic 48, 3) := by decide +kernel
theorem d_Ss_init_68 : decode c_Ss_init 68 = .ok (.putfield 51, 3) := by decide +kernel
theorem d_Ss_init_71 : decode c_Ss_init 71 = .ok (.aload_n 0, 1) := by decide +kernel
theorem d_Ss_init_72 : decode c_Ss_init 72 = .ok (.iconst 1, 1) := by decide +kernel
theorem d_Ss_init_73 : decode c_Ss_init 73 = .ok (.iload_n 2, 1) := by decide +kernel
theorem d_Ss_init_74 : decode c_Ss_init 74 = .ok (.bipush 60, 2) := by decide +kernel
theorem d_Ss_init_76 : decode c_Ss_init 76 = .ok (.invokestatic 42, 3) := by decide +kernel
theorem d_Ss_init_79 : decode c_Ss_init 79 = .ok (.invokestatic 48, 3) := by decide +kernel
theorem d_Ss_init_82 : decode c_Ss_init 82 = .ok (.putfield 54, 3) := by decide +kernel
theorem d_Ss_init_85 : decode c_Ss_init 85 = .ok (.iconst 0, 1) := by decide +kernel
theorem d_Ss_init_86 : decode c_Ss_init 86 = .ok (.istore_n 3, 1) := by decide +kernel
theorem d_Ss_init_87 : decode c_Ss_init 87 = .ok (.iload_n 3, 1) := by decide +kernel
theorem d_Ss_init_88 : decode c_Ss_init 88 = .ok (.aload_n 0, 1) := by decide +kernel
theorem d_Ss_init_89 : decode c_Ss_init 89 = .ok (.getfield 23, 3) := by decide +kernel
theorem d_Ss_init_92 : decode c_Ss_init 92 = .ok (.arraylength, 1) := by decide +kernel
theorem d_Ss_init_93 : decode c_Ss_init 93 = .ok (.if_icmp .ge 22, 3) := by decide +kernel
theorem d_Ss_init_96 : decode c_Ss_init 96 = .ok (.aload_n 0, 1) := by decide +kernel
theorem d_Ss_init_97 : decode c_Ss_init 97 = .ok (.getfield 23, 3) := by decide +kernel
theorem d_Ss_init_100 : decode c_Ss_init 100 = .ok (.iload_n 3, 1) := by decide +kernel
theorem d_Ss_init_101 : decode c_Ss_init 101 = .ok (.new 21, 3) := by decide +kernel
theorem d_Ss_init_104 : decode c_Ss_init 104 = .ok (.dup, 1) := by decide +kernel
theorem d_Ss_init_105 : decode c_Ss_init 105 = .ok (.invokespecial 57, 3) := by decide +kernel
theorem d_Ss_init_108 : decode c_Ss_init 108 = .ok (.aastore, 1) := by decide +kernel
theorem d_Ss_init_109 : decode c_Ss_init 109 = .ok (.iinc 3 1, 3) := by decide +kernel
theorem d_Ss_init_112 : decode c_Ss_init 112 = .ok (.goto (-25), 3) := by decide +kernel
theorem d_Ss_init_115 : decode c_Ss_init 115 = .ok (.return_, 1) := by decide +kernel
theorem d_Ss_box_0 : decode c_Ss_box 0 = .ok (.iload_n 1, 1) := by decide +kernel
theorem d_Ss_box_1 : decode c_Ss_box 1 = .ok (.iload_n 2, 1) := by decide +kernel
theorem d_Ss_box_2 : decode c_Ss_box 2 = .ok (.iload_n 3, 1) := by decide +kernel
theorem d_Ss_box_3 : decode c_Ss_box 3 = .ok (.iload 4, 2) := by decide +kernel
theorem d_Ss_box_5 : decode c_Ss_box 5 = .ok (.iload 5, 2) := by decide +kernel
theorem d_Ss_box_7 : decode c_Ss_box 7 = .ok (.iload 6, 2) := by decide +kernel
theorem d_Ss_box_9 : decode c_Ss_box 9 = .ok (.invokestatic 58, 3) := by decide +kernel
theorem d_Ss_box_12 : decode c_Ss_box 12 = .ok (.ifCond .ne 13, 3) := by decide +kernel
theorem d_Ss_box_15 : decode c_Ss_box 15 = .ok (.new 62, 3) := by decide +kernel
theorem d_Ss_box_18 : decode c_Ss_box 18 = .ok (.dup, 1) := by decide +kernel
theorem d_Ss_box_19 : decode c_Ss_box 19 = .ok (.ldc 64, 2) := by decide +kernel
theorem d_Ss_box_21 : decode c_Ss_box 21 = .ok (.invokespecial 66, 3) := by decide +kernel
theorem d_Ss_box_24 : decode c_Ss_box 24 = .ok (.athrow, 1) := by decide +kernel
theorem d_Ss_box_25 : decode c_Ss_box 25 = .ok (.aload_n 0, 1) := by decide +kernel
theorem d_Ss_box_26 : decode c_Ss_box 26 = .ok (.getfield 35, 3) := by decide +kernel
theorem d_Ss_box_29 : decode c_Ss_box 29 = .ok (.aload_n 0, 1) := by decide +kernel
theorem d_Ss_box_30 : decode c_Ss_box 30 = .ok (.getfield 11, 3) := by decide +kernel
theorem d_Ss_box_33 : decode c_Ss_box 33 = .ok (.arraylength, 1) := by decide +kernel
theorem d_Ss_box_34 : decode c_Ss_box 34 = .ok (.if_icmp .lt 13, 3) := by decide +kernel
theorem d_Ss_box_37 : decode c_Ss_box 37 = .ok (.new 69, 3) := by decide +kernel
theorem d_Ss_box_40 : decode c_Ss_box 40 = .ok (.dup, 1) := by decide +kernel
theorem d_Ss_box_41 : decode c_Ss_box 41 = .ok (.ldc 71, 2) := by decide +kernel
theorem d_Ss_box_43 : decode c_Ss_box 43 = .ok (.invokespecial 73, 3) := by decide +kernel
theorem d_Ss_box_46 : decode c_Ss_box 46 = .ok (.athrow, 1) := by decide +kernel
theorem d_Ss_box_47 : decode c_Ss_box 47 = .ok (.aload_n 0, 1) := by decide +kernel
theorem d_Ss_box_48 : decode c_Ss_box 48 = .ok (.getfield 35, 3) := by decide +kernel
theorem d_Ss_box_51 : decode c_Ss_box 51 = .ok (.istore 7, 2) := by decide +kernel
theorem d_Ss_box_53 : decode c_Ss_box 53 = .ok (.aload_n 0, 1) := by decide +kernel
theorem d_Ss_box_54 : decode c_Ss_box 54 = .ok (.getfield 11, 3) := by decide +kernel
theorem d_Ss_box_57 : decode c_Ss_box 57 = .ok (.iload 7, 2) := by decide +kernel
theorem d_Ss_box_59 : decode c_Ss_box 59 = .ok (.new 9, 3) := by decide +kernel
theorem d_Ss_box_62 : decode c_Ss_box 62 = .ok (.dup, 1) := by decide +kernel
theorem d_Ss_box_63 : decode c_Ss_box 63 = .ok (.iload_n 1, 1) := by decide +kernel
theorem d_Ss_box_64 : decode c_Ss_box 64 = .ok (.iload_n 2, 1) := by decide +kernel
theorem d_Ss_box_65 : decode c_Ss_box 65 = .ok (.iload_n 3, 1) := by decide +kernel
theorem d_Ss_box_66 : decode c_Ss_box 66 = .ok (.iload 4, 2) := by decide +kernel
theorem d_Ss_box_68 : decode c_Ss_box 68 = .ok (.iload 5, 2) := by decide +kernel
theorem d_Ss_box_70 : decode c_Ss_box 70 = .ok (.iload 6, 2) := by decide +kernel
theorem d_Ss_box_72 : decode c_Ss_box 72 = .ok (.invokespecial 74, 3) := by decide +kernel
theorem d_Ss_box_75 : decode c_Ss_box 75 = .ok (.aastore, 1) := by decide +kernel
theorem d_Ss_box_76 : decode c_Ss_box 76 = .ok (.aload_n 0, 1) := by decide +kernel
theorem d_Ss_box_77 : decode c_Ss_box 77 = .ok (.iload 7, 2) := by decide +kernel
theorem d_Ss_box_79 : decode c_Ss_box 79 = .ok (.iconst 1, 1) := by decide +kernel
theorem d_Ss_box_80 : decode c_Ss_box 80 = .ok (.iadd, 1) := by decide +kernel
theorem d_Ss_box_81 : decode c_Ss_box 81 = .ok (.putfield 35, 3) := by decide +kernel
theorem d_Ss_box_84 : decode c_Ss_box 84 = .ok (.iload 7, 2) := by decide +kernel
theorem d_Ss_box_86 : decode c_Ss_box 86 = .ok (.ireturn, 1) := by decide +kernel
theorem d_Ss_move_0 : decode c_Ss_move 0 = .ok (.aload_n 0, 1) := by decide +kernel
theorem d_Ss_move_1 : decode c_Ss_move 1 = .ok (.iload_n 1, 1) := by decide +kernel
theorem d_Ss_move_2 : decode c_Ss_move 2 = .ok (.invokevirtual 77, 3) := by decide +kernel
theorem d_Ss_move_5 : decode c_Ss_move 5 = .ok (.astore 5, 2) := by decide +kernel
theorem d_Ss_move_7 : decode c_Ss_move 7 = .ok (.iload_n 2, 1) := by decide +kernel
theorem d_Ss_move_8 : decode c_Ss_move 8 = .ok (.sipush (-300), 3) := by decide +kernel
theorem d_Ss_move_11 : decode c_Ss_move 11 = .ok (.sipush 300, 3) := by decide +kernel
theorem d_Ss_move_14 : decode c_Ss_move 14 = .ok (.invokestatic 81, 3) := by decide +kernel
theorem d_Ss_move_17 : decode c_Ss_move 17 = .ok (.ifCond .eq 30, 3) := by decide +kernel
theorem d_Ss_move_20 : decode c_Ss_move 20 = .ok (.iload_n 3, 1) := by decide +kernel
theorem d_Ss_move_21 : decode c_Ss_move 21 = .ok (.sipush (-300), 3) := by decide +kernel
theorem d_Ss_move_24 : decode c_Ss_move 24 = .ok (.sipush 300, 3) := by decide +kernel
theorem d_Ss_move_27 : decode c_Ss_move 27 = .ok (.invokestatic 81, 3) := by decide +kernel
theorem d_Ss_move_30 : decode c_Ss_move 30 = .ok (.ifCond .eq 17, 3) := by decide +kernel
theorem d_Ss_move_33 : decode c_Ss_move 33 = .ok (.iload 4, 2) := by decide +kernel
theorem d_Ss_move_35 : decode c_Ss_move 35 = .ok (.sipush (-300), 3) := by decide +kernel
theorem d_Ss_move_38 : decode c_Ss_move 38 = .ok (.sipush 300, 3) := by decide +kernel
theorem d_Ss_move_41 : decode c_Ss_move 41 = .ok (.invokestatic 81, 3) := by decide +kernel
theorem d_Ss_move_44 : decode c_Ss_move 44 = .ok (.ifCond .ne 13, 3) := by decide +kernel
theorem d_Ss_move_47 : decode c_Ss_move 47 = .ok (.new 62, 3) := by decide +kernel
theorem d_Ss_move_50 : decode c_Ss_move 50 = .ok (.dup, 1) := by decide +kernel
theorem d_Ss_move_51 : decode c_Ss_move 51 = .ok (.ldc 85, 2) := by decide +kernel
theorem d_Ss_move_53 : decode c_Ss_move 53 = .ok (.invokespecial 66, 3) := by decide +kernel
theorem d_Ss_move_56 : decode c_Ss_move 56 = .ok (.athrow, 1) := by decide +kernel
theorem d_Ss_move_57 : decode c_Ss_move 57 = .ok (.aload 5, 2) := by decide +kernel
theorem d_Ss_move_59 : decode c_Ss_move 59 = .ok (.iload_n 2, 1) := by decide +kernel
theorem d_Ss_move_60 : decode c_Ss_move 60 = .ok (.iload_n 3, 1) := by decide +kernel
theorem d_Ss_move_61 : decode c_Ss_move 61 = .ok (.iload 4, 2) := by decide +kernel
theorem d_Ss_move_63 : decode c_Ss_move 63 = .ok (.invokevirtual 87, 3) := by decide +kernel
theorem d_Ss_move_66 : decode c_Ss_move 66 = .ok (.ireturn, 1) := by decide +kernel
theorem d_Ss_knownBox_0 : decode c_Ss_knownBox 0 = .ok (.iload_n 1, 1) := by decide +kernel
theorem d_Ss_knownBox_1 : decode c_Ss_knownBox 1 = .ok (.ifCond .lt 21, 3) := by decide +kernel
theorem d_Ss_knownBox_4 : decode c_Ss_knownBox 4 = .ok (.iload_n 1, 1) := by decide +kernel
theorem d_Ss_knownBox_5 : decode c_Ss_knownBox 5 = .ok (.aload_n 0, 1) := by decide +kernel
theorem d_Ss_knownBox_6 : decode c_Ss_knownBox 6 = .ok (.getfield 11, 3) := by decide +kernel
theorem d_Ss_knownBox_9 : decode c_Ss_knownBox 9 = .ok (.arraylength, 1) := by decide +kernel
theorem d_Ss_knownBox_10 : decode c_Ss_knownBox 10 = .ok (.if_icmp .ge 12, 3) := by decide +kernel
theorem d_Ss_knownBox_13 : decode c_Ss_knownBox 13 = .ok (.aload_n 0, 1) := by decide +kernel
theorem d_Ss_knownBox_14 : decode c_Ss_knownBox 14 = .ok (.getfield 11, 3) := by decide +kernel
theorem d_Ss_knownBox_17 : decode c_Ss_knownBox 17 = .ok (.iload_n 1, 1) := by decide +kernel
theorem d_Ss_knownBox_18 : decode c_Ss_knownBox 18 = .ok (.aaload, 1) := by decide +kernel
theorem d_Ss_knownBox_19 : decode c_Ss_knownBox 19 = .ok (.goto 4, 3) := by decide +kernel
theorem d_Ss_knownBox_22 : decode c_Ss_knownBox 22 = .ok (.aconst_null, 1) := by decide +kernel
theorem d_Ss_knownBox_23 : decode c_Ss_knownBox 23 = .ok (.astore_n 2, 1) := by decide +kernel
theorem d_Ss_knownBox_24 : decode c_Ss_knownBox 24 = .ok (.aload_n 2, 1) := by decide +kernel
theorem d_Ss_knownBox_25 : decode c_Ss_knownBox 25 = .ok (.ifnonnull 13, 3) := by decide +kernel
theorem d_Ss_knownBox_28 : decode c_Ss_knownBox 28 = .ok (.new 62, 3) := by decide +kernel
theorem d_Ss_knownBox_31 : decode c_Ss_knownBox 31 = .ok (.dup, 1) := by decide +kernel
theorem d_Ss_knownBox_32 : decode c_Ss_knownBox 32 = .ok (.ldc 181, 2) := by decide +kernel
theorem d_Ss_knownBox_34 : decode c_Ss_knownBox 34 = .ok (.invokespecial 66, 3) := by decide +kernel
theorem d_Ss_knownBox_37 : decode c_Ss_knownBox 37 = .ok (.athrow, 1) := by decide +kernel
theorem d_Ss_knownBox_38 : decode c_Ss_knownBox 38 = .ok (.aload_n 2, 1) := by decide +kernel
theorem d_Ss_knownBox_39 : decode c_Ss_knownBox 39 = .ok (.areturn, 1) := by decide +kernel
theorem d_Ss_isWithin_0 : decode c_Ss_isWithin 0 = .ok (.iload_n 0, 1) := by decide +kernel
theorem d_Ss_isWithin_1 : decode c_Ss_isWithin 1 = .ok (.iload_n 1, 1) := by decide +kernel
theorem d_Ss_isWithin_2 : decode c_Ss_isWithin 2 = .ok (.if_icmp .lt 12, 3) := by decide +kernel
theorem d_Ss_isWithin_5 : decode c_Ss_isWithin 5 = .ok (.iload_n 0, 1) := by decide +kernel
theorem d_Ss_isWithin_6 : decode c_Ss_isWithin 6 = .ok (.iload_n 2, 1) := by decide +kernel
theorem d_Ss_isWithin_7 : decode c_Ss_isWithin 7 = .ok (.if_icmp .gt 7, 3) := by decide +kernel
theorem d_Ss_isWithin_10 : decode c_Ss_isWithin 10 = .ok (.iconst 1, 1) := by decide +kernel
theorem d_Ss_isWithin_11 : decode c_Ss_isWithin 11 = .ok (.goto 4, 3) := by decide +kernel
theorem d_Ss_isWithin_14 : decode c_Ss_isWithin 14 = .ok (.iconst 0, 1) := by decide +kernel
theorem d_Ss_isWithin_15 : decode c_Ss_isWithin 15 = .ok (.ireturn, 1) := by decide +kernel
theorem d_Ss_there_0 : decode c_Ss_there 0 = .ok (.aload_n 0, 1) := by decide +kernel
theorem d_Ss_there_1 : decode c_Ss_there 1 = .ok (.iload_n 1, 1) := by decide +kernel
theorem d_Ss_there_2 : decode c_Ss_there 2 = .ok (.invokevirtual 77, 3) := by decide +kernel
theorem d_Ss_there_5 : decode c_Ss_there 5 = .ok (.astore_n 3, 1) := by decide +kernel
theorem d_Ss_there_6 : decode c_Ss_there 6 = .ok (.aload_n 3, 1) := by decide +kernel
theorem d_Ss_there_7 : decode c_Ss_there 7 = .ok (.getfield 90, 3) := by decide +kernel
theorem d_Ss_there_10 : decode c_Ss_there 10 = .ok (.istore 4, 2) := by decide +kernel
theorem d_Ss_there_12 : decode c_Ss_there 12 = .ok (.aload_n 3, 1) := by decide +kernel
theorem d_Ss_there_13 : decode c_Ss_there 13 = .ok (.iload_n 2, 1) := by decide +kernel
theorem d_Ss_there_14 : decode c_Ss_there 14 = .ok (.putfield 90, 3) := by decide +kernel
theorem d_Ss_there_17 : decode c_Ss_there 17 = .ok (.iload 4, 2) := by decide +kernel
theorem d_Ss_there_19 : decode c_Ss_there 19 = .ok (.ireturn, 1) := by decide +kernel
theorem d_Ss_sun_0 : decode c_Ss_sun 0 = .ok (.aload_n 0, 1) := by decide +kernel
theorem d_Ss_sun_1 : decode c_Ss_sun 1 = .ok (.iload_n 1, 1) := by decide +kernel
theorem d_Ss_sun_2 : decode c_Ss_sun 2 = .ok (.invokevirtual 94, 3) := by decide +kernel
theorem d_Ss_sun_5 : decode c_Ss_sun 5 = .ok (.astore 5, 2) := by decide +kernel
theorem d_Ss_sun_7 : decode c_Ss_sun 7 = .ok (.iload_n 2, 1) := by decide +kernel
theorem d_Ss_sun_8 : decode c_Ss_sun 8 = .ok (.sipush (-300), 3) := by decide +kernel
theorem d_Ss_sun_11 : decode c_Ss_sun 11 = .ok (.sipush 300, 3) := by decide +kernel
theorem d_Ss_sun_14 : decode c_Ss_sun 14 = .ok (.invokestatic 81, 3) := by decide +kernel
theorem d_Ss_sun_17 : decode c_Ss_sun 17 = .ok (.ifCond .eq 27, 3) := by decide +kernel
theorem d_Ss_sun_20 : decode c_Ss_sun 20 = .ok (.iload_n 3, 1) := by decide +kernel
theorem d_Ss_sun_21 : decode c_Ss_sun 21 = .ok (.sipush (-300), 3) := by decide +kernel
theorem d_Ss_sun_24 : decode c_Ss_sun 24 = .ok (.sipush 300, 3) := by decide +kernel
theorem d_Ss_sun_27 : decode c_Ss_sun 27 = .ok (.invokestatic 81, 3) := by decide +kernel
theorem d_Ss_sun_30 : decode c_Ss_sun 30 = .ok (.ifCond .eq 14, 3) := by decide +kernel
theorem d_Ss_sun_33 : decode c_Ss_sun 33 = .ok (.iload 4, 2) := by decide +kernel
theorem d_Ss_sun_35 : decode c_Ss_sun 35 = .ok (.iconst 0, 1) := by decide +kernel
theorem d_Ss_sun_36 : decode c_Ss_sun 36 = .ok (.bipush 100, 2) := by decide +kernel
theorem d_Ss_sun_38 : decode c_Ss_sun 38 = .ok (.invokestatic 81, 3) := by decide +kernel
theorem d_Ss_sun_41 : decode c_Ss_sun 41 = .ok (.ifCond .ne 13, 3) := by decide +kernel
theorem d_Ss_sun_44 : decode c_Ss_sun 44 = .ok (.new 62, 3) := by decide +kernel
theorem d_Ss_sun_47 : decode c_Ss_sun 47 = .ok (.dup, 1) := by decide +kernel
theorem d_Ss_sun_48 : decode c_Ss_sun 48 = .ok (.ldc 98, 2) := by decide +kernel
theorem d_Ss_sun_50 : decode c_Ss_sun 50 = .ok (.invokespecial 66, 3) := by decide +kernel
theorem d_Ss_sun_53 : decode c_Ss_sun 53 = .ok (.athrow, 1) := by decide +kernel
theorem d_Ss_sun_54 : decode c_Ss_sun 54 = .ok (.aload 5, 2) := by decide +kernel
theorem d_Ss_sun_56 : decode c_Ss_sun 56 = .ok (.iload_n 2, 1) := by decide +kernel
theorem d_Ss_sun_57 : decode c_Ss_sun 57 = .ok (.putfield 100, 3) := by decide +kernel
theorem d_Ss_sun_60 : decode c_Ss_sun 60 = .ok (.aload 5, 2) := by decide +kernel
theorem d_Ss_sun_62 : decode c_Ss_sun 62 = .ok (.iload_n 3, 1) := by decide +kernel
theorem d_Ss_sun_63 : decode c_Ss_sun 63 = .ok (.putfield 103, 3) := by decide +kernel
theorem d_Ss_sun_66 : decode c_Ss_sun 66 = .ok (.aload 5, 2) := by decide +kernel
theorem d_Ss_sun_68 : decode c_Ss_sun 68 = .ok (.iload 4, 2) := by decide +kernel
theorem d_Ss_sun_70 : decode c_Ss_sun 70 = .ok (.putfield 106, 3) := by decide +kernel
theorem d_Ss_sun_73 : decode c_Ss_sun 73 = .ok (.return_, 1) := by decide +kernel
theorem d_Ss_knownHour_0 : decode c_Ss_knownHour 0 = .ok (.iload_n 1, 1) := by decide +kernel
theorem d_Ss_knownHour_1 : decode c_Ss_knownHour 1 = .ok (.ifCond .lt 21, 3) := by decide +kernel
theorem d_Ss_knownHour_4 : decode c_Ss_knownHour 4 = .ok (.iload_n 1, 1) := by decide +kernel
theorem d_Ss_knownHour_5 : decode c_Ss_knownHour 5 = .ok (.aload_n 0, 1) := by decide +kernel
theorem d_Ss_knownHour_6 : decode c_Ss_knownHour 6 = .ok (.getfield 23, 3) := by decide +kernel
theorem d_Ss_knownHour_9 : decode c_Ss_knownHour 9 = .ok (.arraylength, 1) := by decide +kernel
theorem d_Ss_knownHour_10 : decode c_Ss_knownHour 10 = .ok (.if_icmp .ge 12, 3) := by decide +kernel
theorem d_Ss_knownHour_13 : decode c_Ss_knownHour 13 = .ok (.aload_n 0, 1) := by decide +kernel
theorem d_Ss_knownHour_14 : decode c_Ss_knownHour 14 = .ok (.getfield 23, 3) := by decide +kernel
theorem d_Ss_knownHour_17 : decode c_Ss_knownHour 17 = .ok (.iload_n 1, 1) := by decide +kernel
theorem d_Ss_knownHour_18 : decode c_Ss_knownHour 18 = .ok (.aaload, 1) := by decide +kernel
theorem d_Ss_knownHour_19 : decode c_Ss_knownHour 19 = .ok (.goto 4, 3) := by decide +kernel
theorem d_Ss_knownHour_22 : decode c_Ss_knownHour 22 = .ok (.aconst_null, 1) := by decide +kernel
theorem d_Ss_knownHour_23 : decode c_Ss_knownHour 23 = .ok (.astore_n 2, 1) := by decide +kernel
theorem d_Ss_knownHour_24 : decode c_Ss_knownHour 24 = .ok (.aload_n 2, 1) := by decide +kernel
theorem d_Ss_knownHour_25 : decode c_Ss_knownHour 25 = .ok (.ifnonnull 13, 3) := by decide +kernel
theorem d_Ss_knownHour_28 : decode c_Ss_knownHour 28 = .ok (.new 62, 3) := by decide +kernel
theorem d_Ss_knownHour_31 : decode c_Ss_knownHour 31 = .ok (.dup, 1) := by decide +kernel
theorem d_Ss_knownHour_32 : decode c_Ss_knownHour 32 = .ok (.ldc 185, 2) := by decide +kernel
theorem d_Ss_knownHour_34 : decode c_Ss_knownHour 34 = .ok (.invokespecial 66, 3) := by decide +kernel
theorem d_Ss_knownHour_37 : decode c_Ss_knownHour 37 = .ok (.athrow, 1) := by decide +kernel
theorem d_Ss_knownHour_38 : decode c_Ss_knownHour 38 = .ok (.aload_n 2, 1) := by decide +kernel
theorem d_Ss_knownHour_39 : decode c_Ss_knownHour 39 = .ok (.areturn, 1) := by decide +kernel
theorem d_Ss_light_0 : decode c_Ss_light 0 = .ok (.aload_n 0, 1) := by decide +kernel
theorem d_Ss_light_1 : decode c_Ss_light 1 = .ok (.iload_n 1, 1) := by decide +kernel
theorem d_Ss_light_2 : decode c_Ss_light 2 = .ok (.invokevirtual 94, 3) := by decide +kernel
theorem d_Ss_light_5 : decode c_Ss_light 5 = .ok (.astore_n 3, 1) := by decide +kernel
theorem d_Ss_light_6 : decode c_Ss_light 6 = .ok (.iload_n 2, 1) := by decide +kernel
theorem d_Ss_light_7 : decode c_Ss_light 7 = .ok (.iconst 0, 1) := by decide +kernel
theorem d_Ss_light_8 : decode c_Ss_light 8 = .ok (.sipush 1000, 3) := by decide +kernel
theorem d_Ss_light_11 : decode c_Ss_light 11 = .ok (.invokestatic 81, 3) := by decide +kernel
theorem d_Ss_light_14 : decode c_Ss_light 14 = .ok (.ifCond .ne 13, 3) := by decide +kernel
theorem d_Ss_light_17 : decode c_Ss_light 17 = .ok (.new 62, 3) := by decide +kernel
theorem d_Ss_light_20 : decode c_Ss_light 20 = .ok (.dup, 1) := by decide +kernel
theorem d_Ss_light_21 : decode c_Ss_light 21 = .ok (.ldc 109, 2) := by decide +kernel
theorem d_Ss_light_23 : decode c_Ss_light 23 = .ok (.invokespecial 66, 3) := by decide +kernel
theorem d_Ss_light_26 : decode c_Ss_light 26 = .ok (.athrow, 1) := by decide +kernel
theorem d_Ss_light_27 : decode c_Ss_light 27 = .ok (.aload_n 3, 1) := by decide +kernel
theorem d_Ss_light_28 : decode c_Ss_light 28 = .ok (.getfield 111, 3) := by decide +kernel
theorem d_Ss_light_31 : decode c_Ss_light 31 = .ok (.istore 4, 2) := by decide +kernel
theorem d_Ss_light_33 : decode c_Ss_light 33 = .ok (.aload_n 3, 1) := by decide +kernel
theorem d_Ss_light_34 : decode c_Ss_light 34 = .ok (.iload_n 2, 1) := by decide +kernel
theorem d_Ss_light_35 : decode c_Ss_light 35 = .ok (.putfield 111, 3) := by decide +kernel
theorem d_Ss_light_38 : decode c_Ss_light 38 = .ok (.iload 4, 2) := by decide +kernel
theorem d_Ss_light_40 : decode c_Ss_light 40 = .ok (.ireturn, 1) := by decide +kernel
theorem d_Ss_window_0 : decode c_Ss_window 0 = .ok (.iload_n 1, 1) := by decide +kernel
theorem d_Ss_window_1 : decode c_Ss_window 1 = .ok (.ifCond .lt 35, 3) := by decide +kernel
theorem d_Ss_window_4 : decode c_Ss_window 4 = .ok (.iload_n 1, 1) := by decide +kernel
theorem d_Ss_window_5 : decode c_Ss_window 5 = .ok (.iload_n 3, 1) := by decide +kernel
theorem d_Ss_window_6 : decode c_Ss_window 6 = .ok (.if_icmp .ge 30, 3) := by decide +kernel
theorem d_Ss_window_9 : decode c_Ss_window 9 = .ok (.iload_n 3, 1) := by decide +kernel
theorem d_Ss_window_10 : decode c_Ss_window 10 = .ok (.aload_n 0, 1) := by decide +kernel
theorem d_Ss_window_11 : decode c_Ss_window 11 = .ok (.getfield 51, 3) := by decide +kernel
theorem d_Ss_window_14 : decode c_Ss_window 14 = .ok (.if_icmp .gt 22, 3) := by decide +kernel
theorem d_Ss_window_17 : decode c_Ss_window 17 = .ok (.iload_n 2, 1) := by decide +kernel
theorem d_Ss_window_18 : decode c_Ss_window 18 = .ok (.ifCond .lt 18, 3) := by decide +kernel
theorem d_Ss_window_21 : decode c_Ss_window 21 = .ok (.iload_n 2, 1) := by decide +kernel
theorem d_Ss_window_22 : decode c_Ss_window 22 = .ok (.iload 4, 2) := by decide +kernel
theorem d_Ss_window_24 : decode c_Ss_window 24 = .ok (.if_icmp .ge 12, 3) := by decide +kernel
theorem d_Ss_window_27 : decode c_Ss_window 27 = .ok (.iload 4, 2) := by decide +kernel
theorem d_Ss_window_29 : decode c_Ss_window 29 = .ok (.aload_n 0, 1) := by decide +kernel
theorem d_Ss_window_30 : decode c_Ss_window 30 = .ok (.getfield 54, 3) := by decide +kernel
theorem d_Ss_window_33 : decode c_Ss_window 33 = .ok (.if_icmp .le 13, 3) := by decide +kernel
theorem d_Ss_window_36 : decode c_Ss_window 36 = .ok (.new 62, 3) := by decide +kernel
theorem d_Ss_window_39 : decode c_Ss_window 39 = .ok (.dup, 1) := by decide +kernel
theorem d_Ss_window_40 : decode c_Ss_window 40 = .ok (.ldc 114, 2) := by decide +kernel
theorem d_Ss_window_42 : decode c_Ss_window 42 = .ok (.invokespecial 66, 3) := by decide +kernel
theorem d_Ss_window_45 : decode c_Ss_window 45 = .ok (.athrow, 1) := by decide +kernel
theorem d_Ss_window_46 : decode c_Ss_window 46 = .ok (.aload_n 0, 1) := by decide +kernel
theorem d_Ss_window_47 : decode c_Ss_window 47 = .ok (.getfield 39, 3) := by decide +kernel
theorem d_Ss_window_50 : decode c_Ss_window 50 = .ok (.aload_n 0, 1) := by decide +kernel
theorem d_Ss_window_51 : decode c_Ss_window 51 = .ok (.getfield 17, 3) := by decide +kernel
theorem d_Ss_window_54 : decode c_Ss_window 54 = .ok (.arraylength, 1) := by decide +kernel
theorem d_Ss_window_55 : decode c_Ss_window 55 = .ok (.if_icmp .lt 13, 3) := by decide +kernel
theorem d_Ss_window_58 : decode c_Ss_window 58 = .ok (.new 69, 3) := by decide +kernel
theorem d_Ss_window_61 : decode c_Ss_window 61 = .ok (.dup, 1) := by decide +kernel
theorem d_Ss_window_62 : decode c_Ss_window 62 = .ok (.ldc 116, 2) := by decide +kernel
theorem d_Ss_window_64 : decode c_Ss_window 64 = .ok (.invokespecial 73, 3) := by decide +kernel
theorem d_Ss_window_67 : decode c_Ss_window 67 = .ok (.athrow, 1) := by decide +kernel
theorem d_Ss_window_68 : decode c_Ss_window 68 = .ok (.aload_n 0, 1) := by decide +kernel
theorem d_Ss_window_69 : decode c_Ss_window 69 = .ok (.getfield 39, 3) := by decide +kernel
theorem d_Ss_window_72 : decode c_Ss_window 72 = .ok (.istore 5, 2) := by decide +kernel
theorem d_Ss_window_74 : decode c_Ss_window 74 = .ok (.aload_n 0, 1) := by decide +kernel
theorem d_Ss_window_75 : decode c_Ss_window 75 = .ok (.getfield 17, 3) := by decide +kernel
theorem d_Ss_window_78 : decode c_Ss_window 78 = .ok (.iload 5, 2) := by decide +kernel
theorem d_Ss_window_80 : decode c_Ss_window 80 = .ok (.new 15, 3) := by decide +kernel
theorem d_Ss_window_83 : decode c_Ss_window 83 = .ok (.dup, 1) := by decide +kernel
theorem d_Ss_window_84 : decode c_Ss_window 84 = .ok (.iload_n 1, 1) := by decide +kernel
theorem d_Ss_window_85 : decode c_Ss_window 85 = .ok (.iload_n 2, 1) := by decide +kernel
theorem d_Ss_window_86 : decode c_Ss_window 86 = .ok (.iload_n 3, 1) := by decide +kernel
theorem d_Ss_window_87 : decode c_Ss_window 87 = .ok (.iload 4, 2) := by decide +kernel
theorem d_Ss_window_89 : decode c_Ss_window 89 = .ok (.invokespecial 118, 3) := by decide +kernel
theorem d_Ss_window_92 : decode c_Ss_window 92 = .ok (.aastore, 1) := by decide +kernel
theorem d_Ss_window_93 : decode c_Ss_window 93 = .ok (.aload_n 0, 1) := by decide +kernel
theorem d_Ss_window_94 : decode c_Ss_window 94 = .ok (.iload 5, 2) := by decide +kernel
theorem d_Ss_window_96 : decode c_Ss_window 96 = .ok (.iconst 1, 1) := by decide +kernel
theorem d_Ss_window_97 : decode c_Ss_window 97 = .ok (.iadd, 1) := by decide +kernel
theorem d_Ss_window_98 : decode c_Ss_window 98 = .ok (.putfield 39, 3) := by decide +kernel
theorem d_Ss_window_101 : decode c_Ss_window 101 = .ok (.iload 5, 2) := by decide +kernel
theorem d_Ss_window_103 : decode c_Ss_window 103 = .ok (.ireturn, 1) := by decide +kernel
theorem d_Ss_shadow_0 : decode c_Ss_shadow 0 = .ok (.iload_n 1, 1) := by decide +kernel
theorem d_Ss_shadow_1 : decode c_Ss_shadow 1 = .ok (.iconst 0, 1) := by decide +kernel
theorem d_Ss_shadow_2 : decode c_Ss_shadow 2 = .ok (.aload_n 0, 1) := by decide +kernel
theorem d_Ss_shadow_3 : decode c_Ss_shadow 3 = .ok (.getfield 51, 3) := by decide +kernel
theorem d_Ss_shadow_6 : decode c_Ss_shadow 6 = .ok (.iconst 1, 1) := by decide +kernel
theorem d_Ss_shadow_7 : decode c_Ss_shadow 7 = .ok (.isub, 1) := by decide +kernel
theorem d_Ss_shadow_8 : decode c_Ss_shadow 8 = .ok (.invokestatic 81, 3) := by decide +kernel
theorem d_Ss_shadow_11 : decode c_Ss_shadow 11 = .ok (.ifCond .eq 17, 3) := by decide +kernel
theorem d_Ss_shadow_14 : decode c_Ss_shadow 14 = .ok (.iload_n 2, 1) := by decide +kernel
theorem d_Ss_shadow_15 : decode c_Ss_shadow 15 = .ok (.iconst 0, 1) := by decide +kernel
theorem d_Ss_shadow_16 : decode c_Ss_shadow 16 = .ok (.aload_n 0, 1) := by decide +kernel
theorem d_Ss_shadow_17 : decode c_Ss_shadow 17 = .ok (.getfield 54, 3) := by decide +kernel
theorem d_Ss_shadow_20 : decode c_Ss_shadow 20 = .ok (.iconst 1, 1) := by decide +kernel
theorem d_Ss_shadow_21 : decode c_Ss_shadow 21 = .ok (.isub, 1) := by decide +kernel
theorem d_Ss_shadow_22 : decode c_Ss_shadow 22 = .ok (.invokestatic 81, 3) := by decide +kernel
theorem d_Ss_shadow_25 : decode c_Ss_shadow 25 = .ok (.ifCond .ne 13, 3) := by decide +kernel
theorem d_Ss_shadow_28 : decode c_Ss_shadow 28 = .ok (.new 62, 3) := by decide +kernel
theorem d_Ss_shadow_31 : decode c_Ss_shadow 31 = .ok (.dup, 1) := by decide +kernel
theorem d_Ss_shadow_32 : decode c_Ss_shadow 32 = .ok (.ldc 121, 2) := by decide +kernel
theorem d_Ss_shadow_34 : decode c_Ss_shadow 34 = .ok (.invokespecial 66, 3) := by decide +kernel
theorem d_Ss_shadow_37 : decode c_Ss_shadow 37 = .ok (.athrow, 1) := by decide +kernel
theorem d_Ss_shadow_38 : decode c_Ss_shadow 38 = .ok (.aload_n 0, 1) := by decide +kernel
theorem d_Ss_shadow_39 : decode c_Ss_shadow 39 = .ok (.iload_n 2, 1) := by decide +kernel
theorem d_Ss_shadow_40 : decode c_Ss_shadow 40 = .ok (.aload_n 0, 1) := by decide +kernel
theorem d_Ss_shadow_41 : decode c_Ss_shadow 41 = .ok (.iload_n 3, 1) := by decide +kernel
theorem d_Ss_shadow_42 : decode c_Ss_shadow 42 = .ok (.invokevirtual 123, 3) := by decide +kernel
theorem d_Ss_shadow_45 : decode c_Ss_shadow 45 = .ok (.invokevirtual 126, 3) := by decide +kernel
theorem d_Ss_shadow_48 : decode c_Ss_shadow 48 = .ok (.iload_n 1, 1) := by decide +kernel
theorem d_Ss_shadow_49 : decode c_Ss_shadow 49 = .ok (.invokestatic 130, 3) := by decide +kernel
theorem d_Ss_shadow_52 : decode c_Ss_shadow 52 = .ok (.ireturn, 1) := by decide +kernel
theorem d_Ss_sunnyHour_0 : decode c_Ss_sunnyHour 0 = .ok (.aload_n 0, 1) := by decide +kernel
theorem d_Ss_sunnyHour_1 : decode c_Ss_sunnyHour 1 = .ok (.iload_n 1, 1) := by decide +kernel
theorem d_Ss_sunnyHour_2 : decode c_Ss_sunnyHour 2 = .ok (.invokevirtual 94, 3) := by decide +kernel
theorem d_Ss_sunnyHour_5 : decode c_Ss_sunnyHour 5 = .ok (.astore_n 2, 1) := by decide +kernel
theorem d_Ss_sunnyHour_6 : decode c_Ss_sunnyHour 6 = .ok (.aload_n 2, 1) := by decide +kernel
theorem d_Ss_sunnyHour_7 : decode c_Ss_sunnyHour 7 = .ok (.invokevirtual 173, 3) := by decide +kernel
theorem d_Ss_sunnyHour_10 : decode c_Ss_sunnyHour 10 = .ok (.ifCond .ne 13, 3) := by decide +kernel
theorem d_Ss_sunnyHour_13 : decode c_Ss_sunnyHour 13 = .ok (.new 69, 3) := by decide +kernel
theorem d_Ss_sunnyHour_16 : decode c_Ss_sunnyHour 16 = .ok (.dup, 1) := by decide +kernel
theorem d_Ss_sunnyHour_17 : decode c_Ss_sunnyHour 17 = .ok (.ldc 187, 2) := by decide +kernel
theorem d_Ss_sunnyHour_19 : decode c_Ss_sunnyHour 19 = .ok (.invokespecial 73, 3) := by decide +kernel
theorem d_Ss_sunnyHour_22 : decode c_Ss_sunnyHour 22 = .ok (.athrow, 1) := by decide +kernel
theorem d_Ss_sunnyHour_23 : decode c_Ss_sunnyHour 23 = .ok (.aload_n 2, 1) := by decide +kernel
theorem d_Ss_sunnyHour_24 : decode c_Ss_sunnyHour 24 = .ok (.areturn, 1) := by decide +kernel
theorem d_Ss_shadeOfRow_0 : decode c_Ss_shadeOfRow 0 = .ok (.lconst 0, 1) := by decide +kernel
theorem d_Ss_shadeOfRow_1 : decode c_Ss_shadeOfRow 1 = .ok (.lstore_n 3, 1) := by decide +kernel
theorem d_Ss_shadeOfRow_2 : decode c_Ss_shadeOfRow 2 = .ok (.aload_n 0, 1) := by decide +kernel
theorem d_Ss_shadeOfRow_3 : decode c_Ss_shadeOfRow 3 = .ok (.getfield 11, 3) := by decide +kernel
theorem d_Ss_shadeOfRow_6 : decode c_Ss_shadeOfRow 6 = .ok (.astore 5, 2) := by decide +kernel
theorem d_Ss_shadeOfRow_8 : decode c_Ss_shadeOfRow 8 = .ok (.aload 5, 2) := by decide +kernel
theorem d_Ss_shadeOfRow_10 : decode c_Ss_shadeOfRow 10 = .ok (.arraylength, 1) := by decide +kernel
theorem d_Ss_shadeOfRow_11 : decode c_Ss_shadeOfRow 11 = .ok (.istore 6, 2) := by decide +kernel
theorem d_Ss_shadeOfRow_13 : decode c_Ss_shadeOfRow 13 = .ok (.iconst 0, 1) := by decide +kernel
theorem d_Ss_shadeOfRow_14 : decode c_Ss_shadeOfRow 14 = .ok (.istore 7, 2) := by decide +kernel
theorem d_Ss_shadeOfRow_16 : decode c_Ss_shadeOfRow 16 = .ok (.iload 7, 2) := by decide +kernel
theorem d_Ss_shadeOfRow_18 : decode c_Ss_shadeOfRow 18 = .ok (.iload 6, 2) := by decide +kernel
theorem d_Ss_shadeOfRow_20 : decode c_Ss_shadeOfRow 20 = .ok (.if_icmp .ge 35, 3) := by decide +kernel
theorem d_Ss_shadeOfRow_23 : decode c_Ss_shadeOfRow 23 = .ok (.aload 5, 2) := by decide +kernel
theorem d_Ss_shadeOfRow_25 : decode c_Ss_shadeOfRow 25 = .ok (.iload 7, 2) := by decide +kernel
theorem d_Ss_shadeOfRow_27 : decode c_Ss_shadeOfRow 27 = .ok (.aaload, 1) := by decide +kernel
theorem d_Ss_shadeOfRow_28 : decode c_Ss_shadeOfRow 28 = .ok (.astore 8, 2) := by decide +kernel
theorem d_Ss_shadeOfRow_30 : decode c_Ss_shadeOfRow 30 = .ok (.aload 8, 2) := by decide +kernel
theorem d_Ss_shadeOfRow_32 : decode c_Ss_shadeOfRow 32 = .ok (.ifnull 17, 3) := by decide +kernel
theorem d_Ss_shadeOfRow_35 : decode c_Ss_shadeOfRow 35 = .ok (.lload_n 3, 1) := by decide +kernel
theorem d_Ss_shadeOfRow_36 : decode c_Ss_shadeOfRow 36 = .ok (.aload 8, 2) := by decide +kernel
theorem d_Ss_shadeOfRow_38 : decode c_Ss_shadeOfRow 38 = .ok (.iload_n 1, 1) := by decide +kernel
theorem d_Ss_shadeOfRow_39 : decode c_Ss_shadeOfRow 39 = .ok (.aload_n 2, 1) := by decide +kernel
theorem d_Ss_shadeOfRow_40 : decode c_Ss_shadeOfRow 40 = .ok (.aload_n 0, 1) := by decide +kernel
theorem d_Ss_shadeOfRow_41 : decode c_Ss_shadeOfRow 41 = .ok (.getfield 51, 3) := by decide +kernel
theorem d_Ss_shadeOfRow_44 : decode c_Ss_shadeOfRow 44 = .ok (.invokevirtual 134, 3) := by decide +kernel
theorem d_Ss_shadeOfRow_47 : decode c_Ss_shadeOfRow 47 = .ok (.lor, 1) := by decide +kernel
theorem d_Ss_shadeOfRow_48 : decode c_Ss_shadeOfRow 48 = .ok (.lstore_n 3, 1) := by decide +kernel
theorem d_Ss_shadeOfRow_49 : decode c_Ss_shadeOfRow 49 = .ok (.iinc 7 1, 3) := by decide +kernel
theorem d_Ss_shadeOfRow_52 : decode c_Ss_shadeOfRow 52 = .ok (.goto (-36), 3) := by decide +kernel
theorem d_Ss_shadeOfRow_55 : decode c_Ss_shadeOfRow 55 = .ok (.lload_n 3, 1) := by decide +kernel
theorem d_Ss_shadeOfRow_56 : decode c_Ss_shadeOfRow 56 = .ok (.lreturn, 1) := by decide +kernel
theorem d_Ss_cellsBetween_0 : decode c_Ss_cellsBetween 0 = .ok (.iload_n 0, 1) := by decide +kernel
theorem d_Ss_cellsBetween_1 : decode c_Ss_cellsBetween 1 = .ok (.iload_n 1, 1) := by decide +kernel
theorem d_Ss_cellsBetween_2 : decode c_Ss_cellsBetween 2 = .ok (.if_icmp .le 5, 3) := by decide +kernel
theorem d_Ss_cellsBetween_5 : decode c_Ss_cellsBetween 5 = .ok (.lconst 0, 1) := by decide +kernel
theorem d_Ss_cellsBetween_6 : decode c_Ss_cellsBetween 6 = .ok (.lreturn, 1) := by decide +kernel
theorem d_Ss_cellsBetween_7 : decode c_Ss_cellsBetween 7 = .ok (.lconst 1, 1) := by decide +kernel
theorem d_Ss_cellsBetween_8 : decode c_Ss_cellsBetween 8 = .ok (.iload_n 1, 1) := by decide +kernel
theorem d_Ss_cellsBetween_9 : decode c_Ss_cellsBetween 9 = .ok (.iload_n 0, 1) := by decide +kernel
theorem d_Ss_cellsBetween_10 : decode c_Ss_cellsBetween 10 = .ok (.isub, 1) := by decide +kernel
theorem d_Ss_cellsBetween_11 : decode c_Ss_cellsBetween 11 = .ok (.iconst 1, 1) := by decide +kernel
theorem d_Ss_cellsBetween_12 : decode c_Ss_cellsBetween 12 = .ok (.iadd, 1) := by decide +kernel
theorem d_Ss_cellsBetween_13 : decode c_Ss_cellsBetween 13 = .ok (.lshl, 1) := by decide +kernel
theorem d_Ss_cellsBetween_14 : decode c_Ss_cellsBetween 14 = .ok (.lconst 1, 1) := by decide +kernel
theorem d_Ss_cellsBetween_15 : decode c_Ss_cellsBetween 15 = .ok (.lsub, 1) := by decide +kernel
theorem d_Ss_cellsBetween_16 : decode c_Ss_cellsBetween 16 = .ok (.iload_n 0, 1) := by decide +kernel
theorem d_Ss_cellsBetween_17 : decode c_Ss_cellsBetween 17 = .ok (.lshl, 1) := by decide +kernel
theorem d_Ss_cellsBetween_18 : decode c_Ss_cellsBetween 18 = .ok (.lreturn, 1) := by decide +kernel
theorem d_Ss_hasCell_0 : decode c_Ss_hasCell 0 = .ok (.lload_n 0, 1) := by decide +kernel
theorem d_Ss_hasCell_1 : decode c_Ss_hasCell 1 = .ok (.iload_n 2, 1) := by decide +kernel
theorem d_Ss_hasCell_2 : decode c_Ss_hasCell 2 = .ok (.lushr, 1) := by decide +kernel
theorem d_Ss_hasCell_3 : decode c_Ss_hasCell 3 = .ok (.lconst 1, 1) := by decide +kernel
theorem d_Ss_hasCell_4 : decode c_Ss_hasCell 4 = .ok (.land, 1) := by decide +kernel
theorem d_Ss_hasCell_5 : decode c_Ss_hasCell 5 = .ok (.lconst 0, 1) := by decide +kernel
theorem d_Ss_hasCell_6 : decode c_Ss_hasCell 6 = .ok (.lcmp, 1) := by decide +kernel
theorem d_Ss_hasCell_7 : decode c_Ss_hasCell 7 = .ok (.ifCond .eq 7, 3) := by decide +kernel
theorem d_Ss_hasCell_10 : decode c_Ss_hasCell 10 = .ok (.iconst 1, 1) := by decide +kernel
theorem d_Ss_hasCell_11 : decode c_Ss_hasCell 11 = .ok (.goto 4, 3) := by decide +kernel
theorem d_Ss_hasCell_14 : decode c_Ss_hasCell 14 = .ok (.iconst 0, 1) := by decide +kernel
theorem d_Ss_hasCell_15 : decode c_Ss_hasCell 15 = .ok (.ireturn, 1) := by decide +kernel
theorem d_Ss_shadows_0 : decode c_Ss_shadows 0 = .ok (.iload_n 1, 1) := by decide +kernel
theorem d_Ss_shadows_1 : decode c_Ss_shadows 1 = .ok (.iconst (-1), 1) := by decide +kernel
theorem d_Ss_shadows_2 : decode c_Ss_shadows 2 = .ok (.if_icmp .ne 7, 3) := by decide +kernel
theorem d_Ss_shadows_5 : decode c_Ss_shadows 5 = .ok (.aconst_null, 1) := by decide +kernel
theorem d_Ss_shadows_6 : decode c_Ss_shadows 6 = .ok (.goto 8, 3) := by decide +kernel
theorem d_Ss_shadows_9 : decode c_Ss_shadows 9 = .ok (.aload_n 0, 1) := by decide +kernel
theorem d_Ss_shadows_10 : decode c_Ss_shadows 10 = .ok (.iload_n 1, 1) := by decide +kernel
theorem d_Ss_shadows_11 : decode c_Ss_shadows 11 = .ok (.invokevirtual 77, 3) := by decide +kernel
theorem d_Ss_shadows_14 : decode c_Ss_shadows 14 = .ok (.astore_n 3, 1) := by decide +kernel
theorem d_Ss_shadows_15 : decode c_Ss_shadows 15 = .ok (.aload_n 0, 1) := by decide +kernel
theorem d_Ss_shadows_16 : decode c_Ss_shadows 16 = .ok (.iload_n 2, 1) := by decide +kernel
theorem d_Ss_shadows_17 : decode c_Ss_shadows 17 = .ok (.invokevirtual 123, 3) := by decide +kernel
theorem d_Ss_shadows_20 : decode c_Ss_shadows 20 = .ok (.astore 4, 2) := by decide +kernel
theorem d_Ss_shadows_22 : decode c_Ss_shadows 22 = .ok (.iconst 0, 1) := by decide +kernel
theorem d_Ss_shadows_23 : decode c_Ss_shadows 23 = .ok (.istore 5, 2) := by decide +kernel
theorem d_Ss_shadows_25 : decode c_Ss_shadows 25 = .ok (.iconst 0, 1) := by decide +kernel
theorem d_Ss_shadows_26 : decode c_Ss_shadows 26 = .ok (.istore 6, 2) := by decide +kernel
theorem d_Ss_shadows_28 : decode c_Ss_shadows 28 = .ok (.iload 6, 2) := by decide +kernel
theorem d_Ss_shadows_30 : decode c_Ss_shadows 30 = .ok (.aload_n 0, 1) := by decide +kernel
theorem d_Ss_shadows_31 : decode c_Ss_shadows 31 = .ok (.getfield 54, 3) := by decide +kernel
theorem d_Ss_shadows_34 : decode c_Ss_shadows 34 = .ok (.if_icmp .ge 48, 3) := by decide +kernel
theorem d_Ss_shadows_37 : decode c_Ss_shadows 37 = .ok (.aload_n 3, 1) := by decide +kernel
theorem d_Ss_shadows_38 : decode c_Ss_shadows 38 = .ok (.ifnonnull 14, 3) := by decide +kernel
theorem d_Ss_shadows_41 : decode c_Ss_shadows 41 = .ok (.aload_n 0, 1) := by decide +kernel
theorem d_Ss_shadows_42 : decode c_Ss_shadows 42 = .ok (.iload 6, 2) := by decide +kernel
theorem d_Ss_shadows_44 : decode c_Ss_shadows 44 = .ok (.aload 4, 2) := by decide +kernel
theorem d_Ss_shadows_46 : decode c_Ss_shadows 46 = .ok (.invokevirtual 126, 3) := by decide +kernel
theorem d_Ss_shadows_49 : decode c_Ss_shadows 49 = .ok (.goto 15, 3) := by decide +kernel
theorem d_Ss_shadows_52 : decode c_Ss_shadows 52 = .ok (.aload_n 3, 1) := by decide +kernel
theorem d_Ss_shadows_53 : decode c_Ss_shadows 53 = .ok (.iload 6, 2) := by decide +kernel
theorem d_Ss_shadows_55 : decode c_Ss_shadows 55 = .ok (.aload 4, 2) := by decide +kernel
theorem d_Ss_shadows_57 : decode c_Ss_shadows 57 = .ok (.aload_n 0, 1) := by decide +kernel
theorem d_Ss_shadows_58 : decode c_Ss_shadows 58 = .ok (.getfield 51, 3) := by decide +kernel
theorem d_Ss_shadows_61 : decode c_Ss_shadows 61 = .ok (.invokevirtual 134, 3) := by decide +kernel
theorem d_Ss_shadows_64 : decode c_Ss_shadows 64 = .ok (.lstore 7, 2) := by decide +kernel
theorem d_Ss_shadows_66 : decode c_Ss_shadows 66 = .ok (.iload 5, 2) := by decide +kernel
theorem d_Ss_shadows_68 : decode c_Ss_shadows 68 = .ok (.lload 7, 2) := by decide +kernel
theorem d_Ss_shadows_70 : decode c_Ss_shadows 70 = .ok (.invokestatic 138, 3) := by decide +kernel
theorem d_Ss_shadows_73 : decode c_Ss_shadows 73 = .ok (.iadd, 1) := by decide +kernel
theorem d_Ss_shadows_74 : decode c_Ss_shadows 74 = .ok (.istore 5, 2) := by decide +kernel
theorem d_Ss_shadows_76 : decode c_Ss_shadows 76 = .ok (.iinc 6 1, 3) := by decide +kernel
theorem d_Ss_shadows_79 : decode c_Ss_shadows 79 = .ok (.goto (-51), 3) := by decide +kernel
theorem d_Ss_shadows_82 : decode c_Ss_shadows 82 = .ok (.iload 5, 2) := by decide +kernel
theorem d_Ss_shadows_84 : decode c_Ss_shadows 84 = .ok (.ireturn, 1) := by decide +kernel
theorem d_Ss_dark_0 : decode c_Ss_dark 0 = .ok (.aload_n 0, 1) := by decide +kernel
theorem d_Ss_dark_1 : decode c_Ss_dark 1 = .ok (.iload_n 1, 1) := by decide +kernel
theorem d_Ss_dark_2 : decode c_Ss_dark 2 = .ok (.invokevirtual 144, 3) := by decide +kernel
theorem d_Ss_dark_5 : decode c_Ss_dark 5 = .ok (.astore_n 3, 1) := by decide +kernel
theorem d_Ss_dark_6 : decode c_Ss_dark 6 = .ok (.aload_n 0, 1) := by decide +kernel
theorem d_Ss_dark_7 : decode c_Ss_dark 7 = .ok (.aload_n 3, 1) := by decide +kernel
theorem d_Ss_dark_8 : decode c_Ss_dark 8 = .ok (.aload_n 0, 1) := by decide +kernel
theorem d_Ss_dark_9 : decode c_Ss_dark 9 = .ok (.iload_n 2, 1) := by decide +kernel
theorem d_Ss_dark_10 : decode c_Ss_dark 10 = .ok (.invokevirtual 123, 3) := by decide +kernel
theorem d_Ss_dark_13 : decode c_Ss_dark 13 = .ok (.aconst_null, 1) := by decide +kernel
theorem d_Ss_dark_14 : decode c_Ss_dark 14 = .ok (.invokevirtual 148, 3) := by decide +kernel
theorem d_Ss_dark_17 : decode c_Ss_dark 17 = .ok (.ireturn, 1) := by decide +kernel
theorem d_Ss_knownWindow_0 : decode c_Ss_knownWindow 0 = .ok (.iload_n 1, 1) := by decide +kernel
theorem d_Ss_knownWindow_1 : decode c_Ss_knownWindow 1 = .ok (.ifCond .lt 21, 3) := by decide +kernel
theorem d_Ss_knownWindow_4 : decode c_Ss_knownWindow 4 = .ok (.iload_n 1, 1) := by decide +kernel
theorem d_Ss_knownWindow_5 : decode c_Ss_knownWindow 5 = .ok (.aload_n 0, 1) := by decide +kernel
theorem d_Ss_knownWindow_6 : decode c_Ss_knownWindow 6 = .ok (.getfield 17, 3) := by decide +kernel
theorem d_Ss_knownWindow_9 : decode c_Ss_knownWindow 9 = .ok (.arraylength, 1) := by decide +kernel
theorem d_Ss_knownWindow_10 : decode c_Ss_knownWindow 10 = .ok (.if_icmp .ge 12, 3) := by decide +kernel
theorem d_Ss_knownWindow_13 : decode c_Ss_knownWindow 13 = .ok (.aload_n 0, 1) := by decide +kernel
theorem d_Ss_knownWindow_14 : decode c_Ss_knownWindow 14 = .ok (.getfield 17, 3) := by decide +kernel
theorem d_Ss_knownWindow_17 : decode c_Ss_knownWindow 17 = .ok (.iload_n 1, 1) := by decide +kernel
theorem d_Ss_knownWindow_18 : decode c_Ss_knownWindow 18 = .ok (.aaload, 1) := by decide +kernel
theorem d_Ss_knownWindow_19 : decode c_Ss_knownWindow 19 = .ok (.goto 4, 3) := by decide +kernel
theorem d_Ss_knownWindow_22 : decode c_Ss_knownWindow 22 = .ok (.aconst_null, 1) := by decide +kernel
theorem d_Ss_knownWindow_23 : decode c_Ss_knownWindow 23 = .ok (.astore_n 2, 1) := by decide +kernel
theorem d_Ss_knownWindow_24 : decode c_Ss_knownWindow 24 = .ok (.aload_n 2, 1) := by decide +kernel
theorem d_Ss_knownWindow_25 : decode c_Ss_knownWindow 25 = .ok (.ifnonnull 13, 3) := by decide +kernel
theorem d_Ss_knownWindow_28 : decode c_Ss_knownWindow 28 = .ok (.new 62, 3) := by decide +kernel
theorem d_Ss_knownWindow_31 : decode c_Ss_knownWindow 31 = .ok (.dup, 1) := by decide +kernel
theorem d_Ss_knownWindow_32 : decode c_Ss_knownWindow 32 = .ok (.ldc 183, 2) := by decide +kernel
theorem d_Ss_knownWindow_34 : decode c_Ss_knownWindow 34 = .ok (.invokespecial 66, 3) := by decide +kernel
theorem d_Ss_knownWindow_37 : decode c_Ss_knownWindow 37 = .ok (.athrow, 1) := by decide +kernel
theorem d_Ss_knownWindow_38 : decode c_Ss_knownWindow 38 = .ok (.aload_n 2, 1) := by decide +kernel
theorem d_Ss_knownWindow_39 : decode c_Ss_knownWindow 39 = .ok (.areturn, 1) := by decide +kernel
theorem d_Ss_darkCells_0 : decode c_Ss_darkCells 0 = .ok (.aload_n 1, 1) := by decide +kernel
theorem d_Ss_darkCells_1 : decode c_Ss_darkCells 1 = .ok (.invokevirtual 189, 3) := by decide +kernel
theorem d_Ss_darkCells_4 : decode c_Ss_darkCells 4 = .ok (.lstore 4, 2) := by decide +kernel
theorem d_Ss_darkCells_6 : decode c_Ss_darkCells 6 = .ok (.iconst 0, 1) := by decide +kernel
theorem d_Ss_darkCells_7 : decode c_Ss_darkCells 7 = .ok (.istore 6, 2) := by decide +kernel
theorem d_Ss_darkCells_9 : decode c_Ss_darkCells 9 = .ok (.aload_n 1, 1) := by decide +kernel
theorem d_Ss_darkCells_10 : decode c_Ss_darkCells 10 = .ok (.getfield 193, 3) := by decide +kernel
theorem d_Ss_darkCells_13 : decode c_Ss_darkCells 13 = .ok (.istore 7, 2) := by decide +kernel
theorem d_Ss_darkCells_15 : decode c_Ss_darkCells 15 = .ok (.iload 7, 2) := by decide +kernel
theorem d_Ss_darkCells_17 : decode c_Ss_darkCells 17 = .ok (.aload_n 1, 1) := by decide +kernel
theorem d_Ss_darkCells_18 : decode c_Ss_darkCells 18 = .ok (.getfield 196, 3) := by decide +kernel
theorem d_Ss_darkCells_21 : decode c_Ss_darkCells 21 = .ok (.if_icmp .ge 51, 3) := by decide +kernel
theorem d_Ss_darkCells_24 : decode c_Ss_darkCells 24 = .ok (.aload_n 0, 1) := by decide +kernel
theorem d_Ss_darkCells_25 : decode c_Ss_darkCells 25 = .ok (.iload 7, 2) := by decide +kernel
theorem d_Ss_darkCells_27 : decode c_Ss_darkCells 27 = .ok (.aload_n 2, 1) := by decide +kernel
theorem d_Ss_darkCells_28 : decode c_Ss_darkCells 28 = .ok (.invokevirtual 126, 3) := by decide +kernel
theorem d_Ss_darkCells_31 : decode c_Ss_darkCells 31 = .ok (.lstore 8, 2) := by decide +kernel
theorem d_Ss_darkCells_33 : decode c_Ss_darkCells 33 = .ok (.aload_n 3, 1) := by decide +kernel
theorem d_Ss_darkCells_34 : decode c_Ss_darkCells 34 = .ok (.ifnull 19, 3) := by decide +kernel
theorem d_Ss_darkCells_37 : decode c_Ss_darkCells 37 = .ok (.lload 8, 2) := by decide +kernel
theorem d_Ss_darkCells_39 : decode c_Ss_darkCells 39 = .ok (.aload_n 3, 1) := by decide +kernel
theorem d_Ss_darkCells_40 : decode c_Ss_darkCells 40 = .ok (.iload 7, 2) := by decide +kernel
theorem d_Ss_darkCells_42 : decode c_Ss_darkCells 42 = .ok (.aload_n 2, 1) := by decide +kernel
theorem d_Ss_darkCells_43 : decode c_Ss_darkCells 43 = .ok (.aload_n 0, 1) := by decide +kernel
theorem d_Ss_darkCells_44 : decode c_Ss_darkCells 44 = .ok (.getfield 51, 3) := by decide +kernel
theorem d_Ss_darkCells_47 : decode c_Ss_darkCells 47 = .ok (.invokevirtual 134, 3) := by decide +kernel
theorem d_Ss_darkCells_50 : decode c_Ss_darkCells 50 = .ok (.lor, 1) := by decide +kernel
theorem d_Ss_darkCells_51 : decode c_Ss_darkCells 51 = .ok (.lstore 8, 2) := by decide +kernel
theorem d_Ss_darkCells_53 : decode c_Ss_darkCells 53 = .ok (.iload 6, 2) := by decide +kernel
theorem d_Ss_darkCells_55 : decode c_Ss_darkCells 55 = .ok (.lload 8, 2) := by decide +kernel
theorem d_Ss_darkCells_57 : decode c_Ss_darkCells 57 = .ok (.lload 4, 2) := by decide +kernel
theorem d_Ss_darkCells_59 : decode c_Ss_darkCells 59 = .ok (.land, 1) := by decide +kernel
theorem d_Ss_darkCells_60 : decode c_Ss_darkCells 60 = .ok (.invokestatic 138, 3) := by decide +kernel
theorem d_Ss_darkCells_63 : decode c_Ss_darkCells 63 = .ok (.iadd, 1) := by decide +kernel
theorem d_Ss_darkCells_64 : decode c_Ss_darkCells 64 = .ok (.istore 6, 2) := by decide +kernel
theorem d_Ss_darkCells_66 : decode c_Ss_darkCells 66 = .ok (.iinc 7 1, 3) := by decide +kernel
theorem d_Ss_darkCells_69 : decode c_Ss_darkCells 69 = .ok (.goto (-54), 3) := by decide +kernel
theorem d_Ss_darkCells_72 : decode c_Ss_darkCells 72 = .ok (.iload 6, 2) := by decide +kernel
theorem d_Ss_darkCells_74 : decode c_Ss_darkCells 74 = .ok (.ireturn, 1) := by decide +kernel
theorem d_Ss_cell_0 : decode c_Ss_cell 0 = .ok (.iload_n 1, 1) := by decide +kernel
theorem d_Ss_cell_1 : decode c_Ss_cell 1 = .ok (.ifCond .ge 13, 3) := by decide +kernel
theorem d_Ss_cell_4 : decode c_Ss_cell 4 = .ok (.new 62, 3) := by decide +kernel
theorem d_Ss_cell_7 : decode c_Ss_cell 7 = .ok (.dup, 1) := by decide +kernel
theorem d_Ss_cell_8 : decode c_Ss_cell 8 = .ok (.ldc 152, 2) := by decide +kernel
theorem d_Ss_cell_10 : decode c_Ss_cell 10 = .ok (.invokespecial 66, 3) := by decide +kernel
theorem d_Ss_cell_13 : decode c_Ss_cell 13 = .ok (.athrow, 1) := by decide +kernel
theorem d_Ss_cell_14 : decode c_Ss_cell 14 = .ok (.aload_n 0, 1) := by decide +kernel
theorem d_Ss_cell_15 : decode c_Ss_cell 15 = .ok (.iload_n 2, 1) := by decide +kernel
theorem d_Ss_cell_16 : decode c_Ss_cell 16 = .ok (.invokevirtual 123, 3) := by decide +kernel
theorem d_Ss_cell_19 : decode c_Ss_cell 19 = .ok (.astore_n 3, 1) := by decide +kernel
theorem d_Ss_cell_20 : decode c_Ss_cell 20 = .ok (.iload_n 1, 1) := by decide +kernel
theorem d_Ss_cell_21 : decode c_Ss_cell 21 = .ok (.istore 4, 2) := by decide +kernel
theorem d_Ss_cell_23 : decode c_Ss_cell 23 = .ok (.iconst 0, 1) := by decide +kernel
theorem d_Ss_cell_24 : decode c_Ss_cell 24 = .ok (.istore 5, 2) := by decide +kernel
theorem d_Ss_cell_26 : decode c_Ss_cell 26 = .ok (.iload 5, 2) := by decide +kernel
theorem d_Ss_cell_28 : decode c_Ss_cell 28 = .ok (.aload_n 0, 1) := by decide +kernel
theorem d_Ss_cell_29 : decode c_Ss_cell 29 = .ok (.getfield 54, 3) := by decide +kernel
theorem d_Ss_cell_32 : decode c_Ss_cell 32 = .ok (.if_icmp .ge 53, 3) := by decide +kernel
theorem d_Ss_cell_35 : decode c_Ss_cell 35 = .ok (.aload_n 0, 1) := by decide +kernel
theorem d_Ss_cell_36 : decode c_Ss_cell 36 = .ok (.iload 5, 2) := by decide +kernel
theorem d_Ss_cell_38 : decode c_Ss_cell 38 = .ok (.aload_n 3, 1) := by decide +kernel
theorem d_Ss_cell_39 : decode c_Ss_cell 39 = .ok (.invokevirtual 126, 3) := by decide +kernel
theorem d_Ss_cell_42 : decode c_Ss_cell 42 = .ok (.lstore 6, 2) := by decide +kernel
theorem d_Ss_cell_44 : decode c_Ss_cell 44 = .ok (.lload 6, 2) := by decide +kernel
theorem d_Ss_cell_46 : decode c_Ss_cell 46 = .ok (.invokestatic 138, 3) := by decide +kernel
theorem d_Ss_cell_49 : decode c_Ss_cell 49 = .ok (.istore 8, 2) := by decide +kernel
theorem d_Ss_cell_51 : decode c_Ss_cell 51 = .ok (.iload 4, 2) := by decide +kernel
theorem d_Ss_cell_53 : decode c_Ss_cell 53 = .ok (.iload 8, 2) := by decide +kernel
theorem d_Ss_cell_55 : decode c_Ss_cell 55 = .ok (.if_icmp .ge 17, 3) := by decide +kernel
theorem d_Ss_cell_58 : decode c_Ss_cell 58 = .ok (.bipush 100, 2) := by decide +kernel
theorem d_Ss_cell_60 : decode c_Ss_cell 60 = .ok (.iload 5, 2) := by decide +kernel
theorem d_Ss_cell_62 : decode c_Ss_cell 62 = .ok (.imul, 1) := by decide +kernel
theorem d_Ss_cell_63 : decode c_Ss_cell 63 = .ok (.lload 6, 2) := by decide +kernel
theorem d_Ss_cell_65 : decode c_Ss_cell 65 = .ok (.iload 4, 2) := by decide +kernel
theorem d_Ss_cell_67 : decode c_Ss_cell 67 = .ok (.invokestatic 154, 3) := by decide +kernel
theorem d_Ss_cell_70 : decode c_Ss_cell 70 = .ok (.iadd, 1) := by decide +kernel
theorem d_Ss_cell_71 : decode c_Ss_cell 71 = .ok (.ireturn, 1) := by decide +kernel
theorem d_Ss_cell_72 : decode c_Ss_cell 72 = .ok (.iload 4, 2) := by decide +kernel
theorem d_Ss_cell_74 : decode c_Ss_cell 74 = .ok (.iload 8, 2) := by decide +kernel
theorem d_Ss_cell_76 : decode c_Ss_cell 76 = .ok (.isub, 1) := by decide +kernel
theorem d_Ss_cell_77 : decode c_Ss_cell 77 = .ok (.istore 4, 2) := by decide +kernel
theorem d_Ss_cell_79 : decode c_Ss_cell 79 = .ok (.iinc 5 1, 3) := by decide +kernel
theorem d_Ss_cell_82 : decode c_Ss_cell 82 = .ok (.goto (-56), 3) := by decide +kernel
theorem d_Ss_cell_85 : decode c_Ss_cell 85 = .ok (.iconst (-1), 1) := by decide +kernel
theorem d_Ss_cell_86 : decode c_Ss_cell 86 = .ok (.ireturn, 1) := by decide +kernel
theorem d_Ss_cellWithBefore_0 : decode c_Ss_cellWithBefore 0 = .ok (.iload_n 2, 1) := by decide +kernel
theorem d_Ss_cellWithBefore_1 : decode c_Ss_cellWithBefore 1 = .ok (.istore_n 3, 1) := by decide +kernel
theorem d_Ss_cellWithBefore_2 : decode c_Ss_cellWithBefore 2 = .ok (.iconst 0, 1) := by decide +kernel
theorem d_Ss_cellWithBefore_3 : decode c_Ss_cellWithBefore 3 = .ok (.istore 4, 2) := by decide +kernel
theorem d_Ss_cellWithBefore_5 : decode c_Ss_cellWithBefore 5 = .ok (.iload 4, 2) := by decide +kernel
theorem d_Ss_cellWithBefore_7 : decode c_Ss_cellWithBefore 7 = .ok (.bipush 60, 2) := by decide +kernel
theorem d_Ss_cellWithBefore_9 : decode c_Ss_cellWithBefore 9 = .ok (.if_icmp .ge 28, 3) := by decide +kernel
theorem d_Ss_cellWithBefore_12 : decode c_Ss_cellWithBefore 12 = .ok (.lload_n 0, 1) := by decide +kernel
theorem d_Ss_cellWithBefore_13 : decode c_Ss_cellWithBefore 13 = .ok (.iload 4, 2) := by decide +kernel
theorem d_Ss_cellWithBefore_15 : decode c_Ss_cellWithBefore 15 = .ok (.invokestatic 130, 3) := by decide +kernel
theorem d_Ss_cellWithBefore_18 : decode c_Ss_cellWithBefore 18 = .ok (.ifCond .eq 13, 3) := by decide +kernel
theorem d_Ss_cellWithBefore_21 : decode c_Ss_cellWithBefore 21 = .ok (.iload_n 3, 1) := by decide +kernel
theorem d_Ss_cellWithBefore_22 : decode c_Ss_cellWithBefore 22 = .ok (.ifCond .ne 6, 3) := by decide +kernel
theorem d_Ss_cellWithBefore_25 : decode c_Ss_cellWithBefore 25 = .ok (.iload 4, 2) := by decide +kernel
theorem d_Ss_cellWithBefore_27 : decode c_Ss_cellWithBefore 27 = .ok (.ireturn, 1) := by decide +kernel
theorem d_Ss_cellWithBefore_28 : decode c_Ss_cellWithBefore 28 = .ok (.iinc 3 (-1), 3) := by decide +kernel
theorem d_Ss_cellWithBefore_31 : decode c_Ss_cellWithBefore 31 = .ok (.iinc 4 1, 3) := by decide +kernel
theorem d_Ss_cellWithBefore_34 : decode c_Ss_cellWithBefore 34 = .ok (.goto (-29), 3) := by decide +kernel
theorem d_Ss_cellWithBefore_37 : decode c_Ss_cellWithBefore 37 = .ok (.iconst (-1), 1) := by decide +kernel
theorem d_Ss_cellWithBefore_38 : decode c_Ss_cellWithBefore 38 = .ok (.ireturn, 1) := by decide +kernel
theorem d_Ss_lit_0 : decode c_Ss_lit 0 = .ok (.aload_n 0, 1) := by decide +kernel
theorem d_Ss_lit_1 : decode c_Ss_lit 1 = .ok (.iload_n 1, 1) := by decide +kernel
theorem d_Ss_lit_2 : decode c_Ss_lit 2 = .ok (.invokevirtual 144, 3) := by decide +kernel
theorem d_Ss_lit_5 : decode c_Ss_lit 5 = .ok (.astore_n 3, 1) := by decide +kernel
theorem d_Ss_lit_6 : decode c_Ss_lit 6 = .ok (.iload_n 2, 1) := by decide +kernel
theorem d_Ss_lit_7 : decode c_Ss_lit 7 = .ok (.iconst (-1), 1) := by decide +kernel
theorem d_Ss_lit_8 : decode c_Ss_lit 8 = .ok (.if_icmp .eq 14, 3) := by decide +kernel
theorem d_Ss_lit_11 : decode c_Ss_lit 11 = .ok (.aload_n 0, 1) := by decide +kernel
theorem d_Ss_lit_12 : decode c_Ss_lit 12 = .ok (.aload_n 3, 1) := by decide +kernel
theorem d_Ss_lit_13 : decode c_Ss_lit 13 = .ok (.aload_n 0, 1) := by decide +kernel
theorem d_Ss_lit_14 : decode c_Ss_lit 14 = .ok (.iload_n 2, 1) := by decide +kernel
theorem d_Ss_lit_15 : decode c_Ss_lit 15 = .ok (.invokevirtual 94, 3) := by decide +kernel
theorem d_Ss_lit_18 : decode c_Ss_lit 18 = .ok (.invokevirtual 158, 3) := by decide +kernel
theorem d_Ss_lit_21 : decode c_Ss_lit 21 = .ok (.ireturn, 1) := by decide +kernel
theorem d_Ss_lit_22 : decode c_Ss_lit 22 = .ok (.iconst 0, 1) := by decide +kernel
theorem d_Ss_lit_23 : decode c_Ss_lit 23 = .ok (.istore 4, 2) := by decide +kernel
theorem d_Ss_lit_25 : decode c_Ss_lit 25 = .ok (.aload_n 0, 1) := by decide +kernel
theorem d_Ss_lit_26 : decode c_Ss_lit 26 = .ok (.getfield 23, 3) := by decide +kernel
theorem d_Ss_lit_29 : decode c_Ss_lit 29 = .ok (.astore 5, 2) := by decide +kernel
theorem d_Ss_lit_31 : decode c_Ss_lit 31 = .ok (.aload 5, 2) := by decide +kernel
theorem d_Ss_lit_33 : decode c_Ss_lit 33 = .ok (.arraylength, 1) := by decide +kernel
theorem d_Ss_lit_34 : decode c_Ss_lit 34 = .ok (.istore 6, 2) := by decide +kernel
theorem d_Ss_lit_36 : decode c_Ss_lit 36 = .ok (.iconst 0, 1) := by decide +kernel
theorem d_Ss_lit_37 : decode c_Ss_lit 37 = .ok (.istore 7, 2) := by decide +kernel
theorem d_Ss_lit_39 : decode c_Ss_lit 39 = .ok (.iload 7, 2) := by decide +kernel
theorem d_Ss_lit_41 : decode c_Ss_lit 41 = .ok (.iload 6, 2) := by decide +kernel
theorem d_Ss_lit_43 : decode c_Ss_lit 43 = .ok (.if_icmp .ge 28, 3) := by decide +kernel
theorem d_Ss_lit_46 : decode c_Ss_lit 46 = .ok (.aload 5, 2) := by decide +kernel
theorem d_Ss_lit_48 : decode c_Ss_lit 48 = .ok (.iload 7, 2) := by decide +kernel
theorem d_Ss_lit_50 : decode c_Ss_lit 50 = .ok (.aaload, 1) := by decide +kernel
theorem d_Ss_lit_51 : decode c_Ss_lit 51 = .ok (.astore 8, 2) := by decide +kernel
theorem d_Ss_lit_53 : decode c_Ss_lit 53 = .ok (.iload 4, 2) := by decide +kernel
theorem d_Ss_lit_55 : decode c_Ss_lit 55 = .ok (.aload_n 0, 1) := by decide +kernel
theorem d_Ss_lit_56 : decode c_Ss_lit 56 = .ok (.aload_n 3, 1) := by decide +kernel
theorem d_Ss_lit_57 : decode c_Ss_lit 57 = .ok (.aload 8, 2) := by decide +kernel
theorem d_Ss_lit_59 : decode c_Ss_lit 59 = .ok (.invokevirtual 158, 3) := by decide +kernel
theorem d_Ss_lit_62 : decode c_Ss_lit 62 = .ok (.iadd, 1) := by decide +kernel
theorem d_Ss_lit_63 : decode c_Ss_lit 63 = .ok (.istore 4, 2) := by decide +kernel
theorem d_Ss_lit_65 : decode c_Ss_lit 65 = .ok (.iinc 7 1, 3) := by decide +kernel
theorem d_Ss_lit_68 : decode c_Ss_lit 68 = .ok (.goto (-29), 3) := by decide +kernel
theorem d_Ss_lit_71 : decode c_Ss_lit 71 = .ok (.iload 4, 2) := by decide +kernel
theorem d_Ss_lit_73 : decode c_Ss_lit 73 = .ok (.ireturn, 1) := by decide +kernel
theorem d_Ss_lightOfHour_0 : decode c_Ss_lightOfHour 0 = .ok (.aload_n 2, 1) := by decide +kernel
theorem d_Ss_lightOfHour_1 : decode c_Ss_lightOfHour 1 = .ok (.ifnull 17, 3) := by decide +kernel
theorem d_Ss_lightOfHour_4 : decode c_Ss_lightOfHour 4 = .ok (.aload_n 2, 1) := by decide +kernel
theorem d_Ss_lightOfHour_5 : decode c_Ss_lightOfHour 5 = .ok (.invokevirtual 173, 3) := by decide +kernel
theorem d_Ss_lightOfHour_8 : decode c_Ss_lightOfHour 8 = .ok (.ifCond .eq 10, 3) := by decide +kernel
theorem d_Ss_lightOfHour_11 : decode c_Ss_lightOfHour 11 = .ok (.aload_n 2, 1) := by decide +kernel
theorem d_Ss_lightOfHour_12 : decode c_Ss_lightOfHour 12 = .ok (.getfield 111, 3) := by decide +kernel
theorem d_Ss_lightOfHour_15 : decode c_Ss_lightOfHour 15 = .ok (.ifCond .ne 5, 3) := by decide +kernel
theorem d_Ss_lightOfHour_18 : decode c_Ss_lightOfHour 18 = .ok (.iconst 0, 1) := by decide +kernel
theorem d_Ss_lightOfHour_19 : decode c_Ss_lightOfHour 19 = .ok (.ireturn, 1) := by decide +kernel
theorem d_Ss_lightOfHour_20 : decode c_Ss_lightOfHour 20 = .ok (.aload_n 2, 1) := by decide +kernel
theorem d_Ss_lightOfHour_21 : decode c_Ss_lightOfHour 21 = .ok (.getfield 111, 3) := by decide +kernel
theorem d_Ss_lightOfHour_24 : decode c_Ss_lightOfHour 24 = .ok (.aload_n 1, 1) := by decide +kernel
theorem d_Ss_lightOfHour_25 : decode c_Ss_lightOfHour 25 = .ok (.invokevirtual 199, 3) := by decide +kernel
theorem d_Ss_lightOfHour_28 : decode c_Ss_lightOfHour 28 = .ok (.aload_n 0, 1) := by decide +kernel
theorem d_Ss_lightOfHour_29 : decode c_Ss_lightOfHour 29 = .ok (.aload_n 1, 1) := by decide +kernel
theorem d_Ss_lightOfHour_30 : decode c_Ss_lightOfHour 30 = .ok (.aload_n 2, 1) := by decide +kernel
theorem d_Ss_lightOfHour_31 : decode c_Ss_lightOfHour 31 = .ok (.aconst_null, 1) := by decide +kernel
theorem d_Ss_lightOfHour_32 : decode c_Ss_lightOfHour 32 = .ok (.invokevirtual 148, 3) := by decide +kernel
theorem d_Ss_lightOfHour_35 : decode c_Ss_lightOfHour 35 = .ok (.isub, 1) := by decide +kernel
theorem d_Ss_lightOfHour_36 : decode c_Ss_lightOfHour 36 = .ok (.imul, 1) := by decide +kernel
theorem d_Ss_lightOfHour_37 : decode c_Ss_lightOfHour 37 = .ok (.ireturn, 1) := by decide +kernel
theorem d_Ss_brightest_0 : decode c_Ss_brightest 0 = .ok (.aload_n 0, 1) := by decide +kernel
theorem d_Ss_brightest_1 : decode c_Ss_brightest 1 = .ok (.iload_n 1, 1) := by decide +kernel
theorem d_Ss_brightest_2 : decode c_Ss_brightest 2 = .ok (.invokevirtual 144, 3) := by decide +kernel
theorem d_Ss_brightest_5 : decode c_Ss_brightest 5 = .ok (.astore_n 2, 1) := by decide +kernel
theorem d_Ss_brightest_6 : decode c_Ss_brightest 6 = .ok (.iconst (-1), 1) := by decide +kernel
theorem d_Ss_brightest_7 : decode c_Ss_brightest 7 = .ok (.istore_n 3, 1) := by decide +kernel
theorem d_Ss_brightest_8 : decode c_Ss_brightest 8 = .ok (.iconst 0, 1) := by decide +kernel
theorem d_Ss_brightest_9 : decode c_Ss_brightest 9 = .ok (.istore 4, 2) := by decide +kernel
theorem d_Ss_brightest_11 : decode c_Ss_brightest 11 = .ok (.iconst 0, 1) := by decide +kernel
theorem d_Ss_brightest_12 : decode c_Ss_brightest 12 = .ok (.istore 5, 2) := by decide +kernel
theorem d_Ss_brightest_14 : decode c_Ss_brightest 14 = .ok (.iload 5, 2) := by decide +kernel
theorem d_Ss_brightest_16 : decode c_Ss_brightest 16 = .ok (.aload_n 0, 1) := by decide +kernel
theorem d_Ss_brightest_17 : decode c_Ss_brightest 17 = .ok (.getfield 23, 3) := by decide +kernel
theorem d_Ss_brightest_20 : decode c_Ss_brightest 20 = .ok (.arraylength, 1) := by decide +kernel
theorem d_Ss_brightest_21 : decode c_Ss_brightest 21 = .ok (.if_icmp .ge 37, 3) := by decide +kernel
theorem d_Ss_brightest_24 : decode c_Ss_brightest 24 = .ok (.aload_n 0, 1) := by decide +kernel
theorem d_Ss_brightest_25 : decode c_Ss_brightest 25 = .ok (.aload_n 2, 1) := by decide +kernel
theorem d_Ss_brightest_26 : decode c_Ss_brightest 26 = .ok (.aload_n 0, 1) := by decide +kernel
theorem d_Ss_brightest_27 : decode c_Ss_brightest 27 = .ok (.getfield 23, 3) := by decide +kernel
theorem d_Ss_brightest_30 : decode c_Ss_brightest 30 = .ok (.iload 5, 2) := by decide +kernel
theorem d_Ss_brightest_32 : decode c_Ss_brightest 32 = .ok (.aaload, 1) := by decide +kernel
theorem d_Ss_brightest_33 : decode c_Ss_brightest 33 = .ok (.invokevirtual 158, 3) := by decide +kernel
theorem d_Ss_brightest_36 : decode c_Ss_brightest 36 = .ok (.istore 6, 2) := by decide +kernel
theorem d_Ss_brightest_38 : decode c_Ss_brightest 38 = .ok (.iload 6, 2) := by decide +kernel
theorem d_Ss_brightest_40 : decode c_Ss_brightest 40 = .ok (.iload 4, 2) := by decide +kernel
theorem d_Ss_brightest_42 : decode c_Ss_brightest 42 = .ok (.if_icmp .le 10, 3) := by decide +kernel
theorem d_Ss_brightest_45 : decode c_Ss_brightest 45 = .ok (.iload 5, 2) := by decide +kernel
theorem d_Ss_brightest_47 : decode c_Ss_brightest 47 = .ok (.istore_n 3, 1) := by decide +kernel
theorem d_Ss_brightest_48 : decode c_Ss_brightest 48 = .ok (.iload 6, 2) := by decide +kernel
theorem d_Ss_brightest_50 : decode c_Ss_brightest 50 = .ok (.istore 4, 2) := by decide +kernel
theorem d_Ss_brightest_52 : decode c_Ss_brightest 52 = .ok (.iinc 5 1, 3) := by decide +kernel
theorem d_Ss_brightest_55 : decode c_Ss_brightest 55 = .ok (.goto (-41), 3) := by decide +kernel
theorem d_Ss_brightest_58 : decode c_Ss_brightest 58 = .ok (.iload_n 3, 1) := by decide +kernel
theorem d_Ss_brightest_59 : decode c_Ss_brightest 59 = .ok (.ireturn, 1) := by decide +kernel
theorem d_Ss_ledge_0 : decode c_Ss_ledge 0 = .ok (.aload_n 0, 1) := by decide +kernel
theorem d_Ss_ledge_1 : decode c_Ss_ledge 1 = .ok (.iload_n 1, 1) := by decide +kernel
theorem d_Ss_ledge_2 : decode c_Ss_ledge 2 = .ok (.invokevirtual 144, 3) := by decide +kernel
theorem d_Ss_ledge_5 : decode c_Ss_ledge 5 = .ok (.astore 4, 2) := by decide +kernel
theorem d_Ss_ledge_7 : decode c_Ss_ledge 7 = .ok (.iload_n 3, 1) := by decide +kernel
theorem d_Ss_ledge_8 : decode c_Ss_ledge 8 = .ok (.iconst 1, 1) := by decide +kernel
theorem d_Ss_ledge_9 : decode c_Ss_ledge 9 = .ok (.bipush 100, 2) := by decide +kernel
theorem d_Ss_ledge_11 : decode c_Ss_ledge 11 = .ok (.invokestatic 81, 3) := by decide +kernel
theorem d_Ss_ledge_14 : decode c_Ss_ledge 14 = .ok (.ifCond .ne 13, 3) := by decide +kernel
theorem d_Ss_ledge_17 : decode c_Ss_ledge 17 = .ok (.new 62, 3) := by decide +kernel
theorem d_Ss_ledge_20 : decode c_Ss_ledge 20 = .ok (.dup, 1) := by decide +kernel
theorem d_Ss_ledge_21 : decode c_Ss_ledge 21 = .ok (.ldc 162, 2) := by decide +kernel
theorem d_Ss_ledge_23 : decode c_Ss_ledge 23 = .ok (.invokespecial 66, 3) := by decide +kernel
theorem d_Ss_ledge_26 : decode c_Ss_ledge 26 = .ok (.athrow, 1) := by decide +kernel
theorem d_Ss_ledge_27 : decode c_Ss_ledge 27 = .ok (.aload_n 0, 1) := by decide +kernel
theorem d_Ss_ledge_28 : decode c_Ss_ledge 28 = .ok (.aload 4, 2) := by decide +kernel
theorem d_Ss_ledge_30 : decode c_Ss_ledge 30 = .ok (.aload_n 0, 1) := by decide +kernel
theorem d_Ss_ledge_31 : decode c_Ss_ledge 31 = .ok (.iload_n 2, 1) := by decide +kernel
theorem d_Ss_ledge_32 : decode c_Ss_ledge 32 = .ok (.invokevirtual 123, 3) := by decide +kernel
theorem d_Ss_ledge_35 : decode c_Ss_ledge 35 = .ok (.aload 4, 2) := by decide +kernel
theorem d_Ss_ledge_37 : decode c_Ss_ledge 37 = .ok (.iload_n 3, 1) := by decide +kernel
theorem d_Ss_ledge_38 : decode c_Ss_ledge 38 = .ok (.invokevirtual 164, 3) := by decide +kernel
theorem d_Ss_ledge_41 : decode c_Ss_ledge 41 = .ok (.invokevirtual 148, 3) := by decide +kernel
theorem d_Ss_ledge_44 : decode c_Ss_ledge 44 = .ok (.ireturn, 1) := by decide +kernel
theorem d_Ss_deep_0 : decode c_Ss_deep 0 = .ok (.aload_n 0, 1) := by decide +kernel
theorem d_Ss_deep_1 : decode c_Ss_deep 1 = .ok (.iload_n 1, 1) := by decide +kernel
theorem d_Ss_deep_2 : decode c_Ss_deep 2 = .ok (.invokevirtual 144, 3) := by decide +kernel
theorem d_Ss_deep_5 : decode c_Ss_deep 5 = .ok (.astore 4, 2) := by decide +kernel
theorem d_Ss_deep_7 : decode c_Ss_deep 7 = .ok (.iload_n 3, 1) := by decide +kernel
theorem d_Ss_deep_8 : decode c_Ss_deep 8 = .ok (.ifCond .ge 13, 3) := by decide +kernel
theorem d_Ss_deep_11 : decode c_Ss_deep 11 = .ok (.new 62, 3) := by decide +kernel
theorem d_Ss_deep_14 : decode c_Ss_deep 14 = .ok (.dup, 1) := by decide +kernel
theorem d_Ss_deep_15 : decode c_Ss_deep 15 = .ok (.ldc 167, 2) := by decide +kernel
theorem d_Ss_deep_17 : decode c_Ss_deep 17 = .ok (.invokespecial 66, 3) := by decide +kernel
theorem d_Ss_deep_20 : decode c_Ss_deep 20 = .ok (.athrow, 1) := by decide +kernel
theorem d_Ss_deep_21 : decode c_Ss_deep 21 = .ok (.aload_n 0, 1) := by decide +kernel
theorem d_Ss_deep_22 : decode c_Ss_deep 22 = .ok (.iload_n 2, 1) := by decide +kernel
theorem d_Ss_deep_23 : decode c_Ss_deep 23 = .ok (.invokevirtual 123, 3) := by decide +kernel
theorem d_Ss_deep_26 : decode c_Ss_deep 26 = .ok (.astore 5, 2) := by decide +kernel
theorem d_Ss_deep_28 : decode c_Ss_deep 28 = .ok (.aload_n 0, 1) := by decide +kernel
theorem d_Ss_deep_29 : decode c_Ss_deep 29 = .ok (.aload 4, 2) := by decide +kernel
theorem d_Ss_deep_31 : decode c_Ss_deep 31 = .ok (.aload 5, 2) := by decide +kernel
theorem d_Ss_deep_33 : decode c_Ss_deep 33 = .ok (.aconst_null, 1) := by decide +kernel
theorem d_Ss_deep_34 : decode c_Ss_deep 34 = .ok (.invokevirtual 148, 3) := by decide +kernel
theorem d_Ss_deep_37 : decode c_Ss_deep 37 = .ok (.iload_n 3, 1) := by decide +kernel
theorem d_Ss_deep_38 : decode c_Ss_deep 38 = .ok (.if_icmp .lt 5, 3) := by decide +kernel
theorem d_Ss_deep_41 : decode c_Ss_deep 41 = .ok (.iconst 0, 1) := by decide +kernel
theorem d_Ss_deep_42 : decode c_Ss_deep 42 = .ok (.ireturn, 1) := by decide +kernel
theorem d_Ss_deep_43 : decode c_Ss_deep 43 = .ok (.aload_n 0, 1) := by decide +kernel
theorem d_Ss_deep_44 : decode c_Ss_deep 44 = .ok (.aload 4, 2) := by decide +kernel
theorem d_Ss_deep_46 : decode c_Ss_deep 46 = .ok (.aload 5, 2) := by decide +kernel
theorem d_Ss_deep_48 : decode c_Ss_deep 48 = .ok (.iload_n 3, 1) := by decide +kernel
theorem d_Ss_deep_49 : decode c_Ss_deep 49 = .ok (.invokevirtual 169, 3) := by decide +kernel
theorem d_Ss_deep_52 : decode c_Ss_deep 52 = .ok (.istore 6, 2) := by decide +kernel
theorem d_Ss_deep_54 : decode c_Ss_deep 54 = .ok (.iload 6, 2) := by decide +kernel
theorem d_Ss_deep_56 : decode c_Ss_deep 56 = .ok (.bipush 100, 2) := by decide +kernel
theorem d_Ss_deep_58 : decode c_Ss_deep 58 = .ok (.if_icmp .ge 10, 3) := by decide +kernel
theorem d_Ss_deep_61 : decode c_Ss_deep 61 = .ok (.iload 6, 2) := by decide +kernel
theorem d_Ss_deep_63 : decode c_Ss_deep 63 = .ok (.iconst 1, 1) := by decide +kernel
theorem d_Ss_deep_64 : decode c_Ss_deep 64 = .ok (.iadd, 1) := by decide +kernel
theorem d_Ss_deep_65 : decode c_Ss_deep 65 = .ok (.goto 4, 3) := by decide +kernel
theorem d_Ss_deep_68 : decode c_Ss_deep 68 = .ok (.iconst (-1), 1) := by decide +kernel
theorem d_Ss_deep_69 : decode c_Ss_deep 69 = .ok (.ireturn, 1) := by decide +kernel
theorem d_Ss_deepestTooLittle_0 : decode c_Ss_deepestTooLittle 0 = .ok (.aload_n 1, 1) := by decide +kernel
theorem d_Ss_deepestTooLittle_1 : decode c_Ss_deepestTooLittle 1 = .ok (.iconst 0, 1) := by decide +kernel
theorem d_Ss_deepestTooLittle_2 : decode c_Ss_deepestTooLittle 2 = .ok (.invokevirtual 164, 3) := by decide +kernel
theorem d_Ss_deepestTooLittle_5 : decode c_Ss_deepestTooLittle 5 = .ok (.astore 4, 2) := by decide +kernel
theorem d_Ss_deepestTooLittle_7 : decode c_Ss_deepestTooLittle 7 = .ok (.iconst 0, 1) := by decide +kernel
theorem d_Ss_deepestTooLittle_8 : decode c_Ss_deepestTooLittle 8 = .ok (.istore 5, 2) := by decide +kernel
theorem d_Ss_deepestTooLittle_10 : decode c_Ss_deepestTooLittle 10 = .ok (.bipush 64, 2) := by decide +kernel
theorem d_Ss_deepestTooLittle_12 : decode c_Ss_deepestTooLittle 12 = .ok (.istore 6, 2) := by decide +kernel
theorem d_Ss_deepestTooLittle_14 : decode c_Ss_deepestTooLittle 14 = .ok (.iload 6, 2) := by decide +kernel
theorem d_Ss_deepestTooLittle_16 : decode c_Ss_deepestTooLittle 16 = .ok (.ifCond .le 49, 3) := by decide +kernel
theorem d_Ss_deepestTooLittle_19 : decode c_Ss_deepestTooLittle 19 = .ok (.iload 5, 2) := by decide +kernel
theorem d_Ss_deepestTooLittle_21 : decode c_Ss_deepestTooLittle 21 = .ok (.iload 6, 2) := by decide +kernel
theorem d_Ss_deepestTooLittle_23 : decode c_Ss_deepestTooLittle 23 = .ok (.iadd, 1) := by decide +kernel
theorem d_Ss_deepestTooLittle_24 : decode c_Ss_deepestTooLittle 24 = .ok (.istore 7, 2) := by decide +kernel
theorem d_Ss_deepestTooLittle_26 : decode c_Ss_deepestTooLittle 26 = .ok (.aload 4, 2) := by decide +kernel
theorem d_Ss_deepestTooLittle_28 : decode c_Ss_deepestTooLittle 28 = .ok (.iload 7, 2) := by decide +kernel
theorem d_Ss_deepestTooLittle_30 : decode c_Ss_deepestTooLittle 30 = .ok (.putfield 203, 3) := by decide +kernel
theorem d_Ss_deepestTooLittle_33 : decode c_Ss_deepestTooLittle 33 = .ok (.iload 7, 2) := by decide +kernel
theorem d_Ss_deepestTooLittle_35 : decode c_Ss_deepestTooLittle 35 = .ok (.bipush 100, 2) := by decide +kernel
theorem d_Ss_deepestTooLittle_37 : decode c_Ss_deepestTooLittle 37 = .ok (.if_icmp .gt 19, 3) := by decide +kernel
theorem d_Ss_deepestTooLittle_40 : decode c_Ss_deepestTooLittle 40 = .ok (.aload_n 0, 1) := by decide +kernel
theorem d_Ss_deepestTooLittle_41 : decode c_Ss_deepestTooLittle 41 = .ok (.aload_n 1, 1) := by decide +kernel
theorem d_Ss_deepestTooLittle_42 : decode c_Ss_deepestTooLittle 42 = .ok (.aload_n 2, 1) := by decide +kernel
theorem d_Ss_deepestTooLittle_43 : decode c_Ss_deepestTooLittle 43 = .ok (.aload 4, 2) := by decide +kernel
theorem d_Ss_deepestTooLittle_45 : decode c_Ss_deepestTooLittle 45 = .ok (.invokevirtual 148, 3) := by decide +kernel
theorem d_Ss_deepestTooLittle_48 : decode c_Ss_deepestTooLittle 48 = .ok (.iload_n 3, 1) := by decide +kernel
theorem d_Ss_deepestTooLittle_49 : decode c_Ss_deepestTooLittle 49 = .ok (.if_icmp .ge 7, 3) := by decide +kernel
theorem d_Ss_deepestTooLittle_52 : decode c_Ss_deepestTooLittle 52 = .ok (.iload 7, 2) := by decide +kernel
theorem d_Ss_deepestTooLittle_54 : decode c_Ss_deepestTooLittle 54 = .ok (.istore 5, 2) := by decide +kernel
theorem d_Ss_deepestTooLittle_56 : decode c_Ss_deepestTooLittle 56 = .ok (.iload 6, 2) := by decide +kernel
theorem d_Ss_deepestTooLittle_58 : decode c_Ss_deepestTooLittle 58 = .ok (.iconst 2, 1) := by decide +kernel
theorem d_Ss_deepestTooLittle_59 : decode c_Ss_deepestTooLittle 59 = .ok (.idiv, 1) := by decide +kernel
theorem d_Ss_deepestTooLittle_60 : decode c_Ss_deepestTooLittle 60 = .ok (.istore 6, 2) := by decide +kernel
theorem d_Ss_deepestTooLittle_62 : decode c_Ss_deepestTooLittle 62 = .ok (.goto (-48), 3) := by decide +kernel
theorem d_Ss_deepestTooLittle_65 : decode c_Ss_deepestTooLittle 65 = .ok (.iload 5, 2) := by decide +kernel
theorem d_Ss_deepestTooLittle_67 : decode c_Ss_deepestTooLittle 67 = .ok (.ireturn, 1) := by decide +kernel
theorem d_Ss_worst_0 : decode c_Ss_worst 0 = .ok (.aload_n 0, 1) := by decide +kernel
theorem d_Ss_worst_1 : decode c_Ss_worst 1 = .ok (.iload_n 1, 1) := by decide +kernel
theorem d_Ss_worst_2 : decode c_Ss_worst 2 = .ok (.invokevirtual 144, 3) := by decide +kernel
theorem d_Ss_worst_5 : decode c_Ss_worst 5 = .ok (.astore_n 2, 1) := by decide +kernel
theorem d_Ss_worst_6 : decode c_Ss_worst 6 = .ok (.iconst 0, 1) := by decide +kernel
theorem d_Ss_worst_7 : decode c_Ss_worst 7 = .ok (.istore_n 3, 1) := by decide +kernel
theorem d_Ss_worst_8 : decode c_Ss_worst 8 = .ok (.iload_n 3, 1) := by decide +kernel
theorem d_Ss_worst_9 : decode c_Ss_worst 9 = .ok (.aload_n 0, 1) := by decide +kernel
theorem d_Ss_worst_10 : decode c_Ss_worst 10 = .ok (.getfield 31, 3) := by decide +kernel
theorem d_Ss_worst_13 : decode c_Ss_worst 13 = .ok (.arraylength, 1) := by decide +kernel
theorem d_Ss_worst_14 : decode c_Ss_worst 14 = .ok (.if_icmp .ge 16, 3) := by decide +kernel
theorem d_Ss_worst_17 : decode c_Ss_worst 17 = .ok (.aload_n 0, 1) := by decide +kernel
theorem d_Ss_worst_18 : decode c_Ss_worst 18 = .ok (.getfield 31, 3) := by decide +kernel
theorem d_Ss_worst_21 : decode c_Ss_worst 21 = .ok (.iload_n 3, 1) := by decide +kernel
theorem d_Ss_worst_22 : decode c_Ss_worst 22 = .ok (.iconst 0, 1) := by decide +kernel
theorem d_Ss_worst_23 : decode c_Ss_worst 23 = .ok (.iastore, 1) := by decide +kernel
theorem d_Ss_worst_24 : decode c_Ss_worst 24 = .ok (.iinc 3 1, 3) := by decide +kernel
theorem d_Ss_worst_27 : decode c_Ss_worst 27 = .ok (.goto (-19), 3) := by decide +kernel
theorem d_Ss_worst_30 : decode c_Ss_worst 30 = .ok (.aload_n 0, 1) := by decide +kernel
theorem d_Ss_worst_31 : decode c_Ss_worst 31 = .ok (.getfield 23, 3) := by decide +kernel
theorem d_Ss_worst_34 : decode c_Ss_worst 34 = .ok (.astore_n 3, 1) := by decide +kernel
theorem d_Ss_worst_35 : decode c_Ss_worst 35 = .ok (.aload_n 3, 1) := by decide +kernel
theorem d_Ss_worst_36 : decode c_Ss_worst 36 = .ok (.arraylength, 1) := by decide +kernel
theorem d_Ss_worst_37 : decode c_Ss_worst 37 = .ok (.istore 4, 2) := by decide +kernel
theorem d_Ss_worst_39 : decode c_Ss_worst 39 = .ok (.iconst 0, 1) := by decide +kernel
theorem d_Ss_worst_40 : decode c_Ss_worst 40 = .ok (.istore 5, 2) := by decide +kernel
theorem d_Ss_worst_42 : decode c_Ss_worst 42 = .ok (.iload 5, 2) := by decide +kernel
theorem d_Ss_worst_44 : decode c_Ss_worst 44 = .ok (.iload 4, 2) := by decide +kernel
theorem d_Ss_worst_46 : decode c_Ss_worst 46 = .ok (.if_icmp .ge 43, 3) := by decide +kernel
theorem d_Ss_worst_49 : decode c_Ss_worst 49 = .ok (.aload_n 3, 1) := by decide +kernel
theorem d_Ss_worst_50 : decode c_Ss_worst 50 = .ok (.iload 5, 2) := by decide +kernel
theorem d_Ss_worst_52 : decode c_Ss_worst 52 = .ok (.aaload, 1) := by decide +kernel
theorem d_Ss_worst_53 : decode c_Ss_worst 53 = .ok (.astore 6, 2) := by decide +kernel
theorem d_Ss_worst_55 : decode c_Ss_worst 55 = .ok (.aload 6, 2) := by decide +kernel
theorem d_Ss_worst_57 : decode c_Ss_worst 57 = .ok (.ifnull 26, 3) := by decide +kernel
theorem d_Ss_worst_60 : decode c_Ss_worst 60 = .ok (.aload 6, 2) := by decide +kernel
theorem d_Ss_worst_62 : decode c_Ss_worst 62 = .ok (.invokevirtual 173, 3) := by decide +kernel
theorem d_Ss_worst_65 : decode c_Ss_worst 65 = .ok (.ifCond .eq 18, 3) := by decide +kernel
theorem d_Ss_worst_68 : decode c_Ss_worst 68 = .ok (.aload 6, 2) := by decide +kernel
theorem d_Ss_worst_70 : decode c_Ss_worst 70 = .ok (.getfield 111, 3) := by decide +kernel
theorem d_Ss_worst_73 : decode c_Ss_worst 73 = .ok (.ifCond .le 10, 3) := by decide +kernel
theorem d_Ss_worst_76 : decode c_Ss_worst 76 = .ok (.aload_n 0, 1) := by decide +kernel
theorem d_Ss_worst_77 : decode c_Ss_worst 77 = .ok (.aload_n 2, 1) := by decide +kernel
theorem d_Ss_worst_78 : decode c_Ss_worst 78 = .ok (.aload 6, 2) := by decide +kernel
theorem d_Ss_worst_80 : decode c_Ss_worst 80 = .ok (.invokevirtual 177, 3) := by decide +kernel
theorem d_Ss_worst_83 : decode c_Ss_worst 83 = .ok (.iinc 5 1, 3) := by decide +kernel
theorem d_Ss_worst_86 : decode c_Ss_worst 86 = .ok (.goto (-44), 3) := by decide +kernel
theorem d_Ss_worst_89 : decode c_Ss_worst 89 = .ok (.iconst (-1), 1) := by decide +kernel
theorem d_Ss_worst_90 : decode c_Ss_worst 90 = .ok (.istore_n 3, 1) := by decide +kernel
theorem d_Ss_worst_91 : decode c_Ss_worst 91 = .ok (.iconst 0, 1) := by decide +kernel
theorem d_Ss_worst_92 : decode c_Ss_worst 92 = .ok (.istore 4, 2) := by decide +kernel
theorem d_Ss_worst_94 : decode c_Ss_worst 94 = .ok (.iconst 0, 1) := by decide +kernel
theorem d_Ss_worst_95 : decode c_Ss_worst 95 = .ok (.istore 5, 2) := by decide +kernel
theorem d_Ss_worst_97 : decode c_Ss_worst 97 = .ok (.iload 5, 2) := by decide +kernel
theorem d_Ss_worst_99 : decode c_Ss_worst 99 = .ok (.aload_n 0, 1) := by decide +kernel
theorem d_Ss_worst_100 : decode c_Ss_worst 100 = .ok (.getfield 31, 3) := by decide +kernel
theorem d_Ss_worst_103 : decode c_Ss_worst 103 = .ok (.arraylength, 1) := by decide +kernel
theorem d_Ss_worst_104 : decode c_Ss_worst 104 = .ok (.if_icmp .ge 33, 3) := by decide +kernel
theorem d_Ss_worst_107 : decode c_Ss_worst 107 = .ok (.aload_n 0, 1) := by decide +kernel
theorem d_Ss_worst_108 : decode c_Ss_worst 108 = .ok (.getfield 31, 3) := by decide +kernel
theorem d_Ss_worst_111 : decode c_Ss_worst 111 = .ok (.iload 5, 2) := by decide +kernel
theorem d_Ss_worst_113 : decode c_Ss_worst 113 = .ok (.iaload, 1) := by decide +kernel
theorem d_Ss_worst_114 : decode c_Ss_worst 114 = .ok (.iload 4, 2) := by decide +kernel
theorem d_Ss_worst_116 : decode c_Ss_worst 116 = .ok (.if_icmp .le 15, 3) := by decide +kernel
theorem d_Ss_worst_119 : decode c_Ss_worst 119 = .ok (.iload 5, 2) := by decide +kernel
theorem d_Ss_worst_121 : decode c_Ss_worst 121 = .ok (.istore_n 3, 1) := by decide +kernel
theorem d_Ss_worst_122 : decode c_Ss_worst 122 = .ok (.aload_n 0, 1) := by decide +kernel
theorem d_Ss_worst_123 : decode c_Ss_worst 123 = .ok (.getfield 31, 3) := by decide +kernel
theorem d_Ss_worst_126 : decode c_Ss_worst 126 = .ok (.iload 5, 2) := by decide +kernel
theorem d_Ss_worst_128 : decode c_Ss_worst 128 = .ok (.iaload, 1) := by decide +kernel
theorem d_Ss_worst_129 : decode c_Ss_worst 129 = .ok (.istore 4, 2) := by decide +kernel
theorem d_Ss_worst_131 : decode c_Ss_worst 131 = .ok (.iinc 5 1, 3) := by decide +kernel
theorem d_Ss_worst_134 : decode c_Ss_worst 134 = .ok (.goto (-37), 3) := by decide +kernel
theorem d_Ss_worst_137 : decode c_Ss_worst 137 = .ok (.iload_n 3, 1) := by decide +kernel
theorem d_Ss_worst_138 : decode c_Ss_worst 138 = .ok (.ireturn, 1) := by decide +kernel
theorem d_Ss_addTaken_0 : decode c_Ss_addTaken 0 = .ok (.aload_n 1, 1) := by decide +kernel
theorem d_Ss_addTaken_1 : decode c_Ss_addTaken 1 = .ok (.invokevirtual 189, 3) := by decide +kernel
theorem d_Ss_addTaken_4 : decode c_Ss_addTaken 4 = .ok (.lstore_n 3, 1) := by decide +kernel
theorem d_Ss_addTaken_5 : decode c_Ss_addTaken 5 = .ok (.aload_n 1, 1) := by decide +kernel
theorem d_Ss_addTaken_6 : decode c_Ss_addTaken 6 = .ok (.getfield 193, 3) := by decide +kernel
theorem d_Ss_addTaken_9 : decode c_Ss_addTaken 9 = .ok (.istore 5, 2) := by decide +kernel
theorem d_Ss_addTaken_11 : decode c_Ss_addTaken 11 = .ok (.iload 5, 2) := by decide +kernel
theorem d_Ss_addTaken_13 : decode c_Ss_addTaken 13 = .ok (.aload_n 1, 1) := by decide +kernel
theorem d_Ss_addTaken_14 : decode c_Ss_addTaken 14 = .ok (.getfield 196, 3) := by decide +kernel
theorem d_Ss_addTaken_17 : decode c_Ss_addTaken 17 = .ok (.if_icmp .ge 77, 3) := by decide +kernel
theorem d_Ss_addTaken_20 : decode c_Ss_addTaken 20 = .ok (.lload_n 3, 1) := by decide +kernel
theorem d_Ss_addTaken_21 : decode c_Ss_addTaken 21 = .ok (.aload_n 0, 1) := by decide +kernel
theorem d_Ss_addTaken_22 : decode c_Ss_addTaken 22 = .ok (.iload 5, 2) := by decide +kernel
theorem d_Ss_addTaken_24 : decode c_Ss_addTaken 24 = .ok (.aload_n 2, 1) := by decide +kernel
theorem d_Ss_addTaken_25 : decode c_Ss_addTaken 25 = .ok (.invokevirtual 206, 3) := by decide +kernel
theorem d_Ss_addTaken_28 : decode c_Ss_addTaken 28 = .ok (.land, 1) := by decide +kernel
theorem d_Ss_addTaken_29 : decode c_Ss_addTaken 29 = .ok (.lstore 6, 2) := by decide +kernel
theorem d_Ss_addTaken_31 : decode c_Ss_addTaken 31 = .ok (.iconst 0, 1) := by decide +kernel
theorem d_Ss_addTaken_32 : decode c_Ss_addTaken 32 = .ok (.istore 8, 2) := by decide +kernel
theorem d_Ss_addTaken_34 : decode c_Ss_addTaken 34 = .ok (.iload 8, 2) := by decide +kernel
theorem d_Ss_addTaken_36 : decode c_Ss_addTaken 36 = .ok (.aload_n 0, 1) := by decide +kernel
theorem d_Ss_addTaken_37 : decode c_Ss_addTaken 37 = .ok (.getfield 27, 3) := by decide +kernel
theorem d_Ss_addTaken_40 : decode c_Ss_addTaken 40 = .ok (.arraylength, 1) := by decide +kernel
theorem d_Ss_addTaken_41 : decode c_Ss_addTaken 41 = .ok (.if_icmp .ge 47, 3) := by decide +kernel
theorem d_Ss_addTaken_44 : decode c_Ss_addTaken 44 = .ok (.iload 8, 2) := by decide +kernel
theorem d_Ss_addTaken_46 : decode c_Ss_addTaken 46 = .ok (.aload_n 0, 1) := by decide +kernel
theorem d_Ss_addTaken_47 : decode c_Ss_addTaken 47 = .ok (.getfield 31, 3) := by decide +kernel
theorem d_Ss_addTaken_50 : decode c_Ss_addTaken 50 = .ok (.arraylength, 1) := by decide +kernel
theorem d_Ss_addTaken_51 : decode c_Ss_addTaken 51 = .ok (.if_icmp .ge 37, 3) := by decide +kernel
theorem d_Ss_addTaken_54 : decode c_Ss_addTaken 54 = .ok (.aload_n 0, 1) := by decide +kernel
theorem d_Ss_addTaken_55 : decode c_Ss_addTaken 55 = .ok (.getfield 31, 3) := by decide +kernel
theorem d_Ss_addTaken_58 : decode c_Ss_addTaken 58 = .ok (.iload 8, 2) := by decide +kernel
theorem d_Ss_addTaken_60 : decode c_Ss_addTaken 60 = .ok (.dup2, 1) := by decide +kernel
theorem d_Ss_addTaken_61 : decode c_Ss_addTaken 61 = .ok (.iaload, 1) := by decide +kernel
theorem d_Ss_addTaken_62 : decode c_Ss_addTaken 62 = .ok (.aload_n 2, 1) := by decide +kernel
theorem d_Ss_addTaken_63 : decode c_Ss_addTaken 63 = .ok (.getfield 111, 3) := by decide +kernel
theorem d_Ss_addTaken_66 : decode c_Ss_addTaken 66 = .ok (.aload_n 0, 1) := by decide +kernel
theorem d_Ss_addTaken_67 : decode c_Ss_addTaken 67 = .ok (.getfield 27, 3) := by decide +kernel
theorem d_Ss_addTaken_70 : decode c_Ss_addTaken 70 = .ok (.iload 8, 2) := by decide +kernel
theorem d_Ss_addTaken_72 : decode c_Ss_addTaken 72 = .ok (.laload, 1) := by decide +kernel
theorem d_Ss_addTaken_73 : decode c_Ss_addTaken 73 = .ok (.lload 6, 2) := by decide +kernel
theorem d_Ss_addTaken_75 : decode c_Ss_addTaken 75 = .ok (.land, 1) := by decide +kernel
theorem d_Ss_addTaken_76 : decode c_Ss_addTaken 76 = .ok (.invokestatic 138, 3) := by decide +kernel
theorem d_Ss_addTaken_79 : decode c_Ss_addTaken 79 = .ok (.imul, 1) := by decide +kernel
theorem d_Ss_addTaken_80 : decode c_Ss_addTaken 80 = .ok (.iadd, 1) := by decide +kernel
theorem d_Ss_addTaken_81 : decode c_Ss_addTaken 81 = .ok (.iastore, 1) := by decide +kernel
theorem d_Ss_addTaken_82 : decode c_Ss_addTaken 82 = .ok (.iinc 8 1, 3) := by decide +kernel
theorem d_Ss_addTaken_85 : decode c_Ss_addTaken 85 = .ok (.goto (-51), 3) := by decide +kernel
theorem d_Ss_addTaken_88 : decode c_Ss_addTaken 88 = .ok (.iinc 5 1, 3) := by decide +kernel
theorem d_Ss_addTaken_91 : decode c_Ss_addTaken 91 = .ok (.goto (-80), 3) := by decide +kernel
theorem d_Ss_addTaken_94 : decode c_Ss_addTaken 94 = .ok (.return_, 1) := by decide +kernel
theorem d_Ss_shadeOfOneBoxOnly_0 : decode c_Ss_shadeOfOneBoxOnly 0 = .ok (.lconst 0, 1) := by decide +kernel
theorem d_Ss_shadeOfOneBoxOnly_1 : decode c_Ss_shadeOfOneBoxOnly 1 = .ok (.lstore_n 3, 1) := by decide +kernel
theorem d_Ss_shadeOfOneBoxOnly_2 : decode c_Ss_shadeOfOneBoxOnly 2 = .ok (.lconst 0, 1) := by decide +kernel
theorem d_Ss_shadeOfOneBoxOnly_3 : decode c_Ss_shadeOfOneBoxOnly 3 = .ok (.lstore 5, 2) := by decide +kernel
theorem d_Ss_shadeOfOneBoxOnly_5 : decode c_Ss_shadeOfOneBoxOnly 5 = .ok (.iconst 0, 1) := by decide +kernel
theorem d_Ss_shadeOfOneBoxOnly_6 : decode c_Ss_shadeOfOneBoxOnly 6 = .ok (.istore 7, 2) := by decide +kernel
theorem d_Ss_shadeOfOneBoxOnly_8 : decode c_Ss_shadeOfOneBoxOnly 8 = .ok (.iload 7, 2) := by decide +kernel
theorem d_Ss_shadeOfOneBoxOnly_10 : decode c_Ss_shadeOfOneBoxOnly 10 = .ok (.aload_n 0, 1) := by decide +kernel
theorem d_Ss_shadeOfOneBoxOnly_11 : decode c_Ss_shadeOfOneBoxOnly 11 = .ok (.getfield 11, 3) := by decide +kernel
theorem d_Ss_shadeOfOneBoxOnly_14 : decode c_Ss_shadeOfOneBoxOnly 14 = .ok (.arraylength, 1) := by decide +kernel
theorem d_Ss_shadeOfOneBoxOnly_15 : decode c_Ss_shadeOfOneBoxOnly 15 = .ok (.if_icmp .ge 73, 3) := by decide +kernel
theorem d_Ss_shadeOfOneBoxOnly_18 : decode c_Ss_shadeOfOneBoxOnly 18 = .ok (.iload 7, 2) := by decide +kernel
theorem d_Ss_shadeOfOneBoxOnly_20 : decode c_Ss_shadeOfOneBoxOnly 20 = .ok (.aload_n 0, 1) := by decide +kernel
theorem d_Ss_shadeOfOneBoxOnly_21 : decode c_Ss_shadeOfOneBoxOnly 21 = .ok (.getfield 27, 3) := by decide +kernel
theorem d_Ss_shadeOfOneBoxOnly_24 : decode c_Ss_shadeOfOneBoxOnly 24 = .ok (.arraylength, 1) := by decide +kernel
theorem d_Ss_shadeOfOneBoxOnly_25 : decode c_Ss_shadeOfOneBoxOnly 25 = .ok (.if_icmp .ge 63, 3) := by decide +kernel
theorem d_Ss_shadeOfOneBoxOnly_28 : decode c_Ss_shadeOfOneBoxOnly 28 = .ok (.aload_n 0, 1) := by decide +kernel
theorem d_Ss_shadeOfOneBoxOnly_29 : decode c_Ss_shadeOfOneBoxOnly 29 = .ok (.getfield 11, 3) := by decide +kernel
theorem d_Ss_shadeOfOneBoxOnly_32 : decode c_Ss_shadeOfOneBoxOnly 32 = .ok (.iload 7, 2) := by decide +kernel
theorem d_Ss_shadeOfOneBoxOnly_34 : decode c_Ss_shadeOfOneBoxOnly 34 = .ok (.aaload, 1) := by decide +kernel
theorem d_Ss_shadeOfOneBoxOnly_35 : decode c_Ss_shadeOfOneBoxOnly 35 = .ok (.astore 8, 2) := by decide +kernel
theorem d_Ss_shadeOfOneBoxOnly_37 : decode c_Ss_shadeOfOneBoxOnly 37 = .ok (.aload 8, 2) := by decide +kernel
theorem d_Ss_shadeOfOneBoxOnly_39 : decode c_Ss_shadeOfOneBoxOnly 39 = .ok (.ifnonnull 7, 3) := by decide +kernel
theorem d_Ss_shadeOfOneBoxOnly_42 : decode c_Ss_shadeOfOneBoxOnly 42 = .ok (.lconst 0, 1) := by decide +kernel
theorem d_Ss_shadeOfOneBoxOnly_43 : decode c_Ss_shadeOfOneBoxOnly 43 = .ok (.goto 14, 3) := by decide +kernel
theorem d_Ss_shadeOfOneBoxOnly_46 : decode c_Ss_shadeOfOneBoxOnly 46 = .ok (.aload 8, 2) := by decide +kernel
theorem d_Ss_shadeOfOneBoxOnly_48 : decode c_Ss_shadeOfOneBoxOnly 48 = .ok (.iload_n 1, 1) := by decide +kernel
theorem d_Ss_shadeOfOneBoxOnly_49 : decode c_Ss_shadeOfOneBoxOnly 49 = .ok (.aload_n 2, 1) := by decide +kernel
theorem d_Ss_shadeOfOneBoxOnly_50 : decode c_Ss_shadeOfOneBoxOnly 50 = .ok (.aload_n 0, 1) := by decide +kernel
theorem d_Ss_shadeOfOneBoxOnly_51 : decode c_Ss_shadeOfOneBoxOnly 51 = .ok (.getfield 51, 3) := by decide +kernel
theorem d_Ss_shadeOfOneBoxOnly_54 : decode c_Ss_shadeOfOneBoxOnly 54 = .ok (.invokevirtual 134, 3) := by decide +kernel
theorem d_Ss_shadeOfOneBoxOnly_57 : decode c_Ss_shadeOfOneBoxOnly 57 = .ok (.lstore 9, 2) := by decide +kernel
theorem d_Ss_shadeOfOneBoxOnly_59 : decode c_Ss_shadeOfOneBoxOnly 59 = .ok (.aload_n 0, 1) := by decide +kernel
theorem d_Ss_shadeOfOneBoxOnly_60 : decode c_Ss_shadeOfOneBoxOnly 60 = .ok (.getfield 27, 3) := by decide +kernel
theorem d_Ss_shadeOfOneBoxOnly_63 : decode c_Ss_shadeOfOneBoxOnly 63 = .ok (.iload 7, 2) := by decide +kernel
theorem d_Ss_shadeOfOneBoxOnly_65 : decode c_Ss_shadeOfOneBoxOnly 65 = .ok (.lload 9, 2) := by decide +kernel
theorem d_Ss_shadeOfOneBoxOnly_67 : decode c_Ss_shadeOfOneBoxOnly 67 = .ok (.lastore, 1) := by decide +kernel
theorem d_Ss_shadeOfOneBoxOnly_68 : decode c_Ss_shadeOfOneBoxOnly 68 = .ok (.lload 5, 2) := by decide +kernel
theorem d_Ss_shadeOfOneBoxOnly_70 : decode c_Ss_shadeOfOneBoxOnly 70 = .ok (.lload_n 3, 1) := by decide +kernel
theorem d_Ss_shadeOfOneBoxOnly_71 : decode c_Ss_shadeOfOneBoxOnly 71 = .ok (.lload 9, 2) := by decide +kernel
theorem d_Ss_shadeOfOneBoxOnly_73 : decode c_Ss_shadeOfOneBoxOnly 73 = .ok (.land, 1) := by decide +kernel
theorem d_Ss_shadeOfOneBoxOnly_74 : decode c_Ss_shadeOfOneBoxOnly 74 = .ok (.lor, 1) := by decide +kernel
theorem d_Ss_shadeOfOneBoxOnly_75 : decode c_Ss_shadeOfOneBoxOnly 75 = .ok (.lstore 5, 2) := by decide +kernel
theorem d_Ss_shadeOfOneBoxOnly_77 : decode c_Ss_shadeOfOneBoxOnly 77 = .ok (.lload_n 3, 1) := by decide +kernel
theorem d_Ss_shadeOfOneBoxOnly_78 : decode c_Ss_shadeOfOneBoxOnly 78 = .ok (.lload 9, 2) := by decide +kernel
theorem d_Ss_shadeOfOneBoxOnly_80 : decode c_Ss_shadeOfOneBoxOnly 80 = .ok (.lor, 1) := by decide +kernel
theorem d_Ss_shadeOfOneBoxOnly_81 : decode c_Ss_shadeOfOneBoxOnly 81 = .ok (.lstore_n 3, 1) := by decide +kernel
theorem d_Ss_shadeOfOneBoxOnly_82 : decode c_Ss_shadeOfOneBoxOnly 82 = .ok (.iinc 7 1, 3) := by decide +kernel
theorem d_Ss_shadeOfOneBoxOnly_85 : decode c_Ss_shadeOfOneBoxOnly 85 = .ok (.goto (-77), 3) := by decide +kernel
theorem d_Ss_shadeOfOneBoxOnly_88 : decode c_Ss_shadeOfOneBoxOnly 88 = .ok (.lload_n 3, 1) := by decide +kernel
theorem d_Ss_shadeOfOneBoxOnly_89 : decode c_Ss_shadeOfOneBoxOnly 89 = .ok (.lload 5, 2) := by decide +kernel
theorem d_Ss_shadeOfOneBoxOnly_91 : decode c_Ss_shadeOfOneBoxOnly 91 = .ok (.ldc2_w 209, 3) := by decide +kernel
theorem d_Ss_shadeOfOneBoxOnly_94 : decode c_Ss_shadeOfOneBoxOnly 94 = .ok (.lxor, 1) := by decide +kernel
theorem d_Ss_shadeOfOneBoxOnly_95 : decode c_Ss_shadeOfOneBoxOnly 95 = .ok (.land, 1) := by decide +kernel
theorem d_Ss_shadeOfOneBoxOnly_96 : decode c_Ss_shadeOfOneBoxOnly 96 = .ok (.lreturn, 1) := by decide +kernel
