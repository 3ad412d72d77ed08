theorem d_Md_init_0 : decode c_Md_init 0 = .ok (.aload_n 0, 1) := by decide +kernel
theorem d_Md_init_1 : decode c_Md_init 1 = .ok (.invokespecial 1, 3) := by decide +kernel
theorem d_Md_init_4 : decode c_Md_init 4 = .ok (.aload_n 0, 1) := by decide +kernel
theorem d_Md_init_5 : decode c_Md_init 5 = .ok (.bipush 66, 2) := by decide +kernel
theorem d_Md_init_7 : decode c_Md_init 7 = .ok (.newarray .int, 2) := by decide +kernel
theorem d_Md_init_9 : decode c_Md_init 9 = .ok (.putfield 7, 3) := by decide +kernel
theorem d_Md_init_12 : decode c_Md_init 12 = .ok (.aload_n 0, 1) := by decide +kernel
theorem d_Md_init_13 : decode c_Md_init 13 = .ok (.bipush 11, 2) := by decide +kernel
theorem d_Md_init_15 : decode c_Md_init 15 = .ok (.newarray .boolean, 2) := by decide +kernel
theorem d_Md_init_17 : decode c_Md_init 17 = .ok (.putfield 13, 3) := by decide +kernel
theorem d_Md_init_20 : decode c_Md_init 20 = .ok (.aload_n 0, 1) := by decide +kernel
theorem d_Md_init_21 : decode c_Md_init 21 = .ok (.bipush 72, 2) := by decide +kernel
theorem d_Md_init_23 : decode c_Md_init 23 = .ok (.newarray .int, 2) := by decide +kernel
theorem d_Md_init_25 : decode c_Md_init 25 = .ok (.putfield 17, 3) := by decide +kernel
theorem d_Md_init_28 : decode c_Md_init 28 = .ok (.aload_n 0, 1) := by decide +kernel
theorem d_Md_init_29 : decode c_Md_init 29 = .ok (.bipush 24, 2) := by decide +kernel
theorem d_Md_init_31 : decode c_Md_init 31 = .ok (.newarray .int, 2) := by decide +kernel
theorem d_Md_init_33 : decode c_Md_init 33 = .ok (.putfield 20, 3) := by decide +kernel
theorem d_Md_init_36 : decode c_Md_init 36 = .ok (.aload_n 0, 1) := by decide +kernel
theorem d_Md_init_37 : decode c_Md_init 37 = .ok (.bipush 40, 2) := by decide +kernel
theorem d_Md_init_39 : decode c_Md_init 39 = .ok (.newarray .int, 2) := by decide +kernel
theorem d_Md_init_41 : decode c_Md_init 41 = .ok (.putfield 23, 3) := by decide +kernel
theorem d_Md_init_44 : decode c_Md_init 44 = .ok (.aload_n 0, 1) := by decide +kernel
theorem d_Md_init_45 : decode c_Md_init 45 = .ok (.iload_n 1, 1) := by decide +kernel
theorem d_Md_init_46 : decode c_Md_init 46 = .ok (.iconst 1, 1) := by decide +kernel
theorem d_Md_init_47 : decode c_Md_init 47 = .ok (.if_icmp .ge 7, 3) := by decide +kernel
theorem d_Md_init_50 : decode c_Md_init 50 = .ok (.iconst 1, 1) := by decide +kernel
theorem d_Md_init_51 : decode c_Md_init 51 = .ok (.goto 15, 3) := by decide +kernel
theorem d_Md_init_54 : decode c_Md_init 54 = .ok (.iload_n 1, 1) := by decide +kernel
theorem d_Md_init_55 : decode c_Md_init 55 = .ok (.bipush 60, 2) := by decide +kernel
theorem d_Md_init_57 : decode c_Md_init 57 = .ok (.if_icmp .le 8, 3) := by decide +kernel
theorem d_Md_init_60 : decode c_Md_init 60 = .ok (.bipush 60, 2) := by decide +kernel
theorem d_Md_init_62 : decode c_Md_init 62 = .ok (.goto 4, 3) := by decide +kernel
theorem d_Md_init_65 : decode c_Md_init 65 = .ok (.iload_n 1, 1) := by decide +kernel
theorem d_Md_init_66 : decode c_Md_init 66 = .ok (.putfield 26, 3) := by decide +kernel
theorem d_Md_init_69 : decode c_Md_init 69 = .ok (.aload_n 0, 1) := by decide +kernel
theorem d_Md_init_70 : decode c_Md_init 70 = .ok (.iload_n 2, 1) := by decide +kernel
theorem d_Md_init_71 : decode c_Md_init 71 = .ok (.iconst 1, 1) := by decide +kernel
theorem d_Md_init_72 : decode c_Md_init 72 = .ok (.if_icmp .ge 7, 3) := by decide +kernel
theorem d_Md_init_75 : decode c_Md_init 75 = .ok (.iconst 1, 1) := by decide +kernel
theorem d_Md_init_76 : decode c_Md_init 76 = .ok (.goto 15, 3) := by decide +kernel
theorem d_Md_init_79 : decode c_Md_init 79 = .ok (.iload_n 2, 1) := by decide +kernel
theorem d_Md_init_80 : decode c_Md_init 80 = .ok (.bipush 60, 2) := by decide +kernel
theorem d_Md_init_82 : decode c_Md_init 82 = .ok (.if_icmp .le 8, 3) := by decide +kernel
theorem d_Md_init_85 : decode c_Md_init 85 = .ok (.bipush 60, 2) := by decide +kernel
theorem d_Md_init_87 : decode c_Md_init 87 = .ok (.goto 4, 3) := by decide +kernel
theorem d_Md_init_90 : decode c_Md_init 90 = .ok (.iload_n 2, 1) := by decide +kernel
theorem d_Md_init_91 : decode c_Md_init 91 = .ok (.putfield 30, 3) := by decide +kernel
theorem d_Md_init_94 : decode c_Md_init 94 = .ok (.return_, 1) := by decide +kernel
theorem d_Md_thrown_0 : decode c_Md_thrown 0 = .ok (.aload_n 0, 1) := by decide +kernel
theorem d_Md_thrown_1 : decode c_Md_thrown 1 = .ok (.getfield 33, 3) := by decide +kernel
theorem d_Md_thrown_4 : decode c_Md_thrown 4 = .ok (.ireturn, 1) := by decide +kernel
theorem d_Md_box_0 : decode c_Md_box 0 = .ok (.aload_n 0, 1) := by decide +kernel
theorem d_Md_box_1 : decode c_Md_box 1 = .ok (.iload_n 1, 1) := by decide +kernel
theorem d_Md_box_2 : decode c_Md_box 2 = .ok (.iload_n 2, 1) := by decide +kernel
theorem d_Md_box_3 : decode c_Md_box 3 = .ok (.iload_n 3, 1) := by decide +kernel
theorem d_Md_box_4 : decode c_Md_box 4 = .ok (.iload 4, 2) := by decide +kernel
theorem d_Md_box_6 : decode c_Md_box 6 = .ok (.iload 5, 2) := by decide +kernel
theorem d_Md_box_8 : decode c_Md_box 8 = .ok (.iload 6, 2) := by decide +kernel
theorem d_Md_box_10 : decode c_Md_box 10 = .ok (.invokestatic 40, 3) := by decide +kernel
theorem d_Md_box_13 : decode c_Md_box 13 = .ok (.ifCond .ne 7, 3) := by decide +kernel
theorem d_Md_box_16 : decode c_Md_box 16 = .ok (.iconst 1, 1) := by decide +kernel
theorem d_Md_box_17 : decode c_Md_box 17 = .ok (.goto 17, 3) := by decide +kernel
theorem d_Md_box_20 : decode c_Md_box 20 = .ok (.aload_n 0, 1) := by decide +kernel
theorem d_Md_box_21 : decode c_Md_box 21 = .ok (.getfield 44, 3) := by decide +kernel
theorem d_Md_box_24 : decode c_Md_box 24 = .ok (.bipush 10, 2) := by decide +kernel
theorem d_Md_box_26 : decode c_Md_box 26 = .ok (.if_icmp .ne 7, 3) := by decide +kernel
theorem d_Md_box_29 : decode c_Md_box 29 = .ok (.iconst 2, 1) := by decide +kernel
theorem d_Md_box_30 : decode c_Md_box 30 = .ok (.goto 4, 3) := by decide +kernel
theorem d_Md_box_33 : decode c_Md_box 33 = .ok (.iconst 0, 1) := by decide +kernel
theorem d_Md_box_34 : decode c_Md_box 34 = .ok (.putfield 33, 3) := by decide +kernel
theorem d_Md_box_37 : decode c_Md_box 37 = .ok (.aload_n 0, 1) := by decide +kernel
theorem d_Md_box_38 : decode c_Md_box 38 = .ok (.getfield 33, 3) := by decide +kernel
theorem d_Md_box_41 : decode c_Md_box 41 = .ok (.ifCond .le 5, 3) := by decide +kernel
theorem d_Md_box_44 : decode c_Md_box 44 = .ok (.iconst 0, 1) := by decide +kernel
theorem d_Md_box_45 : decode c_Md_box 45 = .ok (.ireturn, 1) := by decide +kernel
theorem d_Md_box_46 : decode c_Md_box 46 = .ok (.aload_n 0, 1) := by decide +kernel
theorem d_Md_box_47 : decode c_Md_box 47 = .ok (.aload_n 0, 1) := by decide +kernel
theorem d_Md_box_48 : decode c_Md_box 48 = .ok (.getfield 44, 3) := by decide +kernel
theorem d_Md_box_51 : decode c_Md_box 51 = .ok (.iload_n 1, 1) := by decide +kernel
theorem d_Md_box_52 : decode c_Md_box 52 = .ok (.iload_n 2, 1) := by decide +kernel
theorem d_Md_box_53 : decode c_Md_box 53 = .ok (.iload_n 3, 1) := by decide +kernel
theorem d_Md_box_54 : decode c_Md_box 54 = .ok (.iload 4, 2) := by decide +kernel
theorem d_Md_box_56 : decode c_Md_box 56 = .ok (.iload 5, 2) := by decide +kernel
theorem d_Md_box_58 : decode c_Md_box 58 = .ok (.iload 6, 2) := by decide +kernel
theorem d_Md_box_60 : decode c_Md_box 60 = .ok (.invokevirtual 47, 3) := by decide +kernel
theorem d_Md_box_63 : decode c_Md_box 63 = .ok (.aload_n 0, 1) := by decide +kernel
theorem d_Md_box_64 : decode c_Md_box 64 = .ok (.dup, 1) := by decide +kernel
theorem d_Md_box_65 : decode c_Md_box 65 = .ok (.getfield 44, 3) := by decide +kernel
theorem d_Md_box_68 : decode c_Md_box 68 = .ok (.iconst 1, 1) := by decide +kernel
theorem d_Md_box_69 : decode c_Md_box 69 = .ok (.iadd, 1) := by decide +kernel
theorem d_Md_box_70 : decode c_Md_box 70 = .ok (.putfield 44, 3) := by decide +kernel
theorem d_Md_box_73 : decode c_Md_box 73 = .ok (.aload_n 0, 1) := by decide +kernel
theorem d_Md_box_74 : decode c_Md_box 74 = .ok (.getfield 44, 3) := by decide +kernel
theorem d_Md_box_77 : decode c_Md_box 77 = .ok (.iconst 1, 1) := by decide +kernel
theorem d_Md_box_78 : decode c_Md_box 78 = .ok (.isub, 1) := by decide +kernel
theorem d_Md_box_79 : decode c_Md_box 79 = .ok (.ireturn, 1) := by decide +kernel
theorem d_Md_isBox_0 : decode c_Md_isBox 0 = .ok (.iload_n 0, 1) := by decide +kernel
theorem d_Md_isBox_1 : decode c_Md_isBox 1 = .ok (.bipush (-100), 2) := by decide +kernel
theorem d_Md_isBox_3 : decode c_Md_isBox 3 = .ok (.sipush 200, 3) := by decide +kernel
theorem d_Md_isBox_6 : decode c_Md_isBox 6 = .ok (.invokestatic 36, 3) := by decide +kernel
theorem d_Md_isBox_9 : decode c_Md_isBox 9 = .ok (.ifCond .eq 82, 3) := by decide +kernel
theorem d_Md_isBox_12 : decode c_Md_isBox 12 = .ok (.iload_n 1, 1) := by decide +kernel
theorem d_Md_isBox_13 : decode c_Md_isBox 13 = .ok (.bipush (-100), 2) := by decide +kernel
theorem d_Md_isBox_15 : decode c_Md_isBox 15 = .ok (.sipush 200, 3) := by decide +kernel
theorem d_Md_isBox_18 : decode c_Md_isBox 18 = .ok (.invokestatic 36, 3) := by decide +kernel
theorem d_Md_isBox_21 : decode c_Md_isBox 21 = .ok (.ifCond .eq 70, 3) := by decide +kernel
theorem d_Md_isBox_24 : decode c_Md_isBox 24 = .ok (.iload_n 3, 1) := by decide +kernel
theorem d_Md_isBox_25 : decode c_Md_isBox 25 = .ok (.bipush (-100), 2) := by decide +kernel
theorem d_Md_isBox_27 : decode c_Md_isBox 27 = .ok (.sipush 200, 3) := by decide +kernel
theorem d_Md_isBox_30 : decode c_Md_isBox 30 = .ok (.invokestatic 36, 3) := by decide +kernel
theorem d_Md_isBox_33 : decode c_Md_isBox 33 = .ok (.ifCond .eq 58, 3) := by decide +kernel
theorem d_Md_isBox_36 : decode c_Md_isBox 36 = .ok (.iload 4, 2) := by decide +kernel
theorem d_Md_isBox_38 : decode c_Md_isBox 38 = .ok (.bipush (-100), 2) := by decide +kernel
theorem d_Md_isBox_40 : decode c_Md_isBox 40 = .ok (.sipush 200, 3) := by decide +kernel
theorem d_Md_isBox_43 : decode c_Md_isBox 43 = .ok (.invokestatic 36, 3) := by decide +kernel
theorem d_Md_isBox_46 : decode c_Md_isBox 46 = .ok (.ifCond .eq 45, 3) := by decide +kernel
theorem d_Md_isBox_49 : decode c_Md_isBox 49 = .ok (.iload_n 2, 1) := by decide +kernel
theorem d_Md_isBox_50 : decode c_Md_isBox 50 = .ok (.iconst 0, 1) := by decide +kernel
theorem d_Md_isBox_51 : decode c_Md_isBox 51 = .ok (.bipush 100, 2) := by decide +kernel
theorem d_Md_isBox_53 : decode c_Md_isBox 53 = .ok (.invokestatic 36, 3) := by decide +kernel
theorem d_Md_isBox_56 : decode c_Md_isBox 56 = .ok (.ifCond .eq 35, 3) := by decide +kernel
theorem d_Md_isBox_59 : decode c_Md_isBox 59 = .ok (.iload 5, 2) := by decide +kernel
theorem d_Md_isBox_61 : decode c_Md_isBox 61 = .ok (.iconst 0, 1) := by decide +kernel
theorem d_Md_isBox_62 : decode c_Md_isBox 62 = .ok (.bipush 100, 2) := by decide +kernel
theorem d_Md_isBox_64 : decode c_Md_isBox 64 = .ok (.invokestatic 36, 3) := by decide +kernel
theorem d_Md_isBox_67 : decode c_Md_isBox 67 = .ok (.ifCond .eq 24, 3) := by decide +kernel
theorem d_Md_isBox_70 : decode c_Md_isBox 70 = .ok (.iload_n 0, 1) := by decide +kernel
theorem d_Md_isBox_71 : decode c_Md_isBox 71 = .ok (.iload_n 3, 1) := by decide +kernel
theorem d_Md_isBox_72 : decode c_Md_isBox 72 = .ok (.if_icmp .ge 19, 3) := by decide +kernel
theorem d_Md_isBox_75 : decode c_Md_isBox 75 = .ok (.iload_n 1, 1) := by decide +kernel
theorem d_Md_isBox_76 : decode c_Md_isBox 76 = .ok (.iload 4, 2) := by decide +kernel
theorem d_Md_isBox_78 : decode c_Md_isBox 78 = .ok (.if_icmp .ge 13, 3) := by decide +kernel
theorem d_Md_isBox_81 : decode c_Md_isBox 81 = .ok (.iload_n 2, 1) := by decide +kernel
theorem d_Md_isBox_82 : decode c_Md_isBox 82 = .ok (.iload 5, 2) := by decide +kernel
theorem d_Md_isBox_84 : decode c_Md_isBox 84 = .ok (.if_icmp .gt 7, 3) := by decide +kernel
theorem d_Md_isBox_87 : decode c_Md_isBox 87 = .ok (.iconst 1, 1) := by decide +kernel
theorem d_Md_isBox_88 : decode c_Md_isBox 88 = .ok (.goto 4, 3) := by decide +kernel
theorem d_Md_isBox_91 : decode c_Md_isBox 91 = .ok (.iconst 0, 1) := by decide +kernel
theorem d_Md_isBox_92 : decode c_Md_isBox 92 = .ok (.ireturn, 1) := by decide +kernel
theorem d_Md_isIn_0 : decode c_Md_isIn 0 = .ok (.iload_n 0, 1) := by decide +kernel
theorem d_Md_isIn_1 : decode c_Md_isIn 1 = .ok (.iload_n 1, 1) := by decide +kernel
theorem d_Md_isIn_2 : decode c_Md_isIn 2 = .ok (.if_icmp .lt 12, 3) := by decide +kernel
theorem d_Md_isIn_5 : decode c_Md_isIn 5 = .ok (.iload_n 0, 1) := by decide +kernel
theorem d_Md_isIn_6 : decode c_Md_isIn 6 = .ok (.iload_n 2, 1) := by decide +kernel
theorem d_Md_isIn_7 : decode c_Md_isIn 7 = .ok (.if_icmp .gt 7, 3) := by decide +kernel
theorem d_Md_isIn_10 : decode c_Md_isIn 10 = .ok (.iconst 1, 1) := by decide +kernel
theorem d_Md_isIn_11 : decode c_Md_isIn 11 = .ok (.goto 4, 3) := by decide +kernel
theorem d_Md_isIn_14 : decode c_Md_isIn 14 = .ok (.iconst 0, 1) := by decide +kernel
theorem d_Md_isIn_15 : decode c_Md_isIn 15 = .ok (.ireturn, 1) := by decide +kernel
theorem d_Md_lay_0 : decode c_Md_lay 0 = .ok (.aload_n 0, 1) := by decide +kernel
theorem d_Md_lay_1 : decode c_Md_lay 1 = .ok (.getfield 7, 3) := by decide +kernel
theorem d_Md_lay_4 : decode c_Md_lay 4 = .ok (.bipush 6, 2) := by decide +kernel
theorem d_Md_lay_6 : decode c_Md_lay 6 = .ok (.iload_n 1, 1) := by decide +kernel
theorem d_Md_lay_7 : decode c_Md_lay 7 = .ok (.imul, 1) := by decide +kernel
theorem d_Md_lay_8 : decode c_Md_lay 8 = .ok (.iload_n 2, 1) := by decide +kernel
theorem d_Md_lay_9 : decode c_Md_lay 9 = .ok (.iastore, 1) := by decide +kernel
theorem d_Md_lay_10 : decode c_Md_lay 10 = .ok (.aload_n 0, 1) := by decide +kernel
theorem d_Md_lay_11 : decode c_Md_lay 11 = .ok (.getfield 7, 3) := by decide +kernel
theorem d_Md_lay_14 : decode c_Md_lay 14 = .ok (.bipush 6, 2) := by decide +kernel
theorem d_Md_lay_16 : decode c_Md_lay 16 = .ok (.iload_n 1, 1) := by decide +kernel
theorem d_Md_lay_17 : decode c_Md_lay 17 = .ok (.imul, 1) := by decide +kernel
theorem d_Md_lay_18 : decode c_Md_lay 18 = .ok (.iconst 1, 1) := by decide +kernel
theorem d_Md_lay_19 : decode c_Md_lay 19 = .ok (.iadd, 1) := by decide +kernel
theorem d_Md_lay_20 : decode c_Md_lay 20 = .ok (.iload_n 3, 1) := by decide +kernel
theorem d_Md_lay_21 : decode c_Md_lay 21 = .ok (.iastore, 1) := by decide +kernel
theorem d_Md_lay_22 : decode c_Md_lay 22 = .ok (.aload_n 0, 1) := by decide +kernel
theorem d_Md_lay_23 : decode c_Md_lay 23 = .ok (.getfield 7, 3) := by decide +kernel
theorem d_Md_lay_26 : decode c_Md_lay 26 = .ok (.bipush 6, 2) := by decide +kernel
theorem d_Md_lay_28 : decode c_Md_lay 28 = .ok (.iload_n 1, 1) := by decide +kernel
theorem d_Md_lay_29 : decode c_Md_lay 29 = .ok (.imul, 1) := by decide +kernel
theorem d_Md_lay_30 : decode c_Md_lay 30 = .ok (.iconst 2, 1) := by decide +kernel
theorem d_Md_lay_31 : decode c_Md_lay 31 = .ok (.iadd, 1) := by decide +kernel
theorem d_Md_lay_32 : decode c_Md_lay 32 = .ok (.iload 4, 2) := by decide +kernel
theorem d_Md_lay_34 : decode c_Md_lay 34 = .ok (.iastore, 1) := by decide +kernel
theorem d_Md_lay_35 : decode c_Md_lay 35 = .ok (.aload_n 0, 1) := by decide +kernel
theorem d_Md_lay_36 : decode c_Md_lay 36 = .ok (.getfield 7, 3) := by decide +kernel
theorem d_Md_lay_39 : decode c_Md_lay 39 = .ok (.bipush 6, 2) := by decide +kernel
theorem d_Md_lay_41 : decode c_Md_lay 41 = .ok (.iload_n 1, 1) := by decide +kernel
theorem d_Md_lay_42 : decode c_Md_lay 42 = .ok (.imul, 1) := by decide +kernel
theorem d_Md_lay_43 : decode c_Md_lay 43 = .ok (.iconst 3, 1) := by decide +kernel
theorem d_Md_lay_44 : decode c_Md_lay 44 = .ok (.iadd, 1) := by decide +kernel
theorem d_Md_lay_45 : decode c_Md_lay 45 = .ok (.iload 5, 2) := by decide +kernel
theorem d_Md_lay_47 : decode c_Md_lay 47 = .ok (.iastore, 1) := by decide +kernel
theorem d_Md_lay_48 : decode c_Md_lay 48 = .ok (.aload_n 0, 1) := by decide +kernel
theorem d_Md_lay_49 : decode c_Md_lay 49 = .ok (.getfield 7, 3) := by decide +kernel
theorem d_Md_lay_52 : decode c_Md_lay 52 = .ok (.bipush 6, 2) := by decide +kernel
theorem d_Md_lay_54 : decode c_Md_lay 54 = .ok (.iload_n 1, 1) := by decide +kernel
theorem d_Md_lay_55 : decode c_Md_lay 55 = .ok (.imul, 1) := by decide +kernel
theorem d_Md_lay_56 : decode c_Md_lay 56 = .ok (.iconst 4, 1) := by decide +kernel
theorem d_Md_lay_57 : decode c_Md_lay 57 = .ok (.iadd, 1) := by decide +kernel
theorem d_Md_lay_58 : decode c_Md_lay 58 = .ok (.iload 6, 2) := by decide +kernel
theorem d_Md_lay_60 : decode c_Md_lay 60 = .ok (.iastore, 1) := by decide +kernel
theorem d_Md_lay_61 : decode c_Md_lay 61 = .ok (.aload_n 0, 1) := by decide +kernel
theorem d_Md_lay_62 : decode c_Md_lay 62 = .ok (.getfield 7, 3) := by decide +kernel
theorem d_Md_lay_65 : decode c_Md_lay 65 = .ok (.bipush 6, 2) := by decide +kernel
theorem d_Md_lay_67 : decode c_Md_lay 67 = .ok (.iload_n 1, 1) := by decide +kernel
theorem d_Md_lay_68 : decode c_Md_lay 68 = .ok (.imul, 1) := by decide +kernel
theorem d_Md_lay_69 : decode c_Md_lay 69 = .ok (.iconst 5, 1) := by decide +kernel
theorem d_Md_lay_70 : decode c_Md_lay 70 = .ok (.iadd, 1) := by decide +kernel
theorem d_Md_lay_71 : decode c_Md_lay 71 = .ok (.iload 7, 2) := by decide +kernel
theorem d_Md_lay_73 : decode c_Md_lay 73 = .ok (.iastore, 1) := by decide +kernel
theorem d_Md_lay_74 : decode c_Md_lay 74 = .ok (.aload_n 0, 1) := by decide +kernel
theorem d_Md_lay_75 : decode c_Md_lay 75 = .ok (.getfield 13, 3) := by decide +kernel
theorem d_Md_lay_78 : decode c_Md_lay 78 = .ok (.iload_n 1, 1) := by decide +kernel
theorem d_Md_lay_79 : decode c_Md_lay 79 = .ok (.iconst 1, 1) := by decide +kernel
theorem d_Md_lay_80 : decode c_Md_lay 80 = .ok (.bastore, 1) := by decide +kernel
theorem d_Md_lay_81 : decode c_Md_lay 81 = .ok (.return_, 1) := by decide +kernel
theorem d_Md_move_0 : decode c_Md_move 0 = .ok (.aload_n 0, 1) := by decide +kernel
theorem d_Md_move_1 : decode c_Md_move 1 = .ok (.aload_n 0, 1) := by decide +kernel
theorem d_Md_move_2 : decode c_Md_move 2 = .ok (.iload_n 1, 1) := by decide +kernel
theorem d_Md_move_3 : decode c_Md_move 3 = .ok (.invokevirtual 51, 3) := by decide +kernel
theorem d_Md_move_6 : decode c_Md_move 6 = .ok (.ifCond .ne 43, 3) := by decide +kernel
theorem d_Md_move_9 : decode c_Md_move 9 = .ok (.iload_n 2, 1) := by decide +kernel
theorem d_Md_move_10 : decode c_Md_move 10 = .ok (.sipush (-300), 3) := by decide +kernel
theorem d_Md_move_13 : decode c_Md_move 13 = .ok (.sipush 300, 3) := by decide +kernel
theorem d_Md_move_16 : decode c_Md_move 16 = .ok (.invokestatic 36, 3) := by decide +kernel
theorem d_Md_move_19 : decode c_Md_move 19 = .ok (.ifCond .eq 30, 3) := by decide +kernel
theorem d_Md_move_22 : decode c_Md_move 22 = .ok (.iload_n 3, 1) := by decide +kernel
theorem d_Md_move_23 : decode c_Md_move 23 = .ok (.sipush (-300), 3) := by decide +kernel
theorem d_Md_move_26 : decode c_Md_move 26 = .ok (.sipush 300, 3) := by decide +kernel
theorem d_Md_move_29 : decode c_Md_move 29 = .ok (.invokestatic 36, 3) := by decide +kernel
theorem d_Md_move_32 : decode c_Md_move 32 = .ok (.ifCond .eq 17, 3) := by decide +kernel
theorem d_Md_move_35 : decode c_Md_move 35 = .ok (.iload 4, 2) := by decide +kernel
theorem d_Md_move_37 : decode c_Md_move 37 = .ok (.sipush (-300), 3) := by decide +kernel
theorem d_Md_move_40 : decode c_Md_move 40 = .ok (.sipush 300, 3) := by decide +kernel
theorem d_Md_move_43 : decode c_Md_move 43 = .ok (.invokestatic 36, 3) := by decide +kernel
theorem d_Md_move_46 : decode c_Md_move 46 = .ok (.ifCond .ne 7, 3) := by decide +kernel
theorem d_Md_move_49 : decode c_Md_move 49 = .ok (.iconst 1, 1) := by decide +kernel
theorem d_Md_move_50 : decode c_Md_move 50 = .ok (.goto 4, 3) := by decide +kernel
theorem d_Md_move_53 : decode c_Md_move 53 = .ok (.iconst 0, 1) := by decide +kernel
theorem d_Md_move_54 : decode c_Md_move 54 = .ok (.putfield 33, 3) := by decide +kernel
theorem d_Md_move_57 : decode c_Md_move 57 = .ok (.aload_n 0, 1) := by decide +kernel
theorem d_Md_move_58 : decode c_Md_move 58 = .ok (.getfield 33, 3) := by decide +kernel
theorem d_Md_move_61 : decode c_Md_move 61 = .ok (.ifCond .le 5, 3) := by decide +kernel
theorem d_Md_move_64 : decode c_Md_move 64 = .ok (.iconst 0, 1) := by decide +kernel
theorem d_Md_move_65 : decode c_Md_move 65 = .ok (.ireturn, 1) := by decide +kernel
theorem d_Md_move_66 : decode c_Md_move 66 = .ok (.bipush 6, 2) := by decide +kernel
theorem d_Md_move_68 : decode c_Md_move 68 = .ok (.iload_n 1, 1) := by decide +kernel
theorem d_Md_move_69 : decode c_Md_move 69 = .ok (.imul, 1) := by decide +kernel
theorem d_Md_move_70 : decode c_Md_move 70 = .ok (.istore 5, 2) := by decide +kernel
theorem d_Md_move_72 : decode c_Md_move 72 = .ok (.aload_n 0, 1) := by decide +kernel
theorem d_Md_move_73 : decode c_Md_move 73 = .ok (.getfield 7, 3) := by decide +kernel
theorem d_Md_move_76 : decode c_Md_move 76 = .ok (.iload 5, 2) := by decide +kernel
theorem d_Md_move_78 : decode c_Md_move 78 = .ok (.iaload, 1) := by decide +kernel
theorem d_Md_move_79 : decode c_Md_move 79 = .ok (.iload_n 2, 1) := by decide +kernel
theorem d_Md_move_80 : decode c_Md_move 80 = .ok (.iadd, 1) := by decide +kernel
theorem d_Md_move_81 : decode c_Md_move 81 = .ok (.aload_n 0, 1) := by decide +kernel
theorem d_Md_move_82 : decode c_Md_move 82 = .ok (.getfield 7, 3) := by decide +kernel
theorem d_Md_move_85 : decode c_Md_move 85 = .ok (.iload 5, 2) := by decide +kernel
theorem d_Md_move_87 : decode c_Md_move 87 = .ok (.iconst 1, 1) := by decide +kernel
theorem d_Md_move_88 : decode c_Md_move 88 = .ok (.iadd, 1) := by decide +kernel
theorem d_Md_move_89 : decode c_Md_move 89 = .ok (.iaload, 1) := by decide +kernel
theorem d_Md_move_90 : decode c_Md_move 90 = .ok (.iload_n 3, 1) := by decide +kernel
theorem d_Md_move_91 : decode c_Md_move 91 = .ok (.iadd, 1) := by decide +kernel
theorem d_Md_move_92 : decode c_Md_move 92 = .ok (.aload_n 0, 1) := by decide +kernel
theorem d_Md_move_93 : decode c_Md_move 93 = .ok (.getfield 7, 3) := by decide +kernel
theorem d_Md_move_96 : decode c_Md_move 96 = .ok (.iload 5, 2) := by decide +kernel
theorem d_Md_move_98 : decode c_Md_move 98 = .ok (.iconst 2, 1) := by decide +kernel
theorem d_Md_move_99 : decode c_Md_move 99 = .ok (.iadd, 1) := by decide +kernel
theorem d_Md_move_100 : decode c_Md_move 100 = .ok (.iaload, 1) := by decide +kernel
theorem d_Md_move_101 : decode c_Md_move 101 = .ok (.iload 4, 2) := by decide +kernel
theorem d_Md_move_103 : decode c_Md_move 103 = .ok (.iadd, 1) := by decide +kernel
theorem d_Md_move_104 : decode c_Md_move 104 = .ok (.aload_n 0, 1) := by decide +kernel
theorem d_Md_move_105 : decode c_Md_move 105 = .ok (.getfield 7, 3) := by decide +kernel
theorem d_Md_move_108 : decode c_Md_move 108 = .ok (.iload 5, 2) := by decide +kernel
theorem d_Md_move_110 : decode c_Md_move 110 = .ok (.iconst 3, 1) := by decide +kernel
theorem d_Md_move_111 : decode c_Md_move 111 = .ok (.iadd, 1) := by decide +kernel
theorem d_Md_move_112 : decode c_Md_move 112 = .ok (.iaload, 1) := by decide +kernel
theorem d_Md_move_113 : decode c_Md_move 113 = .ok (.iload_n 2, 1) := by decide +kernel
theorem d_Md_move_114 : decode c_Md_move 114 = .ok (.iadd, 1) := by decide +kernel
theorem d_Md_move_115 : decode c_Md_move 115 = .ok (.aload_n 0, 1) := by decide +kernel
theorem d_Md_move_116 : decode c_Md_move 116 = .ok (.getfield 7, 3) := by decide +kernel
theorem d_Md_move_119 : decode c_Md_move 119 = .ok (.iload 5, 2) := by decide +kernel
theorem d_Md_move_121 : decode c_Md_move 121 = .ok (.iconst 4, 1) := by decide +kernel
theorem d_Md_move_122 : decode c_Md_move 122 = .ok (.iadd, 1) := by decide +kernel
theorem d_Md_move_123 : decode c_Md_move 123 = .ok (.iaload, 1) := by decide +kernel
theorem d_Md_move_124 : decode c_Md_move 124 = .ok (.iload_n 3, 1) := by decide +kernel
theorem d_Md_move_125 : decode c_Md_move 125 = .ok (.iadd, 1) := by decide +kernel
theorem d_Md_move_126 : decode c_Md_move 126 = .ok (.aload_n 0, 1) := by decide +kernel
theorem d_Md_move_127 : decode c_Md_move 127 = .ok (.getfield 7, 3) := by decide +kernel
theorem d_Md_move_130 : decode c_Md_move 130 = .ok (.iload 5, 2) := by decide +kernel
theorem d_Md_move_132 : decode c_Md_move 132 = .ok (.iconst 5, 1) := by decide +kernel
theorem d_Md_move_133 : decode c_Md_move 133 = .ok (.iadd, 1) := by decide +kernel
theorem d_Md_move_134 : decode c_Md_move 134 = .ok (.iaload, 1) := by decide +kernel
theorem d_Md_move_135 : decode c_Md_move 135 = .ok (.iload 4, 2) := by decide +kernel
theorem d_Md_move_137 : decode c_Md_move 137 = .ok (.iadd, 1) := by decide +kernel
theorem d_Md_move_138 : decode c_Md_move 138 = .ok (.invokestatic 40, 3) := by decide +kernel
theorem d_Md_move_141 : decode c_Md_move 141 = .ok (.ifCond .ne 5, 3) := by decide +kernel
theorem d_Md_move_144 : decode c_Md_move 144 = .ok (.iconst 0, 1) := by decide +kernel
theorem d_Md_move_145 : decode c_Md_move 145 = .ok (.ireturn, 1) := by decide +kernel
theorem d_Md_move_146 : decode c_Md_move 146 = .ok (.aload_n 0, 1) := by decide +kernel
theorem d_Md_move_147 : decode c_Md_move 147 = .ok (.getfield 13, 3) := by decide +kernel
theorem d_Md_move_150 : decode c_Md_move 150 = .ok (.iload_n 1, 1) := by decide +kernel
theorem d_Md_move_151 : decode c_Md_move 151 = .ok (.baload, 1) := by decide +kernel
theorem d_Md_move_152 : decode c_Md_move 152 = .ok (.istore 6, 2) := by decide +kernel
theorem d_Md_move_154 : decode c_Md_move 154 = .ok (.aload_n 0, 1) := by decide +kernel
theorem d_Md_move_155 : decode c_Md_move 155 = .ok (.iload_n 1, 1) := by decide +kernel
theorem d_Md_move_156 : decode c_Md_move 156 = .ok (.aload_n 0, 1) := by decide +kernel
theorem d_Md_move_157 : decode c_Md_move 157 = .ok (.getfield 7, 3) := by decide +kernel
theorem d_Md_move_160 : decode c_Md_move 160 = .ok (.iload 5, 2) := by decide +kernel
theorem d_Md_move_162 : decode c_Md_move 162 = .ok (.iaload, 1) := by decide +kernel
theorem d_Md_move_163 : decode c_Md_move 163 = .ok (.iload_n 2, 1) := by decide +kernel
theorem d_Md_move_164 : decode c_Md_move 164 = .ok (.iadd, 1) := by decide +kernel
theorem d_Md_move_165 : decode c_Md_move 165 = .ok (.aload_n 0, 1) := by decide +kernel
theorem d_Md_move_166 : decode c_Md_move 166 = .ok (.getfield 7, 3) := by decide +kernel
theorem d_Md_move_169 : decode c_Md_move 169 = .ok (.iload 5, 2) := by decide +kernel
theorem d_Md_move_171 : decode c_Md_move 171 = .ok (.iconst 1, 1) := by decide +kernel
theorem d_Md_move_172 : decode c_Md_move 172 = .ok (.iadd, 1) := by decide +kernel
theorem d_Md_move_173 : decode c_Md_move 173 = .ok (.iaload, 1) := by decide +kernel
theorem d_Md_move_174 : decode c_Md_move 174 = .ok (.iload_n 3, 1) := by decide +kernel
theorem d_Md_move_175 : decode c_Md_move 175 = .ok (.iadd, 1) := by decide +kernel
theorem d_Md_move_176 : decode c_Md_move 176 = .ok (.aload_n 0, 1) := by decide +kernel
theorem d_Md_move_177 : decode c_Md_move 177 = .ok (.getfield 7, 3) := by decide +kernel
theorem d_Md_move_180 : decode c_Md_move 180 = .ok (.iload 5, 2) := by decide +kernel
theorem d_Md_move_182 : decode c_Md_move 182 = .ok (.iconst 2, 1) := by decide +kernel
theorem d_Md_move_183 : decode c_Md_move 183 = .ok (.iadd, 1) := by decide +kernel
theorem d_Md_move_184 : decode c_Md_move 184 = .ok (.iaload, 1) := by decide +kernel
theorem d_Md_move_185 : decode c_Md_move 185 = .ok (.iload 4, 2) := by decide +kernel
theorem d_Md_move_187 : decode c_Md_move 187 = .ok (.iadd, 1) := by decide +kernel
theorem d_Md_move_188 : decode c_Md_move 188 = .ok (.aload_n 0, 1) := by decide +kernel
theorem d_Md_move_189 : decode c_Md_move 189 = .ok (.getfield 7, 3) := by decide +kernel
theorem d_Md_move_192 : decode c_Md_move 192 = .ok (.iload 5, 2) := by decide +kernel
theorem d_Md_move_194 : decode c_Md_move 194 = .ok (.iconst 3, 1) := by decide +kernel
theorem d_Md_move_195 : decode c_Md_move 195 = .ok (.iadd, 1) := by decide +kernel
theorem d_Md_move_196 : decode c_Md_move 196 = .ok (.iaload, 1) := by decide +kernel
theorem d_Md_move_197 : decode c_Md_move 197 = .ok (.iload_n 2, 1) := by decide +kernel
theorem d_Md_move_198 : decode c_Md_move 198 = .ok (.iadd, 1) := by decide +kernel
theorem d_Md_move_199 : decode c_Md_move 199 = .ok (.aload_n 0, 1) := by decide +kernel
theorem d_Md_move_200 : decode c_Md_move 200 = .ok (.getfield 7, 3) := by decide +kernel
theorem d_Md_move_203 : decode c_Md_move 203 = .ok (.iload 5, 2) := by decide +kernel
theorem d_Md_move_205 : decode c_Md_move 205 = .ok (.iconst 4, 1) := by decide +kernel
theorem d_Md_move_206 : decode c_Md_move 206 = .ok (.iadd, 1) := by decide +kernel
theorem d_Md_move_207 : decode c_Md_move 207 = .ok (.iaload, 1) := by decide +kernel
theorem d_Md_move_208 : decode c_Md_move 208 = .ok (.iload_n 3, 1) := by decide +kernel
theorem d_Md_move_209 : decode c_Md_move 209 = .ok (.iadd, 1) := by decide +kernel
theorem d_Md_move_210 : decode c_Md_move 210 = .ok (.aload_n 0, 1) := by decide +kernel
theorem d_Md_move_211 : decode c_Md_move 211 = .ok (.getfield 7, 3) := by decide +kernel
theorem d_Md_move_214 : decode c_Md_move 214 = .ok (.iload 5, 2) := by decide +kernel
theorem d_Md_move_216 : decode c_Md_move 216 = .ok (.iconst 5, 1) := by decide +kernel
theorem d_Md_move_217 : decode c_Md_move 217 = .ok (.iadd, 1) := by decide +kernel
theorem d_Md_move_218 : decode c_Md_move 218 = .ok (.iaload, 1) := by decide +kernel
theorem d_Md_move_219 : decode c_Md_move 219 = .ok (.iload 4, 2) := by decide +kernel
theorem d_Md_move_221 : decode c_Md_move 221 = .ok (.iadd, 1) := by decide +kernel
theorem d_Md_move_222 : decode c_Md_move 222 = .ok (.invokevirtual 47, 3) := by decide +kernel
theorem d_Md_move_225 : decode c_Md_move 225 = .ok (.aload_n 0, 1) := by decide +kernel
theorem d_Md_move_226 : decode c_Md_move 226 = .ok (.getfield 13, 3) := by decide +kernel
theorem d_Md_move_229 : decode c_Md_move 229 = .ok (.iload_n 1, 1) := by decide +kernel
theorem d_Md_move_230 : decode c_Md_move 230 = .ok (.iload 6, 2) := by decide +kernel
theorem d_Md_move_232 : decode c_Md_move 232 = .ok (.bastore, 1) := by decide +kernel
theorem d_Md_move_233 : decode c_Md_move 233 = .ok (.iconst 1, 1) := by decide +kernel
theorem d_Md_move_234 : decode c_Md_move 234 = .ok (.ireturn, 1) := by decide +kernel
theorem d_Md_noBox_0 : decode c_Md_noBox 0 = .ok (.iload_n 1, 1) := by decide +kernel
theorem d_Md_noBox_1 : decode c_Md_noBox 1 = .ok (.ifCond .lt 11, 3) := by decide +kernel
theorem d_Md_noBox_4 : decode c_Md_noBox 4 = .ok (.iload_n 1, 1) := by decide +kernel
theorem d_Md_noBox_5 : decode c_Md_noBox 5 = .ok (.aload_n 0, 1) := by decide +kernel
theorem d_Md_noBox_6 : decode c_Md_noBox 6 = .ok (.getfield 44, 3) := by decide +kernel
theorem d_Md_noBox_9 : decode c_Md_noBox 9 = .ok (.if_icmp .lt 7, 3) := by decide +kernel
theorem d_Md_noBox_12 : decode c_Md_noBox 12 = .ok (.iconst 1, 1) := by decide +kernel
theorem d_Md_noBox_13 : decode c_Md_noBox 13 = .ok (.goto 4, 3) := by decide +kernel
theorem d_Md_noBox_16 : decode c_Md_noBox 16 = .ok (.iconst 0, 1) := by decide +kernel
theorem d_Md_noBox_17 : decode c_Md_noBox 17 = .ok (.ireturn, 1) := by decide +kernel
theorem d_Md_there_0 : decode c_Md_there 0 = .ok (.aload_n 0, 1) := by decide +kernel
theorem d_Md_there_1 : decode c_Md_there 1 = .ok (.aload_n 0, 1) := by decide +kernel
theorem d_Md_there_2 : decode c_Md_there 2 = .ok (.iload_n 1, 1) := by decide +kernel
theorem d_Md_there_3 : decode c_Md_there 3 = .ok (.invokevirtual 51, 3) := by decide +kernel
theorem d_Md_there_6 : decode c_Md_there 6 = .ok (.ifCond .eq 7, 3) := by decide +kernel
theorem d_Md_there_9 : decode c_Md_there 9 = .ok (.iconst 1, 1) := by decide +kernel
theorem d_Md_there_10 : decode c_Md_there 10 = .ok (.goto 4, 3) := by decide +kernel
theorem d_Md_there_13 : decode c_Md_there 13 = .ok (.iconst 0, 1) := by decide +kernel
theorem d_Md_there_14 : decode c_Md_there 14 = .ok (.putfield 33, 3) := by decide +kernel
theorem d_Md_there_17 : decode c_Md_there 17 = .ok (.aload_n 0, 1) := by decide +kernel
theorem d_Md_there_18 : decode c_Md_there 18 = .ok (.getfield 33, 3) := by decide +kernel
theorem d_Md_there_21 : decode c_Md_there 21 = .ok (.ifCond .le 5, 3) := by decide +kernel
theorem d_Md_there_24 : decode c_Md_there 24 = .ok (.iconst 0, 1) := by decide +kernel
theorem d_Md_there_25 : decode c_Md_there 25 = .ok (.ireturn, 1) := by decide +kernel
theorem d_Md_there_26 : decode c_Md_there 26 = .ok (.aload_n 0, 1) := by decide +kernel
theorem d_Md_there_27 : decode c_Md_there 27 = .ok (.getfield 13, 3) := by decide +kernel
theorem d_Md_there_30 : decode c_Md_there 30 = .ok (.iload_n 1, 1) := by decide +kernel
theorem d_Md_there_31 : decode c_Md_there 31 = .ok (.baload, 1) := by decide +kernel
theorem d_Md_there_32 : decode c_Md_there 32 = .ok (.istore_n 3, 1) := by decide +kernel
theorem d_Md_there_33 : decode c_Md_there 33 = .ok (.aload_n 0, 1) := by decide +kernel
theorem d_Md_there_34 : decode c_Md_there 34 = .ok (.getfield 13, 3) := by decide +kernel
theorem d_Md_there_37 : decode c_Md_there 37 = .ok (.iload_n 1, 1) := by decide +kernel
theorem d_Md_there_38 : decode c_Md_there 38 = .ok (.iload_n 2, 1) := by decide +kernel
theorem d_Md_there_39 : decode c_Md_there 39 = .ok (.bastore, 1) := by decide +kernel
theorem d_Md_there_40 : decode c_Md_there 40 = .ok (.iload_n 3, 1) := by decide +kernel
theorem d_Md_there_41 : decode c_Md_there 41 = .ok (.ireturn, 1) := by decide +kernel
theorem d_Md_sun_0 : decode c_Md_sun 0 = .ok (.aload_n 0, 1) := by decide +kernel
theorem d_Md_sun_1 : decode c_Md_sun 1 = .ok (.iload_n 1, 1) := by decide +kernel
theorem d_Md_sun_2 : decode c_Md_sun 2 = .ok (.invokestatic 55, 3) := by decide +kernel
theorem d_Md_sun_5 : decode c_Md_sun 5 = .ok (.ifCond .ne 40, 3) := by decide +kernel
theorem d_Md_sun_8 : decode c_Md_sun 8 = .ok (.iload_n 2, 1) := by decide +kernel
theorem d_Md_sun_9 : decode c_Md_sun 9 = .ok (.sipush (-300), 3) := by decide +kernel
theorem d_Md_sun_12 : decode c_Md_sun 12 = .ok (.sipush 300, 3) := by decide +kernel
theorem d_Md_sun_15 : decode c_Md_sun 15 = .ok (.invokestatic 36, 3) := by decide +kernel
theorem d_Md_sun_18 : decode c_Md_sun 18 = .ok (.ifCond .eq 27, 3) := by decide +kernel
theorem d_Md_sun_21 : decode c_Md_sun 21 = .ok (.iload_n 3, 1) := by decide +kernel
theorem d_Md_sun_22 : decode c_Md_sun 22 = .ok (.sipush (-300), 3) := by decide +kernel
theorem d_Md_sun_25 : decode c_Md_sun 25 = .ok (.sipush 300, 3) := by decide +kernel
theorem d_Md_sun_28 : decode c_Md_sun 28 = .ok (.invokestatic 36, 3) := by decide +kernel
theorem d_Md_sun_31 : decode c_Md_sun 31 = .ok (.ifCond .eq 14, 3) := by decide +kernel
theorem d_Md_sun_34 : decode c_Md_sun 34 = .ok (.iload 4, 2) := by decide +kernel
theorem d_Md_sun_36 : decode c_Md_sun 36 = .ok (.iconst 0, 1) := by decide +kernel
theorem d_Md_sun_37 : decode c_Md_sun 37 = .ok (.bipush 100, 2) := by decide +kernel
theorem d_Md_sun_39 : decode c_Md_sun 39 = .ok (.invokestatic 36, 3) := by decide +kernel
theorem d_Md_sun_42 : decode c_Md_sun 42 = .ok (.ifCond .ne 7, 3) := by decide +kernel
theorem d_Md_sun_45 : decode c_Md_sun 45 = .ok (.iconst 1, 1) := by decide +kernel
theorem d_Md_sun_46 : decode c_Md_sun 46 = .ok (.goto 4, 3) := by decide +kernel
theorem d_Md_sun_49 : decode c_Md_sun 49 = .ok (.iconst 0, 1) := by decide +kernel
theorem d_Md_sun_50 : decode c_Md_sun 50 = .ok (.putfield 33, 3) := by decide +kernel
theorem d_Md_sun_53 : decode c_Md_sun 53 = .ok (.aload_n 0, 1) := by decide +kernel
theorem d_Md_sun_54 : decode c_Md_sun 54 = .ok (.getfield 33, 3) := by decide +kernel
theorem d_Md_sun_57 : decode c_Md_sun 57 = .ok (.ifCond .ne 35, 3) := by decide +kernel
theorem d_Md_sun_60 : decode c_Md_sun 60 = .ok (.aload_n 0, 1) := by decide +kernel
theorem d_Md_sun_61 : decode c_Md_sun 61 = .ok (.getfield 17, 3) := by decide +kernel
theorem d_Md_sun_64 : decode c_Md_sun 64 = .ok (.iconst 3, 1) := by decide +kernel
theorem d_Md_sun_65 : decode c_Md_sun 65 = .ok (.iload_n 1, 1) := by decide +kernel
theorem d_Md_sun_66 : decode c_Md_sun 66 = .ok (.imul, 1) := by decide +kernel
theorem d_Md_sun_67 : decode c_Md_sun 67 = .ok (.iload_n 2, 1) := by decide +kernel
theorem d_Md_sun_68 : decode c_Md_sun 68 = .ok (.iastore, 1) := by decide +kernel
theorem d_Md_sun_69 : decode c_Md_sun 69 = .ok (.aload_n 0, 1) := by decide +kernel
theorem d_Md_sun_70 : decode c_Md_sun 70 = .ok (.getfield 17, 3) := by decide +kernel
theorem d_Md_sun_73 : decode c_Md_sun 73 = .ok (.iconst 3, 1) := by decide +kernel
theorem d_Md_sun_74 : decode c_Md_sun 74 = .ok (.iload_n 1, 1) := by decide +kernel
theorem d_Md_sun_75 : decode c_Md_sun 75 = .ok (.imul, 1) := by decide +kernel
theorem d_Md_sun_76 : decode c_Md_sun 76 = .ok (.iconst 1, 1) := by decide +kernel
theorem d_Md_sun_77 : decode c_Md_sun 77 = .ok (.iadd, 1) := by decide +kernel
theorem d_Md_sun_78 : decode c_Md_sun 78 = .ok (.iload_n 3, 1) := by decide +kernel
theorem d_Md_sun_79 : decode c_Md_sun 79 = .ok (.iastore, 1) := by decide +kernel
theorem d_Md_sun_80 : decode c_Md_sun 80 = .ok (.aload_n 0, 1) := by decide +kernel
theorem d_Md_sun_81 : decode c_Md_sun 81 = .ok (.getfield 17, 3) := by decide +kernel
theorem d_Md_sun_84 : decode c_Md_sun 84 = .ok (.iconst 3, 1) := by decide +kernel
theorem d_Md_sun_85 : decode c_Md_sun 85 = .ok (.iload_n 1, 1) := by decide +kernel
theorem d_Md_sun_86 : decode c_Md_sun 86 = .ok (.imul, 1) := by decide +kernel
theorem d_Md_sun_87 : decode c_Md_sun 87 = .ok (.iconst 2, 1) := by decide +kernel
theorem d_Md_sun_88 : decode c_Md_sun 88 = .ok (.iadd, 1) := by decide +kernel
theorem d_Md_sun_89 : decode c_Md_sun 89 = .ok (.iload 4, 2) := by decide +kernel
theorem d_Md_sun_91 : decode c_Md_sun 91 = .ok (.iastore, 1) := by decide +kernel
theorem d_Md_sun_92 : decode c_Md_sun 92 = .ok (.return_, 1) := by decide +kernel
theorem d_Md_noHour_0 : decode c_Md_noHour 0 = .ok (.iload_n 0, 1) := by decide +kernel
theorem d_Md_noHour_1 : decode c_Md_noHour 1 = .ok (.ifCond .lt 9, 3) := by decide +kernel
theorem d_Md_noHour_4 : decode c_Md_noHour 4 = .ok (.iload_n 0, 1) := by decide +kernel
theorem d_Md_noHour_5 : decode c_Md_noHour 5 = .ok (.bipush 23, 2) := by decide +kernel
theorem d_Md_noHour_7 : decode c_Md_noHour 7 = .ok (.if_icmp .le 7, 3) := by decide +kernel
theorem d_Md_noHour_10 : decode c_Md_noHour 10 = .ok (.iconst 1, 1) := by decide +kernel
theorem d_Md_noHour_11 : decode c_Md_noHour 11 = .ok (.goto 4, 3) := by decide +kernel
theorem d_Md_noHour_14 : decode c_Md_noHour 14 = .ok (.iconst 0, 1) := by decide +kernel
theorem d_Md_noHour_15 : decode c_Md_noHour 15 = .ok (.ireturn, 1) := by decide +kernel
theorem d_Md_light_0 : decode c_Md_light 0 = .ok (.aload_n 0, 1) := by decide +kernel
theorem d_Md_light_1 : decode c_Md_light 1 = .ok (.iload_n 1, 1) := by decide +kernel
theorem d_Md_light_2 : decode c_Md_light 2 = .ok (.invokestatic 55, 3) := by decide +kernel
theorem d_Md_light_5 : decode c_Md_light 5 = .ok (.ifCond .ne 14, 3) := by decide +kernel
theorem d_Md_light_8 : decode c_Md_light 8 = .ok (.iload_n 2, 1) := by decide +kernel
theorem d_Md_light_9 : decode c_Md_light 9 = .ok (.iconst 0, 1) := by decide +kernel
theorem d_Md_light_10 : decode c_Md_light 10 = .ok (.sipush 1000, 3) := by decide +kernel
theorem d_Md_light_13 : decode c_Md_light 13 = .ok (.invokestatic 36, 3) := by decide +kernel
theorem d_Md_light_16 : decode c_Md_light 16 = .ok (.ifCond .ne 7, 3) := by decide +kernel
theorem d_Md_light_19 : decode c_Md_light 19 = .ok (.iconst 1, 1) := by decide +kernel
theorem d_Md_light_20 : decode c_Md_light 20 = .ok (.goto 4, 3) := by decide +kernel
theorem d_Md_light_23 : decode c_Md_light 23 = .ok (.iconst 0, 1) := by decide +kernel
theorem d_Md_light_24 : decode c_Md_light 24 = .ok (.putfield 33, 3) := by decide +kernel
theorem d_Md_light_27 : decode c_Md_light 27 = .ok (.aload_n 0, 1) := by decide +kernel
theorem d_Md_light_28 : decode c_Md_light 28 = .ok (.getfield 33, 3) := by decide +kernel
theorem d_Md_light_31 : decode c_Md_light 31 = .ok (.ifCond .le 5, 3) := by decide +kernel
theorem d_Md_light_34 : decode c_Md_light 34 = .ok (.iconst 0, 1) := by decide +kernel
theorem d_Md_light_35 : decode c_Md_light 35 = .ok (.ireturn, 1) := by decide +kernel
theorem d_Md_light_36 : decode c_Md_light 36 = .ok (.aload_n 0, 1) := by decide +kernel
theorem d_Md_light_37 : decode c_Md_light 37 = .ok (.getfield 20, 3) := by decide +kernel
theorem d_Md_light_40 : decode c_Md_light 40 = .ok (.iload_n 1, 1) := by decide +kernel
theorem d_Md_light_41 : decode c_Md_light 41 = .ok (.iaload, 1) := by decide +kernel
theorem d_Md_light_42 : decode c_Md_light 42 = .ok (.istore_n 3, 1) := by decide +kernel
theorem d_Md_light_43 : decode c_Md_light 43 = .ok (.aload_n 0, 1) := by decide +kernel
theorem d_Md_light_44 : decode c_Md_light 44 = .ok (.getfield 20, 3) := by decide +kernel
theorem d_Md_light_47 : decode c_Md_light 47 = .ok (.iload_n 1, 1) := by decide +kernel
theorem d_Md_light_48 : decode c_Md_light 48 = .ok (.iload_n 2, 1) := by decide +kernel
theorem d_Md_light_49 : decode c_Md_light 49 = .ok (.iastore, 1) := by decide +kernel
theorem d_Md_light_50 : decode c_Md_light 50 = .ok (.iload_n 3, 1) := by decide +kernel
theorem d_Md_light_51 : decode c_Md_light 51 = .ok (.ireturn, 1) := by decide +kernel
theorem d_Md_window_0 : decode c_Md_window 0 = .ok (.iload_n 1, 1) := by decide +kernel
theorem d_Md_window_1 : decode c_Md_window 1 = .ok (.ifCond .lt 39, 3) := by decide +kernel
theorem d_Md_window_4 : decode c_Md_window 4 = .ok (.iload_n 2, 1) := by decide +kernel
theorem d_Md_window_5 : decode c_Md_window 5 = .ok (.ifCond .lt 35, 3) := by decide +kernel
theorem d_Md_window_8 : decode c_Md_window 8 = .ok (.iload_n 3, 1) := by decide +kernel
theorem d_Md_window_9 : decode c_Md_window 9 = .ok (.aload_n 0, 1) := by decide +kernel
theorem d_Md_window_10 : decode c_Md_window 10 = .ok (.getfield 26, 3) := by decide +kernel
theorem d_Md_window_13 : decode c_Md_window 13 = .ok (.if_icmp .gt 27, 3) := by decide +kernel
theorem d_Md_window_16 : decode c_Md_window 16 = .ok (.iload 4, 2) := by decide +kernel
theorem d_Md_window_18 : decode c_Md_window 18 = .ok (.aload_n 0, 1) := by decide +kernel
theorem d_Md_window_19 : decode c_Md_window 19 = .ok (.getfield 30, 3) := by decide +kernel
theorem d_Md_window_22 : decode c_Md_window 22 = .ok (.if_icmp .gt 18, 3) := by decide +kernel
theorem d_Md_window_25 : decode c_Md_window 25 = .ok (.iload_n 1, 1) := by decide +kernel
theorem d_Md_window_26 : decode c_Md_window 26 = .ok (.iload_n 3, 1) := by decide +kernel
theorem d_Md_window_27 : decode c_Md_window 27 = .ok (.if_icmp .ge 13, 3) := by decide +kernel
theorem d_Md_window_30 : decode c_Md_window 30 = .ok (.iload_n 2, 1) := by decide +kernel
theorem d_Md_window_31 : decode c_Md_window 31 = .ok (.iload 4, 2) := by decide +kernel
theorem d_Md_window_33 : decode c_Md_window 33 = .ok (.if_icmp .ge 7, 3) := by decide +kernel
theorem d_Md_window_36 : decode c_Md_window 36 = .ok (.iconst 1, 1) := by decide +kernel
theorem d_Md_window_37 : decode c_Md_window 37 = .ok (.goto 4, 3) := by decide +kernel
theorem d_Md_window_40 : decode c_Md_window 40 = .ok (.iconst 0, 1) := by decide +kernel
theorem d_Md_window_41 : decode c_Md_window 41 = .ok (.istore 5, 2) := by decide +kernel
theorem d_Md_window_43 : decode c_Md_window 43 = .ok (.aload_n 0, 1) := by decide +kernel
theorem d_Md_window_44 : decode c_Md_window 44 = .ok (.iload 5, 2) := by decide +kernel
theorem d_Md_window_46 : decode c_Md_window 46 = .ok (.ifCond .ne 7, 3) := by decide +kernel
theorem d_Md_window_49 : decode c_Md_window 49 = .ok (.iconst 1, 1) := by decide +kernel
theorem d_Md_window_50 : decode c_Md_window 50 = .ok (.goto 17, 3) := by decide +kernel
theorem d_Md_window_53 : decode c_Md_window 53 = .ok (.aload_n 0, 1) := by decide +kernel
theorem d_Md_window_54 : decode c_Md_window 54 = .ok (.getfield 58, 3) := by decide +kernel
theorem d_Md_window_57 : decode c_Md_window 57 = .ok (.bipush 10, 2) := by decide +kernel
theorem d_Md_window_59 : decode c_Md_window 59 = .ok (.if_icmp .ne 7, 3) := by decide +kernel
theorem d_Md_window_62 : decode c_Md_window 62 = .ok (.iconst 2, 1) := by decide +kernel
theorem d_Md_window_63 : decode c_Md_window 63 = .ok (.goto 4, 3) := by decide +kernel
theorem d_Md_window_66 : decode c_Md_window 66 = .ok (.iconst 0, 1) := by decide +kernel
theorem d_Md_window_67 : decode c_Md_window 67 = .ok (.putfield 33, 3) := by decide +kernel
theorem d_Md_window_70 : decode c_Md_window 70 = .ok (.aload_n 0, 1) := by decide +kernel
theorem d_Md_window_71 : decode c_Md_window 71 = .ok (.getfield 33, 3) := by decide +kernel
theorem d_Md_window_74 : decode c_Md_window 74 = .ok (.ifCond .le 5, 3) := by decide +kernel
theorem d_Md_window_77 : decode c_Md_window 77 = .ok (.iconst 0, 1) := by decide +kernel
theorem d_Md_window_78 : decode c_Md_window 78 = .ok (.ireturn, 1) := by decide +kernel
theorem d_Md_window_79 : decode c_Md_window 79 = .ok (.aload_n 0, 1) := by decide +kernel
theorem d_Md_window_80 : decode c_Md_window 80 = .ok (.getfield 23, 3) := by decide +kernel
theorem d_Md_window_83 : decode c_Md_window 83 = .ok (.iconst 4, 1) := by decide +kernel
theorem d_Md_window_84 : decode c_Md_window 84 = .ok (.aload_n 0, 1) := by decide +kernel
theorem d_Md_window_85 : decode c_Md_window 85 = .ok (.getfield 58, 3) := by decide +kernel
theorem d_Md_window_88 : decode c_Md_window 88 = .ok (.imul, 1) := by decide +kernel
theorem d_Md_window_89 : decode c_Md_window 89 = .ok (.iload_n 1, 1) := by decide +kernel
theorem d_Md_window_90 : decode c_Md_window 90 = .ok (.iastore, 1) := by decide +kernel
theorem d_Md_window_91 : decode c_Md_window 91 = .ok (.aload_n 0, 1) := by decide +kernel
theorem d_Md_window_92 : decode c_Md_window 92 = .ok (.getfield 23, 3) := by decide +kernel
theorem d_Md_window_95 : decode c_Md_window 95 = .ok (.iconst 4, 1) := by decide +kernel
theorem d_Md_window_96 : decode c_Md_window 96 = .ok (.aload_n 0, 1) := by decide +kernel
theorem d_Md_window_97 : decode c_Md_window 97 = .ok (.getfield 58, 3) := by decide +kernel
theorem d_Md_window_100 : decode c_Md_window 100 = .ok (.imul, 1) := by decide +kernel
theorem d_Md_window_101 : decode c_Md_window 101 = .ok (.iconst 1, 1) := by decide +kernel
theorem d_Md_window_102 : decode c_Md_window 102 = .ok (.iadd, 1) := by decide +kernel
theorem d_Md_window_103 : decode c_Md_window 103 = .ok (.iload_n 2, 1) := by decide +kernel
theorem d_Md_window_104 : decode c_Md_window 104 = .ok (.iastore, 1) := by decide +kernel
theorem d_Md_window_105 : decode c_Md_window 105 = .ok (.aload_n 0, 1) := by decide +kernel
theorem d_Md_window_106 : decode c_Md_window 106 = .ok (.getfield 23, 3) := by decide +kernel
theorem d_Md_window_109 : decode c_Md_window 109 = .ok (.iconst 4, 1) := by decide +kernel
theorem d_Md_window_110 : decode c_Md_window 110 = .ok (.aload_n 0, 1) := by decide +kernel
theorem d_Md_window_111 : decode c_Md_window 111 = .ok (.getfield 58, 3) := by decide +kernel
theorem d_Md_window_114 : decode c_Md_window 114 = .ok (.imul, 1) := by decide +kernel
theorem d_Md_window_115 : decode c_Md_window 115 = .ok (.iconst 2, 1) := by decide +kernel
theorem d_Md_window_116 : decode c_Md_window 116 = .ok (.iadd, 1) := by decide +kernel
theorem d_Md_window_117 : decode c_Md_window 117 = .ok (.iload_n 3, 1) := by decide +kernel
theorem d_Md_window_118 : decode c_Md_window 118 = .ok (.iastore, 1) := by decide +kernel
theorem d_Md_window_119 : decode c_Md_window 119 = .ok (.aload_n 0, 1) := by decide +kernel
theorem d_Md_window_120 : decode c_Md_window 120 = .ok (.getfield 23, 3) := by decide +kernel
theorem d_Md_window_123 : decode c_Md_window 123 = .ok (.iconst 4, 1) := by decide +kernel
theorem d_Md_window_124 : decode c_Md_window 124 = .ok (.aload_n 0, 1) := by decide +kernel
theorem d_Md_window_125 : decode c_Md_window 125 = .ok (.getfield 58, 3) := by decide +kernel
theorem d_Md_window_128 : decode c_Md_window 128 = .ok (.imul, 1) := by decide +kernel
theorem d_Md_window_129 : decode c_Md_window 129 = .ok (.iconst 3, 1) := by decide +kernel
theorem d_Md_window_130 : decode c_Md_window 130 = .ok (.iadd, 1) := by decide +kernel
theorem d_Md_window_131 : decode c_Md_window 131 = .ok (.iload 4, 2) := by decide +kernel
theorem d_Md_window_133 : decode c_Md_window 133 = .ok (.iastore, 1) := by decide +kernel
theorem d_Md_window_134 : decode c_Md_window 134 = .ok (.aload_n 0, 1) := by decide +kernel
theorem d_Md_window_135 : decode c_Md_window 135 = .ok (.dup, 1) := by decide +kernel
theorem d_Md_window_136 : decode c_Md_window 136 = .ok (.getfield 58, 3) := by decide +kernel
theorem d_Md_window_139 : decode c_Md_window 139 = .ok (.iconst 1, 1) := by decide +kernel
theorem d_Md_window_140 : decode c_Md_window 140 = .ok (.iadd, 1) := by decide +kernel
theorem d_Md_window_141 : decode c_Md_window 141 = .ok (.putfield 58, 3) := by decide +kernel
theorem d_Md_window_144 : decode c_Md_window 144 = .ok (.aload_n 0, 1) := by decide +kernel
theorem d_Md_window_145 : decode c_Md_window 145 = .ok (.getfield 58, 3) := by decide +kernel
theorem d_Md_window_148 : decode c_Md_window 148 = .ok (.iconst 1, 1) := by decide +kernel
theorem d_Md_window_149 : decode c_Md_window 149 = .ok (.isub, 1) := by decide +kernel
theorem d_Md_window_150 : decode c_Md_window 150 = .ok (.ireturn, 1) := by decide +kernel
theorem d_Md_shadow_0 : decode c_Md_shadow 0 = .ok (.aload_n 0, 1) := by decide +kernel
theorem d_Md_shadow_1 : decode c_Md_shadow 1 = .ok (.aload_n 0, 1) := by decide +kernel
theorem d_Md_shadow_2 : decode c_Md_shadow 2 = .ok (.iload_n 1, 1) := by decide +kernel
theorem d_Md_shadow_3 : decode c_Md_shadow 3 = .ok (.iconst 0, 1) := by decide +kernel
theorem d_Md_shadow_4 : decode c_Md_shadow 4 = .ok (.aload_n 0, 1) := by decide +kernel
theorem d_Md_shadow_5 : decode c_Md_shadow 5 = .ok (.getfield 26, 3) := by decide +kernel
theorem d_Md_shadow_8 : decode c_Md_shadow 8 = .ok (.iconst 1, 1) := by decide +kernel
theorem d_Md_shadow_9 : decode c_Md_shadow 9 = .ok (.isub, 1) := by decide +kernel
theorem d_Md_shadow_10 : decode c_Md_shadow 10 = .ok (.invokestatic 36, 3) := by decide +kernel
theorem d_Md_shadow_13 : decode c_Md_shadow 13 = .ok (.ifCond .eq 21, 3) := by decide +kernel
theorem d_Md_shadow_16 : decode c_Md_shadow 16 = .ok (.iload_n 2, 1) := by decide +kernel
theorem d_Md_shadow_17 : decode c_Md_shadow 17 = .ok (.iconst 0, 1) := by decide +kernel
theorem d_Md_shadow_18 : decode c_Md_shadow 18 = .ok (.aload_n 0, 1) := by decide +kernel
theorem d_Md_shadow_19 : decode c_Md_shadow 19 = .ok (.getfield 30, 3) := by decide +kernel
theorem d_Md_shadow_22 : decode c_Md_shadow 22 = .ok (.iconst 1, 1) := by decide +kernel
theorem d_Md_shadow_23 : decode c_Md_shadow 23 = .ok (.isub, 1) := by decide +kernel
theorem d_Md_shadow_24 : decode c_Md_shadow 24 = .ok (.invokestatic 36, 3) := by decide +kernel
theorem d_Md_shadow_27 : decode c_Md_shadow 27 = .ok (.ifCond .eq 7, 3) := by decide +kernel
theorem d_Md_shadow_30 : decode c_Md_shadow 30 = .ok (.iconst 1, 1) := by decide +kernel
theorem d_Md_shadow_31 : decode c_Md_shadow 31 = .ok (.goto 4, 3) := by decide +kernel
theorem d_Md_shadow_34 : decode c_Md_shadow 34 = .ok (.iconst 0, 1) := by decide +kernel
theorem d_Md_shadow_35 : decode c_Md_shadow 35 = .ok (.iload_n 3, 1) := by decide +kernel
theorem d_Md_shadow_36 : decode c_Md_shadow 36 = .ok (.invokevirtual 91, 3) := by decide +kernel
theorem d_Md_shadow_39 : decode c_Md_shadow 39 = .ok (.putfield 33, 3) := by decide +kernel
theorem d_Md_shadow_42 : decode c_Md_shadow 42 = .ok (.aload_n 0, 1) := by decide +kernel
theorem d_Md_shadow_43 : decode c_Md_shadow 43 = .ok (.getfield 33, 3) := by decide +kernel
theorem d_Md_shadow_46 : decode c_Md_shadow 46 = .ok (.ifCond .ne 19, 3) := by decide +kernel
theorem d_Md_shadow_49 : decode c_Md_shadow 49 = .ok (.aload_n 0, 1) := by decide +kernel
theorem d_Md_shadow_50 : decode c_Md_shadow 50 = .ok (.iload_n 1, 1) := by decide +kernel
theorem d_Md_shadow_51 : decode c_Md_shadow 51 = .ok (.iload_n 2, 1) := by decide +kernel
theorem d_Md_shadow_52 : decode c_Md_shadow 52 = .ok (.iload_n 3, 1) := by decide +kernel
theorem d_Md_shadow_53 : decode c_Md_shadow 53 = .ok (.iconst (-1), 1) := by decide +kernel
theorem d_Md_shadow_54 : decode c_Md_shadow 54 = .ok (.iconst 0, 1) := by decide +kernel
theorem d_Md_shadow_55 : decode c_Md_shadow 55 = .ok (.invokevirtual 95, 3) := by decide +kernel
theorem d_Md_shadow_58 : decode c_Md_shadow 58 = .ok (.ifCond .eq 7, 3) := by decide +kernel
theorem d_Md_shadow_61 : decode c_Md_shadow 61 = .ok (.iconst 1, 1) := by decide +kernel
theorem d_Md_shadow_62 : decode c_Md_shadow 62 = .ok (.goto 4, 3) := by decide +kernel
theorem d_Md_shadow_65 : decode c_Md_shadow 65 = .ok (.iconst 0, 1) := by decide +kernel
theorem d_Md_shadow_66 : decode c_Md_shadow 66 = .ok (.ireturn, 1) := by decide +kernel
theorem d_Md_check_0 : decode c_Md_check 0 = .ok (.iload_n 1, 1) := by decide +kernel
theorem d_Md_check_1 : decode c_Md_check 1 = .ok (.ifCond .eq 10, 3) := by decide +kernel
theorem d_Md_check_4 : decode c_Md_check 4 = .ok (.iload_n 2, 1) := by decide +kernel
theorem d_Md_check_5 : decode c_Md_check 5 = .ok (.invokestatic 55, 3) := by decide +kernel
theorem d_Md_check_8 : decode c_Md_check 8 = .ok (.ifCond .eq 7, 3) := by decide +kernel
theorem d_Md_check_11 : decode c_Md_check 11 = .ok (.iconst 1, 1) := by decide +kernel
theorem d_Md_check_12 : decode c_Md_check 12 = .ok (.goto 21, 3) := by decide +kernel
theorem d_Md_check_15 : decode c_Md_check 15 = .ok (.aload_n 0, 1) := by decide +kernel
theorem d_Md_check_16 : decode c_Md_check 16 = .ok (.getfield 17, 3) := by decide +kernel
theorem d_Md_check_19 : decode c_Md_check 19 = .ok (.iconst 3, 1) := by decide +kernel
theorem d_Md_check_20 : decode c_Md_check 20 = .ok (.iload_n 2, 1) := by decide +kernel
theorem d_Md_check_21 : decode c_Md_check 21 = .ok (.imul, 1) := by decide +kernel
theorem d_Md_check_22 : decode c_Md_check 22 = .ok (.iconst 2, 1) := by decide +kernel
theorem d_Md_check_23 : decode c_Md_check 23 = .ok (.iadd, 1) := by decide +kernel
theorem d_Md_check_24 : decode c_Md_check 24 = .ok (.iaload, 1) := by decide +kernel
theorem d_Md_check_25 : decode c_Md_check 25 = .ok (.ifCond .ne 7, 3) := by decide +kernel
theorem d_Md_check_28 : decode c_Md_check 28 = .ok (.iconst 2, 1) := by decide +kernel
theorem d_Md_check_29 : decode c_Md_check 29 = .ok (.goto 4, 3) := by decide +kernel
theorem d_Md_check_32 : decode c_Md_check 32 = .ok (.iconst 0, 1) := by decide +kernel
theorem d_Md_check_33 : decode c_Md_check 33 = .ok (.ireturn, 1) := by decide +kernel
theorem d_Md_isDark_0 : decode c_Md_isDark 0 = .ok (.iload 5, 2) := by decide +kernel
theorem d_Md_isDark_2 : decode c_Md_isDark 2 = .ok (.ifCond .eq 19, 3) := by decide +kernel
theorem d_Md_isDark_5 : decode c_Md_isDark 5 = .ok (.aload_n 0, 1) := by decide +kernel
theorem d_Md_isDark_6 : decode c_Md_isDark 6 = .ok (.bipush 10, 2) := by decide +kernel
theorem d_Md_isDark_8 : decode c_Md_isDark 8 = .ok (.iload_n 1, 1) := by decide +kernel
theorem d_Md_isDark_9 : decode c_Md_isDark 9 = .ok (.iload_n 2, 1) := by decide +kernel
theorem d_Md_isDark_10 : decode c_Md_isDark 10 = .ok (.iload_n 3, 1) := by decide +kernel
theorem d_Md_isDark_11 : decode c_Md_isDark 11 = .ok (.invokevirtual 87, 3) := by decide +kernel
theorem d_Md_isDark_14 : decode c_Md_isDark 14 = .ok (.ifCond .eq 7, 3) := by decide +kernel
theorem d_Md_isDark_17 : decode c_Md_isDark 17 = .ok (.iconst 1, 1) := by decide +kernel
theorem d_Md_isDark_18 : decode c_Md_isDark 18 = .ok (.goto 4, 3) := by decide +kernel
theorem d_Md_isDark_21 : decode c_Md_isDark 21 = .ok (.iconst 0, 1) := by decide +kernel
theorem d_Md_isDark_22 : decode c_Md_isDark 22 = .ok (.istore 6, 2) := by decide +kernel
theorem d_Md_isDark_24 : decode c_Md_isDark 24 = .ok (.iconst 0, 1) := by decide +kernel
theorem d_Md_isDark_25 : decode c_Md_isDark 25 = .ok (.istore 7, 2) := by decide +kernel
theorem d_Md_isDark_27 : decode c_Md_isDark 27 = .ok (.iload 7, 2) := by decide +kernel
theorem d_Md_isDark_29 : decode c_Md_isDark 29 = .ok (.aload_n 0, 1) := by decide +kernel
theorem d_Md_isDark_30 : decode c_Md_isDark 30 = .ok (.getfield 44, 3) := by decide +kernel
theorem d_Md_isDark_33 : decode c_Md_isDark 33 = .ok (.if_icmp .ge 50, 3) := by decide +kernel
theorem d_Md_isDark_36 : decode c_Md_isDark 36 = .ok (.iload 6, 2) := by decide +kernel
theorem d_Md_isDark_38 : decode c_Md_isDark 38 = .ok (.ifCond .ne 45, 3) := by decide +kernel
theorem d_Md_isDark_41 : decode c_Md_isDark 41 = .ok (.aload_n 0, 1) := by decide +kernel
theorem d_Md_isDark_42 : decode c_Md_isDark 42 = .ok (.getfield 13, 3) := by decide +kernel
theorem d_Md_isDark_45 : decode c_Md_isDark 45 = .ok (.iload 7, 2) := by decide +kernel
theorem d_Md_isDark_47 : decode c_Md_isDark 47 = .ok (.baload, 1) := by decide +kernel
theorem d_Md_isDark_48 : decode c_Md_isDark 48 = .ok (.ifCond .eq 26, 3) := by decide +kernel
theorem d_Md_isDark_51 : decode c_Md_isDark 51 = .ok (.iload 7, 2) := by decide +kernel
theorem d_Md_isDark_53 : decode c_Md_isDark 53 = .ok (.iload 4, 2) := by decide +kernel
theorem d_Md_isDark_55 : decode c_Md_isDark 55 = .ok (.if_icmp .eq 19, 3) := by decide +kernel
theorem d_Md_isDark_58 : decode c_Md_isDark 58 = .ok (.aload_n 0, 1) := by decide +kernel
theorem d_Md_isDark_59 : decode c_Md_isDark 59 = .ok (.iload 7, 2) := by decide +kernel
theorem d_Md_isDark_61 : decode c_Md_isDark 61 = .ok (.iload_n 1, 1) := by decide +kernel
theorem d_Md_isDark_62 : decode c_Md_isDark 62 = .ok (.iload_n 2, 1) := by decide +kernel
theorem d_Md_isDark_63 : decode c_Md_isDark 63 = .ok (.iload_n 3, 1) := by decide +kernel
theorem d_Md_isDark_64 : decode c_Md_isDark 64 = .ok (.invokevirtual 87, 3) := by decide +kernel
theorem d_Md_isDark_67 : decode c_Md_isDark 67 = .ok (.ifCond .eq 7, 3) := by decide +kernel
theorem d_Md_isDark_70 : decode c_Md_isDark 70 = .ok (.iconst 1, 1) := by decide +kernel
theorem d_Md_isDark_71 : decode c_Md_isDark 71 = .ok (.goto 4, 3) := by decide +kernel
theorem d_Md_isDark_74 : decode c_Md_isDark 74 = .ok (.iconst 0, 1) := by decide +kernel
theorem d_Md_isDark_75 : decode c_Md_isDark 75 = .ok (.istore 6, 2) := by decide +kernel
theorem d_Md_isDark_77 : decode c_Md_isDark 77 = .ok (.iinc 7 1, 3) := by decide +kernel
theorem d_Md_isDark_80 : decode c_Md_isDark 80 = .ok (.goto (-53), 3) := by decide +kernel
theorem d_Md_isDark_83 : decode c_Md_isDark 83 = .ok (.iload 6, 2) := by decide +kernel
theorem d_Md_isDark_85 : decode c_Md_isDark 85 = .ok (.ireturn, 1) := by decide +kernel
theorem d_Md_throwsOn_0 : decode c_Md_throwsOn 0 = .ok (.aload_n 0, 1) := by decide +kernel
theorem d_Md_throwsOn_1 : decode c_Md_throwsOn 1 = .ok (.getfield 17, 3) := by decide +kernel
theorem d_Md_throwsOn_4 : decode c_Md_throwsOn 4 = .ok (.iconst 3, 1) := by decide +kernel
theorem d_Md_throwsOn_5 : decode c_Md_throwsOn 5 = .ok (.iload 4, 2) := by decide +kernel
theorem d_Md_throwsOn_7 : decode c_Md_throwsOn 7 = .ok (.imul, 1) := by decide +kernel
theorem d_Md_throwsOn_8 : decode c_Md_throwsOn 8 = .ok (.iaload, 1) := by decide +kernel
theorem d_Md_throwsOn_9 : decode c_Md_throwsOn 9 = .ok (.i2l, 1) := by decide +kernel
theorem d_Md_throwsOn_10 : decode c_Md_throwsOn 10 = .ok (.lstore 5, 2) := by decide +kernel
theorem d_Md_throwsOn_12 : decode c_Md_throwsOn 12 = .ok (.aload_n 0, 1) := by decide +kernel
theorem d_Md_throwsOn_13 : decode c_Md_throwsOn 13 = .ok (.getfield 17, 3) := by decide +kernel
theorem d_Md_throwsOn_16 : decode c_Md_throwsOn 16 = .ok (.iconst 3, 1) := by decide +kernel
theorem d_Md_throwsOn_17 : decode c_Md_throwsOn 17 = .ok (.iload 4, 2) := by decide +kernel
theorem d_Md_throwsOn_19 : decode c_Md_throwsOn 19 = .ok (.imul, 1) := by decide +kernel
theorem d_Md_throwsOn_20 : decode c_Md_throwsOn 20 = .ok (.iconst 1, 1) := by decide +kernel
theorem d_Md_throwsOn_21 : decode c_Md_throwsOn 21 = .ok (.iadd, 1) := by decide +kernel
theorem d_Md_throwsOn_22 : decode c_Md_throwsOn 22 = .ok (.iaload, 1) := by decide +kernel
theorem d_Md_throwsOn_23 : decode c_Md_throwsOn 23 = .ok (.i2l, 1) := by decide +kernel
theorem d_Md_throwsOn_24 : decode c_Md_throwsOn 24 = .ok (.lstore 7, 2) := by decide +kernel
theorem d_Md_throwsOn_26 : decode c_Md_throwsOn 26 = .ok (.aload_n 0, 1) := by decide +kernel
theorem d_Md_throwsOn_27 : decode c_Md_throwsOn 27 = .ok (.getfield 17, 3) := by decide +kernel
theorem d_Md_throwsOn_30 : decode c_Md_throwsOn 30 = .ok (.iconst 3, 1) := by decide +kernel
theorem d_Md_throwsOn_31 : decode c_Md_throwsOn 31 = .ok (.iload 4, 2) := by decide +kernel
theorem d_Md_throwsOn_33 : decode c_Md_throwsOn 33 = .ok (.imul, 1) := by decide +kernel
theorem d_Md_throwsOn_34 : decode c_Md_throwsOn 34 = .ok (.iconst 2, 1) := by decide +kernel
theorem d_Md_throwsOn_35 : decode c_Md_throwsOn 35 = .ok (.iadd, 1) := by decide +kernel
theorem d_Md_throwsOn_36 : decode c_Md_throwsOn 36 = .ok (.iaload, 1) := by decide +kernel
theorem d_Md_throwsOn_37 : decode c_Md_throwsOn 37 = .ok (.i2l, 1) := by decide +kernel
theorem d_Md_throwsOn_38 : decode c_Md_throwsOn 38 = .ok (.lstore 9, 2) := by decide +kernel
theorem d_Md_throwsOn_40 : decode c_Md_throwsOn 40 = .ok (.aload_n 0, 1) := by decide +kernel
theorem d_Md_throwsOn_41 : decode c_Md_throwsOn 41 = .ok (.aload_n 0, 1) := by decide +kernel
theorem d_Md_throwsOn_42 : decode c_Md_throwsOn 42 = .ok (.getfield 7, 3) := by decide +kernel
theorem d_Md_throwsOn_45 : decode c_Md_throwsOn 45 = .ok (.bipush 6, 2) := by decide +kernel
theorem d_Md_throwsOn_47 : decode c_Md_throwsOn 47 = .ok (.iload_n 1, 1) := by decide +kernel
theorem d_Md_throwsOn_48 : decode c_Md_throwsOn 48 = .ok (.imul, 1) := by decide +kernel
theorem d_Md_throwsOn_49 : decode c_Md_throwsOn 49 = .ok (.iconst 2, 1) := by decide +kernel
theorem d_Md_throwsOn_50 : decode c_Md_throwsOn 50 = .ok (.iadd, 1) := by decide +kernel
theorem d_Md_throwsOn_51 : decode c_Md_throwsOn 51 = .ok (.iaload, 1) := by decide +kernel
theorem d_Md_throwsOn_52 : decode c_Md_throwsOn 52 = .ok (.i2l, 1) := by decide +kernel
theorem d_Md_throwsOn_53 : decode c_Md_throwsOn 53 = .ok (.putfield 65, 3) := by decide +kernel
theorem d_Md_throwsOn_56 : decode c_Md_throwsOn 56 = .ok (.aload_n 0, 1) := by decide +kernel
theorem d_Md_throwsOn_57 : decode c_Md_throwsOn 57 = .ok (.lconst 1, 1) := by decide +kernel
theorem d_Md_throwsOn_58 : decode c_Md_throwsOn 58 = .ok (.putfield 61, 3) := by decide +kernel
theorem d_Md_throwsOn_61 : decode c_Md_throwsOn 61 = .ok (.aload_n 0, 1) := by decide +kernel
theorem d_Md_throwsOn_62 : decode c_Md_throwsOn 62 = .ok (.aload_n 0, 1) := by decide +kernel
theorem d_Md_throwsOn_63 : decode c_Md_throwsOn 63 = .ok (.getfield 7, 3) := by decide +kernel
theorem d_Md_throwsOn_66 : decode c_Md_throwsOn 66 = .ok (.bipush 6, 2) := by decide +kernel
theorem d_Md_throwsOn_68 : decode c_Md_throwsOn 68 = .ok (.iload_n 1, 1) := by decide +kernel
theorem d_Md_throwsOn_69 : decode c_Md_throwsOn 69 = .ok (.imul, 1) := by decide +kernel
theorem d_Md_throwsOn_70 : decode c_Md_throwsOn 70 = .ok (.iconst 5, 1) := by decide +kernel
theorem d_Md_throwsOn_71 : decode c_Md_throwsOn 71 = .ok (.iadd, 1) := by decide +kernel
theorem d_Md_throwsOn_72 : decode c_Md_throwsOn 72 = .ok (.iaload, 1) := by decide +kernel
theorem d_Md_throwsOn_73 : decode c_Md_throwsOn 73 = .ok (.i2l, 1) := by decide +kernel
theorem d_Md_throwsOn_74 : decode c_Md_throwsOn 74 = .ok (.putfield 71, 3) := by decide +kernel
theorem d_Md_throwsOn_77 : decode c_Md_throwsOn 77 = .ok (.aload_n 0, 1) := by decide +kernel
theorem d_Md_throwsOn_78 : decode c_Md_throwsOn 78 = .ok (.lconst 1, 1) := by decide +kernel
theorem d_Md_throwsOn_79 : decode c_Md_throwsOn 79 = .ok (.putfield 68, 3) := by decide +kernel
theorem d_Md_throwsOn_82 : decode c_Md_throwsOn 82 = .ok (.aload_n 0, 1) := by decide +kernel
theorem d_Md_throwsOn_83 : decode c_Md_throwsOn 83 = .ok (.ldc2_w 81, 3) := by decide +kernel
theorem d_Md_throwsOn_86 : decode c_Md_throwsOn 86 = .ok (.iload_n 2, 1) := by decide +kernel
theorem d_Md_throwsOn_87 : decode c_Md_throwsOn 87 = .ok (.i2l, 1) := by decide +kernel
theorem d_Md_throwsOn_88 : decode c_Md_throwsOn 88 = .ok (.lmul, 1) := by decide +kernel
theorem d_Md_throwsOn_89 : decode c_Md_throwsOn 89 = .ok (.lconst 1, 1) := by decide +kernel
theorem d_Md_throwsOn_90 : decode c_Md_throwsOn 90 = .ok (.ladd, 1) := by decide +kernel
theorem d_Md_throwsOn_91 : decode c_Md_throwsOn 91 = .ok (.lload 9, 2) := by decide +kernel
theorem d_Md_throwsOn_93 : decode c_Md_throwsOn 93 = .ok (.lmul, 1) := by decide +kernel
theorem d_Md_throwsOn_94 : decode c_Md_throwsOn 94 = .ok (.ldc2_w 81, 3) := by decide +kernel
theorem d_Md_throwsOn_97 : decode c_Md_throwsOn 97 = .ok (.lload 5, 2) := by decide +kernel
theorem d_Md_throwsOn_99 : decode c_Md_throwsOn 99 = .ok (.lmul, 1) := by decide +kernel
theorem d_Md_throwsOn_100 : decode c_Md_throwsOn 100 = .ok (.ldc2_w 81, 3) := by decide +kernel
theorem d_Md_throwsOn_103 : decode c_Md_throwsOn 103 = .ok (.lload 9, 2) := by decide +kernel
theorem d_Md_throwsOn_105 : decode c_Md_throwsOn 105 = .ok (.lmul, 1) := by decide +kernel
theorem d_Md_throwsOn_106 : decode c_Md_throwsOn 106 = .ok (.aload_n 0, 1) := by decide +kernel
theorem d_Md_throwsOn_107 : decode c_Md_throwsOn 107 = .ok (.getfield 7, 3) := by decide +kernel
theorem d_Md_throwsOn_110 : decode c_Md_throwsOn 110 = .ok (.bipush 6, 2) := by decide +kernel
theorem d_Md_throwsOn_112 : decode c_Md_throwsOn 112 = .ok (.iload_n 1, 1) := by decide +kernel
theorem d_Md_throwsOn_113 : decode c_Md_throwsOn 113 = .ok (.imul, 1) := by decide +kernel
theorem d_Md_throwsOn_114 : decode c_Md_throwsOn 114 = .ok (.iaload, 1) := by decide +kernel
theorem d_Md_throwsOn_115 : decode c_Md_throwsOn 115 = .ok (.i2l, 1) := by decide +kernel
theorem d_Md_throwsOn_116 : decode c_Md_throwsOn 116 = .ok (.lmul, 1) := by decide +kernel
theorem d_Md_throwsOn_117 : decode c_Md_throwsOn 117 = .ok (.ldc2_w 81, 3) := by decide +kernel
theorem d_Md_throwsOn_120 : decode c_Md_throwsOn 120 = .ok (.lload 9, 2) := by decide +kernel
theorem d_Md_throwsOn_122 : decode c_Md_throwsOn 122 = .ok (.lmul, 1) := by decide +kernel
theorem d_Md_throwsOn_123 : decode c_Md_throwsOn 123 = .ok (.aload_n 0, 1) := by decide +kernel
theorem d_Md_throwsOn_124 : decode c_Md_throwsOn 124 = .ok (.getfield 7, 3) := by decide +kernel
theorem d_Md_throwsOn_127 : decode c_Md_throwsOn 127 = .ok (.bipush 6, 2) := by decide +kernel
theorem d_Md_throwsOn_129 : decode c_Md_throwsOn 129 = .ok (.iload_n 1, 1) := by decide +kernel
theorem d_Md_throwsOn_130 : decode c_Md_throwsOn 130 = .ok (.imul, 1) := by decide +kernel
theorem d_Md_throwsOn_131 : decode c_Md_throwsOn 131 = .ok (.iconst 3, 1) := by decide +kernel
theorem d_Md_throwsOn_132 : decode c_Md_throwsOn 132 = .ok (.iadd, 1) := by decide +kernel
theorem d_Md_throwsOn_133 : decode c_Md_throwsOn 133 = .ok (.iaload, 1) := by decide +kernel
theorem d_Md_throwsOn_134 : decode c_Md_throwsOn 134 = .ok (.i2l, 1) := by decide +kernel
theorem d_Md_throwsOn_135 : decode c_Md_throwsOn 135 = .ok (.lmul, 1) := by decide +kernel
theorem d_Md_throwsOn_136 : decode c_Md_throwsOn 136 = .ok (.invokevirtual 83, 3) := by decide +kernel
theorem d_Md_throwsOn_139 : decode c_Md_throwsOn 139 = .ok (.istore 11, 2) := by decide +kernel
theorem d_Md_throwsOn_141 : decode c_Md_throwsOn 141 = .ok (.iload 11, 2) := by decide +kernel
theorem d_Md_throwsOn_143 : decode c_Md_throwsOn 143 = .ok (.ifCond .eq 69, 3) := by decide +kernel
theorem d_Md_throwsOn_146 : decode c_Md_throwsOn 146 = .ok (.aload_n 0, 1) := by decide +kernel
theorem d_Md_throwsOn_147 : decode c_Md_throwsOn 147 = .ok (.ldc2_w 81, 3) := by decide +kernel
theorem d_Md_throwsOn_150 : decode c_Md_throwsOn 150 = .ok (.iload_n 3, 1) := by decide +kernel
theorem d_Md_throwsOn_151 : decode c_Md_throwsOn 151 = .ok (.i2l, 1) := by decide +kernel
theorem d_Md_throwsOn_152 : decode c_Md_throwsOn 152 = .ok (.lmul, 1) := by decide +kernel
theorem d_Md_throwsOn_153 : decode c_Md_throwsOn 153 = .ok (.lconst 1, 1) := by decide +kernel
theorem d_Md_throwsOn_154 : decode c_Md_throwsOn 154 = .ok (.ladd, 1) := by decide +kernel
theorem d_Md_throwsOn_155 : decode c_Md_throwsOn 155 = .ok (.lload 9, 2) := by decide +kernel
theorem d_Md_throwsOn_157 : decode c_Md_throwsOn 157 = .ok (.lmul, 1) := by decide +kernel
theorem d_Md_throwsOn_158 : decode c_Md_throwsOn 158 = .ok (.ldc2_w 81, 3) := by decide +kernel
theorem d_Md_throwsOn_161 : decode c_Md_throwsOn 161 = .ok (.lload 7, 2) := by decide +kernel
theorem d_Md_throwsOn_163 : decode c_Md_throwsOn 163 = .ok (.lmul, 1) := by decide +kernel
theorem d_Md_throwsOn_164 : decode c_Md_throwsOn 164 = .ok (.ldc2_w 81, 3) := by decide +kernel
theorem d_Md_throwsOn_167 : decode c_Md_throwsOn 167 = .ok (.lload 9, 2) := by decide +kernel
theorem d_Md_throwsOn_169 : decode c_Md_throwsOn 169 = .ok (.lmul, 1) := by decide +kernel
theorem d_Md_throwsOn_170 : decode c_Md_throwsOn 170 = .ok (.aload_n 0, 1) := by decide +kernel
theorem d_Md_throwsOn_171 : decode c_Md_throwsOn 171 = .ok (.getfield 7, 3) := by decide +kernel
theorem d_Md_throwsOn_174 : decode c_Md_throwsOn 174 = .ok (.bipush 6, 2) := by decide +kernel
theorem d_Md_throwsOn_176 : decode c_Md_throwsOn 176 = .ok (.iload_n 1, 1) := by decide +kernel
theorem d_Md_throwsOn_177 : decode c_Md_throwsOn 177 = .ok (.imul, 1) := by decide +kernel
theorem d_Md_throwsOn_178 : decode c_Md_throwsOn 178 = .ok (.iconst 1, 1) := by decide +kernel
theorem d_Md_throwsOn_179 : decode c_Md_throwsOn 179 = .ok (.iadd, 1) := by decide +kernel
theorem d_Md_throwsOn_180 : decode c_Md_throwsOn 180 = .ok (.iaload, 1) := by decide +kernel
theorem d_Md_throwsOn_181 : decode c_Md_throwsOn 181 = .ok (.i2l, 1) := by decide +kernel
theorem d_Md_throwsOn_182 : decode c_Md_throwsOn 182 = .ok (.lmul, 1) := by decide +kernel
theorem d_Md_throwsOn_183 : decode c_Md_throwsOn 183 = .ok (.ldc2_w 81, 3) := by decide +kernel
theorem d_Md_throwsOn_186 : decode c_Md_throwsOn 186 = .ok (.lload 9, 2) := by decide +kernel
theorem d_Md_throwsOn_188 : decode c_Md_throwsOn 188 = .ok (.lmul, 1) := by decide +kernel
theorem d_Md_throwsOn_189 : decode c_Md_throwsOn 189 = .ok (.aload_n 0, 1) := by decide +kernel
theorem d_Md_throwsOn_190 : decode c_Md_throwsOn 190 = .ok (.getfield 7, 3) := by decide +kernel
theorem d_Md_throwsOn_193 : decode c_Md_throwsOn 193 = .ok (.bipush 6, 2) := by decide +kernel
theorem d_Md_throwsOn_195 : decode c_Md_throwsOn 195 = .ok (.iload_n 1, 1) := by decide +kernel
theorem d_Md_throwsOn_196 : decode c_Md_throwsOn 196 = .ok (.imul, 1) := by decide +kernel
theorem d_Md_throwsOn_197 : decode c_Md_throwsOn 197 = .ok (.iconst 4, 1) := by decide +kernel
theorem d_Md_throwsOn_198 : decode c_Md_throwsOn 198 = .ok (.iadd, 1) := by decide +kernel
theorem d_Md_throwsOn_199 : decode c_Md_throwsOn 199 = .ok (.iaload, 1) := by decide +kernel
theorem d_Md_throwsOn_200 : decode c_Md_throwsOn 200 = .ok (.i2l, 1) := by decide +kernel
theorem d_Md_throwsOn_201 : decode c_Md_throwsOn 201 = .ok (.lmul, 1) := by decide +kernel
theorem d_Md_throwsOn_202 : decode c_Md_throwsOn 202 = .ok (.invokevirtual 83, 3) := by decide +kernel
theorem d_Md_throwsOn_205 : decode c_Md_throwsOn 205 = .ok (.ifCond .eq 7, 3) := by decide +kernel
theorem d_Md_throwsOn_208 : decode c_Md_throwsOn 208 = .ok (.iconst 1, 1) := by decide +kernel
theorem d_Md_throwsOn_209 : decode c_Md_throwsOn 209 = .ok (.goto 4, 3) := by decide +kernel
theorem d_Md_throwsOn_212 : decode c_Md_throwsOn 212 = .ok (.iconst 0, 1) := by decide +kernel
theorem d_Md_throwsOn_213 : decode c_Md_throwsOn 213 = .ok (.istore 11, 2) := by decide +kernel
theorem d_Md_throwsOn_215 : decode c_Md_throwsOn 215 = .ok (.iload 11, 2) := by decide +kernel
theorem d_Md_throwsOn_217 : decode c_Md_throwsOn 217 = .ok (.ifCond .eq 29, 3) := by decide +kernel
theorem d_Md_throwsOn_220 : decode c_Md_throwsOn 220 = .ok (.aload_n 0, 1) := by decide +kernel
theorem d_Md_throwsOn_221 : decode c_Md_throwsOn 221 = .ok (.getfield 65, 3) := by decide +kernel
theorem d_Md_throwsOn_224 : decode c_Md_throwsOn 224 = .ok (.aload_n 0, 1) := by decide +kernel
theorem d_Md_throwsOn_225 : decode c_Md_throwsOn 225 = .ok (.getfield 68, 3) := by decide +kernel
theorem d_Md_throwsOn_228 : decode c_Md_throwsOn 228 = .ok (.lmul, 1) := by decide +kernel
theorem d_Md_throwsOn_229 : decode c_Md_throwsOn 229 = .ok (.aload_n 0, 1) := by decide +kernel
theorem d_Md_throwsOn_230 : decode c_Md_throwsOn 230 = .ok (.getfield 71, 3) := by decide +kernel
theorem d_Md_throwsOn_233 : decode c_Md_throwsOn 233 = .ok (.aload_n 0, 1) := by decide +kernel
theorem d_Md_throwsOn_234 : decode c_Md_throwsOn 234 = .ok (.getfield 61, 3) := by decide +kernel
theorem d_Md_throwsOn_237 : decode c_Md_throwsOn 237 = .ok (.lmul, 1) := by decide +kernel
theorem d_Md_throwsOn_238 : decode c_Md_throwsOn 238 = .ok (.lcmp, 1) := by decide +kernel
theorem d_Md_throwsOn_239 : decode c_Md_throwsOn 239 = .ok (.ifCond .gt 7, 3) := by decide +kernel
theorem d_Md_throwsOn_242 : decode c_Md_throwsOn 242 = .ok (.iconst 1, 1) := by decide +kernel
theorem d_Md_throwsOn_243 : decode c_Md_throwsOn 243 = .ok (.goto 4, 3) := by decide +kernel
theorem d_Md_throwsOn_246 : decode c_Md_throwsOn 246 = .ok (.iconst 0, 1) := by decide +kernel
theorem d_Md_throwsOn_247 : decode c_Md_throwsOn 247 = .ok (.ireturn, 1) := by decide +kernel
theorem d_Md_may_0 : decode c_Md_may 0 = .ok (.lload_n 3, 1) := by decide +kernel
theorem d_Md_may_1 : decode c_Md_may 1 = .ok (.lconst 0, 1) := by decide +kernel
theorem d_Md_may_2 : decode c_Md_may 2 = .ok (.lcmp, 1) := by decide +kernel
theorem d_Md_may_3 : decode c_Md_may 3 = .ok (.ifCond .ne 23, 3) := by decide +kernel
theorem d_Md_may_6 : decode c_Md_may 6 = .ok (.lload_n 1, 1) := by decide +kernel
theorem d_Md_may_7 : decode c_Md_may 7 = .ok (.lload 5, 2) := by decide +kernel
theorem d_Md_may_9 : decode c_Md_may 9 = .ok (.lcmp, 1) := by decide +kernel
theorem d_Md_may_10 : decode c_Md_may 10 = .ok (.ifCond .lt 14, 3) := by decide +kernel
theorem d_Md_may_13 : decode c_Md_may 13 = .ok (.lload_n 1, 1) := by decide +kernel
theorem d_Md_may_14 : decode c_Md_may 14 = .ok (.lload 7, 2) := by decide +kernel
theorem d_Md_may_16 : decode c_Md_may 16 = .ok (.lcmp, 1) := by decide +kernel
theorem d_Md_may_17 : decode c_Md_may 17 = .ok (.ifCond .gt 7, 3) := by decide +kernel
theorem d_Md_may_20 : decode c_Md_may 20 = .ok (.iconst 1, 1) := by decide +kernel
theorem d_Md_may_21 : decode c_Md_may 21 = .ok (.goto 4, 3) := by decide +kernel
theorem d_Md_may_24 : decode c_Md_may 24 = .ok (.iconst 0, 1) := by decide +kernel
theorem d_Md_may_25 : decode c_Md_may 25 = .ok (.ireturn, 1) := by decide +kernel
theorem d_Md_may_26 : decode c_Md_may 26 = .ok (.lload_n 3, 1) := by decide +kernel
theorem d_Md_may_27 : decode c_Md_may 27 = .ok (.lconst 0, 1) := by decide +kernel
theorem d_Md_may_28 : decode c_Md_may 28 = .ok (.lcmp, 1) := by decide +kernel
theorem d_Md_may_29 : decode c_Md_may 29 = .ok (.ifCond .le 24, 3) := by decide +kernel
theorem d_Md_may_32 : decode c_Md_may 32 = .ok (.aload_n 0, 1) := by decide +kernel
theorem d_Md_may_33 : decode c_Md_may 33 = .ok (.lload_n 1, 1) := by decide +kernel
theorem d_Md_may_34 : decode c_Md_may 34 = .ok (.lload 7, 2) := by decide +kernel
theorem d_Md_may_36 : decode c_Md_may 36 = .ok (.lsub, 1) := by decide +kernel
theorem d_Md_may_37 : decode c_Md_may 37 = .ok (.lload_n 3, 1) := by decide +kernel
theorem d_Md_may_38 : decode c_Md_may 38 = .ok (.invokevirtual 74, 3) := by decide +kernel
theorem d_Md_may_41 : decode c_Md_may 41 = .ok (.aload_n 0, 1) := by decide +kernel
theorem d_Md_may_42 : decode c_Md_may 42 = .ok (.lload_n 1, 1) := by decide +kernel
theorem d_Md_may_43 : decode c_Md_may 43 = .ok (.lload 5, 2) := by decide +kernel
theorem d_Md_may_45 : decode c_Md_may 45 = .ok (.lsub, 1) := by decide +kernel
theorem d_Md_may_46 : decode c_Md_may 46 = .ok (.lload_n 3, 1) := by decide +kernel
theorem d_Md_may_47 : decode c_Md_may 47 = .ok (.invokevirtual 78, 3) := by decide +kernel
theorem d_Md_may_50 : decode c_Md_may 50 = .ok (.goto 23, 3) := by decide +kernel
theorem d_Md_may_53 : decode c_Md_may 53 = .ok (.aload_n 0, 1) := by decide +kernel
theorem d_Md_may_54 : decode c_Md_may 54 = .ok (.lload 5, 2) := by decide +kernel
theorem d_Md_may_56 : decode c_Md_may 56 = .ok (.lload_n 1, 1) := by decide +kernel
theorem d_Md_may_57 : decode c_Md_may 57 = .ok (.lsub, 1) := by decide +kernel
theorem d_Md_may_58 : decode c_Md_may 58 = .ok (.lload_n 3, 1) := by decide +kernel
theorem d_Md_may_59 : decode c_Md_may 59 = .ok (.lneg, 1) := by decide +kernel
theorem d_Md_may_60 : decode c_Md_may 60 = .ok (.invokevirtual 74, 3) := by decide +kernel
theorem d_Md_may_63 : decode c_Md_may 63 = .ok (.aload_n 0, 1) := by decide +kernel
theorem d_Md_may_64 : decode c_Md_may 64 = .ok (.lload 7, 2) := by decide +kernel
theorem d_Md_may_66 : decode c_Md_may 66 = .ok (.lload_n 1, 1) := by decide +kernel
theorem d_Md_may_67 : decode c_Md_may 67 = .ok (.lsub, 1) := by decide +kernel
theorem d_Md_may_68 : decode c_Md_may 68 = .ok (.lload_n 3, 1) := by decide +kernel
theorem d_Md_may_69 : decode c_Md_may 69 = .ok (.lneg, 1) := by decide +kernel
theorem d_Md_may_70 : decode c_Md_may 70 = .ok (.invokevirtual 78, 3) := by decide +kernel
theorem d_Md_may_73 : decode c_Md_may 73 = .ok (.iconst 1, 1) := by decide +kernel
theorem d_Md_may_74 : decode c_Md_may 74 = .ok (.ireturn, 1) := by decide +kernel
theorem d_Md_atLeast_0 : decode c_Md_atLeast 0 = .ok (.lload_n 1, 1) := by decide +kernel
theorem d_Md_atLeast_1 : decode c_Md_atLeast 1 = .ok (.aload_n 0, 1) := by decide +kernel
theorem d_Md_atLeast_2 : decode c_Md_atLeast 2 = .ok (.getfield 61, 3) := by decide +kernel
theorem d_Md_atLeast_5 : decode c_Md_atLeast 5 = .ok (.lmul, 1) := by decide +kernel
theorem d_Md_atLeast_6 : decode c_Md_atLeast 6 = .ok (.aload_n 0, 1) := by decide +kernel
theorem d_Md_atLeast_7 : decode c_Md_atLeast 7 = .ok (.getfield 65, 3) := by decide +kernel
theorem d_Md_atLeast_10 : decode c_Md_atLeast 10 = .ok (.lload_n 3, 1) := by decide +kernel
theorem d_Md_atLeast_11 : decode c_Md_atLeast 11 = .ok (.lmul, 1) := by decide +kernel
theorem d_Md_atLeast_12 : decode c_Md_atLeast 12 = .ok (.lcmp, 1) := by decide +kernel
theorem d_Md_atLeast_13 : decode c_Md_atLeast 13 = .ok (.ifCond .le 13, 3) := by decide +kernel
theorem d_Md_atLeast_16 : decode c_Md_atLeast 16 = .ok (.aload_n 0, 1) := by decide +kernel
theorem d_Md_atLeast_17 : decode c_Md_atLeast 17 = .ok (.lload_n 1, 1) := by decide +kernel
theorem d_Md_atLeast_18 : decode c_Md_atLeast 18 = .ok (.putfield 65, 3) := by decide +kernel
theorem d_Md_atLeast_21 : decode c_Md_atLeast 21 = .ok (.aload_n 0, 1) := by decide +kernel
theorem d_Md_atLeast_22 : decode c_Md_atLeast 22 = .ok (.lload_n 3, 1) := by decide +kernel
theorem d_Md_atLeast_23 : decode c_Md_atLeast 23 = .ok (.putfield 61, 3) := by decide +kernel
theorem d_Md_atLeast_26 : decode c_Md_atLeast 26 = .ok (.return_, 1) := by decide +kernel
theorem d_Md_atMost_0 : decode c_Md_atMost 0 = .ok (.lload_n 1, 1) := by decide +kernel
theorem d_Md_atMost_1 : decode c_Md_atMost 1 = .ok (.aload_n 0, 1) := by decide +kernel
theorem d_Md_atMost_2 : decode c_Md_atMost 2 = .ok (.getfield 68, 3) := by decide +kernel
theorem d_Md_atMost_5 : decode c_Md_atMost 5 = .ok (.lmul, 1) := by decide +kernel
theorem d_Md_atMost_6 : decode c_Md_atMost 6 = .ok (.aload_n 0, 1) := by decide +kernel
theorem d_Md_atMost_7 : decode c_Md_atMost 7 = .ok (.getfield 71, 3) := by decide +kernel
theorem d_Md_atMost_10 : decode c_Md_atMost 10 = .ok (.lload_n 3, 1) := by decide +kernel
theorem d_Md_atMost_11 : decode c_Md_atMost 11 = .ok (.lmul, 1) := by decide +kernel
theorem d_Md_atMost_12 : decode c_Md_atMost 12 = .ok (.lcmp, 1) := by decide +kernel
theorem d_Md_atMost_13 : decode c_Md_atMost 13 = .ok (.ifCond .ge 13, 3) := by decide +kernel
theorem d_Md_atMost_16 : decode c_Md_atMost 16 = .ok (.aload_n 0, 1) := by decide +kernel
theorem d_Md_atMost_17 : decode c_Md_atMost 17 = .ok (.lload_n 1, 1) := by decide +kernel
theorem d_Md_atMost_18 : decode c_Md_atMost 18 = .ok (.putfield 71, 3) := by decide +kernel
theorem d_Md_atMost_21 : decode c_Md_atMost 21 = .ok (.aload_n 0, 1) := by decide +kernel
theorem d_Md_atMost_22 : decode c_Md_atMost 22 = .ok (.lload_n 3, 1) := by decide +kernel
theorem d_Md_atMost_23 : decode c_Md_atMost 23 = .ok (.putfield 68, 3) := by decide +kernel
theorem d_Md_atMost_26 : decode c_Md_atMost 26 = .ok (.return_, 1) := by decide +kernel
theorem d_Md_shadows_0 : decode c_Md_shadows 0 = .ok (.aload_n 0, 1) := by decide +kernel
theorem d_Md_shadows_1 : decode c_Md_shadows 1 = .ok (.aload_n 0, 1) := by decide +kernel
theorem d_Md_shadows_2 : decode c_Md_shadows 2 = .ok (.iload_n 1, 1) := by decide +kernel
theorem d_Md_shadows_3 : decode c_Md_shadows 3 = .ok (.iconst (-1), 1) := by decide +kernel
theorem d_Md_shadows_4 : decode c_Md_shadows 4 = .ok (.if_icmp .eq 11, 3) := by decide +kernel
theorem d_Md_shadows_7 : decode c_Md_shadows 7 = .ok (.aload_n 0, 1) := by decide +kernel
theorem d_Md_shadows_8 : decode c_Md_shadows 8 = .ok (.iload_n 1, 1) := by decide +kernel
theorem d_Md_shadows_9 : decode c_Md_shadows 9 = .ok (.invokevirtual 51, 3) := by decide +kernel
theorem d_Md_shadows_12 : decode c_Md_shadows 12 = .ok (.ifCond .ne 7, 3) := by decide +kernel
theorem d_Md_shadows_15 : decode c_Md_shadows 15 = .ok (.iconst 1, 1) := by decide +kernel
theorem d_Md_shadows_16 : decode c_Md_shadows 16 = .ok (.goto 4, 3) := by decide +kernel
theorem d_Md_shadows_19 : decode c_Md_shadows 19 = .ok (.iconst 0, 1) := by decide +kernel
theorem d_Md_shadows_20 : decode c_Md_shadows 20 = .ok (.iload_n 2, 1) := by decide +kernel
theorem d_Md_shadows_21 : decode c_Md_shadows 21 = .ok (.invokevirtual 91, 3) := by decide +kernel
theorem d_Md_shadows_24 : decode c_Md_shadows 24 = .ok (.putfield 33, 3) := by decide +kernel
theorem d_Md_shadows_27 : decode c_Md_shadows 27 = .ok (.iconst 0, 1) := by decide +kernel
theorem d_Md_shadows_28 : decode c_Md_shadows 28 = .ok (.istore_n 3, 1) := by decide +kernel
theorem d_Md_shadows_29 : decode c_Md_shadows 29 = .ok (.iconst 0, 1) := by decide +kernel
theorem d_Md_shadows_30 : decode c_Md_shadows 30 = .ok (.istore 4, 2) := by decide +kernel
theorem d_Md_shadows_32 : decode c_Md_shadows 32 = .ok (.iload 4, 2) := by decide +kernel
theorem d_Md_shadows_34 : decode c_Md_shadows 34 = .ok (.aload_n 0, 1) := by decide +kernel
theorem d_Md_shadows_35 : decode c_Md_shadows 35 = .ok (.getfield 26, 3) := by decide +kernel
theorem d_Md_shadows_38 : decode c_Md_shadows 38 = .ok (.aload_n 0, 1) := by decide +kernel
theorem d_Md_shadows_39 : decode c_Md_shadows 39 = .ok (.getfield 30, 3) := by decide +kernel
theorem d_Md_shadows_42 : decode c_Md_shadows 42 = .ok (.imul, 1) := by decide +kernel
theorem d_Md_shadows_43 : decode c_Md_shadows 43 = .ok (.if_icmp .ge 95, 3) := by decide +kernel
theorem d_Md_shadows_46 : decode c_Md_shadows 46 = .ok (.aload_n 0, 1) := by decide +kernel
theorem d_Md_shadows_47 : decode c_Md_shadows 47 = .ok (.getfield 33, 3) := by decide +kernel
theorem d_Md_shadows_50 : decode c_Md_shadows 50 = .ok (.ifCond .ne 88, 3) := by decide +kernel
theorem d_Md_shadows_53 : decode c_Md_shadows 53 = .ok (.iload 4, 2) := by decide +kernel
theorem d_Md_shadows_55 : decode c_Md_shadows 55 = .ok (.aload_n 0, 1) := by decide +kernel
theorem d_Md_shadows_56 : decode c_Md_shadows 56 = .ok (.getfield 26, 3) := by decide +kernel
theorem d_Md_shadows_59 : decode c_Md_shadows 59 = .ok (.irem, 1) := by decide +kernel
theorem d_Md_shadows_60 : decode c_Md_shadows 60 = .ok (.istore 5, 2) := by decide +kernel
theorem d_Md_shadows_62 : decode c_Md_shadows 62 = .ok (.iload 4, 2) := by decide +kernel
theorem d_Md_shadows_64 : decode c_Md_shadows 64 = .ok (.aload_n 0, 1) := by decide +kernel
theorem d_Md_shadows_65 : decode c_Md_shadows 65 = .ok (.getfield 26, 3) := by decide +kernel
theorem d_Md_shadows_68 : decode c_Md_shadows 68 = .ok (.idiv, 1) := by decide +kernel
theorem d_Md_shadows_69 : decode c_Md_shadows 69 = .ok (.istore 6, 2) := by decide +kernel
theorem d_Md_shadows_71 : decode c_Md_shadows 71 = .ok (.iload_n 1, 1) := by decide +kernel
theorem d_Md_shadows_72 : decode c_Md_shadows 72 = .ok (.iconst (-1), 1) := by decide +kernel
theorem d_Md_shadows_73 : decode c_Md_shadows 73 = .ok (.if_icmp .ne 17, 3) := by decide +kernel
theorem d_Md_shadows_76 : decode c_Md_shadows 76 = .ok (.aload_n 0, 1) := by decide +kernel
theorem d_Md_shadows_77 : decode c_Md_shadows 77 = .ok (.iload 5, 2) := by decide +kernel
theorem d_Md_shadows_79 : decode c_Md_shadows 79 = .ok (.iload 6, 2) := by decide +kernel
theorem d_Md_shadows_81 : decode c_Md_shadows 81 = .ok (.iload_n 2, 1) := by decide +kernel
theorem d_Md_shadows_82 : decode c_Md_shadows 82 = .ok (.iconst (-1), 1) := by decide +kernel
theorem d_Md_shadows_83 : decode c_Md_shadows 83 = .ok (.iconst 0, 1) := by decide +kernel
theorem d_Md_shadows_84 : decode c_Md_shadows 84 = .ok (.invokevirtual 95, 3) := by decide +kernel
theorem d_Md_shadows_87 : decode c_Md_shadows 87 = .ok (.goto 30, 3) := by decide +kernel
theorem d_Md_shadows_90 : decode c_Md_shadows 90 = .ok (.aload_n 0, 1) := by decide +kernel
theorem d_Md_shadows_91 : decode c_Md_shadows 91 = .ok (.getfield 13, 3) := by decide +kernel
theorem d_Md_shadows_94 : decode c_Md_shadows 94 = .ok (.iload_n 1, 1) := by decide +kernel
theorem d_Md_shadows_95 : decode c_Md_shadows 95 = .ok (.baload, 1) := by decide +kernel
theorem d_Md_shadows_96 : decode c_Md_shadows 96 = .ok (.ifCond .eq 20, 3) := by decide +kernel
theorem d_Md_shadows_99 : decode c_Md_shadows 99 = .ok (.aload_n 0, 1) := by decide +kernel
theorem d_Md_shadows_100 : decode c_Md_shadows 100 = .ok (.iload_n 1, 1) := by decide +kernel
theorem d_Md_shadows_101 : decode c_Md_shadows 101 = .ok (.iload 5, 2) := by decide +kernel
theorem d_Md_shadows_103 : decode c_Md_shadows 103 = .ok (.iload 6, 2) := by decide +kernel
theorem d_Md_shadows_105 : decode c_Md_shadows 105 = .ok (.iload_n 2, 1) := by decide +kernel
theorem d_Md_shadows_106 : decode c_Md_shadows 106 = .ok (.invokevirtual 87, 3) := by decide +kernel
theorem d_Md_shadows_109 : decode c_Md_shadows 109 = .ok (.ifCond .eq 7, 3) := by decide +kernel
theorem d_Md_shadows_112 : decode c_Md_shadows 112 = .ok (.iconst 1, 1) := by decide +kernel
theorem d_Md_shadows_113 : decode c_Md_shadows 113 = .ok (.goto 4, 3) := by decide +kernel
theorem d_Md_shadows_116 : decode c_Md_shadows 116 = .ok (.iconst 0, 1) := by decide +kernel
theorem d_Md_shadows_117 : decode c_Md_shadows 117 = .ok (.istore 7, 2) := by decide +kernel
theorem d_Md_shadows_119 : decode c_Md_shadows 119 = .ok (.iload 7, 2) := by decide +kernel
theorem d_Md_shadows_121 : decode c_Md_shadows 121 = .ok (.ifCond .eq 9, 3) := by decide +kernel
theorem d_Md_shadows_124 : decode c_Md_shadows 124 = .ok (.iload_n 3, 1) := by decide +kernel
theorem d_Md_shadows_125 : decode c_Md_shadows 125 = .ok (.iconst 1, 1) := by decide +kernel
theorem d_Md_shadows_126 : decode c_Md_shadows 126 = .ok (.iadd, 1) := by decide +kernel
theorem d_Md_shadows_127 : decode c_Md_shadows 127 = .ok (.goto 4, 3) := by decide +kernel
theorem d_Md_shadows_130 : decode c_Md_shadows 130 = .ok (.iload_n 3, 1) := by decide +kernel
theorem d_Md_shadows_131 : decode c_Md_shadows 131 = .ok (.istore_n 3, 1) := by decide +kernel
theorem d_Md_shadows_132 : decode c_Md_shadows 132 = .ok (.iinc 4 1, 3) := by decide +kernel
theorem d_Md_shadows_135 : decode c_Md_shadows 135 = .ok (.goto (-103), 3) := by decide +kernel
theorem d_Md_shadows_138 : decode c_Md_shadows 138 = .ok (.iload_n 3, 1) := by decide +kernel
theorem d_Md_shadows_139 : decode c_Md_shadows 139 = .ok (.ireturn, 1) := by decide +kernel
theorem d_Md_dark_0 : decode c_Md_dark 0 = .ok (.aload_n 0, 1) := by decide +kernel
theorem d_Md_dark_1 : decode c_Md_dark 1 = .ok (.aload_n 0, 1) := by decide +kernel
theorem d_Md_dark_2 : decode c_Md_dark 2 = .ok (.aload_n 0, 1) := by decide +kernel
theorem d_Md_dark_3 : decode c_Md_dark 3 = .ok (.iload_n 1, 1) := by decide +kernel
theorem d_Md_dark_4 : decode c_Md_dark 4 = .ok (.invokevirtual 99, 3) := by decide +kernel
theorem d_Md_dark_7 : decode c_Md_dark 7 = .ok (.ifCond .ne 7, 3) := by decide +kernel
theorem d_Md_dark_10 : decode c_Md_dark 10 = .ok (.iconst 1, 1) := by decide +kernel
theorem d_Md_dark_11 : decode c_Md_dark 11 = .ok (.goto 4, 3) := by decide +kernel
theorem d_Md_dark_14 : decode c_Md_dark 14 = .ok (.iconst 0, 1) := by decide +kernel
theorem d_Md_dark_15 : decode c_Md_dark 15 = .ok (.iload_n 2, 1) := by decide +kernel
theorem d_Md_dark_16 : decode c_Md_dark 16 = .ok (.invokevirtual 91, 3) := by decide +kernel
theorem d_Md_dark_19 : decode c_Md_dark 19 = .ok (.putfield 33, 3) := by decide +kernel
theorem d_Md_dark_22 : decode c_Md_dark 22 = .ok (.aload_n 0, 1) := by decide +kernel
theorem d_Md_dark_23 : decode c_Md_dark 23 = .ok (.getfield 33, 3) := by decide +kernel
theorem d_Md_dark_26 : decode c_Md_dark 26 = .ok (.ifCond .le 7, 3) := by decide +kernel
theorem d_Md_dark_29 : decode c_Md_dark 29 = .ok (.iconst 0, 1) := by decide +kernel
theorem d_Md_dark_30 : decode c_Md_dark 30 = .ok (.goto 11, 3) := by decide +kernel
theorem d_Md_dark_33 : decode c_Md_dark 33 = .ok (.aload_n 0, 1) := by decide +kernel
theorem d_Md_dark_34 : decode c_Md_dark 34 = .ok (.iload_n 1, 1) := by decide +kernel
theorem d_Md_dark_35 : decode c_Md_dark 35 = .ok (.iload_n 2, 1) := by decide +kernel
theorem d_Md_dark_36 : decode c_Md_dark 36 = .ok (.iconst (-1), 1) := by decide +kernel
theorem d_Md_dark_37 : decode c_Md_dark 37 = .ok (.iconst 0, 1) := by decide +kernel
theorem d_Md_dark_38 : decode c_Md_dark 38 = .ok (.invokevirtual 102, 3) := by decide +kernel
theorem d_Md_dark_41 : decode c_Md_dark 41 = .ok (.ireturn, 1) := by decide +kernel
theorem d_Md_noWindow_0 : decode c_Md_noWindow 0 = .ok (.iload_n 1, 1) := by decide +kernel
theorem d_Md_noWindow_1 : decode c_Md_noWindow 1 = .ok (.ifCond .lt 11, 3) := by decide +kernel
theorem d_Md_noWindow_4 : decode c_Md_noWindow 4 = .ok (.iload_n 1, 1) := by decide +kernel
theorem d_Md_noWindow_5 : decode c_Md_noWindow 5 = .ok (.aload_n 0, 1) := by decide +kernel
theorem d_Md_noWindow_6 : decode c_Md_noWindow 6 = .ok (.getfield 58, 3) := by decide +kernel
theorem d_Md_noWindow_9 : decode c_Md_noWindow 9 = .ok (.if_icmp .lt 7, 3) := by decide +kernel
theorem d_Md_noWindow_12 : decode c_Md_noWindow 12 = .ok (.iconst 1, 1) := by decide +kernel
theorem d_Md_noWindow_13 : decode c_Md_noWindow 13 = .ok (.goto 4, 3) := by decide +kernel
theorem d_Md_noWindow_16 : decode c_Md_noWindow 16 = .ok (.iconst 0, 1) := by decide +kernel
theorem d_Md_noWindow_17 : decode c_Md_noWindow 17 = .ok (.ireturn, 1) := by decide +kernel
theorem d_Md_darkOf_0 : decode c_Md_darkOf 0 = .ok (.iconst 0, 1) := by decide +kernel
theorem d_Md_darkOf_1 : decode c_Md_darkOf 1 = .ok (.istore 5, 2) := by decide +kernel
theorem d_Md_darkOf_3 : decode c_Md_darkOf 3 = .ok (.aload_n 0, 1) := by decide +kernel
theorem d_Md_darkOf_4 : decode c_Md_darkOf 4 = .ok (.getfield 23, 3) := by decide +kernel
theorem d_Md_darkOf_7 : decode c_Md_darkOf 7 = .ok (.iconst 4, 1) := by decide +kernel
theorem d_Md_darkOf_8 : decode c_Md_darkOf 8 = .ok (.iload_n 1, 1) := by decide +kernel
theorem d_Md_darkOf_9 : decode c_Md_darkOf 9 = .ok (.imul, 1) := by decide +kernel
theorem d_Md_darkOf_10 : decode c_Md_darkOf 10 = .ok (.iconst 1, 1) := by decide +kernel
theorem d_Md_darkOf_11 : decode c_Md_darkOf 11 = .ok (.iadd, 1) := by decide +kernel
theorem d_Md_darkOf_12 : decode c_Md_darkOf 12 = .ok (.iaload, 1) := by decide +kernel
theorem d_Md_darkOf_13 : decode c_Md_darkOf 13 = .ok (.istore 6, 2) := by decide +kernel
theorem d_Md_darkOf_15 : decode c_Md_darkOf 15 = .ok (.iload 6, 2) := by decide +kernel
theorem d_Md_darkOf_17 : decode c_Md_darkOf 17 = .ok (.aload_n 0, 1) := by decide +kernel
theorem d_Md_darkOf_18 : decode c_Md_darkOf 18 = .ok (.getfield 23, 3) := by decide +kernel
theorem d_Md_darkOf_21 : decode c_Md_darkOf 21 = .ok (.iconst 4, 1) := by decide +kernel
theorem d_Md_darkOf_22 : decode c_Md_darkOf 22 = .ok (.iload_n 1, 1) := by decide +kernel
theorem d_Md_darkOf_23 : decode c_Md_darkOf 23 = .ok (.imul, 1) := by decide +kernel
theorem d_Md_darkOf_24 : decode c_Md_darkOf 24 = .ok (.iconst 3, 1) := by decide +kernel
theorem d_Md_darkOf_25 : decode c_Md_darkOf 25 = .ok (.iadd, 1) := by decide +kernel
theorem d_Md_darkOf_26 : decode c_Md_darkOf 26 = .ok (.iaload, 1) := by decide +kernel
theorem d_Md_darkOf_27 : decode c_Md_darkOf 27 = .ok (.if_icmp .ge 66, 3) := by decide +kernel
theorem d_Md_darkOf_30 : decode c_Md_darkOf 30 = .ok (.aload_n 0, 1) := by decide +kernel
theorem d_Md_darkOf_31 : decode c_Md_darkOf 31 = .ok (.getfield 23, 3) := by decide +kernel
theorem d_Md_darkOf_34 : decode c_Md_darkOf 34 = .ok (.iconst 4, 1) := by decide +kernel
theorem d_Md_darkOf_35 : decode c_Md_darkOf 35 = .ok (.iload_n 1, 1) := by decide +kernel
theorem d_Md_darkOf_36 : decode c_Md_darkOf 36 = .ok (.imul, 1) := by decide +kernel
theorem d_Md_darkOf_37 : decode c_Md_darkOf 37 = .ok (.iaload, 1) := by decide +kernel
theorem d_Md_darkOf_38 : decode c_Md_darkOf 38 = .ok (.istore 7, 2) := by decide +kernel
theorem d_Md_darkOf_40 : decode c_Md_darkOf 40 = .ok (.iload 7, 2) := by decide +kernel
theorem d_Md_darkOf_42 : decode c_Md_darkOf 42 = .ok (.aload_n 0, 1) := by decide +kernel
theorem d_Md_darkOf_43 : decode c_Md_darkOf 43 = .ok (.getfield 23, 3) := by decide +kernel
theorem d_Md_darkOf_46 : decode c_Md_darkOf 46 = .ok (.iconst 4, 1) := by decide +kernel
theorem d_Md_darkOf_47 : decode c_Md_darkOf 47 = .ok (.iload_n 1, 1) := by decide +kernel
theorem d_Md_darkOf_48 : decode c_Md_darkOf 48 = .ok (.imul, 1) := by decide +kernel
theorem d_Md_darkOf_49 : decode c_Md_darkOf 49 = .ok (.iconst 2, 1) := by decide +kernel
theorem d_Md_darkOf_50 : decode c_Md_darkOf 50 = .ok (.iadd, 1) := by decide +kernel
theorem d_Md_darkOf_51 : decode c_Md_darkOf 51 = .ok (.iaload, 1) := by decide +kernel
theorem d_Md_darkOf_52 : decode c_Md_darkOf 52 = .ok (.if_icmp .ge 35, 3) := by decide +kernel
theorem d_Md_darkOf_55 : decode c_Md_darkOf 55 = .ok (.aload_n 0, 1) := by decide +kernel
theorem d_Md_darkOf_56 : decode c_Md_darkOf 56 = .ok (.iload 7, 2) := by decide +kernel
theorem d_Md_darkOf_58 : decode c_Md_darkOf 58 = .ok (.iload 6, 2) := by decide +kernel
theorem d_Md_darkOf_60 : decode c_Md_darkOf 60 = .ok (.iload_n 2, 1) := by decide +kernel
theorem d_Md_darkOf_61 : decode c_Md_darkOf 61 = .ok (.iload_n 3, 1) := by decide +kernel
theorem d_Md_darkOf_62 : decode c_Md_darkOf 62 = .ok (.iload 4, 2) := by decide +kernel
theorem d_Md_darkOf_64 : decode c_Md_darkOf 64 = .ok (.invokevirtual 95, 3) := by decide +kernel
theorem d_Md_darkOf_67 : decode c_Md_darkOf 67 = .ok (.ifCond .eq 10, 3) := by decide +kernel
theorem d_Md_darkOf_70 : decode c_Md_darkOf 70 = .ok (.iload 5, 2) := by decide +kernel
theorem d_Md_darkOf_72 : decode c_Md_darkOf 72 = .ok (.iconst 1, 1) := by decide +kernel
theorem d_Md_darkOf_73 : decode c_Md_darkOf 73 = .ok (.iadd, 1) := by decide +kernel
theorem d_Md_darkOf_74 : decode c_Md_darkOf 74 = .ok (.goto 5, 3) := by decide +kernel
theorem d_Md_darkOf_77 : decode c_Md_darkOf 77 = .ok (.iload 5, 2) := by decide +kernel
theorem d_Md_darkOf_79 : decode c_Md_darkOf 79 = .ok (.istore 5, 2) := by decide +kernel
theorem d_Md_darkOf_81 : decode c_Md_darkOf 81 = .ok (.iinc 7 1, 3) := by decide +kernel
theorem d_Md_darkOf_84 : decode c_Md_darkOf 84 = .ok (.goto (-44), 3) := by decide +kernel
theorem d_Md_darkOf_87 : decode c_Md_darkOf 87 = .ok (.iinc 6 1, 3) := by decide +kernel
theorem d_Md_darkOf_90 : decode c_Md_darkOf 90 = .ok (.goto (-75), 3) := by decide +kernel
theorem d_Md_darkOf_93 : decode c_Md_darkOf 93 = .ok (.iload 5, 2) := by decide +kernel
theorem d_Md_darkOf_95 : decode c_Md_darkOf 95 = .ok (.ireturn, 1) := by decide +kernel
theorem d_Md_cell_0 : decode c_Md_cell 0 = .ok (.aload_n 0, 1) := by decide +kernel
theorem d_Md_cell_1 : decode c_Md_cell 1 = .ok (.aload_n 0, 1) := by decide +kernel
theorem d_Md_cell_2 : decode c_Md_cell 2 = .ok (.iload_n 1, 1) := by decide +kernel
theorem d_Md_cell_3 : decode c_Md_cell 3 = .ok (.ifCond .lt 7, 3) := by decide +kernel
theorem d_Md_cell_6 : decode c_Md_cell 6 = .ok (.iconst 1, 1) := by decide +kernel
theorem d_Md_cell_7 : decode c_Md_cell 7 = .ok (.goto 4, 3) := by decide +kernel
theorem d_Md_cell_10 : decode c_Md_cell 10 = .ok (.iconst 0, 1) := by decide +kernel
theorem d_Md_cell_11 : decode c_Md_cell 11 = .ok (.iload_n 2, 1) := by decide +kernel
theorem d_Md_cell_12 : decode c_Md_cell 12 = .ok (.invokevirtual 91, 3) := by decide +kernel
theorem d_Md_cell_15 : decode c_Md_cell 15 = .ok (.putfield 33, 3) := by decide +kernel
theorem d_Md_cell_18 : decode c_Md_cell 18 = .ok (.iconst 0, 1) := by decide +kernel
theorem d_Md_cell_19 : decode c_Md_cell 19 = .ok (.istore_n 3, 1) := by decide +kernel
theorem d_Md_cell_20 : decode c_Md_cell 20 = .ok (.iconst 0, 1) := by decide +kernel
theorem d_Md_cell_21 : decode c_Md_cell 21 = .ok (.istore 4, 2) := by decide +kernel
theorem d_Md_cell_23 : decode c_Md_cell 23 = .ok (.iload 4, 2) := by decide +kernel
theorem d_Md_cell_25 : decode c_Md_cell 25 = .ok (.aload_n 0, 1) := by decide +kernel
theorem d_Md_cell_26 : decode c_Md_cell 26 = .ok (.getfield 26, 3) := by decide +kernel
theorem d_Md_cell_29 : decode c_Md_cell 29 = .ok (.aload_n 0, 1) := by decide +kernel
theorem d_Md_cell_30 : decode c_Md_cell 30 = .ok (.getfield 30, 3) := by decide +kernel
theorem d_Md_cell_33 : decode c_Md_cell 33 = .ok (.imul, 1) := by decide +kernel
theorem d_Md_cell_34 : decode c_Md_cell 34 = .ok (.if_icmp .ge 67, 3) := by decide +kernel
theorem d_Md_cell_37 : decode c_Md_cell 37 = .ok (.aload_n 0, 1) := by decide +kernel
theorem d_Md_cell_38 : decode c_Md_cell 38 = .ok (.getfield 33, 3) := by decide +kernel
theorem d_Md_cell_41 : decode c_Md_cell 41 = .ok (.ifCond .ne 60, 3) := by decide +kernel
theorem d_Md_cell_44 : decode c_Md_cell 44 = .ok (.aload_n 0, 1) := by decide +kernel
theorem d_Md_cell_45 : decode c_Md_cell 45 = .ok (.iload 4, 2) := by decide +kernel
theorem d_Md_cell_47 : decode c_Md_cell 47 = .ok (.aload_n 0, 1) := by decide +kernel
theorem d_Md_cell_48 : decode c_Md_cell 48 = .ok (.getfield 26, 3) := by decide +kernel
theorem d_Md_cell_51 : decode c_Md_cell 51 = .ok (.irem, 1) := by decide +kernel
theorem d_Md_cell_52 : decode c_Md_cell 52 = .ok (.iload 4, 2) := by decide +kernel
theorem d_Md_cell_54 : decode c_Md_cell 54 = .ok (.aload_n 0, 1) := by decide +kernel
theorem d_Md_cell_55 : decode c_Md_cell 55 = .ok (.getfield 26, 3) := by decide +kernel
theorem d_Md_cell_58 : decode c_Md_cell 58 = .ok (.idiv, 1) := by decide +kernel
theorem d_Md_cell_59 : decode c_Md_cell 59 = .ok (.iload_n 2, 1) := by decide +kernel
theorem d_Md_cell_60 : decode c_Md_cell 60 = .ok (.iconst (-1), 1) := by decide +kernel
theorem d_Md_cell_61 : decode c_Md_cell 61 = .ok (.iconst 0, 1) := by decide +kernel
theorem d_Md_cell_62 : decode c_Md_cell 62 = .ok (.invokevirtual 95, 3) := by decide +kernel
theorem d_Md_cell_65 : decode c_Md_cell 65 = .ok (.ifCond .eq 30, 3) := by decide +kernel
theorem d_Md_cell_68 : decode c_Md_cell 68 = .ok (.iload_n 3, 1) := by decide +kernel
theorem d_Md_cell_69 : decode c_Md_cell 69 = .ok (.iload_n 1, 1) := by decide +kernel
theorem d_Md_cell_70 : decode c_Md_cell 70 = .ok (.if_icmp .ne 22, 3) := by decide +kernel
theorem d_Md_cell_73 : decode c_Md_cell 73 = .ok (.bipush 100, 2) := by decide +kernel
theorem d_Md_cell_75 : decode c_Md_cell 75 = .ok (.iload 4, 2) := by decide +kernel
theorem d_Md_cell_77 : decode c_Md_cell 77 = .ok (.aload_n 0, 1) := by decide +kernel
theorem d_Md_cell_78 : decode c_Md_cell 78 = .ok (.getfield 26, 3) := by decide +kernel
theorem d_Md_cell_81 : decode c_Md_cell 81 = .ok (.idiv, 1) := by decide +kernel
theorem d_Md_cell_82 : decode c_Md_cell 82 = .ok (.imul, 1) := by decide +kernel
theorem d_Md_cell_83 : decode c_Md_cell 83 = .ok (.iload 4, 2) := by decide +kernel
theorem d_Md_cell_85 : decode c_Md_cell 85 = .ok (.aload_n 0, 1) := by decide +kernel
theorem d_Md_cell_86 : decode c_Md_cell 86 = .ok (.getfield 26, 3) := by decide +kernel
theorem d_Md_cell_89 : decode c_Md_cell 89 = .ok (.irem, 1) := by decide +kernel
theorem d_Md_cell_90 : decode c_Md_cell 90 = .ok (.iadd, 1) := by decide +kernel
theorem d_Md_cell_91 : decode c_Md_cell 91 = .ok (.ireturn, 1) := by decide +kernel
theorem d_Md_cell_92 : decode c_Md_cell 92 = .ok (.iinc 3 1, 3) := by decide +kernel
theorem d_Md_cell_95 : decode c_Md_cell 95 = .ok (.iinc 4 1, 3) := by decide +kernel
theorem d_Md_cell_98 : decode c_Md_cell 98 = .ok (.goto (-75), 3) := by decide +kernel
theorem d_Md_cell_101 : decode c_Md_cell 101 = .ok (.aload_n 0, 1) := by decide +kernel
theorem d_Md_cell_102 : decode c_Md_cell 102 = .ok (.getfield 33, 3) := by decide +kernel
theorem d_Md_cell_105 : decode c_Md_cell 105 = .ok (.ifCond .le 7, 3) := by decide +kernel
theorem d_Md_cell_108 : decode c_Md_cell 108 = .ok (.iconst 0, 1) := by decide +kernel
theorem d_Md_cell_109 : decode c_Md_cell 109 = .ok (.goto 4, 3) := by decide +kernel
theorem d_Md_cell_112 : decode c_Md_cell 112 = .ok (.iconst (-1), 1) := by decide +kernel
theorem d_Md_cell_113 : decode c_Md_cell 113 = .ok (.ireturn, 1) := by decide +kernel
theorem d_Md_lit_0 : decode c_Md_lit 0 = .ok (.aload_n 0, 1) := by decide +kernel
theorem d_Md_lit_1 : decode c_Md_lit 1 = .ok (.aload_n 0, 1) := by decide +kernel
theorem d_Md_lit_2 : decode c_Md_lit 2 = .ok (.iload_n 1, 1) := by decide +kernel
theorem d_Md_lit_3 : decode c_Md_lit 3 = .ok (.invokevirtual 99, 3) := by decide +kernel
theorem d_Md_lit_6 : decode c_Md_lit 6 = .ok (.ifCond .ne 15, 3) := by decide +kernel
theorem d_Md_lit_9 : decode c_Md_lit 9 = .ok (.iload_n 2, 1) := by decide +kernel
theorem d_Md_lit_10 : decode c_Md_lit 10 = .ok (.iconst (-1), 1) := by decide +kernel
theorem d_Md_lit_11 : decode c_Md_lit 11 = .ok (.if_icmp .eq 14, 3) := by decide +kernel
theorem d_Md_lit_14 : decode c_Md_lit 14 = .ok (.iload_n 2, 1) := by decide +kernel
theorem d_Md_lit_15 : decode c_Md_lit 15 = .ok (.invokestatic 55, 3) := by decide +kernel
theorem d_Md_lit_18 : decode c_Md_lit 18 = .ok (.ifCond .eq 7, 3) := by decide +kernel
theorem d_Md_lit_21 : decode c_Md_lit 21 = .ok (.iconst 1, 1) := by decide +kernel
theorem d_Md_lit_22 : decode c_Md_lit 22 = .ok (.goto 4, 3) := by decide +kernel
theorem d_Md_lit_25 : decode c_Md_lit 25 = .ok (.iconst 0, 1) := by decide +kernel
theorem d_Md_lit_26 : decode c_Md_lit 26 = .ok (.putfield 33, 3) := by decide +kernel
theorem d_Md_lit_29 : decode c_Md_lit 29 = .ok (.aload_n 0, 1) := by decide +kernel
theorem d_Md_lit_30 : decode c_Md_lit 30 = .ok (.getfield 33, 3) := by decide +kernel
theorem d_Md_lit_33 : decode c_Md_lit 33 = .ok (.ifCond .le 7, 3) := by decide +kernel
theorem d_Md_lit_36 : decode c_Md_lit 36 = .ok (.iconst 0, 1) := by decide +kernel
theorem d_Md_lit_37 : decode c_Md_lit 37 = .ok (.goto 24, 3) := by decide +kernel
theorem d_Md_lit_40 : decode c_Md_lit 40 = .ok (.iload_n 2, 1) := by decide +kernel
theorem d_Md_lit_41 : decode c_Md_lit 41 = .ok (.iconst (-1), 1) := by decide +kernel
theorem d_Md_lit_42 : decode c_Md_lit 42 = .ok (.if_icmp .ne 12, 3) := by decide +kernel
theorem d_Md_lit_45 : decode c_Md_lit 45 = .ok (.aload_n 0, 1) := by decide +kernel
theorem d_Md_lit_46 : decode c_Md_lit 46 = .ok (.iload_n 1, 1) := by decide +kernel
theorem d_Md_lit_47 : decode c_Md_lit 47 = .ok (.iconst (-1), 1) := by decide +kernel
theorem d_Md_lit_48 : decode c_Md_lit 48 = .ok (.invokevirtual 110, 3) := by decide +kernel
theorem d_Md_lit_51 : decode c_Md_lit 51 = .ok (.goto 10, 3) := by decide +kernel
theorem d_Md_lit_54 : decode c_Md_lit 54 = .ok (.aload_n 0, 1) := by decide +kernel
theorem d_Md_lit_55 : decode c_Md_lit 55 = .ok (.iload_n 1, 1) := by decide +kernel
theorem d_Md_lit_56 : decode c_Md_lit 56 = .ok (.iload_n 2, 1) := by decide +kernel
theorem d_Md_lit_57 : decode c_Md_lit 57 = .ok (.iconst (-1), 1) := by decide +kernel
theorem d_Md_lit_58 : decode c_Md_lit 58 = .ok (.invokevirtual 106, 3) := by decide +kernel
theorem d_Md_lit_61 : decode c_Md_lit 61 = .ok (.ireturn, 1) := by decide +kernel
theorem d_Md_day_0 : decode c_Md_day 0 = .ok (.iconst 0, 1) := by decide +kernel
theorem d_Md_day_1 : decode c_Md_day 1 = .ok (.istore_n 3, 1) := by decide +kernel
theorem d_Md_day_2 : decode c_Md_day 2 = .ok (.iconst 0, 1) := by decide +kernel
theorem d_Md_day_3 : decode c_Md_day 3 = .ok (.istore 4, 2) := by decide +kernel
theorem d_Md_day_5 : decode c_Md_day 5 = .ok (.iload 4, 2) := by decide +kernel
theorem d_Md_day_7 : decode c_Md_day 7 = .ok (.bipush 24, 2) := by decide +kernel
theorem d_Md_day_9 : decode c_Md_day 9 = .ok (.if_icmp .ge 20, 3) := by decide +kernel
theorem d_Md_day_12 : decode c_Md_day 12 = .ok (.iload_n 3, 1) := by decide +kernel
theorem d_Md_day_13 : decode c_Md_day 13 = .ok (.aload_n 0, 1) := by decide +kernel
theorem d_Md_day_14 : decode c_Md_day 14 = .ok (.iload_n 1, 1) := by decide +kernel
theorem d_Md_day_15 : decode c_Md_day 15 = .ok (.iload 4, 2) := by decide +kernel
theorem d_Md_day_17 : decode c_Md_day 17 = .ok (.iload_n 2, 1) := by decide +kernel
theorem d_Md_day_18 : decode c_Md_day 18 = .ok (.invokevirtual 106, 3) := by decide +kernel
theorem d_Md_day_21 : decode c_Md_day 21 = .ok (.iadd, 1) := by decide +kernel
theorem d_Md_day_22 : decode c_Md_day 22 = .ok (.istore_n 3, 1) := by decide +kernel
theorem d_Md_day_23 : decode c_Md_day 23 = .ok (.iinc 4 1, 3) := by decide +kernel
theorem d_Md_day_26 : decode c_Md_day 26 = .ok (.goto (-21), 3) := by decide +kernel
theorem d_Md_day_29 : decode c_Md_day 29 = .ok (.iload_n 3, 1) := by decide +kernel
theorem d_Md_day_30 : decode c_Md_day 30 = .ok (.ireturn, 1) := by decide +kernel
theorem d_Md_litIn_0 : decode c_Md_litIn 0 = .ok (.aload_n 0, 1) := by decide +kernel
theorem d_Md_litIn_1 : decode c_Md_litIn 1 = .ok (.getfield 17, 3) := by decide +kernel
theorem d_Md_litIn_4 : decode c_Md_litIn 4 = .ok (.iconst 3, 1) := by decide +kernel
theorem d_Md_litIn_5 : decode c_Md_litIn 5 = .ok (.iload_n 2, 1) := by decide +kernel
theorem d_Md_litIn_6 : decode c_Md_litIn 6 = .ok (.imul, 1) := by decide +kernel
theorem d_Md_litIn_7 : decode c_Md_litIn 7 = .ok (.iconst 2, 1) := by decide +kernel
theorem d_Md_litIn_8 : decode c_Md_litIn 8 = .ok (.iadd, 1) := by decide +kernel
theorem d_Md_litIn_9 : decode c_Md_litIn 9 = .ok (.iaload, 1) := by decide +kernel
theorem d_Md_litIn_10 : decode c_Md_litIn 10 = .ok (.ifCond .eq 12, 3) := by decide +kernel
theorem d_Md_litIn_13 : decode c_Md_litIn 13 = .ok (.aload_n 0, 1) := by decide +kernel
theorem d_Md_litIn_14 : decode c_Md_litIn 14 = .ok (.getfield 20, 3) := by decide +kernel
theorem d_Md_litIn_17 : decode c_Md_litIn 17 = .ok (.iload_n 2, 1) := by decide +kernel
theorem d_Md_litIn_18 : decode c_Md_litIn 18 = .ok (.iaload, 1) := by decide +kernel
theorem d_Md_litIn_19 : decode c_Md_litIn 19 = .ok (.ifCond .ne 5, 3) := by decide +kernel
theorem d_Md_litIn_22 : decode c_Md_litIn 22 = .ok (.iconst 0, 1) := by decide +kernel
theorem d_Md_litIn_23 : decode c_Md_litIn 23 = .ok (.ireturn, 1) := by decide +kernel
theorem d_Md_litIn_24 : decode c_Md_litIn 24 = .ok (.aload_n 0, 1) := by decide +kernel
theorem d_Md_litIn_25 : decode c_Md_litIn 25 = .ok (.getfield 23, 3) := by decide +kernel
theorem d_Md_litIn_28 : decode c_Md_litIn 28 = .ok (.iconst 4, 1) := by decide +kernel
theorem d_Md_litIn_29 : decode c_Md_litIn 29 = .ok (.iload_n 1, 1) := by decide +kernel
theorem d_Md_litIn_30 : decode c_Md_litIn 30 = .ok (.imul, 1) := by decide +kernel
theorem d_Md_litIn_31 : decode c_Md_litIn 31 = .ok (.iconst 2, 1) := by decide +kernel
theorem d_Md_litIn_32 : decode c_Md_litIn 32 = .ok (.iadd, 1) := by decide +kernel
theorem d_Md_litIn_33 : decode c_Md_litIn 33 = .ok (.iaload, 1) := by decide +kernel
theorem d_Md_litIn_34 : decode c_Md_litIn 34 = .ok (.aload_n 0, 1) := by decide +kernel
theorem d_Md_litIn_35 : decode c_Md_litIn 35 = .ok (.getfield 23, 3) := by decide +kernel
theorem d_Md_litIn_38 : decode c_Md_litIn 38 = .ok (.iconst 4, 1) := by decide +kernel
theorem d_Md_litIn_39 : decode c_Md_litIn 39 = .ok (.iload_n 1, 1) := by decide +kernel
theorem d_Md_litIn_40 : decode c_Md_litIn 40 = .ok (.imul, 1) := by decide +kernel
theorem d_Md_litIn_41 : decode c_Md_litIn 41 = .ok (.iaload, 1) := by decide +kernel
theorem d_Md_litIn_42 : decode c_Md_litIn 42 = .ok (.isub, 1) := by decide +kernel
theorem d_Md_litIn_43 : decode c_Md_litIn 43 = .ok (.aload_n 0, 1) := by decide +kernel
theorem d_Md_litIn_44 : decode c_Md_litIn 44 = .ok (.getfield 23, 3) := by decide +kernel
theorem d_Md_litIn_47 : decode c_Md_litIn 47 = .ok (.iconst 4, 1) := by decide +kernel
theorem d_Md_litIn_48 : decode c_Md_litIn 48 = .ok (.iload_n 1, 1) := by decide +kernel
theorem d_Md_litIn_49 : decode c_Md_litIn 49 = .ok (.imul, 1) := by decide +kernel
theorem d_Md_litIn_50 : decode c_Md_litIn 50 = .ok (.iconst 3, 1) := by decide +kernel
theorem d_Md_litIn_51 : decode c_Md_litIn 51 = .ok (.iadd, 1) := by decide +kernel
theorem d_Md_litIn_52 : decode c_Md_litIn 52 = .ok (.iaload, 1) := by decide +kernel
theorem d_Md_litIn_53 : decode c_Md_litIn 53 = .ok (.aload_n 0, 1) := by decide +kernel
theorem d_Md_litIn_54 : decode c_Md_litIn 54 = .ok (.getfield 23, 3) := by decide +kernel
theorem d_Md_litIn_57 : decode c_Md_litIn 57 = .ok (.iconst 4, 1) := by decide +kernel
theorem d_Md_litIn_58 : decode c_Md_litIn 58 = .ok (.iload_n 1, 1) := by decide +kernel
theorem d_Md_litIn_59 : decode c_Md_litIn 59 = .ok (.imul, 1) := by decide +kernel
theorem d_Md_litIn_60 : decode c_Md_litIn 60 = .ok (.iconst 1, 1) := by decide +kernel
theorem d_Md_litIn_61 : decode c_Md_litIn 61 = .ok (.iadd, 1) := by decide +kernel
theorem d_Md_litIn_62 : decode c_Md_litIn 62 = .ok (.iaload, 1) := by decide +kernel
theorem d_Md_litIn_63 : decode c_Md_litIn 63 = .ok (.isub, 1) := by decide +kernel
theorem d_Md_litIn_64 : decode c_Md_litIn 64 = .ok (.imul, 1) := by decide +kernel
theorem d_Md_litIn_65 : decode c_Md_litIn 65 = .ok (.istore 4, 2) := by decide +kernel
theorem d_Md_litIn_67 : decode c_Md_litIn 67 = .ok (.aload_n 0, 1) := by decide +kernel
theorem d_Md_litIn_68 : decode c_Md_litIn 68 = .ok (.getfield 20, 3) := by decide +kernel
theorem d_Md_litIn_71 : decode c_Md_litIn 71 = .ok (.iload_n 2, 1) := by decide +kernel
theorem d_Md_litIn_72 : decode c_Md_litIn 72 = .ok (.iaload, 1) := by decide +kernel
theorem d_Md_litIn_73 : decode c_Md_litIn 73 = .ok (.iload 4, 2) := by decide +kernel
theorem d_Md_litIn_75 : decode c_Md_litIn 75 = .ok (.aload_n 0, 1) := by decide +kernel
theorem d_Md_litIn_76 : decode c_Md_litIn 76 = .ok (.iload_n 1, 1) := by decide +kernel
theorem d_Md_litIn_77 : decode c_Md_litIn 77 = .ok (.iload_n 2, 1) := by decide +kernel
theorem d_Md_litIn_78 : decode c_Md_litIn 78 = .ok (.iload_n 3, 1) := by decide +kernel
theorem d_Md_litIn_79 : decode c_Md_litIn 79 = .ok (.iconst 0, 1) := by decide +kernel
theorem d_Md_litIn_80 : decode c_Md_litIn 80 = .ok (.invokevirtual 102, 3) := by decide +kernel
theorem d_Md_litIn_83 : decode c_Md_litIn 83 = .ok (.isub, 1) := by decide +kernel
theorem d_Md_litIn_84 : decode c_Md_litIn 84 = .ok (.imul, 1) := by decide +kernel
theorem d_Md_litIn_85 : decode c_Md_litIn 85 = .ok (.ireturn, 1) := by decide +kernel
theorem d_Md_brightest_0 : decode c_Md_brightest 0 = .ok (.aload_n 0, 1) := by decide +kernel
theorem d_Md_brightest_1 : decode c_Md_brightest 1 = .ok (.aload_n 0, 1) := by decide +kernel
theorem d_Md_brightest_2 : decode c_Md_brightest 2 = .ok (.iload_n 1, 1) := by decide +kernel
theorem d_Md_brightest_3 : decode c_Md_brightest 3 = .ok (.invokevirtual 99, 3) := by decide +kernel
theorem d_Md_brightest_6 : decode c_Md_brightest 6 = .ok (.ifCond .eq 7, 3) := by decide +kernel
theorem d_Md_brightest_9 : decode c_Md_brightest 9 = .ok (.iconst 1, 1) := by decide +kernel
theorem d_Md_brightest_10 : decode c_Md_brightest 10 = .ok (.goto 4, 3) := by decide +kernel
theorem d_Md_brightest_13 : decode c_Md_brightest 13 = .ok (.iconst 0, 1) := by decide +kernel
theorem d_Md_brightest_14 : decode c_Md_brightest 14 = .ok (.putfield 33, 3) := by decide +kernel
theorem d_Md_brightest_17 : decode c_Md_brightest 17 = .ok (.iconst (-1), 1) := by decide +kernel
theorem d_Md_brightest_18 : decode c_Md_brightest 18 = .ok (.istore_n 2, 1) := by decide +kernel
theorem d_Md_brightest_19 : decode c_Md_brightest 19 = .ok (.iconst 0, 1) := by decide +kernel
theorem d_Md_brightest_20 : decode c_Md_brightest 20 = .ok (.istore_n 3, 1) := by decide +kernel
theorem d_Md_brightest_21 : decode c_Md_brightest 21 = .ok (.iconst 0, 1) := by decide +kernel
theorem d_Md_brightest_22 : decode c_Md_brightest 22 = .ok (.istore 4, 2) := by decide +kernel
theorem d_Md_brightest_24 : decode c_Md_brightest 24 = .ok (.iload 4, 2) := by decide +kernel
theorem d_Md_brightest_26 : decode c_Md_brightest 26 = .ok (.bipush 24, 2) := by decide +kernel
theorem d_Md_brightest_28 : decode c_Md_brightest 28 = .ok (.if_icmp .ge 52, 3) := by decide +kernel
theorem d_Md_brightest_31 : decode c_Md_brightest 31 = .ok (.aload_n 0, 1) := by decide +kernel
theorem d_Md_brightest_32 : decode c_Md_brightest 32 = .ok (.getfield 33, 3) := by decide +kernel
theorem d_Md_brightest_35 : decode c_Md_brightest 35 = .ok (.ifCond .ne 45, 3) := by decide +kernel
theorem d_Md_brightest_38 : decode c_Md_brightest 38 = .ok (.aload_n 0, 1) := by decide +kernel
theorem d_Md_brightest_39 : decode c_Md_brightest 39 = .ok (.iload_n 1, 1) := by decide +kernel
theorem d_Md_brightest_40 : decode c_Md_brightest 40 = .ok (.iload 4, 2) := by decide +kernel
theorem d_Md_brightest_42 : decode c_Md_brightest 42 = .ok (.iconst (-1), 1) := by decide +kernel
theorem d_Md_brightest_43 : decode c_Md_brightest 43 = .ok (.invokevirtual 106, 3) := by decide +kernel
theorem d_Md_brightest_46 : decode c_Md_brightest 46 = .ok (.istore 5, 2) := by decide +kernel
theorem d_Md_brightest_48 : decode c_Md_brightest 48 = .ok (.iload 5, 2) := by decide +kernel
theorem d_Md_brightest_50 : decode c_Md_brightest 50 = .ok (.iload_n 3, 1) := by decide +kernel
theorem d_Md_brightest_51 : decode c_Md_brightest 51 = .ok (.if_icmp .le 8, 3) := by decide +kernel
theorem d_Md_brightest_54 : decode c_Md_brightest 54 = .ok (.iload 4, 2) := by decide +kernel
theorem d_Md_brightest_56 : decode c_Md_brightest 56 = .ok (.goto 4, 3) := by decide +kernel
theorem d_Md_brightest_59 : decode c_Md_brightest 59 = .ok (.iload_n 2, 1) := by decide +kernel
theorem d_Md_brightest_60 : decode c_Md_brightest 60 = .ok (.istore_n 2, 1) := by decide +kernel
theorem d_Md_brightest_61 : decode c_Md_brightest 61 = .ok (.iload 5, 2) := by decide +kernel
theorem d_Md_brightest_63 : decode c_Md_brightest 63 = .ok (.iload_n 3, 1) := by decide +kernel
theorem d_Md_brightest_64 : decode c_Md_brightest 64 = .ok (.if_icmp .le 8, 3) := by decide +kernel
theorem d_Md_brightest_67 : decode c_Md_brightest 67 = .ok (.iload 5, 2) := by decide +kernel
theorem d_Md_brightest_69 : decode c_Md_brightest 69 = .ok (.goto 4, 3) := by decide +kernel
theorem d_Md_brightest_72 : decode c_Md_brightest 72 = .ok (.iload_n 3, 1) := by decide +kernel
theorem d_Md_brightest_73 : decode c_Md_brightest 73 = .ok (.istore_n 3, 1) := by decide +kernel
theorem d_Md_brightest_74 : decode c_Md_brightest 74 = .ok (.iinc 4 1, 3) := by decide +kernel
theorem d_Md_brightest_77 : decode c_Md_brightest 77 = .ok (.goto (-53), 3) := by decide +kernel
theorem d_Md_brightest_80 : decode c_Md_brightest 80 = .ok (.aload_n 0, 1) := by decide +kernel
theorem d_Md_brightest_81 : decode c_Md_brightest 81 = .ok (.getfield 33, 3) := by decide +kernel
theorem d_Md_brightest_84 : decode c_Md_brightest 84 = .ok (.ifCond .le 7, 3) := by decide +kernel
theorem d_Md_brightest_87 : decode c_Md_brightest 87 = .ok (.iconst 0, 1) := by decide +kernel
theorem d_Md_brightest_88 : decode c_Md_brightest 88 = .ok (.goto 4, 3) := by decide +kernel
theorem d_Md_brightest_91 : decode c_Md_brightest 91 = .ok (.iload_n 2, 1) := by decide +kernel
theorem d_Md_brightest_92 : decode c_Md_brightest 92 = .ok (.ireturn, 1) := by decide +kernel
theorem d_Md_ledge_0 : decode c_Md_ledge 0 = .ok (.aload_n 0, 1) := by decide +kernel
theorem d_Md_ledge_1 : decode c_Md_ledge 1 = .ok (.aload_n 0, 1) := by decide +kernel
theorem d_Md_ledge_2 : decode c_Md_ledge 2 = .ok (.aload_n 0, 1) := by decide +kernel
theorem d_Md_ledge_3 : decode c_Md_ledge 3 = .ok (.iload_n 1, 1) := by decide +kernel
theorem d_Md_ledge_4 : decode c_Md_ledge 4 = .ok (.invokevirtual 99, 3) := by decide +kernel
theorem d_Md_ledge_7 : decode c_Md_ledge 7 = .ok (.ifCond .ne 17, 3) := by decide +kernel
theorem d_Md_ledge_10 : decode c_Md_ledge 10 = .ok (.iload_n 3, 1) := by decide +kernel
theorem d_Md_ledge_11 : decode c_Md_ledge 11 = .ok (.iconst 1, 1) := by decide +kernel
theorem d_Md_ledge_12 : decode c_Md_ledge 12 = .ok (.bipush 100, 2) := by decide +kernel
theorem d_Md_ledge_14 : decode c_Md_ledge 14 = .ok (.invokestatic 36, 3) := by decide +kernel
theorem d_Md_ledge_17 : decode c_Md_ledge 17 = .ok (.ifCond .eq 7, 3) := by decide +kernel
theorem d_Md_ledge_20 : decode c_Md_ledge 20 = .ok (.iconst 1, 1) := by decide +kernel
theorem d_Md_ledge_21 : decode c_Md_ledge 21 = .ok (.goto 4, 3) := by decide +kernel
theorem d_Md_ledge_24 : decode c_Md_ledge 24 = .ok (.iconst 0, 1) := by decide +kernel
theorem d_Md_ledge_25 : decode c_Md_ledge 25 = .ok (.iload_n 2, 1) := by decide +kernel
theorem d_Md_ledge_26 : decode c_Md_ledge 26 = .ok (.invokevirtual 91, 3) := by decide +kernel
theorem d_Md_ledge_29 : decode c_Md_ledge 29 = .ok (.putfield 33, 3) := by decide +kernel
theorem d_Md_ledge_32 : decode c_Md_ledge 32 = .ok (.aload_n 0, 1) := by decide +kernel
theorem d_Md_ledge_33 : decode c_Md_ledge 33 = .ok (.getfield 33, 3) := by decide +kernel
theorem d_Md_ledge_36 : decode c_Md_ledge 36 = .ok (.ifCond .le 7, 3) := by decide +kernel
theorem d_Md_ledge_39 : decode c_Md_ledge 39 = .ok (.iconst 0, 1) := by decide +kernel
theorem d_Md_ledge_40 : decode c_Md_ledge 40 = .ok (.goto 10, 3) := by decide +kernel
theorem d_Md_ledge_43 : decode c_Md_ledge 43 = .ok (.aload_n 0, 1) := by decide +kernel
theorem d_Md_ledge_44 : decode c_Md_ledge 44 = .ok (.iload_n 1, 1) := by decide +kernel
theorem d_Md_ledge_45 : decode c_Md_ledge 45 = .ok (.iload_n 2, 1) := by decide +kernel
theorem d_Md_ledge_46 : decode c_Md_ledge 46 = .ok (.iload_n 3, 1) := by decide +kernel
theorem d_Md_ledge_47 : decode c_Md_ledge 47 = .ok (.invokevirtual 114, 3) := by decide +kernel
theorem d_Md_ledge_50 : decode c_Md_ledge 50 = .ok (.ireturn, 1) := by decide +kernel
theorem d_Md_ledged_0 : decode c_Md_ledged 0 = .ok (.aload_n 0, 1) := by decide +kernel
theorem d_Md_ledged_1 : decode c_Md_ledged 1 = .ok (.bipush 10, 2) := by decide +kernel
theorem d_Md_ledged_3 : decode c_Md_ledged 3 = .ok (.aload_n 0, 1) := by decide +kernel
theorem d_Md_ledged_4 : decode c_Md_ledged 4 = .ok (.getfield 23, 3) := by decide +kernel
theorem d_Md_ledged_7 : decode c_Md_ledged 7 = .ok (.iconst 4, 1) := by decide +kernel
theorem d_Md_ledged_8 : decode c_Md_ledged 8 = .ok (.iload_n 1, 1) := by decide +kernel
theorem d_Md_ledged_9 : decode c_Md_ledged 9 = .ok (.imul, 1) := by decide +kernel
theorem d_Md_ledged_10 : decode c_Md_ledged 10 = .ok (.iaload, 1) := by decide +kernel
theorem d_Md_ledged_11 : decode c_Md_ledged 11 = .ok (.aload_n 0, 1) := by decide +kernel
theorem d_Md_ledged_12 : decode c_Md_ledged 12 = .ok (.getfield 23, 3) := by decide +kernel
theorem d_Md_ledged_15 : decode c_Md_ledged 15 = .ok (.iconst 4, 1) := by decide +kernel
theorem d_Md_ledged_16 : decode c_Md_ledged 16 = .ok (.iload_n 1, 1) := by decide +kernel
theorem d_Md_ledged_17 : decode c_Md_ledged 17 = .ok (.imul, 1) := by decide +kernel
theorem d_Md_ledged_18 : decode c_Md_ledged 18 = .ok (.iconst 3, 1) := by decide +kernel
theorem d_Md_ledged_19 : decode c_Md_ledged 19 = .ok (.iadd, 1) := by decide +kernel
theorem d_Md_ledged_20 : decode c_Md_ledged 20 = .ok (.iaload, 1) := by decide +kernel
theorem d_Md_ledged_21 : decode c_Md_ledged 21 = .ok (.iconst 0, 1) := by decide +kernel
theorem d_Md_ledged_22 : decode c_Md_ledged 22 = .ok (.aload_n 0, 1) := by decide +kernel
theorem d_Md_ledged_23 : decode c_Md_ledged 23 = .ok (.getfield 23, 3) := by decide +kernel
theorem d_Md_ledged_26 : decode c_Md_ledged 26 = .ok (.iconst 4, 1) := by decide +kernel
theorem d_Md_ledged_27 : decode c_Md_ledged 27 = .ok (.iload_n 1, 1) := by decide +kernel
theorem d_Md_ledged_28 : decode c_Md_ledged 28 = .ok (.imul, 1) := by decide +kernel
theorem d_Md_ledged_29 : decode c_Md_ledged 29 = .ok (.iconst 2, 1) := by decide +kernel
theorem d_Md_ledged_30 : decode c_Md_ledged 30 = .ok (.iadd, 1) := by decide +kernel
theorem d_Md_ledged_31 : decode c_Md_ledged 31 = .ok (.iaload, 1) := by decide +kernel
theorem d_Md_ledged_32 : decode c_Md_ledged 32 = .ok (.aload_n 0, 1) := by decide +kernel
theorem d_Md_ledged_33 : decode c_Md_ledged 33 = .ok (.getfield 23, 3) := by decide +kernel
theorem d_Md_ledged_36 : decode c_Md_ledged 36 = .ok (.iconst 4, 1) := by decide +kernel
theorem d_Md_ledged_37 : decode c_Md_ledged 37 = .ok (.iload_n 1, 1) := by decide +kernel
theorem d_Md_ledged_38 : decode c_Md_ledged 38 = .ok (.imul, 1) := by decide +kernel
theorem d_Md_ledged_39 : decode c_Md_ledged 39 = .ok (.iconst 3, 1) := by decide +kernel
theorem d_Md_ledged_40 : decode c_Md_ledged 40 = .ok (.iadd, 1) := by decide +kernel
theorem d_Md_ledged_41 : decode c_Md_ledged 41 = .ok (.iaload, 1) := by decide +kernel
theorem d_Md_ledged_42 : decode c_Md_ledged 42 = .ok (.iconst 1, 1) := by decide +kernel
theorem d_Md_ledged_43 : decode c_Md_ledged 43 = .ok (.iadd, 1) := by decide +kernel
theorem d_Md_ledged_44 : decode c_Md_ledged 44 = .ok (.iload_n 3, 1) := by decide +kernel
theorem d_Md_ledged_45 : decode c_Md_ledged 45 = .ok (.invokevirtual 47, 3) := by decide +kernel
theorem d_Md_ledged_48 : decode c_Md_ledged 48 = .ok (.aload_n 0, 1) := by decide +kernel
theorem d_Md_ledged_49 : decode c_Md_ledged 49 = .ok (.iload_n 1, 1) := by decide +kernel
theorem d_Md_ledged_50 : decode c_Md_ledged 50 = .ok (.iload_n 2, 1) := by decide +kernel
theorem d_Md_ledged_51 : decode c_Md_ledged 51 = .ok (.iconst (-1), 1) := by decide +kernel
theorem d_Md_ledged_52 : decode c_Md_ledged 52 = .ok (.iconst 1, 1) := by decide +kernel
theorem d_Md_ledged_53 : decode c_Md_ledged 53 = .ok (.invokevirtual 102, 3) := by decide +kernel
theorem d_Md_ledged_56 : decode c_Md_ledged 56 = .ok (.ireturn, 1) := by decide +kernel
theorem d_Md_deep_0 : decode c_Md_deep 0 = .ok (.aload_n 0, 1) := by decide +kernel
theorem d_Md_deep_1 : decode c_Md_deep 1 = .ok (.aload_n 0, 1) := by decide +kernel
theorem d_Md_deep_2 : decode c_Md_deep 2 = .ok (.aload_n 0, 1) := by decide +kernel
theorem d_Md_deep_3 : decode c_Md_deep 3 = .ok (.iload_n 1, 1) := by decide +kernel
theorem d_Md_deep_4 : decode c_Md_deep 4 = .ok (.invokevirtual 99, 3) := by decide +kernel
theorem d_Md_deep_7 : decode c_Md_deep 7 = .ok (.ifCond .ne 11, 3) := by decide +kernel
theorem d_Md_deep_10 : decode c_Md_deep 10 = .ok (.iload_n 3, 1) := by decide +kernel
theorem d_Md_deep_11 : decode c_Md_deep 11 = .ok (.ifCond .lt 7, 3) := by decide +kernel
theorem d_Md_deep_14 : decode c_Md_deep 14 = .ok (.iconst 1, 1) := by decide +kernel
theorem d_Md_deep_15 : decode c_Md_deep 15 = .ok (.goto 4, 3) := by decide +kernel
theorem d_Md_deep_18 : decode c_Md_deep 18 = .ok (.iconst 0, 1) := by decide +kernel
theorem d_Md_deep_19 : decode c_Md_deep 19 = .ok (.iload_n 2, 1) := by decide +kernel
theorem d_Md_deep_20 : decode c_Md_deep 20 = .ok (.invokevirtual 91, 3) := by decide +kernel
theorem d_Md_deep_23 : decode c_Md_deep 23 = .ok (.putfield 33, 3) := by decide +kernel
theorem d_Md_deep_26 : decode c_Md_deep 26 = .ok (.aload_n 0, 1) := by decide +kernel
theorem d_Md_deep_27 : decode c_Md_deep 27 = .ok (.getfield 33, 3) := by decide +kernel
theorem d_Md_deep_30 : decode c_Md_deep 30 = .ok (.ifCond .le 5, 3) := by decide +kernel
theorem d_Md_deep_33 : decode c_Md_deep 33 = .ok (.iconst 0, 1) := by decide +kernel
theorem d_Md_deep_34 : decode c_Md_deep 34 = .ok (.ireturn, 1) := by decide +kernel
theorem d_Md_deep_35 : decode c_Md_deep 35 = .ok (.aload_n 0, 1) := by decide +kernel
theorem d_Md_deep_36 : decode c_Md_deep 36 = .ok (.iload_n 1, 1) := by decide +kernel
theorem d_Md_deep_37 : decode c_Md_deep 37 = .ok (.iload_n 2, 1) := by decide +kernel
theorem d_Md_deep_38 : decode c_Md_deep 38 = .ok (.iconst (-1), 1) := by decide +kernel
theorem d_Md_deep_39 : decode c_Md_deep 39 = .ok (.iconst 0, 1) := by decide +kernel
theorem d_Md_deep_40 : decode c_Md_deep 40 = .ok (.invokevirtual 102, 3) := by decide +kernel
theorem d_Md_deep_43 : decode c_Md_deep 43 = .ok (.iload_n 3, 1) := by decide +kernel
theorem d_Md_deep_44 : decode c_Md_deep 44 = .ok (.if_icmp .lt 5, 3) := by decide +kernel
theorem d_Md_deep_47 : decode c_Md_deep 47 = .ok (.iconst 0, 1) := by decide +kernel
theorem d_Md_deep_48 : decode c_Md_deep 48 = .ok (.ireturn, 1) := by decide +kernel
theorem d_Md_deep_49 : decode c_Md_deep 49 = .ok (.iconst 1, 1) := by decide +kernel
theorem d_Md_deep_50 : decode c_Md_deep 50 = .ok (.istore 4, 2) := by decide +kernel
theorem d_Md_deep_52 : decode c_Md_deep 52 = .ok (.iload 4, 2) := by decide +kernel
theorem d_Md_deep_54 : decode c_Md_deep 54 = .ok (.bipush 100, 2) := by decide +kernel
theorem d_Md_deep_56 : decode c_Md_deep 56 = .ok (.if_icmp .gt 24, 3) := by decide +kernel
theorem d_Md_deep_59 : decode c_Md_deep 59 = .ok (.aload_n 0, 1) := by decide +kernel
theorem d_Md_deep_60 : decode c_Md_deep 60 = .ok (.iload_n 1, 1) := by decide +kernel
theorem d_Md_deep_61 : decode c_Md_deep 61 = .ok (.iload_n 2, 1) := by decide +kernel
theorem d_Md_deep_62 : decode c_Md_deep 62 = .ok (.iload 4, 2) := by decide +kernel
theorem d_Md_deep_64 : decode c_Md_deep 64 = .ok (.invokevirtual 114, 3) := by decide +kernel
theorem d_Md_deep_67 : decode c_Md_deep 67 = .ok (.iload_n 3, 1) := by decide +kernel
theorem d_Md_deep_68 : decode c_Md_deep 68 = .ok (.if_icmp .lt 6, 3) := by decide +kernel
theorem d_Md_deep_71 : decode c_Md_deep 71 = .ok (.iload 4, 2) := by decide +kernel
theorem d_Md_deep_73 : decode c_Md_deep 73 = .ok (.ireturn, 1) := by decide +kernel
theorem d_Md_deep_74 : decode c_Md_deep 74 = .ok (.iinc 4 1, 3) := by decide +kernel
theorem d_Md_deep_77 : decode c_Md_deep 77 = .ok (.goto (-25), 3) := by decide +kernel
theorem d_Md_deep_80 : decode c_Md_deep 80 = .ok (.iconst (-1), 1) := by decide +kernel
theorem d_Md_deep_81 : decode c_Md_deep 81 = .ok (.ireturn, 1) := by decide +kernel
theorem d_Md_worst_0 : decode c_Md_worst 0 = .ok (.aload_n 0, 1) := by decide +kernel
theorem d_Md_worst_1 : decode c_Md_worst 1 = .ok (.aload_n 0, 1) := by decide +kernel
theorem d_Md_worst_2 : decode c_Md_worst 2 = .ok (.iload_n 1, 1) := by decide +kernel
theorem d_Md_worst_3 : decode c_Md_worst 3 = .ok (.invokevirtual 99, 3) := by decide +kernel
theorem d_Md_worst_6 : decode c_Md_worst 6 = .ok (.ifCond .eq 7, 3) := by decide +kernel
theorem d_Md_worst_9 : decode c_Md_worst 9 = .ok (.iconst 1, 1) := by decide +kernel
theorem d_Md_worst_10 : decode c_Md_worst 10 = .ok (.goto 4, 3) := by decide +kernel
theorem d_Md_worst_13 : decode c_Md_worst 13 = .ok (.iconst 0, 1) := by decide +kernel
theorem d_Md_worst_14 : decode c_Md_worst 14 = .ok (.putfield 33, 3) := by decide +kernel
theorem d_Md_worst_17 : decode c_Md_worst 17 = .ok (.iconst (-1), 1) := by decide +kernel
theorem d_Md_worst_18 : decode c_Md_worst 18 = .ok (.istore_n 2, 1) := by decide +kernel
theorem d_Md_worst_19 : decode c_Md_worst 19 = .ok (.iconst 0, 1) := by decide +kernel
theorem d_Md_worst_20 : decode c_Md_worst 20 = .ok (.istore_n 3, 1) := by decide +kernel
theorem d_Md_worst_21 : decode c_Md_worst 21 = .ok (.iconst 0, 1) := by decide +kernel
theorem d_Md_worst_22 : decode c_Md_worst 22 = .ok (.istore 4, 2) := by decide +kernel
theorem d_Md_worst_24 : decode c_Md_worst 24 = .ok (.iload 4, 2) := by decide +kernel
theorem d_Md_worst_26 : decode c_Md_worst 26 = .ok (.aload_n 0, 1) := by decide +kernel
theorem d_Md_worst_27 : decode c_Md_worst 27 = .ok (.getfield 44, 3) := by decide +kernel
theorem d_Md_worst_30 : decode c_Md_worst 30 = .ok (.if_icmp .ge 72, 3) := by decide +kernel
theorem d_Md_worst_33 : decode c_Md_worst 33 = .ok (.aload_n 0, 1) := by decide +kernel
theorem d_Md_worst_34 : decode c_Md_worst 34 = .ok (.getfield 33, 3) := by decide +kernel
theorem d_Md_worst_37 : decode c_Md_worst 37 = .ok (.ifCond .ne 65, 3) := by decide +kernel
theorem d_Md_worst_40 : decode c_Md_worst 40 = .ok (.aload_n 0, 1) := by decide +kernel
theorem d_Md_worst_41 : decode c_Md_worst 41 = .ok (.getfield 13, 3) := by decide +kernel
theorem d_Md_worst_44 : decode c_Md_worst 44 = .ok (.iload 4, 2) := by decide +kernel
theorem d_Md_worst_46 : decode c_Md_worst 46 = .ok (.baload, 1) := by decide +kernel
theorem d_Md_worst_47 : decode c_Md_worst 47 = .ok (.ifCond .eq 20, 3) := by decide +kernel
theorem d_Md_worst_50 : decode c_Md_worst 50 = .ok (.aload_n 0, 1) := by decide +kernel
theorem d_Md_worst_51 : decode c_Md_worst 51 = .ok (.iload_n 1, 1) := by decide +kernel
theorem d_Md_worst_52 : decode c_Md_worst 52 = .ok (.iload 4, 2) := by decide +kernel
theorem d_Md_worst_54 : decode c_Md_worst 54 = .ok (.invokevirtual 110, 3) := by decide +kernel
theorem d_Md_worst_57 : decode c_Md_worst 57 = .ok (.aload_n 0, 1) := by decide +kernel
theorem d_Md_worst_58 : decode c_Md_worst 58 = .ok (.iload_n 1, 1) := by decide +kernel
theorem d_Md_worst_59 : decode c_Md_worst 59 = .ok (.iconst (-1), 1) := by decide +kernel
theorem d_Md_worst_60 : decode c_Md_worst 60 = .ok (.invokevirtual 110, 3) := by decide +kernel
theorem d_Md_worst_63 : decode c_Md_worst 63 = .ok (.isub, 1) := by decide +kernel
theorem d_Md_worst_64 : decode c_Md_worst 64 = .ok (.goto 4, 3) := by decide +kernel
theorem d_Md_worst_67 : decode c_Md_worst 67 = .ok (.iconst 0, 1) := by decide +kernel
theorem d_Md_worst_68 : decode c_Md_worst 68 = .ok (.istore 5, 2) := by decide +kernel
theorem d_Md_worst_70 : decode c_Md_worst 70 = .ok (.iload 5, 2) := by decide +kernel
theorem d_Md_worst_72 : decode c_Md_worst 72 = .ok (.iload_n 3, 1) := by decide +kernel
theorem d_Md_worst_73 : decode c_Md_worst 73 = .ok (.if_icmp .le 8, 3) := by decide +kernel
theorem d_Md_worst_76 : decode c_Md_worst 76 = .ok (.iload 4, 2) := by decide +kernel
theorem d_Md_worst_78 : decode c_Md_worst 78 = .ok (.goto 4, 3) := by decide +kernel
theorem d_Md_worst_81 : decode c_Md_worst 81 = .ok (.iload_n 2, 1) := by decide +kernel
theorem d_Md_worst_82 : decode c_Md_worst 82 = .ok (.istore_n 2, 1) := by decide +kernel
theorem d_Md_worst_83 : decode c_Md_worst 83 = .ok (.iload 5, 2) := by decide +kernel
theorem d_Md_worst_85 : decode c_Md_worst 85 = .ok (.iload_n 3, 1) := by decide +kernel
theorem d_Md_worst_86 : decode c_Md_worst 86 = .ok (.if_icmp .le 8, 3) := by decide +kernel
theorem d_Md_worst_89 : decode c_Md_worst 89 = .ok (.iload 5, 2) := by decide +kernel
theorem d_Md_worst_91 : decode c_Md_worst 91 = .ok (.goto 4, 3) := by decide +kernel
theorem d_Md_worst_94 : decode c_Md_worst 94 = .ok (.iload_n 3, 1) := by decide +kernel
theorem d_Md_worst_95 : decode c_Md_worst 95 = .ok (.istore_n 3, 1) := by decide +kernel
theorem d_Md_worst_96 : decode c_Md_worst 96 = .ok (.iinc 4 1, 3) := by decide +kernel
theorem d_Md_worst_99 : decode c_Md_worst 99 = .ok (.goto (-75), 3) := by decide +kernel
theorem d_Md_worst_102 : decode c_Md_worst 102 = .ok (.aload_n 0, 1) := by decide +kernel
theorem d_Md_worst_103 : decode c_Md_worst 103 = .ok (.getfield 33, 3) := by decide +kernel
theorem d_Md_worst_106 : decode c_Md_worst 106 = .ok (.ifCond .le 7, 3) := by decide +kernel
theorem d_Md_worst_109 : decode c_Md_worst 109 = .ok (.iconst 0, 1) := by decide +kernel
theorem d_Md_worst_110 : decode c_Md_worst 110 = .ok (.goto 4, 3) := by decide +kernel
theorem d_Md_worst_113 : decode c_Md_worst 113 = .ok (.iload_n 2, 1) := by decide +kernel
theorem d_Md_worst_114 : decode c_Md_worst 114 = .ok (.ireturn, 1) := by decide +kernel
