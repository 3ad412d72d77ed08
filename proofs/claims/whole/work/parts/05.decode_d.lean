theorem d_Lw_cell_s_0 : decode c_Lw_cell_s 0 = .ok (.iload_n 1, 1) := by decide +kernel
theorem d_Lw_cell_s_1 : decode c_Lw_cell_s 1 = .ok (.aload_n 0, 1) := by decide +kernel
theorem d_Lw_cell_s_2 : decode c_Lw_cell_s 2 = .ok (.arraylength, 1) := by decide +kernel
theorem d_Lw_cell_s_3 : decode c_Lw_cell_s 3 = .ok (.if_icmp .ge 9, 3) := by decide +kernel
theorem d_Lw_cell_s_6 : decode c_Lw_cell_s 6 = .ok (.aload_n 0, 1) := by decide +kernel
theorem d_Lw_cell_s_7 : decode c_Lw_cell_s 7 = .ok (.iload_n 1, 1) := by decide +kernel
theorem d_Lw_cell_s_8 : decode c_Lw_cell_s 8 = .ok (.iaload, 1) := by decide +kernel
theorem d_Lw_cell_s_9 : decode c_Lw_cell_s 9 = .ok (.goto 4, 3) := by decide +kernel
theorem d_Lw_cell_s_12 : decode c_Lw_cell_s 12 = .ok (.iconst 0, 1) := by decide +kernel
theorem d_Lw_cell_s_13 : decode c_Lw_cell_s 13 = .ok (.ireturn, 1) := by decide +kernel
theorem d_Lw_box_0 : decode c_Lw_box 0 = .ok (.aload 7, 2) := by decide +kernel
theorem d_Lw_box_2 : decode c_Lw_box 2 = .ok (.iconst 0, 1) := by decide +kernel
theorem d_Lw_box_3 : decode c_Lw_box 3 = .ok (.aload_n 0, 1) := by decide +kernel
theorem d_Lw_box_4 : decode c_Lw_box 4 = .ok (.iload_n 1, 1) := by decide +kernel
theorem d_Lw_box_5 : decode c_Lw_box 5 = .ok (.iload_n 2, 1) := by decide +kernel
theorem d_Lw_box_6 : decode c_Lw_box 6 = .ok (.iload_n 3, 1) := by decide +kernel
theorem d_Lw_box_7 : decode c_Lw_box 7 = .ok (.iload 4, 2) := by decide +kernel
theorem d_Lw_box_9 : decode c_Lw_box 9 = .ok (.iload 5, 2) := by decide +kernel
theorem d_Lw_box_11 : decode c_Lw_box 11 = .ok (.iload 6, 2) := by decide +kernel
theorem d_Lw_box_13 : decode c_Lw_box 13 = .ok (.invokevirtual 7, 3) := by decide +kernel
theorem d_Lw_box_16 : decode c_Lw_box 16 = .ok (.i2l, 1) := by decide +kernel
theorem d_Lw_box_17 : decode c_Lw_box 17 = .ok (.lastore, 1) := by decide +kernel
theorem d_Lw_box_18 : decode c_Lw_box 18 = .ok (.goto 11, 3) := by decide +kernel
theorem d_Lw_box_21 : decode c_Lw_box 21 = .ok (.astore 8, 2) := by decide +kernel
theorem d_Lw_box_23 : decode c_Lw_box 23 = .ok (.iconst 1, 1) := by decide +kernel
theorem d_Lw_box_24 : decode c_Lw_box 24 = .ok (.ireturn, 1) := by decide +kernel
theorem d_Lw_box_25 : decode c_Lw_box 25 = .ok (.astore 8, 2) := by decide +kernel
theorem d_Lw_box_27 : decode c_Lw_box 27 = .ok (.iconst 2, 1) := by decide +kernel
theorem d_Lw_box_28 : decode c_Lw_box 28 = .ok (.ireturn, 1) := by decide +kernel
theorem d_Lw_box_29 : decode c_Lw_box 29 = .ok (.iconst 0, 1) := by decide +kernel
theorem d_Lw_box_30 : decode c_Lw_box 30 = .ok (.ireturn, 1) := by decide +kernel
theorem d_Lw_move_0 : decode c_Lw_move 0 = .ok (.aload 5, 2) := by decide +kernel
theorem d_Lw_move_2 : decode c_Lw_move 2 = .ok (.iconst 0, 1) := by decide +kernel
theorem d_Lw_move_3 : decode c_Lw_move 3 = .ok (.aload_n 0, 1) := by decide +kernel
theorem d_Lw_move_4 : decode c_Lw_move 4 = .ok (.iload_n 1, 1) := by decide +kernel
theorem d_Lw_move_5 : decode c_Lw_move 5 = .ok (.iload_n 2, 1) := by decide +kernel
theorem d_Lw_move_6 : decode c_Lw_move 6 = .ok (.iload_n 3, 1) := by decide +kernel
theorem d_Lw_move_7 : decode c_Lw_move 7 = .ok (.iload 4, 2) := by decide +kernel
theorem d_Lw_move_9 : decode c_Lw_move 9 = .ok (.invokevirtual 17, 3) := by decide +kernel
theorem d_Lw_move_12 : decode c_Lw_move 12 = .ok (.ifCond .eq 7, 3) := by decide +kernel
theorem d_Lw_move_15 : decode c_Lw_move 15 = .ok (.lconst 1, 1) := by decide +kernel
theorem d_Lw_move_16 : decode c_Lw_move 16 = .ok (.goto 4, 3) := by decide +kernel
theorem d_Lw_move_19 : decode c_Lw_move 19 = .ok (.lconst 0, 1) := by decide +kernel
theorem d_Lw_move_20 : decode c_Lw_move 20 = .ok (.lastore, 1) := by decide +kernel
theorem d_Lw_move_21 : decode c_Lw_move 21 = .ok (.goto 7, 3) := by decide +kernel
theorem d_Lw_move_24 : decode c_Lw_move 24 = .ok (.astore 6, 2) := by decide +kernel
theorem d_Lw_move_26 : decode c_Lw_move 26 = .ok (.iconst 1, 1) := by decide +kernel
theorem d_Lw_move_27 : decode c_Lw_move 27 = .ok (.ireturn, 1) := by decide +kernel
theorem d_Lw_move_28 : decode c_Lw_move 28 = .ok (.iconst 0, 1) := by decide +kernel
theorem d_Lw_move_29 : decode c_Lw_move 29 = .ok (.ireturn, 1) := by decide +kernel
theorem d_Lw_there_0 : decode c_Lw_there 0 = .ok (.aload_n 3, 1) := by decide +kernel
theorem d_Lw_there_1 : decode c_Lw_there 1 = .ok (.iconst 0, 1) := by decide +kernel
theorem d_Lw_there_2 : decode c_Lw_there 2 = .ok (.aload_n 0, 1) := by decide +kernel
theorem d_Lw_there_3 : decode c_Lw_there 3 = .ok (.iload_n 1, 1) := by decide +kernel
theorem d_Lw_there_4 : decode c_Lw_there 4 = .ok (.iload_n 2, 1) := by decide +kernel
theorem d_Lw_there_5 : decode c_Lw_there 5 = .ok (.invokevirtual 21, 3) := by decide +kernel
theorem d_Lw_there_8 : decode c_Lw_there 8 = .ok (.ifCond .eq 7, 3) := by decide +kernel
theorem d_Lw_there_11 : decode c_Lw_there 11 = .ok (.lconst 1, 1) := by decide +kernel
theorem d_Lw_there_12 : decode c_Lw_there 12 = .ok (.goto 4, 3) := by decide +kernel
theorem d_Lw_there_15 : decode c_Lw_there 15 = .ok (.lconst 0, 1) := by decide +kernel
theorem d_Lw_there_16 : decode c_Lw_there 16 = .ok (.lastore, 1) := by decide +kernel
theorem d_Lw_there_17 : decode c_Lw_there 17 = .ok (.goto 7, 3) := by decide +kernel
theorem d_Lw_there_20 : decode c_Lw_there 20 = .ok (.astore 4, 2) := by decide +kernel
theorem d_Lw_there_22 : decode c_Lw_there 22 = .ok (.iconst 1, 1) := by decide +kernel
theorem d_Lw_there_23 : decode c_Lw_there 23 = .ok (.ireturn, 1) := by decide +kernel
theorem d_Lw_there_24 : decode c_Lw_there 24 = .ok (.iconst 0, 1) := by decide +kernel
theorem d_Lw_there_25 : decode c_Lw_there 25 = .ok (.ireturn, 1) := by decide +kernel
theorem d_Lw_sun_0 : decode c_Lw_sun 0 = .ok (.aload_n 0, 1) := by decide +kernel
theorem d_Lw_sun_1 : decode c_Lw_sun 1 = .ok (.iload_n 1, 1) := by decide +kernel
theorem d_Lw_sun_2 : decode c_Lw_sun 2 = .ok (.iload_n 2, 1) := by decide +kernel
theorem d_Lw_sun_3 : decode c_Lw_sun 3 = .ok (.iload_n 3, 1) := by decide +kernel
theorem d_Lw_sun_4 : decode c_Lw_sun 4 = .ok (.iload 4, 2) := by decide +kernel
theorem d_Lw_sun_6 : decode c_Lw_sun 6 = .ok (.invokevirtual 25, 3) := by decide +kernel
theorem d_Lw_sun_9 : decode c_Lw_sun 9 = .ok (.goto 7, 3) := by decide +kernel
theorem d_Lw_sun_12 : decode c_Lw_sun 12 = .ok (.astore 5, 2) := by decide +kernel
theorem d_Lw_sun_14 : decode c_Lw_sun 14 = .ok (.iconst 1, 1) := by decide +kernel
theorem d_Lw_sun_15 : decode c_Lw_sun 15 = .ok (.ireturn, 1) := by decide +kernel
theorem d_Lw_sun_16 : decode c_Lw_sun 16 = .ok (.iconst 0, 1) := by decide +kernel
theorem d_Lw_sun_17 : decode c_Lw_sun 17 = .ok (.ireturn, 1) := by decide +kernel
theorem d_Lw_light_0 : decode c_Lw_light 0 = .ok (.aload_n 3, 1) := by decide +kernel
theorem d_Lw_light_1 : decode c_Lw_light 1 = .ok (.iconst 0, 1) := by decide +kernel
theorem d_Lw_light_2 : decode c_Lw_light 2 = .ok (.aload_n 0, 1) := by decide +kernel
theorem d_Lw_light_3 : decode c_Lw_light 3 = .ok (.iload_n 1, 1) := by decide +kernel
theorem d_Lw_light_4 : decode c_Lw_light 4 = .ok (.iload_n 2, 1) := by decide +kernel
theorem d_Lw_light_5 : decode c_Lw_light 5 = .ok (.invokevirtual 29, 3) := by decide +kernel
theorem d_Lw_light_8 : decode c_Lw_light 8 = .ok (.i2l, 1) := by decide +kernel
theorem d_Lw_light_9 : decode c_Lw_light 9 = .ok (.lastore, 1) := by decide +kernel
theorem d_Lw_light_10 : decode c_Lw_light 10 = .ok (.goto 7, 3) := by decide +kernel
theorem d_Lw_light_13 : decode c_Lw_light 13 = .ok (.astore 4, 2) := by decide +kernel
theorem d_Lw_light_15 : decode c_Lw_light 15 = .ok (.iconst 1, 1) := by decide +kernel
theorem d_Lw_light_16 : decode c_Lw_light 16 = .ok (.ireturn, 1) := by decide +kernel
theorem d_Lw_light_17 : decode c_Lw_light 17 = .ok (.iconst 0, 1) := by decide +kernel
theorem d_Lw_light_18 : decode c_Lw_light 18 = .ok (.ireturn, 1) := by decide +kernel
theorem d_Lw_window_0 : decode c_Lw_window 0 = .ok (.aload 5, 2) := by decide +kernel
theorem d_Lw_window_2 : decode c_Lw_window 2 = .ok (.iconst 0, 1) := by decide +kernel
theorem d_Lw_window_3 : decode c_Lw_window 3 = .ok (.aload_n 0, 1) := by decide +kernel
theorem d_Lw_window_4 : decode c_Lw_window 4 = .ok (.iload_n 1, 1) := by decide +kernel
theorem d_Lw_window_5 : decode c_Lw_window 5 = .ok (.iload_n 2, 1) := by decide +kernel
theorem d_Lw_window_6 : decode c_Lw_window 6 = .ok (.iload_n 3, 1) := by decide +kernel
theorem d_Lw_window_7 : decode c_Lw_window 7 = .ok (.iload 4, 2) := by decide +kernel
theorem d_Lw_window_9 : decode c_Lw_window 9 = .ok (.invokevirtual 33, 3) := by decide +kernel
theorem d_Lw_window_12 : decode c_Lw_window 12 = .ok (.i2l, 1) := by decide +kernel
theorem d_Lw_window_13 : decode c_Lw_window 13 = .ok (.lastore, 1) := by decide +kernel
theorem d_Lw_window_14 : decode c_Lw_window 14 = .ok (.goto 11, 3) := by decide +kernel
theorem d_Lw_window_17 : decode c_Lw_window 17 = .ok (.astore 6, 2) := by decide +kernel
theorem d_Lw_window_19 : decode c_Lw_window 19 = .ok (.iconst 1, 1) := by decide +kernel
theorem d_Lw_window_20 : decode c_Lw_window 20 = .ok (.ireturn, 1) := by decide +kernel
theorem d_Lw_window_21 : decode c_Lw_window 21 = .ok (.astore 6, 2) := by decide +kernel
theorem d_Lw_window_23 : decode c_Lw_window 23 = .ok (.iconst 2, 1) := by decide +kernel
theorem d_Lw_window_24 : decode c_Lw_window 24 = .ok (.ireturn, 1) := by decide +kernel
theorem d_Lw_window_25 : decode c_Lw_window 25 = .ok (.iconst 0, 1) := by decide +kernel
theorem d_Lw_window_26 : decode c_Lw_window 26 = .ok (.ireturn, 1) := by decide +kernel
theorem d_Lw_shadow_0 : decode c_Lw_shadow 0 = .ok (.aload 4, 2) := by decide +kernel
theorem d_Lw_shadow_2 : decode c_Lw_shadow 2 = .ok (.iconst 0, 1) := by decide +kernel
theorem d_Lw_shadow_3 : decode c_Lw_shadow 3 = .ok (.aload_n 0, 1) := by decide +kernel
theorem d_Lw_shadow_4 : decode c_Lw_shadow 4 = .ok (.iload_n 1, 1) := by decide +kernel
theorem d_Lw_shadow_5 : decode c_Lw_shadow 5 = .ok (.iload_n 2, 1) := by decide +kernel
theorem d_Lw_shadow_6 : decode c_Lw_shadow 6 = .ok (.iload_n 3, 1) := by decide +kernel
theorem d_Lw_shadow_7 : decode c_Lw_shadow 7 = .ok (.invokevirtual 37, 3) := by decide +kernel
theorem d_Lw_shadow_10 : decode c_Lw_shadow 10 = .ok (.ifCond .eq 7, 3) := by decide +kernel
theorem d_Lw_shadow_13 : decode c_Lw_shadow 13 = .ok (.lconst 1, 1) := by decide +kernel
theorem d_Lw_shadow_14 : decode c_Lw_shadow 14 = .ok (.goto 4, 3) := by decide +kernel
theorem d_Lw_shadow_17 : decode c_Lw_shadow 17 = .ok (.lconst 0, 1) := by decide +kernel
theorem d_Lw_shadow_18 : decode c_Lw_shadow 18 = .ok (.lastore, 1) := by decide +kernel
theorem d_Lw_shadow_19 : decode c_Lw_shadow 19 = .ok (.goto 11, 3) := by decide +kernel
theorem d_Lw_shadow_22 : decode c_Lw_shadow 22 = .ok (.astore 5, 2) := by decide +kernel
theorem d_Lw_shadow_24 : decode c_Lw_shadow 24 = .ok (.iconst 1, 1) := by decide +kernel
theorem d_Lw_shadow_25 : decode c_Lw_shadow 25 = .ok (.ireturn, 1) := by decide +kernel
theorem d_Lw_shadow_26 : decode c_Lw_shadow 26 = .ok (.astore 5, 2) := by decide +kernel
theorem d_Lw_shadow_28 : decode c_Lw_shadow 28 = .ok (.iconst 2, 1) := by decide +kernel
theorem d_Lw_shadow_29 : decode c_Lw_shadow 29 = .ok (.ireturn, 1) := by decide +kernel
theorem d_Lw_shadow_30 : decode c_Lw_shadow 30 = .ok (.iconst 0, 1) := by decide +kernel
theorem d_Lw_shadow_31 : decode c_Lw_shadow 31 = .ok (.ireturn, 1) := by decide +kernel
theorem d_Lw_shadows_0 : decode c_Lw_shadows 0 = .ok (.aload_n 3, 1) := by decide +kernel
theorem d_Lw_shadows_1 : decode c_Lw_shadows 1 = .ok (.iconst 0, 1) := by decide +kernel
theorem d_Lw_shadows_2 : decode c_Lw_shadows 2 = .ok (.aload_n 0, 1) := by decide +kernel
theorem d_Lw_shadows_3 : decode c_Lw_shadows 3 = .ok (.iload_n 1, 1) := by decide +kernel
theorem d_Lw_shadows_4 : decode c_Lw_shadows 4 = .ok (.iload_n 2, 1) := by decide +kernel
theorem d_Lw_shadows_5 : decode c_Lw_shadows 5 = .ok (.invokevirtual 41, 3) := by decide +kernel
theorem d_Lw_shadows_8 : decode c_Lw_shadows 8 = .ok (.i2l, 1) := by decide +kernel
theorem d_Lw_shadows_9 : decode c_Lw_shadows 9 = .ok (.lastore, 1) := by decide +kernel
theorem d_Lw_shadows_10 : decode c_Lw_shadows 10 = .ok (.goto 11, 3) := by decide +kernel
theorem d_Lw_shadows_13 : decode c_Lw_shadows 13 = .ok (.astore 4, 2) := by decide +kernel
theorem d_Lw_shadows_15 : decode c_Lw_shadows 15 = .ok (.iconst 1, 1) := by decide +kernel
theorem d_Lw_shadows_16 : decode c_Lw_shadows 16 = .ok (.ireturn, 1) := by decide +kernel
theorem d_Lw_shadows_17 : decode c_Lw_shadows 17 = .ok (.astore 4, 2) := by decide +kernel
theorem d_Lw_shadows_19 : decode c_Lw_shadows 19 = .ok (.iconst 2, 1) := by decide +kernel
theorem d_Lw_shadows_20 : decode c_Lw_shadows 20 = .ok (.ireturn, 1) := by decide +kernel
theorem d_Lw_shadows_21 : decode c_Lw_shadows 21 = .ok (.iconst 0, 1) := by decide +kernel
theorem d_Lw_shadows_22 : decode c_Lw_shadows 22 = .ok (.ireturn, 1) := by decide +kernel
theorem d_Lw_dark_0 : decode c_Lw_dark 0 = .ok (.aload_n 3, 1) := by decide +kernel
theorem d_Lw_dark_1 : decode c_Lw_dark 1 = .ok (.iconst 0, 1) := by decide +kernel
theorem d_Lw_dark_2 : decode c_Lw_dark 2 = .ok (.aload_n 0, 1) := by decide +kernel
theorem d_Lw_dark_3 : decode c_Lw_dark 3 = .ok (.iload_n 1, 1) := by decide +kernel
theorem d_Lw_dark_4 : decode c_Lw_dark 4 = .ok (.iload_n 2, 1) := by decide +kernel
theorem d_Lw_dark_5 : decode c_Lw_dark 5 = .ok (.invokevirtual 44, 3) := by decide +kernel
theorem d_Lw_dark_8 : decode c_Lw_dark 8 = .ok (.i2l, 1) := by decide +kernel
theorem d_Lw_dark_9 : decode c_Lw_dark 9 = .ok (.lastore, 1) := by decide +kernel
theorem d_Lw_dark_10 : decode c_Lw_dark 10 = .ok (.goto 11, 3) := by decide +kernel
theorem d_Lw_dark_13 : decode c_Lw_dark 13 = .ok (.astore 4, 2) := by decide +kernel
theorem d_Lw_dark_15 : decode c_Lw_dark 15 = .ok (.iconst 1, 1) := by decide +kernel
theorem d_Lw_dark_16 : decode c_Lw_dark 16 = .ok (.ireturn, 1) := by decide +kernel
theorem d_Lw_dark_17 : decode c_Lw_dark 17 = .ok (.astore 4, 2) := by decide +kernel
theorem d_Lw_dark_19 : decode c_Lw_dark 19 = .ok (.iconst 2, 1) := by decide +kernel
theorem d_Lw_dark_20 : decode c_Lw_dark 20 = .ok (.ireturn, 1) := by decide +kernel
theorem d_Lw_dark_21 : decode c_Lw_dark 21 = .ok (.iconst 0, 1) := by decide +kernel
theorem d_Lw_dark_22 : decode c_Lw_dark 22 = .ok (.ireturn, 1) := by decide +kernel
theorem d_Lw_cell_c_0 : decode c_Lw_cell_c 0 = .ok (.aload_n 3, 1) := by decide +kernel
theorem d_Lw_cell_c_1 : decode c_Lw_cell_c 1 = .ok (.iconst 0, 1) := by decide +kernel
theorem d_Lw_cell_c_2 : decode c_Lw_cell_c 2 = .ok (.aload_n 0, 1) := by decide +kernel
theorem d_Lw_cell_c_3 : decode c_Lw_cell_c 3 = .ok (.iload_n 1, 1) := by decide +kernel
theorem d_Lw_cell_c_4 : decode c_Lw_cell_c 4 = .ok (.iload_n 2, 1) := by decide +kernel
theorem d_Lw_cell_c_5 : decode c_Lw_cell_c 5 = .ok (.invokevirtual 47, 3) := by decide +kernel
theorem d_Lw_cell_c_8 : decode c_Lw_cell_c 8 = .ok (.i2l, 1) := by decide +kernel
theorem d_Lw_cell_c_9 : decode c_Lw_cell_c 9 = .ok (.lastore, 1) := by decide +kernel
theorem d_Lw_cell_c_10 : decode c_Lw_cell_c 10 = .ok (.goto 11, 3) := by decide +kernel
theorem d_Lw_cell_c_13 : decode c_Lw_cell_c 13 = .ok (.astore 4, 2) := by decide +kernel
theorem d_Lw_cell_c_15 : decode c_Lw_cell_c 15 = .ok (.iconst 1, 1) := by decide +kernel
theorem d_Lw_cell_c_16 : decode c_Lw_cell_c 16 = .ok (.ireturn, 1) := by decide +kernel
theorem d_Lw_cell_c_17 : decode c_Lw_cell_c 17 = .ok (.astore 4, 2) := by decide +kernel
theorem d_Lw_cell_c_19 : decode c_Lw_cell_c 19 = .ok (.iconst 2, 1) := by decide +kernel
theorem d_Lw_cell_c_20 : decode c_Lw_cell_c 20 = .ok (.ireturn, 1) := by decide +kernel
theorem d_Lw_cell_c_21 : decode c_Lw_cell_c 21 = .ok (.iconst 0, 1) := by decide +kernel
theorem d_Lw_cell_c_22 : decode c_Lw_cell_c 22 = .ok (.ireturn, 1) := by decide +kernel
theorem d_Lw_lit_0 : decode c_Lw_lit 0 = .ok (.aload_n 3, 1) := by decide +kernel
theorem d_Lw_lit_1 : decode c_Lw_lit 1 = .ok (.iconst 0, 1) := by decide +kernel
theorem d_Lw_lit_2 : decode c_Lw_lit 2 = .ok (.aload_n 0, 1) := by decide +kernel
theorem d_Lw_lit_3 : decode c_Lw_lit 3 = .ok (.iload_n 1, 1) := by decide +kernel
theorem d_Lw_lit_4 : decode c_Lw_lit 4 = .ok (.iload_n 2, 1) := by decide +kernel
theorem d_Lw_lit_5 : decode c_Lw_lit 5 = .ok (.invokevirtual 50, 3) := by decide +kernel
theorem d_Lw_lit_8 : decode c_Lw_lit 8 = .ok (.i2l, 1) := by decide +kernel
theorem d_Lw_lit_9 : decode c_Lw_lit 9 = .ok (.lastore, 1) := by decide +kernel
theorem d_Lw_lit_10 : decode c_Lw_lit 10 = .ok (.goto 7, 3) := by decide +kernel
theorem d_Lw_lit_13 : decode c_Lw_lit 13 = .ok (.astore 4, 2) := by decide +kernel
theorem d_Lw_lit_15 : decode c_Lw_lit 15 = .ok (.iconst 1, 1) := by decide +kernel
theorem d_Lw_lit_16 : decode c_Lw_lit 16 = .ok (.ireturn, 1) := by decide +kernel
theorem d_Lw_lit_17 : decode c_Lw_lit 17 = .ok (.iconst 0, 1) := by decide +kernel
theorem d_Lw_lit_18 : decode c_Lw_lit 18 = .ok (.ireturn, 1) := by decide +kernel
theorem d_Lw_brightest_0 : decode c_Lw_brightest 0 = .ok (.aload_n 2, 1) := by decide +kernel
theorem d_Lw_brightest_1 : decode c_Lw_brightest 1 = .ok (.iconst 0, 1) := by decide +kernel
theorem d_Lw_brightest_2 : decode c_Lw_brightest 2 = .ok (.aload_n 0, 1) := by decide +kernel
theorem d_Lw_brightest_3 : decode c_Lw_brightest 3 = .ok (.iload_n 1, 1) := by decide +kernel
theorem d_Lw_brightest_4 : decode c_Lw_brightest 4 = .ok (.invokevirtual 53, 3) := by decide +kernel
theorem d_Lw_brightest_7 : decode c_Lw_brightest 7 = .ok (.i2l, 1) := by decide +kernel
theorem d_Lw_brightest_8 : decode c_Lw_brightest 8 = .ok (.lastore, 1) := by decide +kernel
theorem d_Lw_brightest_9 : decode c_Lw_brightest 9 = .ok (.goto 6, 3) := by decide +kernel
theorem d_Lw_brightest_12 : decode c_Lw_brightest 12 = .ok (.astore_n 3, 1) := by decide +kernel
theorem d_Lw_brightest_13 : decode c_Lw_brightest 13 = .ok (.iconst 1, 1) := by decide +kernel
theorem d_Lw_brightest_14 : decode c_Lw_brightest 14 = .ok (.ireturn, 1) := by decide +kernel
theorem d_Lw_brightest_15 : decode c_Lw_brightest 15 = .ok (.iconst 0, 1) := by decide +kernel
theorem d_Lw_brightest_16 : decode c_Lw_brightest 16 = .ok (.ireturn, 1) := by decide +kernel
theorem d_Lw_ledge_0 : decode c_Lw_ledge 0 = .ok (.aload 4, 2) := by decide +kernel
theorem d_Lw_ledge_2 : decode c_Lw_ledge 2 = .ok (.iconst 0, 1) := by decide +kernel
theorem d_Lw_ledge_3 : decode c_Lw_ledge 3 = .ok (.aload_n 0, 1) := by decide +kernel
theorem d_Lw_ledge_4 : decode c_Lw_ledge 4 = .ok (.iload_n 1, 1) := by decide +kernel
theorem d_Lw_ledge_5 : decode c_Lw_ledge 5 = .ok (.iload_n 2, 1) := by decide +kernel
theorem d_Lw_ledge_6 : decode c_Lw_ledge 6 = .ok (.iload_n 3, 1) := by decide +kernel
theorem d_Lw_ledge_7 : decode c_Lw_ledge 7 = .ok (.invokevirtual 57, 3) := by decide +kernel
theorem d_Lw_ledge_10 : decode c_Lw_ledge 10 = .ok (.i2l, 1) := by decide +kernel
theorem d_Lw_ledge_11 : decode c_Lw_ledge 11 = .ok (.lastore, 1) := by decide +kernel
theorem d_Lw_ledge_12 : decode c_Lw_ledge 12 = .ok (.goto 11, 3) := by decide +kernel
theorem d_Lw_ledge_15 : decode c_Lw_ledge 15 = .ok (.astore 5, 2) := by decide +kernel
theorem d_Lw_ledge_17 : decode c_Lw_ledge 17 = .ok (.iconst 1, 1) := by decide +kernel
theorem d_Lw_ledge_18 : decode c_Lw_ledge 18 = .ok (.ireturn, 1) := by decide +kernel
theorem d_Lw_ledge_19 : decode c_Lw_ledge 19 = .ok (.astore 5, 2) := by decide +kernel
theorem d_Lw_ledge_21 : decode c_Lw_ledge 21 = .ok (.iconst 2, 1) := by decide +kernel
theorem d_Lw_ledge_22 : decode c_Lw_ledge 22 = .ok (.ireturn, 1) := by decide +kernel
theorem d_Lw_ledge_23 : decode c_Lw_ledge 23 = .ok (.iconst 0, 1) := by decide +kernel
theorem d_Lw_ledge_24 : decode c_Lw_ledge 24 = .ok (.ireturn, 1) := by decide +kernel
theorem d_Lw_deep_0 : decode c_Lw_deep 0 = .ok (.aload 4, 2) := by decide +kernel
theorem d_Lw_deep_2 : decode c_Lw_deep 2 = .ok (.iconst 0, 1) := by decide +kernel
theorem d_Lw_deep_3 : decode c_Lw_deep 3 = .ok (.aload_n 0, 1) := by decide +kernel
theorem d_Lw_deep_4 : decode c_Lw_deep 4 = .ok (.iload_n 1, 1) := by decide +kernel
theorem d_Lw_deep_5 : decode c_Lw_deep 5 = .ok (.iload_n 2, 1) := by decide +kernel
theorem d_Lw_deep_6 : decode c_Lw_deep 6 = .ok (.iload_n 3, 1) := by decide +kernel
theorem d_Lw_deep_7 : decode c_Lw_deep 7 = .ok (.invokevirtual 61, 3) := by decide +kernel
theorem d_Lw_deep_10 : decode c_Lw_deep 10 = .ok (.i2l, 1) := by decide +kernel
theorem d_Lw_deep_11 : decode c_Lw_deep 11 = .ok (.lastore, 1) := by decide +kernel
theorem d_Lw_deep_12 : decode c_Lw_deep 12 = .ok (.goto 11, 3) := by decide +kernel
theorem d_Lw_deep_15 : decode c_Lw_deep 15 = .ok (.astore 5, 2) := by decide +kernel
theorem d_Lw_deep_17 : decode c_Lw_deep 17 = .ok (.iconst 1, 1) := by decide +kernel
theorem d_Lw_deep_18 : decode c_Lw_deep 18 = .ok (.ireturn, 1) := by decide +kernel
theorem d_Lw_deep_19 : decode c_Lw_deep 19 = .ok (.astore 5, 2) := by decide +kernel
theorem d_Lw_deep_21 : decode c_Lw_deep 21 = .ok (.iconst 2, 1) := by decide +kernel
theorem d_Lw_deep_22 : decode c_Lw_deep 22 = .ok (.ireturn, 1) := by decide +kernel
theorem d_Lw_deep_23 : decode c_Lw_deep 23 = .ok (.iconst 0, 1) := by decide +kernel
theorem d_Lw_deep_24 : decode c_Lw_deep 24 = .ok (.ireturn, 1) := by decide +kernel
theorem d_Lw_worst_0 : decode c_Lw_worst 0 = .ok (.aload_n 2, 1) := by decide +kernel
theorem d_Lw_worst_1 : decode c_Lw_worst 1 = .ok (.iconst 0, 1) := by decide +kernel
theorem d_Lw_worst_2 : decode c_Lw_worst 2 = .ok (.aload_n 0, 1) := by decide +kernel
theorem d_Lw_worst_3 : decode c_Lw_worst 3 = .ok (.iload_n 1, 1) := by decide +kernel
theorem d_Lw_worst_4 : decode c_Lw_worst 4 = .ok (.invokevirtual 64, 3) := by decide +kernel
theorem d_Lw_worst_7 : decode c_Lw_worst 7 = .ok (.i2l, 1) := by decide +kernel
theorem d_Lw_worst_8 : decode c_Lw_worst 8 = .ok (.lastore, 1) := by decide +kernel
theorem d_Lw_worst_9 : decode c_Lw_worst 9 = .ok (.goto 6, 3) := by decide +kernel
theorem d_Lw_worst_12 : decode c_Lw_worst 12 = .ok (.astore_n 3, 1) := by decide +kernel
theorem d_Lw_worst_13 : decode c_Lw_worst 13 = .ok (.iconst 1, 1) := by decide +kernel
theorem d_Lw_worst_14 : decode c_Lw_worst 14 = .ok (.ireturn, 1) := by decide +kernel
theorem d_Lw_worst_15 : decode c_Lw_worst 15 = .ok (.iconst 0, 1) := by decide +kernel
theorem d_Lw_worst_16 : decode c_Lw_worst 16 = .ok (.ireturn, 1) := by decide +kernel
theorem d_Lw_law_0 : decode c_Lw_law 0 = .ok (.new 8, 3) := by decide +kernel
theorem d_Lw_law_3 : decode c_Lw_law 3 = .ok (.dup, 1) := by decide +kernel
theorem d_Lw_law_4 : decode c_Lw_law 4 = .ok (.aload_n 0, 1) := by decide +kernel
theorem d_Lw_law_5 : decode c_Lw_law 5 = .ok (.iconst 0, 1) := by decide +kernel
theorem d_Lw_law_6 : decode c_Lw_law 6 = .ok (.invokestatic 67, 3) := by decide +kernel
theorem d_Lw_law_9 : decode c_Lw_law 9 = .ok (.aload_n 0, 1) := by decide +kernel
theorem d_Lw_law_10 : decode c_Lw_law 10 = .ok (.iconst 1, 1) := by decide +kernel
theorem d_Lw_law_11 : decode c_Lw_law 11 = .ok (.invokestatic 67, 3) := by decide +kernel
theorem d_Lw_law_14 : decode c_Lw_law 14 = .ok (.invokespecial 72, 3) := by decide +kernel
theorem d_Lw_law_17 : decode c_Lw_law 17 = .ok (.astore_n 1, 1) := by decide +kernel
theorem d_Lw_law_18 : decode c_Lw_law 18 = .ok (.new 75, 3) := by decide +kernel
theorem d_Lw_law_21 : decode c_Lw_law 21 = .ok (.dup, 1) := by decide +kernel
theorem d_Lw_law_22 : decode c_Lw_law 22 = .ok (.aload_n 0, 1) := by decide +kernel
theorem d_Lw_law_23 : decode c_Lw_law 23 = .ok (.iconst 0, 1) := by decide +kernel
theorem d_Lw_law_24 : decode c_Lw_law 24 = .ok (.invokestatic 67, 3) := by decide +kernel
theorem d_Lw_law_27 : decode c_Lw_law 27 = .ok (.aload_n 0, 1) := by decide +kernel
theorem d_Lw_law_28 : decode c_Lw_law 28 = .ok (.iconst 1, 1) := by decide +kernel
theorem d_Lw_law_29 : decode c_Lw_law 29 = .ok (.invokestatic 67, 3) := by decide +kernel
theorem d_Lw_law_32 : decode c_Lw_law 32 = .ok (.invokespecial 77, 3) := by decide +kernel
theorem d_Lw_law_35 : decode c_Lw_law 35 = .ok (.astore_n 2, 1) := by decide +kernel
theorem d_Lw_law_36 : decode c_Lw_law 36 = .ok (.iconst 1, 1) := by decide +kernel
theorem d_Lw_law_37 : decode c_Lw_law 37 = .ok (.newarray .long, 2) := by decide +kernel
theorem d_Lw_law_39 : decode c_Lw_law 39 = .ok (.astore_n 3, 1) := by decide +kernel
theorem d_Lw_law_40 : decode c_Lw_law 40 = .ok (.iconst 2, 1) := by decide +kernel
theorem d_Lw_law_41 : decode c_Lw_law 41 = .ok (.istore 4, 2) := by decide +kernel
theorem d_Lw_law_43 : decode c_Lw_law 43 = .ok (.iload 4, 2) := by decide +kernel
theorem d_Lw_law_45 : decode c_Lw_law 45 = .ok (.aload_n 0, 1) := by decide +kernel
theorem d_Lw_law_46 : decode c_Lw_law 46 = .ok (.arraylength, 1) := by decide +kernel
theorem d_Lw_law_47 : decode c_Lw_law 47 = .ok (.bipush 7, 2) := by decide +kernel
theorem d_Lw_law_49 : decode c_Lw_law 49 = .ok (.isub, 1) := by decide +kernel
theorem d_Lw_law_50 : decode c_Lw_law 50 = .ok (.if_icmp .gt 1263, 3) := by decide +kernel
theorem d_Lw_law_53 : decode c_Lw_law 53 = .ok (.aload_n 0, 1) := by decide +kernel
theorem d_Lw_law_54 : decode c_Lw_law 54 = .ok (.iload 4, 2) := by decide +kernel
theorem d_Lw_law_56 : decode c_Lw_law 56 = .ok (.iaload, 1) := by decide +kernel
theorem d_Lw_law_57 : decode c_Lw_law 57 = .ok (.bipush 15, 2) := by decide +kernel
theorem d_Lw_law_59 : decode c_Lw_law 59 = .ok (.iand, 1) := by decide +kernel
theorem d_Lw_law_60 : decode c_Lw_law 60 = .ok (.tableswitch 1247 0 14 #[76, 194, 293, 384, 456, 524, 616, 703, 771, 839, 907, 975, 1031, 1111, 1191], 76) := by decide +kernel
theorem d_Lw_law_136 : decode c_Lw_law 136 = .ok (.aload_n 1, 1) := by decide +kernel
theorem d_Lw_law_137 : decode c_Lw_law 137 = .ok (.aload_n 0, 1) := by decide +kernel
theorem d_Lw_law_138 : decode c_Lw_law 138 = .ok (.iload 4, 2) := by decide +kernel
theorem d_Lw_law_140 : decode c_Lw_law 140 = .ok (.iconst 1, 1) := by decide +kernel
theorem d_Lw_law_141 : decode c_Lw_law 141 = .ok (.iadd, 1) := by decide +kernel
theorem d_Lw_law_142 : decode c_Lw_law 142 = .ok (.iaload, 1) := by decide +kernel
theorem d_Lw_law_143 : decode c_Lw_law 143 = .ok (.aload_n 0, 1) := by decide +kernel
theorem d_Lw_law_144 : decode c_Lw_law 144 = .ok (.iload 4, 2) := by decide +kernel
theorem d_Lw_law_146 : decode c_Lw_law 146 = .ok (.iconst 2, 1) := by decide +kernel
theorem d_Lw_law_147 : decode c_Lw_law 147 = .ok (.iadd, 1) := by decide +kernel
theorem d_Lw_law_148 : decode c_Lw_law 148 = .ok (.iaload, 1) := by decide +kernel
theorem d_Lw_law_149 : decode c_Lw_law 149 = .ok (.aload_n 0, 1) := by decide +kernel
theorem d_Lw_law_150 : decode c_Lw_law 150 = .ok (.iload 4, 2) := by decide +kernel
theorem d_Lw_law_152 : decode c_Lw_law 152 = .ok (.iconst 3, 1) := by decide +kernel
theorem d_Lw_law_153 : decode c_Lw_law 153 = .ok (.iadd, 1) := by decide +kernel
theorem d_Lw_law_154 : decode c_Lw_law 154 = .ok (.iaload, 1) := by decide +kernel
theorem d_Lw_law_155 : decode c_Lw_law 155 = .ok (.aload_n 0, 1) := by decide +kernel
theorem d_Lw_law_156 : decode c_Lw_law 156 = .ok (.iload 4, 2) := by decide +kernel
theorem d_Lw_law_158 : decode c_Lw_law 158 = .ok (.iconst 4, 1) := by decide +kernel
theorem d_Lw_law_159 : decode c_Lw_law 159 = .ok (.iadd, 1) := by decide +kernel
theorem d_Lw_law_160 : decode c_Lw_law 160 = .ok (.iaload, 1) := by decide +kernel
theorem d_Lw_law_161 : decode c_Lw_law 161 = .ok (.aload_n 0, 1) := by decide +kernel
theorem d_Lw_law_162 : decode c_Lw_law 162 = .ok (.iload 4, 2) := by decide +kernel
theorem d_Lw_law_164 : decode c_Lw_law 164 = .ok (.iconst 5, 1) := by decide +kernel
theorem d_Lw_law_165 : decode c_Lw_law 165 = .ok (.iadd, 1) := by decide +kernel
theorem d_Lw_law_166 : decode c_Lw_law 166 = .ok (.iaload, 1) := by decide +kernel
theorem d_Lw_law_167 : decode c_Lw_law 167 = .ok (.aload_n 0, 1) := by decide +kernel
theorem d_Lw_law_168 : decode c_Lw_law 168 = .ok (.iload 4, 2) := by decide +kernel
theorem d_Lw_law_170 : decode c_Lw_law 170 = .ok (.bipush 6, 2) := by decide +kernel
theorem d_Lw_law_172 : decode c_Lw_law 172 = .ok (.iadd, 1) := by decide +kernel
theorem d_Lw_law_173 : decode c_Lw_law 173 = .ok (.iaload, 1) := by decide +kernel
theorem d_Lw_law_174 : decode c_Lw_law 174 = .ok (.aload_n 3, 1) := by decide +kernel
theorem d_Lw_law_175 : decode c_Lw_law 175 = .ok (.invokestatic 78, 3) := by decide +kernel
theorem d_Lw_law_178 : decode c_Lw_law 178 = .ok (.istore 5, 2) := by decide +kernel
theorem d_Lw_law_180 : decode c_Lw_law 180 = .ok (.aload_n 2, 1) := by decide +kernel
theorem d_Lw_law_181 : decode c_Lw_law 181 = .ok (.aload_n 0, 1) := by decide +kernel
theorem d_Lw_law_182 : decode c_Lw_law 182 = .ok (.iload 4, 2) := by decide +kernel
theorem d_Lw_law_184 : decode c_Lw_law 184 = .ok (.iconst 1, 1) := by decide +kernel
theorem d_Lw_law_185 : decode c_Lw_law 185 = .ok (.iadd, 1) := by decide +kernel
theorem d_Lw_law_186 : decode c_Lw_law 186 = .ok (.iaload, 1) := by decide +kernel
theorem d_Lw_law_187 : decode c_Lw_law 187 = .ok (.aload_n 0, 1) := by decide +kernel
theorem d_Lw_law_188 : decode c_Lw_law 188 = .ok (.iload 4, 2) := by decide +kernel
theorem d_Lw_law_190 : decode c_Lw_law 190 = .ok (.iconst 2, 1) := by decide +kernel
theorem d_Lw_law_191 : decode c_Lw_law 191 = .ok (.iadd, 1) := by decide +kernel
theorem d_Lw_law_192 : decode c_Lw_law 192 = .ok (.iaload, 1) := by decide +kernel
theorem d_Lw_law_193 : decode c_Lw_law 193 = .ok (.aload_n 0, 1) := by decide +kernel
theorem d_Lw_law_194 : decode c_Lw_law 194 = .ok (.iload 4, 2) := by decide +kernel
theorem d_Lw_law_196 : decode c_Lw_law 196 = .ok (.iconst 3, 1) := by decide +kernel
theorem d_Lw_law_197 : decode c_Lw_law 197 = .ok (.iadd, 1) := by decide +kernel
theorem d_Lw_law_198 : decode c_Lw_law 198 = .ok (.iaload, 1) := by decide +kernel
theorem d_Lw_law_199 : decode c_Lw_law 199 = .ok (.aload_n 0, 1) := by decide +kernel
theorem d_Lw_law_200 : decode c_Lw_law 200 = .ok (.iload 4, 2) := by decide +kernel
theorem d_Lw_law_202 : decode c_Lw_law 202 = .ok (.iconst 4, 1) := by decide +kernel
theorem d_Lw_law_203 : decode c_Lw_law 203 = .ok (.iadd, 1) := by decide +kernel
theorem d_Lw_law_204 : decode c_Lw_law 204 = .ok (.iaload, 1) := by decide +kernel
theorem d_Lw_law_205 : decode c_Lw_law 205 = .ok (.aload_n 0, 1) := by decide +kernel
theorem d_Lw_law_206 : decode c_Lw_law 206 = .ok (.iload 4, 2) := by decide +kernel
theorem d_Lw_law_208 : decode c_Lw_law 208 = .ok (.iconst 5, 1) := by decide +kernel
theorem d_Lw_law_209 : decode c_Lw_law 209 = .ok (.iadd, 1) := by decide +kernel
theorem d_Lw_law_210 : decode c_Lw_law 210 = .ok (.iaload, 1) := by decide +kernel
theorem d_Lw_law_211 : decode c_Lw_law 211 = .ok (.aload_n 0, 1) := by decide +kernel
theorem d_Lw_law_212 : decode c_Lw_law 212 = .ok (.iload 4, 2) := by decide +kernel
theorem d_Lw_law_214 : decode c_Lw_law 214 = .ok (.bipush 6, 2) := by decide +kernel
theorem d_Lw_law_216 : decode c_Lw_law 216 = .ok (.iadd, 1) := by decide +kernel
theorem d_Lw_law_217 : decode c_Lw_law 217 = .ok (.iaload, 1) := by decide +kernel
theorem d_Lw_law_218 : decode c_Lw_law 218 = .ok (.invokevirtual 81, 3) := by decide +kernel
theorem d_Lw_law_221 : decode c_Lw_law 221 = .ok (.istore 6, 2) := by decide +kernel
theorem d_Lw_law_223 : decode c_Lw_law 223 = .ok (.aload_n 2, 1) := by decide +kernel
theorem d_Lw_law_224 : decode c_Lw_law 224 = .ok (.invokevirtual 82, 3) := by decide +kernel
theorem d_Lw_law_227 : decode c_Lw_law 227 = .ok (.iload 5, 2) := by decide +kernel
theorem d_Lw_law_229 : decode c_Lw_law 229 = .ok (.if_icmp .eq 5, 3) := by decide +kernel
theorem d_Lw_law_232 : decode c_Lw_law 232 = .ok (.iconst 0, 1) := by decide +kernel
theorem d_Lw_law_233 : decode c_Lw_law 233 = .ok (.ireturn, 1) := by decide +kernel
theorem d_Lw_law_234 : decode c_Lw_law 234 = .ok (.iload 5, 2) := by decide +kernel
theorem d_Lw_law_236 : decode c_Lw_law 236 = .ok (.ifCond .ne 15, 3) := by decide +kernel
theorem d_Lw_law_239 : decode c_Lw_law 239 = .ok (.aload_n 3, 1) := by decide +kernel
theorem d_Lw_law_240 : decode c_Lw_law 240 = .ok (.iconst 0, 1) := by decide +kernel
theorem d_Lw_law_241 : decode c_Lw_law 241 = .ok (.laload, 1) := by decide +kernel
theorem d_Lw_law_242 : decode c_Lw_law 242 = .ok (.iload 6, 2) := by decide +kernel
theorem d_Lw_law_244 : decode c_Lw_law 244 = .ok (.i2l, 1) := by decide +kernel
theorem d_Lw_law_245 : decode c_Lw_law 245 = .ok (.lcmp, 1) := by decide +kernel
theorem d_Lw_law_246 : decode c_Lw_law 246 = .ok (.ifCond .eq 5, 3) := by decide +kernel
theorem d_Lw_law_249 : decode c_Lw_law 249 = .ok (.iconst 0, 1) := by decide +kernel
theorem d_Lw_law_250 : decode c_Lw_law 250 = .ok (.ireturn, 1) := by decide +kernel
theorem d_Lw_law_251 : decode c_Lw_law 251 = .ok (.goto 1056, 3) := by decide +kernel
theorem d_Lw_law_254 : decode c_Lw_law 254 = .ok (.aload_n 1, 1) := by decide +kernel
theorem d_Lw_law_255 : decode c_Lw_law 255 = .ok (.aload_n 0, 1) := by decide +kernel
theorem d_Lw_law_256 : decode c_Lw_law 256 = .ok (.iload 4, 2) := by decide +kernel
theorem d_Lw_law_258 : decode c_Lw_law 258 = .ok (.iconst 1, 1) := by decide +kernel
theorem d_Lw_law_259 : decode c_Lw_law 259 = .ok (.iadd, 1) := by decide +kernel
theorem d_Lw_law_260 : decode c_Lw_law 260 = .ok (.iaload, 1) := by decide +kernel
theorem d_Lw_law_261 : decode c_Lw_law 261 = .ok (.aload_n 0, 1) := by decide +kernel
theorem d_Lw_law_262 : decode c_Lw_law 262 = .ok (.iload 4, 2) := by decide +kernel
theorem d_Lw_law_264 : decode c_Lw_law 264 = .ok (.iconst 2, 1) := by decide +kernel
theorem d_Lw_law_265 : decode c_Lw_law 265 = .ok (.iadd, 1) := by decide +kernel
theorem d_Lw_law_266 : decode c_Lw_law 266 = .ok (.iaload, 1) := by decide +kernel
theorem d_Lw_law_267 : decode c_Lw_law 267 = .ok (.aload_n 0, 1) := by decide +kernel
theorem d_Lw_law_268 : decode c_Lw_law 268 = .ok (.iload 4, 2) := by decide +kernel
theorem d_Lw_law_270 : decode c_Lw_law 270 = .ok (.iconst 3, 1) := by decide +kernel
theorem d_Lw_law_271 : decode c_Lw_law 271 = .ok (.iadd, 1) := by decide +kernel
theorem d_Lw_law_272 : decode c_Lw_law 272 = .ok (.iaload, 1) := by decide +kernel
theorem d_Lw_law_273 : decode c_Lw_law 273 = .ok (.aload_n 0, 1) := by decide +kernel
theorem d_Lw_law_274 : decode c_Lw_law 274 = .ok (.iload 4, 2) := by decide +kernel
theorem d_Lw_law_276 : decode c_Lw_law 276 = .ok (.iconst 4, 1) := by decide +kernel
theorem d_Lw_law_277 : decode c_Lw_law 277 = .ok (.iadd, 1) := by decide +kernel
theorem d_Lw_law_278 : decode c_Lw_law 278 = .ok (.iaload, 1) := by decide +kernel
theorem d_Lw_law_279 : decode c_Lw_law 279 = .ok (.aload_n 3, 1) := by decide +kernel
theorem d_Lw_law_280 : decode c_Lw_law 280 = .ok (.invokestatic 86, 3) := by decide +kernel
theorem d_Lw_law_283 : decode c_Lw_law 283 = .ok (.istore 5, 2) := by decide +kernel
theorem d_Lw_law_285 : decode c_Lw_law 285 = .ok (.aload_n 2, 1) := by decide +kernel
theorem d_Lw_law_286 : decode c_Lw_law 286 = .ok (.aload_n 0, 1) := by decide +kernel
theorem d_Lw_law_287 : decode c_Lw_law 287 = .ok (.iload 4, 2) := by decide +kernel
theorem d_Lw_law_289 : decode c_Lw_law 289 = .ok (.iconst 1, 1) := by decide +kernel
theorem d_Lw_law_290 : decode c_Lw_law 290 = .ok (.iadd, 1) := by decide +kernel
theorem d_Lw_law_291 : decode c_Lw_law 291 = .ok (.iaload, 1) := by decide +kernel
theorem d_Lw_law_292 : decode c_Lw_law 292 = .ok (.aload_n 0, 1) := by decide +kernel
theorem d_Lw_law_293 : decode c_Lw_law 293 = .ok (.iload 4, 2) := by decide +kernel
theorem d_Lw_law_295 : decode c_Lw_law 295 = .ok (.iconst 2, 1) := by decide +kernel
theorem d_Lw_law_296 : decode c_Lw_law 296 = .ok (.iadd, 1) := by decide +kernel
theorem d_Lw_law_297 : decode c_Lw_law 297 = .ok (.iaload, 1) := by decide +kernel
theorem d_Lw_law_298 : decode c_Lw_law 298 = .ok (.aload_n 0, 1) := by decide +kernel
theorem d_Lw_law_299 : decode c_Lw_law 299 = .ok (.iload 4, 2) := by decide +kernel
theorem d_Lw_law_301 : decode c_Lw_law 301 = .ok (.iconst 3, 1) := by decide +kernel
theorem d_Lw_law_302 : decode c_Lw_law 302 = .ok (.iadd, 1) := by decide +kernel
theorem d_Lw_law_303 : decode c_Lw_law 303 = .ok (.iaload, 1) := by decide +kernel
theorem d_Lw_law_304 : decode c_Lw_law 304 = .ok (.aload_n 0, 1) := by decide +kernel
theorem d_Lw_law_305 : decode c_Lw_law 305 = .ok (.iload 4, 2) := by decide +kernel
theorem d_Lw_law_307 : decode c_Lw_law 307 = .ok (.iconst 4, 1) := by decide +kernel
theorem d_Lw_law_308 : decode c_Lw_law 308 = .ok (.iadd, 1) := by decide +kernel
theorem d_Lw_law_309 : decode c_Lw_law 309 = .ok (.iaload, 1) := by decide +kernel
theorem d_Lw_law_310 : decode c_Lw_law 310 = .ok (.invokevirtual 89, 3) := by decide +kernel
theorem d_Lw_law_313 : decode c_Lw_law 313 = .ok (.istore 6, 2) := by decide +kernel
theorem d_Lw_law_315 : decode c_Lw_law 315 = .ok (.aload_n 2, 1) := by decide +kernel
theorem d_Lw_law_316 : decode c_Lw_law 316 = .ok (.invokevirtual 82, 3) := by decide +kernel
theorem d_Lw_law_319 : decode c_Lw_law 319 = .ok (.iload 5, 2) := by decide +kernel
theorem d_Lw_law_321 : decode c_Lw_law 321 = .ok (.if_icmp .eq 5, 3) := by decide +kernel
theorem d_Lw_law_324 : decode c_Lw_law 324 = .ok (.iconst 0, 1) := by decide +kernel
theorem d_Lw_law_325 : decode c_Lw_law 325 = .ok (.ireturn, 1) := by decide +kernel
theorem d_Lw_law_326 : decode c_Lw_law 326 = .ok (.iload 5, 2) := by decide +kernel
theorem d_Lw_law_328 : decode c_Lw_law 328 = .ok (.ifCond .ne 22, 3) := by decide +kernel
theorem d_Lw_law_331 : decode c_Lw_law 331 = .ok (.aload_n 3, 1) := by decide +kernel
theorem d_Lw_law_332 : decode c_Lw_law 332 = .ok (.iconst 0, 1) := by decide +kernel
theorem d_Lw_law_333 : decode c_Lw_law 333 = .ok (.laload, 1) := by decide +kernel
theorem d_Lw_law_334 : decode c_Lw_law 334 = .ok (.iload 6, 2) := by decide +kernel
theorem d_Lw_law_336 : decode c_Lw_law 336 = .ok (.ifCond .eq 7, 3) := by decide +kernel
theorem d_Lw_law_339 : decode c_Lw_law 339 = .ok (.lconst 1, 1) := by decide +kernel
theorem d_Lw_law_340 : decode c_Lw_law 340 = .ok (.goto 4, 3) := by decide +kernel
theorem d_Lw_law_343 : decode c_Lw_law 343 = .ok (.lconst 0, 1) := by decide +kernel
theorem d_Lw_law_344 : decode c_Lw_law 344 = .ok (.lcmp, 1) := by decide +kernel
theorem d_Lw_law_345 : decode c_Lw_law 345 = .ok (.ifCond .eq 5, 3) := by decide +kernel
theorem d_Lw_law_348 : decode c_Lw_law 348 = .ok (.iconst 0, 1) := by decide +kernel
theorem d_Lw_law_349 : decode c_Lw_law 349 = .ok (.ireturn, 1) := by decide +kernel
theorem d_Lw_law_350 : decode c_Lw_law 350 = .ok (.goto 957, 3) := by decide +kernel
theorem d_Lw_law_353 : decode c_Lw_law 353 = .ok (.aload_n 1, 1) := by decide +kernel
theorem d_Lw_law_354 : decode c_Lw_law 354 = .ok (.aload_n 0, 1) := by decide +kernel
theorem d_Lw_law_355 : decode c_Lw_law 355 = .ok (.iload 4, 2) := by decide +kernel
theorem d_Lw_law_357 : decode c_Lw_law 357 = .ok (.iconst 1, 1) := by decide +kernel
theorem d_Lw_law_358 : decode c_Lw_law 358 = .ok (.iadd, 1) := by decide +kernel
theorem d_Lw_law_359 : decode c_Lw_law 359 = .ok (.iaload, 1) := by decide +kernel
theorem d_Lw_law_360 : decode c_Lw_law 360 = .ok (.aload_n 0, 1) := by decide +kernel
theorem d_Lw_law_361 : decode c_Lw_law 361 = .ok (.iload 4, 2) := by decide +kernel
theorem d_Lw_law_363 : decode c_Lw_law 363 = .ok (.iconst 2, 1) := by decide +kernel
theorem d_Lw_law_364 : decode c_Lw_law 364 = .ok (.iadd, 1) := by decide +kernel
theorem d_Lw_law_365 : decode c_Lw_law 365 = .ok (.iaload, 1) := by decide +kernel
theorem d_Lw_law_366 : decode c_Lw_law 366 = .ok (.ifCond .eq 7, 3) := by decide +kernel
theorem d_Lw_law_369 : decode c_Lw_law 369 = .ok (.iconst 1, 1) := by decide +kernel
theorem d_Lw_law_370 : decode c_Lw_law 370 = .ok (.goto 4, 3) := by decide +kernel
theorem d_Lw_law_373 : decode c_Lw_law 373 = .ok (.iconst 0, 1) := by decide +kernel
theorem d_Lw_law_374 : decode c_Lw_law 374 = .ok (.aload_n 3, 1) := by decide +kernel
theorem d_Lw_law_375 : decode c_Lw_law 375 = .ok (.invokestatic 90, 3) := by decide +kernel
theorem d_Lw_law_378 : decode c_Lw_law 378 = .ok (.istore 5, 2) := by decide +kernel
theorem d_Lw_law_380 : decode c_Lw_law 380 = .ok (.aload_n 2, 1) := by decide +kernel
theorem d_Lw_law_381 : decode c_Lw_law 381 = .ok (.aload_n 0, 1) := by decide +kernel
theorem d_Lw_law_382 : decode c_Lw_law 382 = .ok (.iload 4, 2) := by decide +kernel
theorem d_Lw_law_384 : decode c_Lw_law 384 = .ok (.iconst 1, 1) := by decide +kernel
theorem d_Lw_law_385 : decode c_Lw_law 385 = .ok (.iadd, 1) := by decide +kernel
theorem d_Lw_law_386 : decode c_Lw_law 386 = .ok (.iaload, 1) := by decide +kernel
theorem d_Lw_law_387 : decode c_Lw_law 387 = .ok (.aload_n 0, 1) := by decide +kernel
theorem d_Lw_law_388 : decode c_Lw_law 388 = .ok (.iload 4, 2) := by decide +kernel
theorem d_Lw_law_390 : decode c_Lw_law 390 = .ok (.iconst 2, 1) := by decide +kernel
theorem d_Lw_law_391 : decode c_Lw_law 391 = .ok (.iadd, 1) := by decide +kernel
theorem d_Lw_law_392 : decode c_Lw_law 392 = .ok (.iaload, 1) := by decide +kernel
theorem d_Lw_law_393 : decode c_Lw_law 393 = .ok (.ifCond .eq 7, 3) := by decide +kernel
theorem d_Lw_law_396 : decode c_Lw_law 396 = .ok (.iconst 1, 1) := by decide +kernel
theorem d_Lw_law_397 : decode c_Lw_law 397 = .ok (.goto 4, 3) := by decide +kernel
theorem d_Lw_law_400 : decode c_Lw_law 400 = .ok (.iconst 0, 1) := by decide +kernel
theorem d_Lw_law_401 : decode c_Lw_law 401 = .ok (.invokevirtual 93, 3) := by decide +kernel
theorem d_Lw_law_404 : decode c_Lw_law 404 = .ok (.istore 6, 2) := by decide +kernel
theorem d_Lw_law_406 : decode c_Lw_law 406 = .ok (.aload_n 2, 1) := by decide +kernel
theorem d_Lw_law_407 : decode c_Lw_law 407 = .ok (.invokevirtual 82, 3) := by decide +kernel
theorem d_Lw_law_410 : decode c_Lw_law 410 = .ok (.iload 5, 2) := by decide +kernel
theorem d_Lw_law_412 : decode c_Lw_law 412 = .ok (.if_icmp .eq 5, 3) := by decide +kernel
theorem d_Lw_law_415 : decode c_Lw_law 415 = .ok (.iconst 0, 1) := by decide +kernel
theorem d_Lw_law_416 : decode c_Lw_law 416 = .ok (.ireturn, 1) := by decide +kernel
theorem d_Lw_law_417 : decode c_Lw_law 417 = .ok (.iload 5, 2) := by decide +kernel
theorem d_Lw_law_419 : decode c_Lw_law 419 = .ok (.ifCond .ne 22, 3) := by decide +kernel
theorem d_Lw_law_422 : decode c_Lw_law 422 = .ok (.aload_n 3, 1) := by decide +kernel
theorem d_Lw_law_423 : decode c_Lw_law 423 = .ok (.iconst 0, 1) := by decide +kernel
theorem d_Lw_law_424 : decode c_Lw_law 424 = .ok (.laload, 1) := by decide +kernel
theorem d_Lw_law_425 : decode c_Lw_law 425 = .ok (.iload 6, 2) := by decide +kernel
theorem d_Lw_law_427 : decode c_Lw_law 427 = .ok (.ifCond .eq 7, 3) := by decide +kernel
theorem d_Lw_law_430 : decode c_Lw_law 430 = .ok (.lconst 1, 1) := by decide +kernel
theorem d_Lw_law_431 : decode c_Lw_law 431 = .ok (.goto 4, 3) := by decide +kernel
theorem d_Lw_law_434 : decode c_Lw_law 434 = .ok (.lconst 0, 1) := by decide +kernel
theorem d_Lw_law_435 : decode c_Lw_law 435 = .ok (.lcmp, 1) := by decide +kernel
theorem d_Lw_law_436 : decode c_Lw_law 436 = .ok (.ifCond .eq 5, 3) := by decide +kernel
theorem d_Lw_law_439 : decode c_Lw_law 439 = .ok (.iconst 0, 1) := by decide +kernel
theorem d_Lw_law_440 : decode c_Lw_law 440 = .ok (.ireturn, 1) := by decide +kernel
theorem d_Lw_law_441 : decode c_Lw_law 441 = .ok (.goto 866, 3) := by decide +kernel
theorem d_Lw_law_444 : decode c_Lw_law 444 = .ok (.aload_n 1, 1) := by decide +kernel
theorem d_Lw_law_445 : decode c_Lw_law 445 = .ok (.aload_n 0, 1) := by decide +kernel
theorem d_Lw_law_446 : decode c_Lw_law 446 = .ok (.iload 4, 2) := by decide +kernel
theorem d_Lw_law_448 : decode c_Lw_law 448 = .ok (.iconst 1, 1) := by decide +kernel
theorem d_Lw_law_449 : decode c_Lw_law 449 = .ok (.iadd, 1) := by decide +kernel
theorem d_Lw_law_450 : decode c_Lw_law 450 = .ok (.iaload, 1) := by decide +kernel
theorem d_Lw_law_451 : decode c_Lw_law 451 = .ok (.aload_n 0, 1) := by decide +kernel
theorem d_Lw_law_452 : decode c_Lw_law 452 = .ok (.iload 4, 2) := by decide +kernel
theorem d_Lw_law_454 : decode c_Lw_law 454 = .ok (.iconst 2, 1) := by decide +kernel
theorem d_Lw_law_455 : decode c_Lw_law 455 = .ok (.iadd, 1) := by decide +kernel
theorem d_Lw_law_456 : decode c_Lw_law 456 = .ok (.iaload, 1) := by decide +kernel
theorem d_Lw_law_457 : decode c_Lw_law 457 = .ok (.aload_n 0, 1) := by decide +kernel
theorem d_Lw_law_458 : decode c_Lw_law 458 = .ok (.iload 4, 2) := by decide +kernel
theorem d_Lw_law_460 : decode c_Lw_law 460 = .ok (.iconst 3, 1) := by decide +kernel
theorem d_Lw_law_461 : decode c_Lw_law 461 = .ok (.iadd, 1) := by decide +kernel
theorem d_Lw_law_462 : decode c_Lw_law 462 = .ok (.iaload, 1) := by decide +kernel
theorem d_Lw_law_463 : decode c_Lw_law 463 = .ok (.aload_n 0, 1) := by decide +kernel
theorem d_Lw_law_464 : decode c_Lw_law 464 = .ok (.iload 4, 2) := by decide +kernel
theorem d_Lw_law_466 : decode c_Lw_law 466 = .ok (.iconst 4, 1) := by decide +kernel
theorem d_Lw_law_467 : decode c_Lw_law 467 = .ok (.iadd, 1) := by decide +kernel
theorem d_Lw_law_468 : decode c_Lw_law 468 = .ok (.iaload, 1) := by decide +kernel
theorem d_Lw_law_469 : decode c_Lw_law 469 = .ok (.invokestatic 94, 3) := by decide +kernel
theorem d_Lw_law_472 : decode c_Lw_law 472 = .ok (.istore 5, 2) := by decide +kernel
theorem d_Lw_law_474 : decode c_Lw_law 474 = .ok (.aload_n 2, 1) := by decide +kernel
theorem d_Lw_law_475 : decode c_Lw_law 475 = .ok (.aload_n 0, 1) := by decide +kernel
theorem d_Lw_law_476 : decode c_Lw_law 476 = .ok (.iload 4, 2) := by decide +kernel
theorem d_Lw_law_478 : decode c_Lw_law 478 = .ok (.iconst 1, 1) := by decide +kernel
theorem d_Lw_law_479 : decode c_Lw_law 479 = .ok (.iadd, 1) := by decide +kernel
theorem d_Lw_law_480 : decode c_Lw_law 480 = .ok (.iaload, 1) := by decide +kernel
theorem d_Lw_law_481 : decode c_Lw_law 481 = .ok (.aload_n 0, 1) := by decide +kernel
theorem d_Lw_law_482 : decode c_Lw_law 482 = .ok (.iload 4, 2) := by decide +kernel
theorem d_Lw_law_484 : decode c_Lw_law 484 = .ok (.iconst 2, 1) := by decide +kernel
theorem d_Lw_law_485 : decode c_Lw_law 485 = .ok (.iadd, 1) := by decide +kernel
theorem d_Lw_law_486 : decode c_Lw_law 486 = .ok (.iaload, 1) := by decide +kernel
theorem d_Lw_law_487 : decode c_Lw_law 487 = .ok (.aload_n 0, 1) := by decide +kernel
theorem d_Lw_law_488 : decode c_Lw_law 488 = .ok (.iload 4, 2) := by decide +kernel
theorem d_Lw_law_490 : decode c_Lw_law 490 = .ok (.iconst 3, 1) := by decide +kernel
theorem d_Lw_law_491 : decode c_Lw_law 491 = .ok (.iadd, 1) := by decide +kernel
theorem d_Lw_law_492 : decode c_Lw_law 492 = .ok (.iaload, 1) := by decide +kernel
theorem d_Lw_law_493 : decode c_Lw_law 493 = .ok (.aload_n 0, 1) := by decide +kernel
theorem d_Lw_law_494 : decode c_Lw_law 494 = .ok (.iload 4, 2) := by decide +kernel
theorem d_Lw_law_496 : decode c_Lw_law 496 = .ok (.iconst 4, 1) := by decide +kernel
theorem d_Lw_law_497 : decode c_Lw_law 497 = .ok (.iadd, 1) := by decide +kernel
theorem d_Lw_law_498 : decode c_Lw_law 498 = .ok (.iaload, 1) := by decide +kernel
theorem d_Lw_law_499 : decode c_Lw_law 499 = .ok (.invokevirtual 97, 3) := by decide +kernel
theorem d_Lw_law_502 : decode c_Lw_law 502 = .ok (.aload_n 2, 1) := by decide +kernel
theorem d_Lw_law_503 : decode c_Lw_law 503 = .ok (.invokevirtual 82, 3) := by decide +kernel
theorem d_Lw_law_506 : decode c_Lw_law 506 = .ok (.iload 5, 2) := by decide +kernel
theorem d_Lw_law_508 : decode c_Lw_law 508 = .ok (.if_icmp .eq 5, 3) := by decide +kernel
theorem d_Lw_law_511 : decode c_Lw_law 511 = .ok (.iconst 0, 1) := by decide +kernel
theorem d_Lw_law_512 : decode c_Lw_law 512 = .ok (.ireturn, 1) := by decide +kernel
theorem d_Lw_law_513 : decode c_Lw_law 513 = .ok (.goto 794, 3) := by decide +kernel
theorem d_Lw_law_516 : decode c_Lw_law 516 = .ok (.aload_n 1, 1) := by decide +kernel
theorem d_Lw_law_517 : decode c_Lw_law 517 = .ok (.aload_n 0, 1) := by decide +kernel
theorem d_Lw_law_518 : decode c_Lw_law 518 = .ok (.iload 4, 2) := by decide +kernel
theorem d_Lw_law_520 : decode c_Lw_law 520 = .ok (.iconst 1, 1) := by decide +kernel
theorem d_Lw_law_521 : decode c_Lw_law 521 = .ok (.iadd, 1) := by decide +kernel
theorem d_Lw_law_522 : decode c_Lw_law 522 = .ok (.iaload, 1) := by decide +kernel
theorem d_Lw_law_523 : decode c_Lw_law 523 = .ok (.aload_n 0, 1) := by decide +kernel
theorem d_Lw_law_524 : decode c_Lw_law 524 = .ok (.iload 4, 2) := by decide +kernel
theorem d_Lw_law_526 : decode c_Lw_law 526 = .ok (.iconst 2, 1) := by decide +kernel
theorem d_Lw_law_527 : decode c_Lw_law 527 = .ok (.iadd, 1) := by decide +kernel
theorem d_Lw_law_528 : decode c_Lw_law 528 = .ok (.iaload, 1) := by decide +kernel
theorem d_Lw_law_529 : decode c_Lw_law 529 = .ok (.aload_n 3, 1) := by decide +kernel
theorem d_Lw_law_530 : decode c_Lw_law 530 = .ok (.invokestatic 98, 3) := by decide +kernel
theorem d_Lw_law_533 : decode c_Lw_law 533 = .ok (.istore 5, 2) := by decide +kernel
theorem d_Lw_law_535 : decode c_Lw_law 535 = .ok (.aload_n 2, 1) := by decide +kernel
theorem d_Lw_law_536 : decode c_Lw_law 536 = .ok (.aload_n 0, 1) := by decide +kernel
theorem d_Lw_law_537 : decode c_Lw_law 537 = .ok (.iload 4, 2) := by decide +kernel
theorem d_Lw_law_539 : decode c_Lw_law 539 = .ok (.iconst 1, 1) := by decide +kernel
theorem d_Lw_law_540 : decode c_Lw_law 540 = .ok (.iadd, 1) := by decide +kernel
theorem d_Lw_law_541 : decode c_Lw_law 541 = .ok (.iaload, 1) := by decide +kernel
theorem d_Lw_law_542 : decode c_Lw_law 542 = .ok (.aload_n 0, 1) := by decide +kernel
theorem d_Lw_law_543 : decode c_Lw_law 543 = .ok (.iload 4, 2) := by decide +kernel
theorem d_Lw_law_545 : decode c_Lw_law 545 = .ok (.iconst 2, 1) := by decide +kernel
theorem d_Lw_law_546 : decode c_Lw_law 546 = .ok (.iadd, 1) := by decide +kernel
theorem d_Lw_law_547 : decode c_Lw_law 547 = .ok (.iaload, 1) := by decide +kernel
theorem d_Lw_law_548 : decode c_Lw_law 548 = .ok (.invokevirtual 101, 3) := by decide +kernel
theorem d_Lw_law_551 : decode c_Lw_law 551 = .ok (.istore 6, 2) := by decide +kernel
theorem d_Lw_law_553 : decode c_Lw_law 553 = .ok (.aload_n 2, 1) := by decide +kernel
theorem d_Lw_law_554 : decode c_Lw_law 554 = .ok (.invokevirtual 82, 3) := by decide +kernel
theorem d_Lw_law_557 : decode c_Lw_law 557 = .ok (.iload 5, 2) := by decide +kernel
theorem d_Lw_law_559 : decode c_Lw_law 559 = .ok (.if_icmp .eq 5, 3) := by decide +kernel
theorem d_Lw_law_562 : decode c_Lw_law 562 = .ok (.iconst 0, 1) := by decide +kernel
theorem d_Lw_law_563 : decode c_Lw_law 563 = .ok (.ireturn, 1) := by decide +kernel
theorem d_Lw_law_564 : decode c_Lw_law 564 = .ok (.iload 5, 2) := by decide +kernel
theorem d_Lw_law_566 : decode c_Lw_law 566 = .ok (.ifCond .ne 15, 3) := by decide +kernel
theorem d_Lw_law_569 : decode c_Lw_law 569 = .ok (.aload_n 3, 1) := by decide +kernel
theorem d_Lw_law_570 : decode c_Lw_law 570 = .ok (.iconst 0, 1) := by decide +kernel
theorem d_Lw_law_571 : decode c_Lw_law 571 = .ok (.laload, 1) := by decide +kernel
theorem d_Lw_law_572 : decode c_Lw_law 572 = .ok (.iload 6, 2) := by decide +kernel
theorem d_Lw_law_574 : decode c_Lw_law 574 = .ok (.i2l, 1) := by decide +kernel
theorem d_Lw_law_575 : decode c_Lw_law 575 = .ok (.lcmp, 1) := by decide +kernel
theorem d_Lw_law_576 : decode c_Lw_law 576 = .ok (.ifCond .eq 5, 3) := by decide +kernel
theorem d_Lw_law_579 : decode c_Lw_law 579 = .ok (.iconst 0, 1) := by decide +kernel
theorem d_Lw_law_580 : decode c_Lw_law 580 = .ok (.ireturn, 1) := by decide +kernel
theorem d_Lw_law_581 : decode c_Lw_law 581 = .ok (.goto 726, 3) := by decide +kernel
theorem d_Lw_law_584 : decode c_Lw_law 584 = .ok (.aload_n 1, 1) := by decide +kernel
theorem d_Lw_law_585 : decode c_Lw_law 585 = .ok (.aload_n 0, 1) := by decide +kernel
theorem d_Lw_law_586 : decode c_Lw_law 586 = .ok (.iload 4, 2) := by decide +kernel
theorem d_Lw_law_588 : decode c_Lw_law 588 = .ok (.iconst 1, 1) := by decide +kernel
theorem d_Lw_law_589 : decode c_Lw_law 589 = .ok (.iadd, 1) := by decide +kernel
theorem d_Lw_law_590 : decode c_Lw_law 590 = .ok (.iaload, 1) := by decide +kernel
theorem d_Lw_law_591 : decode c_Lw_law 591 = .ok (.aload_n 0, 1) := by decide +kernel
theorem d_Lw_law_592 : decode c_Lw_law 592 = .ok (.iload 4, 2) := by decide +kernel
theorem d_Lw_law_594 : decode c_Lw_law 594 = .ok (.iconst 2, 1) := by decide +kernel
theorem d_Lw_law_595 : decode c_Lw_law 595 = .ok (.iadd, 1) := by decide +kernel
theorem d_Lw_law_596 : decode c_Lw_law 596 = .ok (.iaload, 1) := by decide +kernel
theorem d_Lw_law_597 : decode c_Lw_law 597 = .ok (.aload_n 0, 1) := by decide +kernel
theorem d_Lw_law_598 : decode c_Lw_law 598 = .ok (.iload 4, 2) := by decide +kernel
theorem d_Lw_law_600 : decode c_Lw_law 600 = .ok (.iconst 3, 1) := by decide +kernel
theorem d_Lw_law_601 : decode c_Lw_law 601 = .ok (.iadd, 1) := by decide +kernel
theorem d_Lw_law_602 : decode c_Lw_law 602 = .ok (.iaload, 1) := by decide +kernel
theorem d_Lw_law_603 : decode c_Lw_law 603 = .ok (.aload_n 0, 1) := by decide +kernel
theorem d_Lw_law_604 : decode c_Lw_law 604 = .ok (.iload 4, 2) := by decide +kernel
theorem d_Lw_law_606 : decode c_Lw_law 606 = .ok (.iconst 4, 1) := by decide +kernel
theorem d_Lw_law_607 : decode c_Lw_law 607 = .ok (.iadd, 1) := by decide +kernel
theorem d_Lw_law_608 : decode c_Lw_law 608 = .ok (.iaload, 1) := by decide +kernel
theorem d_Lw_law_609 : decode c_Lw_law 609 = .ok (.aload_n 3, 1) := by decide +kernel
theorem d_Lw_law_610 : decode c_Lw_law 610 = .ok (.invokestatic 102, 3) := by decide +kernel
theorem d_Lw_law_613 : decode c_Lw_law 613 = .ok (.istore 5, 2) := by decide +kernel
theorem d_Lw_law_615 : decode c_Lw_law 615 = .ok (.aload_n 2, 1) := by decide +kernel
theorem d_Lw_law_616 : decode c_Lw_law 616 = .ok (.aload_n 0, 1) := by decide +kernel
theorem d_Lw_law_617 : decode c_Lw_law 617 = .ok (.iload 4, 2) := by decide +kernel
theorem d_Lw_law_619 : decode c_Lw_law 619 = .ok (.iconst 1, 1) := by decide +kernel
theorem d_Lw_law_620 : decode c_Lw_law 620 = .ok (.iadd, 1) := by decide +kernel
theorem d_Lw_law_621 : decode c_Lw_law 621 = .ok (.iaload, 1) := by decide +kernel
theorem d_Lw_law_622 : decode c_Lw_law 622 = .ok (.aload_n 0, 1) := by decide +kernel
theorem d_Lw_law_623 : decode c_Lw_law 623 = .ok (.iload 4, 2) := by decide +kernel
theorem d_Lw_law_625 : decode c_Lw_law 625 = .ok (.iconst 2, 1) := by decide +kernel
theorem d_Lw_law_626 : decode c_Lw_law 626 = .ok (.iadd, 1) := by decide +kernel
theorem d_Lw_law_627 : decode c_Lw_law 627 = .ok (.iaload, 1) := by decide +kernel
theorem d_Lw_law_628 : decode c_Lw_law 628 = .ok (.aload_n 0, 1) := by decide +kernel
theorem d_Lw_law_629 : decode c_Lw_law 629 = .ok (.iload 4, 2) := by decide +kernel
theorem d_Lw_law_631 : decode c_Lw_law 631 = .ok (.iconst 3, 1) := by decide +kernel
theorem d_Lw_law_632 : decode c_Lw_law 632 = .ok (.iadd, 1) := by decide +kernel
theorem d_Lw_law_633 : decode c_Lw_law 633 = .ok (.iaload, 1) := by decide +kernel
theorem d_Lw_law_634 : decode c_Lw_law 634 = .ok (.aload_n 0, 1) := by decide +kernel
theorem d_Lw_law_635 : decode c_Lw_law 635 = .ok (.iload 4, 2) := by decide +kernel
theorem d_Lw_law_637 : decode c_Lw_law 637 = .ok (.iconst 4, 1) := by decide +kernel
theorem d_Lw_law_638 : decode c_Lw_law 638 = .ok (.iadd, 1) := by decide +kernel
theorem d_Lw_law_639 : decode c_Lw_law 639 = .ok (.iaload, 1) := by decide +kernel
theorem d_Lw_law_640 : decode c_Lw_law 640 = .ok (.invokevirtual 104, 3) := by decide +kernel
theorem d_Lw_law_643 : decode c_Lw_law 643 = .ok (.istore 6, 2) := by decide +kernel
theorem d_Lw_law_645 : decode c_Lw_law 645 = .ok (.aload_n 2, 1) := by decide +kernel
theorem d_Lw_law_646 : decode c_Lw_law 646 = .ok (.invokevirtual 82, 3) := by decide +kernel
theorem d_Lw_law_649 : decode c_Lw_law 649 = .ok (.iload 5, 2) := by decide +kernel
theorem d_Lw_law_651 : decode c_Lw_law 651 = .ok (.if_icmp .eq 5, 3) := by decide +kernel
theorem d_Lw_law_654 : decode c_Lw_law 654 = .ok (.iconst 0, 1) := by decide +kernel
theorem d_Lw_law_655 : decode c_Lw_law 655 = .ok (.ireturn, 1) := by decide +kernel
theorem d_Lw_law_656 : decode c_Lw_law 656 = .ok (.iload 5, 2) := by decide +kernel
theorem d_Lw_law_658 : decode c_Lw_law 658 = .ok (.ifCond .ne 15, 3) := by decide +kernel
theorem d_Lw_law_661 : decode c_Lw_law 661 = .ok (.aload_n 3, 1) := by decide +kernel
theorem d_Lw_law_662 : decode c_Lw_law 662 = .ok (.iconst 0, 1) := by decide +kernel
theorem d_Lw_law_663 : decode c_Lw_law 663 = .ok (.laload, 1) := by decide +kernel
theorem d_Lw_law_664 : decode c_Lw_law 664 = .ok (.iload 6, 2) := by decide +kernel
theorem d_Lw_law_666 : decode c_Lw_law 666 = .ok (.i2l, 1) := by decide +kernel
theorem d_Lw_law_667 : decode c_Lw_law 667 = .ok (.lcmp, 1) := by decide +kernel
theorem d_Lw_law_668 : decode c_Lw_law 668 = .ok (.ifCond .eq 5, 3) := by decide +kernel
theorem d_Lw_law_671 : decode c_Lw_law 671 = .ok (.iconst 0, 1) := by decide +kernel
theorem d_Lw_law_672 : decode c_Lw_law 672 = .ok (.ireturn, 1) := by decide +kernel
theorem d_Lw_law_673 : decode c_Lw_law 673 = .ok (.goto 634, 3) := by decide +kernel
theorem d_Lw_law_676 : decode c_Lw_law 676 = .ok (.aload_n 1, 1) := by decide +kernel
theorem d_Lw_law_677 : decode c_Lw_law 677 = .ok (.aload_n 0, 1) := by decide +kernel
theorem d_Lw_law_678 : decode c_Lw_law 678 = .ok (.iload 4, 2) := by decide +kernel
theorem d_Lw_law_680 : decode c_Lw_law 680 = .ok (.iconst 1, 1) := by decide +kernel
theorem d_Lw_law_681 : decode c_Lw_law 681 = .ok (.iadd, 1) := by decide +kernel
theorem d_Lw_law_682 : decode c_Lw_law 682 = .ok (.iaload, 1) := by decide +kernel
theorem d_Lw_law_683 : decode c_Lw_law 683 = .ok (.aload_n 0, 1) := by decide +kernel
theorem d_Lw_law_684 : decode c_Lw_law 684 = .ok (.iload 4, 2) := by decide +kernel
theorem d_Lw_law_686 : decode c_Lw_law 686 = .ok (.iconst 2, 1) := by decide +kernel
theorem d_Lw_law_687 : decode c_Lw_law 687 = .ok (.iadd, 1) := by decide +kernel
theorem d_Lw_law_688 : decode c_Lw_law 688 = .ok (.iaload, 1) := by decide +kernel
theorem d_Lw_law_689 : decode c_Lw_law 689 = .ok (.aload_n 0, 1) := by decide +kernel
theorem d_Lw_law_690 : decode c_Lw_law 690 = .ok (.iload 4, 2) := by decide +kernel
theorem d_Lw_law_692 : decode c_Lw_law 692 = .ok (.iconst 3, 1) := by decide +kernel
theorem d_Lw_law_693 : decode c_Lw_law 693 = .ok (.iadd, 1) := by decide +kernel
theorem d_Lw_law_694 : decode c_Lw_law 694 = .ok (.iaload, 1) := by decide +kernel
theorem d_Lw_law_695 : decode c_Lw_law 695 = .ok (.aload_n 3, 1) := by decide +kernel
theorem d_Lw_law_696 : decode c_Lw_law 696 = .ok (.invokestatic 105, 3) := by decide +kernel
theorem d_Lw_law_699 : decode c_Lw_law 699 = .ok (.istore 5, 2) := by decide +kernel
theorem d_Lw_law_701 : decode c_Lw_law 701 = .ok (.aload_n 2, 1) := by decide +kernel
theorem d_Lw_law_702 : decode c_Lw_law 702 = .ok (.aload_n 0, 1) := by decide +kernel
theorem d_Lw_law_703 : decode c_Lw_law 703 = .ok (.iload 4, 2) := by decide +kernel
theorem d_Lw_law_705 : decode c_Lw_law 705 = .ok (.iconst 1, 1) := by decide +kernel
theorem d_Lw_law_706 : decode c_Lw_law 706 = .ok (.iadd, 1) := by decide +kernel
theorem d_Lw_law_707 : decode c_Lw_law 707 = .ok (.iaload, 1) := by decide +kernel
theorem d_Lw_law_708 : decode c_Lw_law 708 = .ok (.aload_n 0, 1) := by decide +kernel
theorem d_Lw_law_709 : decode c_Lw_law 709 = .ok (.iload 4, 2) := by decide +kernel
theorem d_Lw_law_711 : decode c_Lw_law 711 = .ok (.iconst 2, 1) := by decide +kernel
theorem d_Lw_law_712 : decode c_Lw_law 712 = .ok (.iadd, 1) := by decide +kernel
theorem d_Lw_law_713 : decode c_Lw_law 713 = .ok (.iaload, 1) := by decide +kernel
theorem d_Lw_law_714 : decode c_Lw_law 714 = .ok (.aload_n 0, 1) := by decide +kernel
theorem d_Lw_law_715 : decode c_Lw_law 715 = .ok (.iload 4, 2) := by decide +kernel
theorem d_Lw_law_717 : decode c_Lw_law 717 = .ok (.iconst 3, 1) := by decide +kernel
theorem d_Lw_law_718 : decode c_Lw_law 718 = .ok (.iadd, 1) := by decide +kernel
theorem d_Lw_law_719 : decode c_Lw_law 719 = .ok (.iaload, 1) := by decide +kernel
theorem d_Lw_law_720 : decode c_Lw_law 720 = .ok (.invokevirtual 108, 3) := by decide +kernel
theorem d_Lw_law_723 : decode c_Lw_law 723 = .ok (.istore 6, 2) := by decide +kernel
theorem d_Lw_law_725 : decode c_Lw_law 725 = .ok (.aload_n 2, 1) := by decide +kernel
theorem d_Lw_law_726 : decode c_Lw_law 726 = .ok (.invokevirtual 82, 3) := by decide +kernel
theorem d_Lw_law_729 : decode c_Lw_law 729 = .ok (.iload 5, 2) := by decide +kernel
theorem d_Lw_law_731 : decode c_Lw_law 731 = .ok (.if_icmp .eq 5, 3) := by decide +kernel
theorem d_Lw_law_734 : decode c_Lw_law 734 = .ok (.iconst 0, 1) := by decide +kernel
theorem d_Lw_law_735 : decode c_Lw_law 735 = .ok (.ireturn, 1) := by decide +kernel
theorem d_Lw_law_736 : decode c_Lw_law 736 = .ok (.iload 5, 2) := by decide +kernel
theorem d_Lw_law_738 : decode c_Lw_law 738 = .ok (.ifCond .ne 22, 3) := by decide +kernel
theorem d_Lw_law_741 : decode c_Lw_law 741 = .ok (.aload_n 3, 1) := by decide +kernel
theorem d_Lw_law_742 : decode c_Lw_law 742 = .ok (.iconst 0, 1) := by decide +kernel
theorem d_Lw_law_743 : decode c_Lw_law 743 = .ok (.laload, 1) := by decide +kernel
theorem d_Lw_law_744 : decode c_Lw_law 744 = .ok (.iload 6, 2) := by decide +kernel
theorem d_Lw_law_746 : decode c_Lw_law 746 = .ok (.ifCond .eq 7, 3) := by decide +kernel
theorem d_Lw_law_749 : decode c_Lw_law 749 = .ok (.lconst 1, 1) := by decide +kernel
theorem d_Lw_law_750 : decode c_Lw_law 750 = .ok (.goto 4, 3) := by decide +kernel
theorem d_Lw_law_753 : decode c_Lw_law 753 = .ok (.lconst 0, 1) := by decide +kernel
theorem d_Lw_law_754 : decode c_Lw_law 754 = .ok (.lcmp, 1) := by decide +kernel
theorem d_Lw_law_755 : decode c_Lw_law 755 = .ok (.ifCond .eq 5, 3) := by decide +kernel
theorem d_Lw_law_758 : decode c_Lw_law 758 = .ok (.iconst 0, 1) := by decide +kernel
theorem d_Lw_law_759 : decode c_Lw_law 759 = .ok (.ireturn, 1) := by decide +kernel
theorem d_Lw_law_760 : decode c_Lw_law 760 = .ok (.goto 547, 3) := by decide +kernel
theorem d_Lw_law_763 : decode c_Lw_law 763 = .ok (.aload_n 1, 1) := by decide +kernel
theorem d_Lw_law_764 : decode c_Lw_law 764 = .ok (.aload_n 0, 1) := by decide +kernel
theorem d_Lw_law_765 : decode c_Lw_law 765 = .ok (.iload 4, 2) := by decide +kernel
theorem d_Lw_law_767 : decode c_Lw_law 767 = .ok (.iconst 1, 1) := by decide +kernel
theorem d_Lw_law_768 : decode c_Lw_law 768 = .ok (.iadd, 1) := by decide +kernel
theorem d_Lw_law_769 : decode c_Lw_law 769 = .ok (.iaload, 1) := by decide +kernel
theorem d_Lw_law_770 : decode c_Lw_law 770 = .ok (.aload_n 0, 1) := by decide +kernel
theorem d_Lw_law_771 : decode c_Lw_law 771 = .ok (.iload 4, 2) := by decide +kernel
theorem d_Lw_law_773 : decode c_Lw_law 773 = .ok (.iconst 2, 1) := by decide +kernel
theorem d_Lw_law_774 : decode c_Lw_law 774 = .ok (.iadd, 1) := by decide +kernel
theorem d_Lw_law_775 : decode c_Lw_law 775 = .ok (.iaload, 1) := by decide +kernel
theorem d_Lw_law_776 : decode c_Lw_law 776 = .ok (.aload_n 3, 1) := by decide +kernel
theorem d_Lw_law_777 : decode c_Lw_law 777 = .ok (.invokestatic 109, 3) := by decide +kernel
theorem d_Lw_law_780 : decode c_Lw_law 780 = .ok (.istore 5, 2) := by decide +kernel
theorem d_Lw_law_782 : decode c_Lw_law 782 = .ok (.aload_n 2, 1) := by decide +kernel
theorem d_Lw_law_783 : decode c_Lw_law 783 = .ok (.aload_n 0, 1) := by decide +kernel
theorem d_Lw_law_784 : decode c_Lw_law 784 = .ok (.iload 4, 2) := by decide +kernel
theorem d_Lw_law_786 : decode c_Lw_law 786 = .ok (.iconst 1, 1) := by decide +kernel
theorem d_Lw_law_787 : decode c_Lw_law 787 = .ok (.iadd, 1) := by decide +kernel
theorem d_Lw_law_788 : decode c_Lw_law 788 = .ok (.iaload, 1) := by decide +kernel
theorem d_Lw_law_789 : decode c_Lw_law 789 = .ok (.aload_n 0, 1) := by decide +kernel
theorem d_Lw_law_790 : decode c_Lw_law 790 = .ok (.iload 4, 2) := by decide +kernel
theorem d_Lw_law_792 : decode c_Lw_law 792 = .ok (.iconst 2, 1) := by decide +kernel
theorem d_Lw_law_793 : decode c_Lw_law 793 = .ok (.iadd, 1) := by decide +kernel
theorem d_Lw_law_794 : decode c_Lw_law 794 = .ok (.iaload, 1) := by decide +kernel
theorem d_Lw_law_795 : decode c_Lw_law 795 = .ok (.invokevirtual 111, 3) := by decide +kernel
theorem d_Lw_law_798 : decode c_Lw_law 798 = .ok (.istore 6, 2) := by decide +kernel
theorem d_Lw_law_800 : decode c_Lw_law 800 = .ok (.aload_n 2, 1) := by decide +kernel
theorem d_Lw_law_801 : decode c_Lw_law 801 = .ok (.invokevirtual 82, 3) := by decide +kernel
theorem d_Lw_law_804 : decode c_Lw_law 804 = .ok (.iload 5, 2) := by decide +kernel
theorem d_Lw_law_806 : decode c_Lw_law 806 = .ok (.if_icmp .eq 5, 3) := by decide +kernel
theorem d_Lw_law_809 : decode c_Lw_law 809 = .ok (.iconst 0, 1) := by decide +kernel
theorem d_Lw_law_810 : decode c_Lw_law 810 = .ok (.ireturn, 1) := by decide +kernel
theorem d_Lw_law_811 : decode c_Lw_law 811 = .ok (.iload 5, 2) := by decide +kernel
theorem d_Lw_law_813 : decode c_Lw_law 813 = .ok (.ifCond .ne 15, 3) := by decide +kernel
theorem d_Lw_law_816 : decode c_Lw_law 816 = .ok (.aload_n 3, 1) := by decide +kernel
theorem d_Lw_law_817 : decode c_Lw_law 817 = .ok (.iconst 0, 1) := by decide +kernel
theorem d_Lw_law_818 : decode c_Lw_law 818 = .ok (.laload, 1) := by decide +kernel
theorem d_Lw_law_819 : decode c_Lw_law 819 = .ok (.iload 6, 2) := by decide +kernel
theorem d_Lw_law_821 : decode c_Lw_law 821 = .ok (.i2l, 1) := by decide +kernel
theorem d_Lw_law_822 : decode c_Lw_law 822 = .ok (.lcmp, 1) := by decide +kernel
theorem d_Lw_law_823 : decode c_Lw_law 823 = .ok (.ifCond .eq 5, 3) := by decide +kernel
theorem d_Lw_law_826 : decode c_Lw_law 826 = .ok (.iconst 0, 1) := by decide +kernel
theorem d_Lw_law_827 : decode c_Lw_law 827 = .ok (.ireturn, 1) := by decide +kernel
theorem d_Lw_law_828 : decode c_Lw_law 828 = .ok (.goto 479, 3) := by decide +kernel
theorem d_Lw_law_831 : decode c_Lw_law 831 = .ok (.aload_n 1, 1) := by decide +kernel
theorem d_Lw_law_832 : decode c_Lw_law 832 = .ok (.aload_n 0, 1) := by decide +kernel
theorem d_Lw_law_833 : decode c_Lw_law 833 = .ok (.iload 4, 2) := by decide +kernel
theorem d_Lw_law_835 : decode c_Lw_law 835 = .ok (.iconst 1, 1) := by decide +kernel
theorem d_Lw_law_836 : decode c_Lw_law 836 = .ok (.iadd, 1) := by decide +kernel
theorem d_Lw_law_837 : decode c_Lw_law 837 = .ok (.iaload, 1) := by decide +kernel
theorem d_Lw_law_838 : decode c_Lw_law 838 = .ok (.aload_n 0, 1) := by decide +kernel
theorem d_Lw_law_839 : decode c_Lw_law 839 = .ok (.iload 4, 2) := by decide +kernel
theorem d_Lw_law_841 : decode c_Lw_law 841 = .ok (.iconst 2, 1) := by decide +kernel
theorem d_Lw_law_842 : decode c_Lw_law 842 = .ok (.iadd, 1) := by decide +kernel
theorem d_Lw_law_843 : decode c_Lw_law 843 = .ok (.iaload, 1) := by decide +kernel
theorem d_Lw_law_844 : decode c_Lw_law 844 = .ok (.aload_n 3, 1) := by decide +kernel
theorem d_Lw_law_845 : decode c_Lw_law 845 = .ok (.invokestatic 112, 3) := by decide +kernel
theorem d_Lw_law_848 : decode c_Lw_law 848 = .ok (.istore 5, 2) := by decide +kernel
theorem d_Lw_law_850 : decode c_Lw_law 850 = .ok (.aload_n 2, 1) := by decide +kernel
theorem d_Lw_law_851 : decode c_Lw_law 851 = .ok (.aload_n 0, 1) := by decide +kernel
theorem d_Lw_law_852 : decode c_Lw_law 852 = .ok (.iload 4, 2) := by decide +kernel
theorem d_Lw_law_854 : decode c_Lw_law 854 = .ok (.iconst 1, 1) := by decide +kernel
theorem d_Lw_law_855 : decode c_Lw_law 855 = .ok (.iadd, 1) := by decide +kernel
theorem d_Lw_law_856 : decode c_Lw_law 856 = .ok (.iaload, 1) := by decide +kernel
theorem d_Lw_law_857 : decode c_Lw_law 857 = .ok (.aload_n 0, 1) := by decide +kernel
theorem d_Lw_law_858 : decode c_Lw_law 858 = .ok (.iload 4, 2) := by decide +kernel
theorem d_Lw_law_860 : decode c_Lw_law 860 = .ok (.iconst 2, 1) := by decide +kernel
theorem d_Lw_law_861 : decode c_Lw_law 861 = .ok (.iadd, 1) := by decide +kernel
theorem d_Lw_law_862 : decode c_Lw_law 862 = .ok (.iaload, 1) := by decide +kernel
theorem d_Lw_law_863 : decode c_Lw_law 863 = .ok (.invokevirtual 114, 3) := by decide +kernel
theorem d_Lw_law_866 : decode c_Lw_law 866 = .ok (.istore 6, 2) := by decide +kernel
theorem d_Lw_law_868 : decode c_Lw_law 868 = .ok (.aload_n 2, 1) := by decide +kernel
theorem d_Lw_law_869 : decode c_Lw_law 869 = .ok (.invokevirtual 82, 3) := by decide +kernel
theorem d_Lw_law_872 : decode c_Lw_law 872 = .ok (.iload 5, 2) := by decide +kernel
theorem d_Lw_law_874 : decode c_Lw_law 874 = .ok (.if_icmp .eq 5, 3) := by decide +kernel
theorem d_Lw_law_877 : decode c_Lw_law 877 = .ok (.iconst 0, 1) := by decide +kernel
theorem d_Lw_law_878 : decode c_Lw_law 878 = .ok (.ireturn, 1) := by decide +kernel
theorem d_Lw_law_879 : decode c_Lw_law 879 = .ok (.iload 5, 2) := by decide +kernel
theorem d_Lw_law_881 : decode c_Lw_law 881 = .ok (.ifCond .ne 15, 3) := by decide +kernel
theorem d_Lw_law_884 : decode c_Lw_law 884 = .ok (.aload_n 3, 1) := by decide +kernel
theorem d_Lw_law_885 : decode c_Lw_law 885 = .ok (.iconst 0, 1) := by decide +kernel
theorem d_Lw_law_886 : decode c_Lw_law 886 = .ok (.laload, 1) := by decide +kernel
theorem d_Lw_law_887 : decode c_Lw_law 887 = .ok (.iload 6, 2) := by decide +kernel
theorem d_Lw_law_889 : decode c_Lw_law 889 = .ok (.i2l, 1) := by decide +kernel
theorem d_Lw_law_890 : decode c_Lw_law 890 = .ok (.lcmp, 1) := by decide +kernel
theorem d_Lw_law_891 : decode c_Lw_law 891 = .ok (.ifCond .eq 5, 3) := by decide +kernel
theorem d_Lw_law_894 : decode c_Lw_law 894 = .ok (.iconst 0, 1) := by decide +kernel
theorem d_Lw_law_895 : decode c_Lw_law 895 = .ok (.ireturn, 1) := by decide +kernel
theorem d_Lw_law_896 : decode c_Lw_law 896 = .ok (.goto 411, 3) := by decide +kernel
theorem d_Lw_law_899 : decode c_Lw_law 899 = .ok (.aload_n 1, 1) := by decide +kernel
theorem d_Lw_law_900 : decode c_Lw_law 900 = .ok (.aload_n 0, 1) := by decide +kernel
theorem d_Lw_law_901 : decode c_Lw_law 901 = .ok (.iload 4, 2) := by decide +kernel
theorem d_Lw_law_903 : decode c_Lw_law 903 = .ok (.iconst 1, 1) := by decide +kernel
theorem d_Lw_law_904 : decode c_Lw_law 904 = .ok (.iadd, 1) := by decide +kernel
theorem d_Lw_law_905 : decode c_Lw_law 905 = .ok (.iaload, 1) := by decide +kernel
theorem d_Lw_law_906 : decode c_Lw_law 906 = .ok (.aload_n 0, 1) := by decide +kernel
theorem d_Lw_law_907 : decode c_Lw_law 907 = .ok (.iload 4, 2) := by decide +kernel
theorem d_Lw_law_909 : decode c_Lw_law 909 = .ok (.iconst 2, 1) := by decide +kernel
theorem d_Lw_law_910 : decode c_Lw_law 910 = .ok (.iadd, 1) := by decide +kernel
theorem d_Lw_law_911 : decode c_Lw_law 911 = .ok (.iaload, 1) := by decide +kernel
theorem d_Lw_law_912 : decode c_Lw_law 912 = .ok (.aload_n 3, 1) := by decide +kernel
theorem d_Lw_law_913 : decode c_Lw_law 913 = .ok (.invokestatic 115, 3) := by decide +kernel
theorem d_Lw_law_916 : decode c_Lw_law 916 = .ok (.istore 5, 2) := by decide +kernel
theorem d_Lw_law_918 : decode c_Lw_law 918 = .ok (.aload_n 2, 1) := by decide +kernel
theorem d_Lw_law_919 : decode c_Lw_law 919 = .ok (.aload_n 0, 1) := by decide +kernel
theorem d_Lw_law_920 : decode c_Lw_law 920 = .ok (.iload 4, 2) := by decide +kernel
theorem d_Lw_law_922 : decode c_Lw_law 922 = .ok (.iconst 1, 1) := by decide +kernel
theorem d_Lw_law_923 : decode c_Lw_law 923 = .ok (.iadd, 1) := by decide +kernel
theorem d_Lw_law_924 : decode c_Lw_law 924 = .ok (.iaload, 1) := by decide +kernel
theorem d_Lw_law_925 : decode c_Lw_law 925 = .ok (.aload_n 0, 1) := by decide +kernel
theorem d_Lw_law_926 : decode c_Lw_law 926 = .ok (.iload 4, 2) := by decide +kernel
theorem d_Lw_law_928 : decode c_Lw_law 928 = .ok (.iconst 2, 1) := by decide +kernel
theorem d_Lw_law_929 : decode c_Lw_law 929 = .ok (.iadd, 1) := by decide +kernel
theorem d_Lw_law_930 : decode c_Lw_law 930 = .ok (.iaload, 1) := by decide +kernel
theorem d_Lw_law_931 : decode c_Lw_law 931 = .ok (.invokevirtual 117, 3) := by decide +kernel
theorem d_Lw_law_934 : decode c_Lw_law 934 = .ok (.istore 6, 2) := by decide +kernel
theorem d_Lw_law_936 : decode c_Lw_law 936 = .ok (.aload_n 2, 1) := by decide +kernel
theorem d_Lw_law_937 : decode c_Lw_law 937 = .ok (.invokevirtual 82, 3) := by decide +kernel
theorem d_Lw_law_940 : decode c_Lw_law 940 = .ok (.iload 5, 2) := by decide +kernel
theorem d_Lw_law_942 : decode c_Lw_law 942 = .ok (.if_icmp .eq 5, 3) := by decide +kernel
theorem d_Lw_law_945 : decode c_Lw_law 945 = .ok (.iconst 0, 1) := by decide +kernel
theorem d_Lw_law_946 : decode c_Lw_law 946 = .ok (.ireturn, 1) := by decide +kernel
theorem d_Lw_law_947 : decode c_Lw_law 947 = .ok (.iload 5, 2) := by decide +kernel
theorem d_Lw_law_949 : decode c_Lw_law 949 = .ok (.ifCond .ne 15, 3) := by decide +kernel
theorem d_Lw_law_952 : decode c_Lw_law 952 = .ok (.aload_n 3, 1) := by decide +kernel
theorem d_Lw_law_953 : decode c_Lw_law 953 = .ok (.iconst 0, 1) := by decide +kernel
theorem d_Lw_law_954 : decode c_Lw_law 954 = .ok (.laload, 1) := by decide +kernel
theorem d_Lw_law_955 : decode c_Lw_law 955 = .ok (.iload 6, 2) := by decide +kernel
theorem d_Lw_law_957 : decode c_Lw_law 957 = .ok (.i2l, 1) := by decide +kernel
theorem d_Lw_law_958 : decode c_Lw_law 958 = .ok (.lcmp, 1) := by decide +kernel
theorem d_Lw_law_959 : decode c_Lw_law 959 = .ok (.ifCond .eq 5, 3) := by decide +kernel
theorem d_Lw_law_962 : decode c_Lw_law 962 = .ok (.iconst 0, 1) := by decide +kernel
theorem d_Lw_law_963 : decode c_Lw_law 963 = .ok (.ireturn, 1) := by decide +kernel
theorem d_Lw_law_964 : decode c_Lw_law 964 = .ok (.goto 343, 3) := by decide +kernel
theorem d_Lw_law_967 : decode c_Lw_law 967 = .ok (.aload_n 1, 1) := by decide +kernel
theorem d_Lw_law_968 : decode c_Lw_law 968 = .ok (.aload_n 0, 1) := by decide +kernel
theorem d_Lw_law_969 : decode c_Lw_law 969 = .ok (.iload 4, 2) := by decide +kernel
theorem d_Lw_law_971 : decode c_Lw_law 971 = .ok (.iconst 1, 1) := by decide +kernel
theorem d_Lw_law_972 : decode c_Lw_law 972 = .ok (.iadd, 1) := by decide +kernel
theorem d_Lw_law_973 : decode c_Lw_law 973 = .ok (.iaload, 1) := by decide +kernel
theorem d_Lw_law_974 : decode c_Lw_law 974 = .ok (.aload_n 0, 1) := by decide +kernel
theorem d_Lw_law_975 : decode c_Lw_law 975 = .ok (.iload 4, 2) := by decide +kernel
theorem d_Lw_law_977 : decode c_Lw_law 977 = .ok (.iconst 2, 1) := by decide +kernel
theorem d_Lw_law_978 : decode c_Lw_law 978 = .ok (.iadd, 1) := by decide +kernel
theorem d_Lw_law_979 : decode c_Lw_law 979 = .ok (.iaload, 1) := by decide +kernel
theorem d_Lw_law_980 : decode c_Lw_law 980 = .ok (.aload_n 3, 1) := by decide +kernel
theorem d_Lw_law_981 : decode c_Lw_law 981 = .ok (.invokestatic 118, 3) := by decide +kernel
theorem d_Lw_law_984 : decode c_Lw_law 984 = .ok (.istore 5, 2) := by decide +kernel
theorem d_Lw_law_986 : decode c_Lw_law 986 = .ok (.aload_n 2, 1) := by decide +kernel
theorem d_Lw_law_987 : decode c_Lw_law 987 = .ok (.aload_n 0, 1) := by decide +kernel
theorem d_Lw_law_988 : decode c_Lw_law 988 = .ok (.iload 4, 2) := by decide +kernel
theorem d_Lw_law_990 : decode c_Lw_law 990 = .ok (.iconst 1, 1) := by decide +kernel
theorem d_Lw_law_991 : decode c_Lw_law 991 = .ok (.iadd, 1) := by decide +kernel
theorem d_Lw_law_992 : decode c_Lw_law 992 = .ok (.iaload, 1) := by decide +kernel
theorem d_Lw_law_993 : decode c_Lw_law 993 = .ok (.aload_n 0, 1) := by decide +kernel
theorem d_Lw_law_994 : decode c_Lw_law 994 = .ok (.iload 4, 2) := by decide +kernel
theorem d_Lw_law_996 : decode c_Lw_law 996 = .ok (.iconst 2, 1) := by decide +kernel
theorem d_Lw_law_997 : decode c_Lw_law 997 = .ok (.iadd, 1) := by decide +kernel
theorem d_Lw_law_998 : decode c_Lw_law 998 = .ok (.iaload, 1) := by decide +kernel
theorem d_Lw_law_999 : decode c_Lw_law 999 = .ok (.invokevirtual 120, 3) := by decide +kernel
theorem d_Lw_law_1002 : decode c_Lw_law 1002 = .ok (.istore 6, 2) := by decide +kernel
theorem d_Lw_law_1004 : decode c_Lw_law 1004 = .ok (.aload_n 2, 1) := by decide +kernel
theorem d_Lw_law_1005 : decode c_Lw_law 1005 = .ok (.invokevirtual 82, 3) := by decide +kernel
theorem d_Lw_law_1008 : decode c_Lw_law 1008 = .ok (.iload 5, 2) := by decide +kernel
theorem d_Lw_law_1010 : decode c_Lw_law 1010 = .ok (.if_icmp .eq 5, 3) := by decide +kernel
theorem d_Lw_law_1013 : decode c_Lw_law 1013 = .ok (.iconst 0, 1) := by decide +kernel
theorem d_Lw_law_1014 : decode c_Lw_law 1014 = .ok (.ireturn, 1) := by decide +kernel
theorem d_Lw_law_1015 : decode c_Lw_law 1015 = .ok (.iload 5, 2) := by decide +kernel
theorem d_Lw_law_1017 : decode c_Lw_law 1017 = .ok (.ifCond .ne 15, 3) := by decide +kernel
theorem d_Lw_law_1020 : decode c_Lw_law 1020 = .ok (.aload_n 3, 1) := by decide +kernel
theorem d_Lw_law_1021 : decode c_Lw_law 1021 = .ok (.iconst 0, 1) := by decide +kernel
theorem d_Lw_law_1022 : decode c_Lw_law 1022 = .ok (.laload, 1) := by decide +kernel
theorem d_Lw_law_1023 : decode c_Lw_law 1023 = .ok (.iload 6, 2) := by decide +kernel
theorem d_Lw_law_1025 : decode c_Lw_law 1025 = .ok (.i2l, 1) := by decide +kernel
theorem d_Lw_law_1026 : decode c_Lw_law 1026 = .ok (.lcmp, 1) := by decide +kernel
theorem d_Lw_law_1027 : decode c_Lw_law 1027 = .ok (.ifCond .eq 5, 3) := by decide +kernel
theorem d_Lw_law_1030 : decode c_Lw_law 1030 = .ok (.iconst 0, 1) := by decide +kernel
theorem d_Lw_law_1031 : decode c_Lw_law 1031 = .ok (.ireturn, 1) := by decide +kernel
theorem d_Lw_law_1032 : decode c_Lw_law 1032 = .ok (.goto 275, 3) := by decide +kernel
theorem d_Lw_law_1035 : decode c_Lw_law 1035 = .ok (.aload_n 1, 1) := by decide +kernel
theorem d_Lw_law_1036 : decode c_Lw_law 1036 = .ok (.aload_n 0, 1) := by decide +kernel
theorem d_Lw_law_1037 : decode c_Lw_law 1037 = .ok (.iload 4, 2) := by decide +kernel
theorem d_Lw_law_1039 : decode c_Lw_law 1039 = .ok (.iconst 1, 1) := by decide +kernel
theorem d_Lw_law_1040 : decode c_Lw_law 1040 = .ok (.iadd, 1) := by decide +kernel
theorem d_Lw_law_1041 : decode c_Lw_law 1041 = .ok (.iaload, 1) := by decide +kernel
theorem d_Lw_law_1042 : decode c_Lw_law 1042 = .ok (.aload_n 3, 1) := by decide +kernel
theorem d_Lw_law_1043 : decode c_Lw_law 1043 = .ok (.invokestatic 121, 3) := by decide +kernel
theorem d_Lw_law_1046 : decode c_Lw_law 1046 = .ok (.istore 5, 2) := by decide +kernel
theorem d_Lw_law_1048 : decode c_Lw_law 1048 = .ok (.aload_n 2, 1) := by decide +kernel
theorem d_Lw_law_1049 : decode c_Lw_law 1049 = .ok (.aload_n 0, 1) := by decide +kernel
theorem d_Lw_law_1050 : decode c_Lw_law 1050 = .ok (.iload 4, 2) := by decide +kernel
theorem d_Lw_law_1052 : decode c_Lw_law 1052 = .ok (.iconst 1, 1) := by decide +kernel
theorem d_Lw_law_1053 : decode c_Lw_law 1053 = .ok (.iadd, 1) := by decide +kernel
theorem d_Lw_law_1054 : decode c_Lw_law 1054 = .ok (.iaload, 1) := by decide +kernel
theorem d_Lw_law_1055 : decode c_Lw_law 1055 = .ok (.invokevirtual 124, 3) := by decide +kernel
theorem d_Lw_law_1058 : decode c_Lw_law 1058 = .ok (.istore 6, 2) := by decide +kernel
theorem d_Lw_law_1060 : decode c_Lw_law 1060 = .ok (.aload_n 2, 1) := by decide +kernel
theorem d_Lw_law_1061 : decode c_Lw_law 1061 = .ok (.invokevirtual 82, 3) := by decide +kernel
theorem d_Lw_law_1064 : decode c_Lw_law 1064 = .ok (.iload 5, 2) := by decide +kernel
theorem d_Lw_law_1066 : decode c_Lw_law 1066 = .ok (.if_icmp .eq 5, 3) := by decide +kernel
theorem d_Lw_law_1069 : decode c_Lw_law 1069 = .ok (.iconst 0, 1) := by decide +kernel
theorem d_Lw_law_1070 : decode c_Lw_law 1070 = .ok (.ireturn, 1) := by decide +kernel
theorem d_Lw_law_1071 : decode c_Lw_law 1071 = .ok (.iload 5, 2) := by decide +kernel
theorem d_Lw_law_1073 : decode c_Lw_law 1073 = .ok (.ifCond .ne 15, 3) := by decide +kernel
theorem d_Lw_law_1076 : decode c_Lw_law 1076 = .ok (.aload_n 3, 1) := by decide +kernel
theorem d_Lw_law_1077 : decode c_Lw_law 1077 = .ok (.iconst 0, 1) := by decide +kernel
theorem d_Lw_law_1078 : decode c_Lw_law 1078 = .ok (.laload, 1) := by decide +kernel
theorem d_Lw_law_1079 : decode c_Lw_law 1079 = .ok (.iload 6, 2) := by decide +kernel
theorem d_Lw_law_1081 : decode c_Lw_law 1081 = .ok (.i2l, 1) := by decide +kernel
theorem d_Lw_law_1082 : decode c_Lw_law 1082 = .ok (.lcmp, 1) := by decide +kernel
theorem d_Lw_law_1083 : decode c_Lw_law 1083 = .ok (.ifCond .eq 5, 3) := by decide +kernel
theorem d_Lw_law_1086 : decode c_Lw_law 1086 = .ok (.iconst 0, 1) := by decide +kernel
theorem d_Lw_law_1087 : decode c_Lw_law 1087 = .ok (.ireturn, 1) := by decide +kernel
theorem d_Lw_law_1088 : decode c_Lw_law 1088 = .ok (.goto 219, 3) := by decide +kernel
theorem d_Lw_law_1091 : decode c_Lw_law 1091 = .ok (.aload_n 1, 1) := by decide +kernel
theorem d_Lw_law_1092 : decode c_Lw_law 1092 = .ok (.aload_n 0, 1) := by decide +kernel
theorem d_Lw_law_1093 : decode c_Lw_law 1093 = .ok (.iload 4, 2) := by decide +kernel
theorem d_Lw_law_1095 : decode c_Lw_law 1095 = .ok (.iconst 1, 1) := by decide +kernel
theorem d_Lw_law_1096 : decode c_Lw_law 1096 = .ok (.iadd, 1) := by decide +kernel
theorem d_Lw_law_1097 : decode c_Lw_law 1097 = .ok (.iaload, 1) := by decide +kernel
theorem d_Lw_law_1098 : decode c_Lw_law 1098 = .ok (.aload_n 0, 1) := by decide +kernel
theorem d_Lw_law_1099 : decode c_Lw_law 1099 = .ok (.iload 4, 2) := by decide +kernel
theorem d_Lw_law_1101 : decode c_Lw_law 1101 = .ok (.iconst 2, 1) := by decide +kernel
theorem d_Lw_law_1102 : decode c_Lw_law 1102 = .ok (.iadd, 1) := by decide +kernel
theorem d_Lw_law_1103 : decode c_Lw_law 1103 = .ok (.iaload, 1) := by decide +kernel
theorem d_Lw_law_1104 : decode c_Lw_law 1104 = .ok (.aload_n 0, 1) := by decide +kernel
theorem d_Lw_law_1105 : decode c_Lw_law 1105 = .ok (.iload 4, 2) := by decide +kernel
theorem d_Lw_law_1107 : decode c_Lw_law 1107 = .ok (.iconst 3, 1) := by decide +kernel
theorem d_Lw_law_1108 : decode c_Lw_law 1108 = .ok (.iadd, 1) := by decide +kernel
theorem d_Lw_law_1109 : decode c_Lw_law 1109 = .ok (.iaload, 1) := by decide +kernel
theorem d_Lw_law_1110 : decode c_Lw_law 1110 = .ok (.aload_n 3, 1) := by decide +kernel
theorem d_Lw_law_1111 : decode c_Lw_law 1111 = .ok (.invokestatic 125, 3) := by decide +kernel
theorem d_Lw_law_1114 : decode c_Lw_law 1114 = .ok (.istore 5, 2) := by decide +kernel
theorem d_Lw_law_1116 : decode c_Lw_law 1116 = .ok (.aload_n 2, 1) := by decide +kernel
theorem d_Lw_law_1117 : decode c_Lw_law 1117 = .ok (.aload_n 0, 1) := by decide +kernel
theorem d_Lw_law_1118 : decode c_Lw_law 1118 = .ok (.iload 4, 2) := by decide +kernel
theorem d_Lw_law_1120 : decode c_Lw_law 1120 = .ok (.iconst 1, 1) := by decide +kernel
theorem d_Lw_law_1121 : decode c_Lw_law 1121 = .ok (.iadd, 1) := by decide +kernel
theorem d_Lw_law_1122 : decode c_Lw_law 1122 = .ok (.iaload, 1) := by decide +kernel
theorem d_Lw_law_1123 : decode c_Lw_law 1123 = .ok (.aload_n 0, 1) := by decide +kernel
theorem d_Lw_law_1124 : decode c_Lw_law 1124 = .ok (.iload 4, 2) := by decide +kernel
theorem d_Lw_law_1126 : decode c_Lw_law 1126 = .ok (.iconst 2, 1) := by decide +kernel
theorem d_Lw_law_1127 : decode c_Lw_law 1127 = .ok (.iadd, 1) := by decide +kernel
theorem d_Lw_law_1128 : decode c_Lw_law 1128 = .ok (.iaload, 1) := by decide +kernel
theorem d_Lw_law_1129 : decode c_Lw_law 1129 = .ok (.aload_n 0, 1) := by decide +kernel
theorem d_Lw_law_1130 : decode c_Lw_law 1130 = .ok (.iload 4, 2) := by decide +kernel
theorem d_Lw_law_1132 : decode c_Lw_law 1132 = .ok (.iconst 3, 1) := by decide +kernel
theorem d_Lw_law_1133 : decode c_Lw_law 1133 = .ok (.iadd, 1) := by decide +kernel
theorem d_Lw_law_1134 : decode c_Lw_law 1134 = .ok (.iaload, 1) := by decide +kernel
theorem d_Lw_law_1135 : decode c_Lw_law 1135 = .ok (.invokevirtual 127, 3) := by decide +kernel
theorem d_Lw_law_1138 : decode c_Lw_law 1138 = .ok (.istore 6, 2) := by decide +kernel
theorem d_Lw_law_1140 : decode c_Lw_law 1140 = .ok (.aload_n 2, 1) := by decide +kernel
theorem d_Lw_law_1141 : decode c_Lw_law 1141 = .ok (.invokevirtual 82, 3) := by decide +kernel
theorem d_Lw_law_1144 : decode c_Lw_law 1144 = .ok (.iload 5, 2) := by decide +kernel
theorem d_Lw_law_1146 : decode c_Lw_law 1146 = .ok (.if_icmp .eq 5, 3) := by decide +kernel
theorem d_Lw_law_1149 : decode c_Lw_law 1149 = .ok (.iconst 0, 1) := by decide +kernel
theorem d_Lw_law_1150 : decode c_Lw_law 1150 = .ok (.ireturn, 1) := by decide +kernel
theorem d_Lw_law_1151 : decode c_Lw_law 1151 = .ok (.iload 5, 2) := by decide +kernel
theorem d_Lw_law_1153 : decode c_Lw_law 1153 = .ok (.ifCond .ne 15, 3) := by decide +kernel
theorem d_Lw_law_1156 : decode c_Lw_law 1156 = .ok (.aload_n 3, 1) := by decide +kernel
theorem d_Lw_law_1157 : decode c_Lw_law 1157 = .ok (.iconst 0, 1) := by decide +kernel
theorem d_Lw_law_1158 : decode c_Lw_law 1158 = .ok (.laload, 1) := by decide +kernel
theorem d_Lw_law_1159 : decode c_Lw_law 1159 = .ok (.iload 6, 2) := by decide +kernel
theorem d_Lw_law_1161 : decode c_Lw_law 1161 = .ok (.i2l, 1) := by decide +kernel
theorem d_Lw_law_1162 : decode c_Lw_law 1162 = .ok (.lcmp, 1) := by decide +kernel
theorem d_Lw_law_1163 : decode c_Lw_law 1163 = .ok (.ifCond .eq 5, 3) := by decide +kernel
theorem d_Lw_law_1166 : decode c_Lw_law 1166 = .ok (.iconst 0, 1) := by decide +kernel
theorem d_Lw_law_1167 : decode c_Lw_law 1167 = .ok (.ireturn, 1) := by decide +kernel
theorem d_Lw_law_1168 : decode c_Lw_law 1168 = .ok (.goto 139, 3) := by decide +kernel
theorem d_Lw_law_1171 : decode c_Lw_law 1171 = .ok (.aload_n 1, 1) := by decide +kernel
theorem d_Lw_law_1172 : decode c_Lw_law 1172 = .ok (.aload_n 0, 1) := by decide +kernel
theorem d_Lw_law_1173 : decode c_Lw_law 1173 = .ok (.iload 4, 2) := by decide +kernel
theorem d_Lw_law_1175 : decode c_Lw_law 1175 = .ok (.iconst 1, 1) := by decide +kernel
theorem d_Lw_law_1176 : decode c_Lw_law 1176 = .ok (.iadd, 1) := by decide +kernel
theorem d_Lw_law_1177 : decode c_Lw_law 1177 = .ok (.iaload, 1) := by decide +kernel
theorem d_Lw_law_1178 : decode c_Lw_law 1178 = .ok (.aload_n 0, 1) := by decide +kernel
theorem d_Lw_law_1179 : decode c_Lw_law 1179 = .ok (.iload 4, 2) := by decide +kernel
theorem d_Lw_law_1181 : decode c_Lw_law 1181 = .ok (.iconst 2, 1) := by decide +kernel
theorem d_Lw_law_1182 : decode c_Lw_law 1182 = .ok (.iadd, 1) := by decide +kernel
theorem d_Lw_law_1183 : decode c_Lw_law 1183 = .ok (.iaload, 1) := by decide +kernel
theorem d_Lw_law_1184 : decode c_Lw_law 1184 = .ok (.aload_n 0, 1) := by decide +kernel
theorem d_Lw_law_1185 : decode c_Lw_law 1185 = .ok (.iload 4, 2) := by decide +kernel
theorem d_Lw_law_1187 : decode c_Lw_law 1187 = .ok (.iconst 3, 1) := by decide +kernel
theorem d_Lw_law_1188 : decode c_Lw_law 1188 = .ok (.iadd, 1) := by decide +kernel
theorem d_Lw_law_1189 : decode c_Lw_law 1189 = .ok (.iaload, 1) := by decide +kernel
theorem d_Lw_law_1190 : decode c_Lw_law 1190 = .ok (.aload_n 3, 1) := by decide +kernel
theorem d_Lw_law_1191 : decode c_Lw_law 1191 = .ok (.invokestatic 128, 3) := by decide +kernel
theorem d_Lw_law_1194 : decode c_Lw_law 1194 = .ok (.istore 5, 2) := by decide +kernel
theorem d_Lw_law_1196 : decode c_Lw_law 1196 = .ok (.aload_n 2, 1) := by decide +kernel
theorem d_Lw_law_1197 : decode c_Lw_law 1197 = .ok (.aload_n 0, 1) := by decide +kernel
theorem d_Lw_law_1198 : decode c_Lw_law 1198 = .ok (.iload 4, 2) := by decide +kernel
theorem d_Lw_law_1200 : decode c_Lw_law 1200 = .ok (.iconst 1, 1) := by decide +kernel
theorem d_Lw_law_1201 : decode c_Lw_law 1201 = .ok (.iadd, 1) := by decide +kernel
theorem d_Lw_law_1202 : decode c_Lw_law 1202 = .ok (.iaload, 1) := by decide +kernel
theorem d_Lw_law_1203 : decode c_Lw_law 1203 = .ok (.aload_n 0, 1) := by decide +kernel
theorem d_Lw_law_1204 : decode c_Lw_law 1204 = .ok (.iload 4, 2) := by decide +kernel
theorem d_Lw_law_1206 : decode c_Lw_law 1206 = .ok (.iconst 2, 1) := by decide +kernel
theorem d_Lw_law_1207 : decode c_Lw_law 1207 = .ok (.iadd, 1) := by decide +kernel
theorem d_Lw_law_1208 : decode c_Lw_law 1208 = .ok (.iaload, 1) := by decide +kernel
theorem d_Lw_law_1209 : decode c_Lw_law 1209 = .ok (.aload_n 0, 1) := by decide +kernel
theorem d_Lw_law_1210 : decode c_Lw_law 1210 = .ok (.iload 4, 2) := by decide +kernel
theorem d_Lw_law_1212 : decode c_Lw_law 1212 = .ok (.iconst 3, 1) := by decide +kernel
theorem d_Lw_law_1213 : decode c_Lw_law 1213 = .ok (.iadd, 1) := by decide +kernel
theorem d_Lw_law_1214 : decode c_Lw_law 1214 = .ok (.iaload, 1) := by decide +kernel
theorem d_Lw_law_1215 : decode c_Lw_law 1215 = .ok (.invokevirtual 130, 3) := by decide +kernel
theorem d_Lw_law_1218 : decode c_Lw_law 1218 = .ok (.istore 6, 2) := by decide +kernel
theorem d_Lw_law_1220 : decode c_Lw_law 1220 = .ok (.aload_n 2, 1) := by decide +kernel
theorem d_Lw_law_1221 : decode c_Lw_law 1221 = .ok (.invokevirtual 82, 3) := by decide +kernel
theorem d_Lw_law_1224 : decode c_Lw_law 1224 = .ok (.iload 5, 2) := by decide +kernel
theorem d_Lw_law_1226 : decode c_Lw_law 1226 = .ok (.if_icmp .eq 5, 3) := by decide +kernel
theorem d_Lw_law_1229 : decode c_Lw_law 1229 = .ok (.iconst 0, 1) := by decide +kernel
theorem d_Lw_law_1230 : decode c_Lw_law 1230 = .ok (.ireturn, 1) := by decide +kernel
theorem d_Lw_law_1231 : decode c_Lw_law 1231 = .ok (.iload 5, 2) := by decide +kernel
theorem d_Lw_law_1233 : decode c_Lw_law 1233 = .ok (.ifCond .ne 15, 3) := by decide +kernel
theorem d_Lw_law_1236 : decode c_Lw_law 1236 = .ok (.aload_n 3, 1) := by decide +kernel
theorem d_Lw_law_1237 : decode c_Lw_law 1237 = .ok (.iconst 0, 1) := by decide +kernel
theorem d_Lw_law_1238 : decode c_Lw_law 1238 = .ok (.laload, 1) := by decide +kernel
theorem d_Lw_law_1239 : decode c_Lw_law 1239 = .ok (.iload 6, 2) := by decide +kernel
theorem d_Lw_law_1241 : decode c_Lw_law 1241 = .ok (.i2l, 1) := by decide +kernel
theorem d_Lw_law_1242 : decode c_Lw_law 1242 = .ok (.lcmp, 1) := by decide +kernel
theorem d_Lw_law_1243 : decode c_Lw_law 1243 = .ok (.ifCond .eq 5, 3) := by decide +kernel
theorem d_Lw_law_1246 : decode c_Lw_law 1246 = .ok (.iconst 0, 1) := by decide +kernel
theorem d_Lw_law_1247 : decode c_Lw_law 1247 = .ok (.ireturn, 1) := by decide +kernel
theorem d_Lw_law_1248 : decode c_Lw_law 1248 = .ok (.goto 59, 3) := by decide +kernel
theorem d_Lw_law_1251 : decode c_Lw_law 1251 = .ok (.aload_n 1, 1) := by decide +kernel
theorem d_Lw_law_1252 : decode c_Lw_law 1252 = .ok (.aload_n 0, 1) := by decide +kernel
theorem d_Lw_law_1253 : decode c_Lw_law 1253 = .ok (.iload 4, 2) := by decide +kernel
theorem d_Lw_law_1255 : decode c_Lw_law 1255 = .ok (.iconst 1, 1) := by decide +kernel
theorem d_Lw_law_1256 : decode c_Lw_law 1256 = .ok (.iadd, 1) := by decide +kernel
theorem d_Lw_law_1257 : decode c_Lw_law 1257 = .ok (.iaload, 1) := by decide +kernel
theorem d_Lw_law_1258 : decode c_Lw_law 1258 = .ok (.aload_n 3, 1) := by decide +kernel
theorem d_Lw_law_1259 : decode c_Lw_law 1259 = .ok (.invokestatic 131, 3) := by decide +kernel
theorem d_Lw_law_1262 : decode c_Lw_law 1262 = .ok (.istore 5, 2) := by decide +kernel
theorem d_Lw_law_1264 : decode c_Lw_law 1264 = .ok (.aload_n 2, 1) := by decide +kernel
theorem d_Lw_law_1265 : decode c_Lw_law 1265 = .ok (.aload_n 0, 1) := by decide +kernel
theorem d_Lw_law_1266 : decode c_Lw_law 1266 = .ok (.iload 4, 2) := by decide +kernel
theorem d_Lw_law_1268 : decode c_Lw_law 1268 = .ok (.iconst 1, 1) := by decide +kernel
theorem d_Lw_law_1269 : decode c_Lw_law 1269 = .ok (.iadd, 1) := by decide +kernel
theorem d_Lw_law_1270 : decode c_Lw_law 1270 = .ok (.iaload, 1) := by decide +kernel
theorem d_Lw_law_1271 : decode c_Lw_law 1271 = .ok (.invokevirtual 133, 3) := by decide +kernel
theorem d_Lw_law_1274 : decode c_Lw_law 1274 = .ok (.istore 6, 2) := by decide +kernel
theorem d_Lw_law_1276 : decode c_Lw_law 1276 = .ok (.aload_n 2, 1) := by decide +kernel
theorem d_Lw_law_1277 : decode c_Lw_law 1277 = .ok (.invokevirtual 82, 3) := by decide +kernel
theorem d_Lw_law_1280 : decode c_Lw_law 1280 = .ok (.iload 5, 2) := by decide +kernel
theorem d_Lw_law_1282 : decode c_Lw_law 1282 = .ok (.if_icmp .eq 5, 3) := by decide +kernel
theorem d_Lw_law_1285 : decode c_Lw_law 1285 = .ok (.iconst 0, 1) := by decide +kernel
theorem d_Lw_law_1286 : decode c_Lw_law 1286 = .ok (.ireturn, 1) := by decide +kernel
theorem d_Lw_law_1287 : decode c_Lw_law 1287 = .ok (.iload 5, 2) := by decide +kernel
theorem d_Lw_law_1289 : decode c_Lw_law 1289 = .ok (.ifCond .ne 15, 3) := by decide +kernel
theorem d_Lw_law_1292 : decode c_Lw_law 1292 = .ok (.aload_n 3, 1) := by decide +kernel
theorem d_Lw_law_1293 : decode c_Lw_law 1293 = .ok (.iconst 0, 1) := by decide +kernel
theorem d_Lw_law_1294 : decode c_Lw_law 1294 = .ok (.laload, 1) := by decide +kernel
theorem d_Lw_law_1295 : decode c_Lw_law 1295 = .ok (.iload 6, 2) := by decide +kernel
theorem d_Lw_law_1297 : decode c_Lw_law 1297 = .ok (.i2l, 1) := by decide +kernel
theorem d_Lw_law_1298 : decode c_Lw_law 1298 = .ok (.lcmp, 1) := by decide +kernel
theorem d_Lw_law_1299 : decode c_Lw_law 1299 = .ok (.ifCond .eq 5, 3) := by decide +kernel
theorem d_Lw_law_1302 : decode c_Lw_law 1302 = .ok (.iconst 0, 1) := by decide +kernel
theorem d_Lw_law_1303 : decode c_Lw_law 1303 = .ok (.ireturn, 1) := by decide +kernel
theorem d_Lw_law_1304 : decode c_Lw_law 1304 = .ok (.goto 3, 3) := by decide +kernel
theorem d_Lw_law_1307 : decode c_Lw_law 1307 = .ok (.iinc 4 7, 3) := by decide +kernel
theorem d_Lw_law_1310 : decode c_Lw_law 1310 = .ok (.goto (-1267), 3) := by decide +kernel
theorem d_Lw_law_1313 : decode c_Lw_law 1313 = .ok (.iconst 1, 1) := by decide +kernel
theorem d_Lw_law_1314 : decode c_Lw_law 1314 = .ok (.ireturn, 1) := by decide +kernel
