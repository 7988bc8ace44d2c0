theorem dHart_init_0 : decode cHart_init 0 = .ok (.aload_n 0, 1) := by decide +kernel
theorem dHart_init_1 : decode cHart_init 1 = .ok (.invokespecial 1, 3) := by decide +kernel
theorem dHart_init_4 : decode cHart_init 4 = .ok (.aload_n 0, 1) := by decide +kernel
theorem dHart_init_5 : decode cHart_init 5 = .ok (.new 7, 3) := by decide +kernel
theorem dHart_init_8 : decode cHart_init 8 = .ok (.dup, 1) := by decide +kernel
theorem dHart_init_9 : decode cHart_init 9 = .ok (.invokespecial 9, 3) := by decide +kernel
theorem dHart_init_12 : decode cHart_init 12 = .ok (.putfield 10, 3) := by decide +kernel
theorem dHart_init_15 : decode cHart_init 15 = .ok (.aload_n 0, 1) := by decide +kernel
theorem dHart_init_16 : decode cHart_init 16 = .ok (.bipush 32, 2) := by decide +kernel
theorem dHart_init_18 : decode cHart_init 18 = .ok (.newarray .int, 2) := by decide +kernel
theorem dHart_init_20 : decode cHart_init 20 = .ok (.putfield 16, 3) := by decide +kernel
theorem dHart_init_23 : decode cHart_init 23 = .ok (.return_, 1) := by decide +kernel
theorem dHart_poke_0 : decode cHart_poke 0 = .ok (.iload_n 1, 1) := by decide +kernel
theorem dHart_poke_1 : decode cHart_poke 1 = .ok (.invokestatic 20, 3) := by decide +kernel
theorem dHart_poke_4 : decode cHart_poke 4 = .ok (.ifCond .ne 13, 3) := by decide +kernel
theorem dHart_poke_7 : decode cHart_poke 7 = .ok (.new 24, 3) := by decide +kernel
theorem dHart_poke_10 : decode cHart_poke 10 = .ok (.dup, 1) := by decide +kernel
theorem dHart_poke_11 : decode cHart_poke 11 = .ok (.ldc 26, 2) := by decide +kernel
theorem dHart_poke_13 : decode cHart_poke 13 = .ok (.invokespecial 28, 3) := by decide +kernel
theorem dHart_poke_16 : decode cHart_poke 16 = .ok (.athrow, 1) := by decide +kernel
theorem dHart_poke_17 : decode cHart_poke 17 = .ok (.aload_n 0, 1) := by decide +kernel
theorem dHart_poke_18 : decode cHart_poke 18 = .ok (.getfield 10, 3) := by decide +kernel
theorem dHart_poke_21 : decode cHart_poke 21 = .ok (.iconst 0, 1) := by decide +kernel
theorem dHart_poke_22 : decode cHart_poke 22 = .ok (.iload_n 1, 1) := by decide +kernel
theorem dHart_poke_23 : decode cHart_poke 23 = .ok (.iload_n 2, 1) := by decide +kernel
theorem dHart_poke_24 : decode cHart_poke 24 = .ok (.invokevirtual 31, 3) := by decide +kernel
theorem dHart_poke_27 : decode cHart_poke 27 = .ok (.return_, 1) := by decide +kernel
theorem dHart_plant_0 : decode cHart_plant 0 = .ok (.iload_n 1, 1) := by decide +kernel
theorem dHart_plant_1 : decode cHart_plant 1 = .ok (.invokestatic 20, 3) := by decide +kernel
theorem dHart_plant_4 : decode cHart_plant 4 = .ok (.ifCond .eq 11, 3) := by decide +kernel
theorem dHart_plant_7 : decode cHart_plant 7 = .ok (.iconst 2, 1) := by decide +kernel
theorem dHart_plant_8 : decode cHart_plant 8 = .ok (.iload_n 1, 1) := by decide +kernel
theorem dHart_plant_9 : decode cHart_plant 9 = .ok (.invokestatic 35, 3) := by decide +kernel
theorem dHart_plant_12 : decode cHart_plant 12 = .ok (.ifCond .eq 13, 3) := by decide +kernel
theorem dHart_plant_15 : decode cHart_plant 15 = .ok (.new 24, 3) := by decide +kernel
theorem dHart_plant_18 : decode cHart_plant 18 = .ok (.dup, 1) := by decide +kernel
theorem dHart_plant_19 : decode cHart_plant 19 = .ok (.ldc 39, 2) := by decide +kernel
theorem dHart_plant_21 : decode cHart_plant 21 = .ok (.invokespecial 28, 3) := by decide +kernel
theorem dHart_plant_24 : decode cHart_plant 24 = .ok (.athrow, 1) := by decide +kernel
theorem dHart_plant_25 : decode cHart_plant 25 = .ok (.aload_n 0, 1) := by decide +kernel
theorem dHart_plant_26 : decode cHart_plant 26 = .ok (.getfield 10, 3) := by decide +kernel
theorem dHart_plant_29 : decode cHart_plant 29 = .ok (.iconst 2, 1) := by decide +kernel
theorem dHart_plant_30 : decode cHart_plant 30 = .ok (.iload_n 1, 1) := by decide +kernel
theorem dHart_plant_31 : decode cHart_plant 31 = .ok (.iload_n 2, 1) := by decide +kernel
theorem dHart_plant_32 : decode cHart_plant 32 = .ok (.invokevirtual 31, 3) := by decide +kernel
theorem dHart_plant_35 : decode cHart_plant 35 = .ok (.return_, 1) := by decide +kernel
theorem dHart_peek_0 : decode cHart_peek 0 = .ok (.iload_n 1, 1) := by decide +kernel
theorem dHart_peek_1 : decode cHart_peek 1 = .ok (.invokestatic 20, 3) := by decide +kernel
theorem dHart_peek_4 : decode cHart_peek 4 = .ok (.ifCond .ne 13, 3) := by decide +kernel
theorem dHart_peek_7 : decode cHart_peek 7 = .ok (.new 24, 3) := by decide +kernel
theorem dHart_peek_10 : decode cHart_peek 10 = .ok (.dup, 1) := by decide +kernel
theorem dHart_peek_11 : decode cHart_peek 11 = .ok (.ldc 26, 2) := by decide +kernel
theorem dHart_peek_13 : decode cHart_peek 13 = .ok (.invokespecial 28, 3) := by decide +kernel
theorem dHart_peek_16 : decode cHart_peek 16 = .ok (.athrow, 1) := by decide +kernel
theorem dHart_peek_17 : decode cHart_peek 17 = .ok (.aload_n 0, 1) := by decide +kernel
theorem dHart_peek_18 : decode cHart_peek 18 = .ok (.getfield 10, 3) := by decide +kernel
theorem dHart_peek_21 : decode cHart_peek 21 = .ok (.iconst 4, 1) := by decide +kernel
theorem dHart_peek_22 : decode cHart_peek 22 = .ok (.iload_n 1, 1) := by decide +kernel
theorem dHart_peek_23 : decode cHart_peek 23 = .ok (.invokevirtual 41, 3) := by decide +kernel
theorem dHart_peek_26 : decode cHart_peek 26 = .ok (.ireturn, 1) := by decide +kernel
theorem dHart_rights_0 : decode cHart_rights 0 = .ok (.iload_n 1, 1) := by decide +kernel
theorem dHart_rights_1 : decode cHart_rights 1 = .ok (.ifCond .lt 9, 3) := by decide +kernel
theorem dHart_rights_4 : decode cHart_rights 4 = .ok (.iload_n 1, 1) := by decide +kernel
theorem dHart_rights_5 : decode cHart_rights 5 = .ok (.bipush 64, 2) := by decide +kernel
theorem dHart_rights_7 : decode cHart_rights 7 = .ok (.if_icmp .lt 13, 3) := by decide +kernel
theorem dHart_rights_10 : decode cHart_rights 10 = .ok (.new 45, 3) := by decide +kernel
theorem dHart_rights_13 : decode cHart_rights 13 = .ok (.dup, 1) := by decide +kernel
theorem dHart_rights_14 : decode cHart_rights 14 = .ok (.ldc 47, 2) := by decide +kernel
theorem dHart_rights_16 : decode cHart_rights 16 = .ok (.invokespecial 49, 3) := by decide +kernel
theorem dHart_rights_19 : decode cHart_rights 19 = .ok (.athrow, 1) := by decide +kernel
theorem dHart_rights_20 : decode cHart_rights 20 = .ok (.iload_n 2, 1) := by decide +kernel
theorem dHart_rights_21 : decode cHart_rights 21 = .ok (.ifCond .lt 9, 3) := by decide +kernel
theorem dHart_rights_24 : decode cHart_rights 24 = .ok (.iload_n 2, 1) := by decide +kernel
theorem dHart_rights_25 : decode cHart_rights 25 = .ok (.bipush 7, 2) := by decide +kernel
theorem dHart_rights_27 : decode cHart_rights 27 = .ok (.if_icmp .le 13, 3) := by decide +kernel
theorem dHart_rights_30 : decode cHart_rights 30 = .ok (.new 45, 3) := by decide +kernel
theorem dHart_rights_33 : decode cHart_rights 33 = .ok (.dup, 1) := by decide +kernel
theorem dHart_rights_34 : decode cHart_rights 34 = .ok (.ldc 50, 2) := by decide +kernel
theorem dHart_rights_36 : decode cHart_rights 36 = .ok (.invokespecial 49, 3) := by decide +kernel
theorem dHart_rights_39 : decode cHart_rights 39 = .ok (.athrow, 1) := by decide +kernel
theorem dHart_rights_40 : decode cHart_rights 40 = .ok (.aload_n 0, 1) := by decide +kernel
theorem dHart_rights_41 : decode cHart_rights 41 = .ok (.getfield 10, 3) := by decide +kernel
theorem dHart_rights_44 : decode cHart_rights 44 = .ok (.iload_n 1, 1) := by decide +kernel
theorem dHart_rights_45 : decode cHart_rights 45 = .ok (.iload_n 2, 1) := by decide +kernel
theorem dHart_rights_46 : decode cHart_rights 46 = .ok (.invokevirtual 52, 3) := by decide +kernel
theorem dHart_rights_49 : decode cHart_rights 49 = .ok (.ireturn, 1) := by decide +kernel
theorem dHart_set_0 : decode cHart_set 0 = .ok (.iload_n 1, 1) := by decide +kernel
theorem dHart_set_1 : decode cHart_set 1 = .ok (.ifCond .lt 9, 3) := by decide +kernel
theorem dHart_set_4 : decode cHart_set 4 = .ok (.iload_n 1, 1) := by decide +kernel
theorem dHart_set_5 : decode cHart_set 5 = .ok (.bipush 32, 2) := by decide +kernel
theorem dHart_set_7 : decode cHart_set 7 = .ok (.if_icmp .lt 13, 3) := by decide +kernel
theorem dHart_set_10 : decode cHart_set 10 = .ok (.new 24, 3) := by decide +kernel
theorem dHart_set_13 : decode cHart_set 13 = .ok (.dup, 1) := by decide +kernel
theorem dHart_set_14 : decode cHart_set 14 = .ok (.ldc 55, 2) := by decide +kernel
theorem dHart_set_16 : decode cHart_set 16 = .ok (.invokespecial 28, 3) := by decide +kernel
theorem dHart_set_19 : decode cHart_set 19 = .ok (.athrow, 1) := by decide +kernel
theorem dHart_set_20 : decode cHart_set 20 = .ok (.aload_n 0, 1) := by decide +kernel
theorem dHart_set_21 : decode cHart_set 21 = .ok (.iload_n 1, 1) := by decide +kernel
theorem dHart_set_22 : decode cHart_set 22 = .ok (.iload_n 2, 1) := by decide +kernel
theorem dHart_set_23 : decode cHart_set 23 = .ok (.invokevirtual 57, 3) := by decide +kernel
theorem dHart_set_26 : decode cHart_set 26 = .ok (.pop, 1) := by decide +kernel
theorem dHart_set_27 : decode cHart_set 27 = .ok (.iload_n 1, 1) := by decide +kernel
theorem dHart_set_28 : decode cHart_set 28 = .ok (.ifCond .eq 7, 3) := by decide +kernel
theorem dHart_set_31 : decode cHart_set 31 = .ok (.iconst 1, 1) := by decide +kernel
theorem dHart_set_32 : decode cHart_set 32 = .ok (.goto 4, 3) := by decide +kernel
theorem dHart_set_35 : decode cHart_set 35 = .ok (.iconst 0, 1) := by decide +kernel
theorem dHart_set_36 : decode cHart_set 36 = .ok (.ireturn, 1) := by decide +kernel
theorem dHart_register_0 : decode cHart_register 0 = .ok (.iload_n 1, 1) := by decide +kernel
theorem dHart_register_1 : decode cHart_register 1 = .ok (.ifCond .lt 9, 3) := by decide +kernel
theorem dHart_register_4 : decode cHart_register 4 = .ok (.iload_n 1, 1) := by decide +kernel
theorem dHart_register_5 : decode cHart_register 5 = .ok (.bipush 32, 2) := by decide +kernel
theorem dHart_register_7 : decode cHart_register 7 = .ok (.if_icmp .lt 13, 3) := by decide +kernel
theorem dHart_register_10 : decode cHart_register 10 = .ok (.new 24, 3) := by decide +kernel
theorem dHart_register_13 : decode cHart_register 13 = .ok (.dup, 1) := by decide +kernel
theorem dHart_register_14 : decode cHart_register 14 = .ok (.ldc 55, 2) := by decide +kernel
theorem dHart_register_16 : decode cHart_register 16 = .ok (.invokespecial 28, 3) := by decide +kernel
theorem dHart_register_19 : decode cHart_register 19 = .ok (.athrow, 1) := by decide +kernel
theorem dHart_register_20 : decode cHart_register 20 = .ok (.aload_n 0, 1) := by decide +kernel
theorem dHart_register_21 : decode cHart_register 21 = .ok (.getfield 16, 3) := by decide +kernel
theorem dHart_register_24 : decode cHart_register 24 = .ok (.iload_n 1, 1) := by decide +kernel
theorem dHart_register_25 : decode cHart_register 25 = .ok (.iaload, 1) := by decide +kernel
theorem dHart_register_26 : decode cHart_register 26 = .ok (.ireturn, 1) := by decide +kernel
theorem dHart_jump_0 : decode cHart_jump 0 = .ok (.aload_n 0, 1) := by decide +kernel
theorem dHart_jump_1 : decode cHart_jump 1 = .ok (.iload_n 1, 1) := by decide +kernel
theorem dHart_jump_2 : decode cHart_jump 2 = .ok (.putfield 60, 3) := by decide +kernel
theorem dHart_jump_5 : decode cHart_jump 5 = .ok (.return_, 1) := by decide +kernel
theorem dHart_clock_0 : decode cHart_clock 0 = .ok (.aload_n 0, 1) := by decide +kernel
theorem dHart_clock_1 : decode cHart_clock 1 = .ok (.lload_n 1, 1) := by decide +kernel
theorem dHart_clock_2 : decode cHart_clock 2 = .ok (.putfield 64, 3) := by decide +kernel
theorem dHart_clock_5 : decode cHart_clock 5 = .ok (.return_, 1) := by decide +kernel
theorem dHart_step_0 : decode cHart_step 0 = .ok (.aload_n 0, 1) := by decide +kernel
theorem dHart_step_1 : decode cHart_step 1 = .ok (.invokevirtual 68, 3) := by decide +kernel
theorem dHart_step_4 : decode cHart_step 4 = .ok (.ireturn, 1) := by decide +kernel
theorem dHart_run_0 : decode cHart_run 0 = .ok (.iload_n 1, 1) := by decide +kernel
theorem dHart_run_1 : decode cHart_run 1 = .ok (.ifCond .lt 10, 3) := by decide +kernel
theorem dHart_run_4 : decode cHart_run 4 = .ok (.iload_n 1, 1) := by decide +kernel
theorem dHart_run_5 : decode cHart_run 5 = .ok (.sipush 2000, 3) := by decide +kernel
theorem dHart_run_8 : decode cHart_run 8 = .ok (.if_icmp .le 13, 3) := by decide +kernel
theorem dHart_run_11 : decode cHart_run 11 = .ok (.new 45, 3) := by decide +kernel
theorem dHart_run_14 : decode cHart_run 14 = .ok (.dup, 1) := by decide +kernel
theorem dHart_run_15 : decode cHart_run 15 = .ok (.ldc 72, 2) := by decide +kernel
theorem dHart_run_17 : decode cHart_run 17 = .ok (.invokespecial 49, 3) := by decide +kernel
theorem dHart_run_20 : decode cHart_run 20 = .ok (.athrow, 1) := by decide +kernel
theorem dHart_run_21 : decode cHart_run 21 = .ok (.iconst 0, 1) := by decide +kernel
theorem dHart_run_22 : decode cHart_run 22 = .ok (.istore_n 2, 1) := by decide +kernel
theorem dHart_run_23 : decode cHart_run 23 = .ok (.iload_n 2, 1) := by decide +kernel
theorem dHart_run_24 : decode cHart_run 24 = .ok (.iload_n 1, 1) := by decide +kernel
theorem dHart_run_25 : decode cHart_run 25 = .ok (.if_icmp .ge 18, 3) := by decide +kernel
theorem dHart_run_28 : decode cHart_run 28 = .ok (.aload_n 0, 1) := by decide +kernel
theorem dHart_run_29 : decode cHart_run 29 = .ok (.invokevirtual 68, 3) := by decide +kernel
theorem dHart_run_32 : decode cHart_run 32 = .ok (.ifCond .eq 5, 3) := by decide +kernel
theorem dHart_run_35 : decode cHart_run 35 = .ok (.iload_n 2, 1) := by decide +kernel
theorem dHart_run_36 : decode cHart_run 36 = .ok (.ireturn, 1) := by decide +kernel
theorem dHart_run_37 : decode cHart_run 37 = .ok (.iinc 2 1, 3) := by decide +kernel
theorem dHart_run_40 : decode cHart_run 40 = .ok (.goto (-17), 3) := by decide +kernel
theorem dHart_run_43 : decode cHart_run 43 = .ok (.iload_n 1, 1) := by decide +kernel
theorem dHart_run_44 : decode cHart_run 44 = .ok (.ireturn, 1) := by decide +kernel
theorem dHart_count_0 : decode cHart_count 0 = .ok (.iload_n 1, 1) := by decide +kernel
theorem dHart_count_1 : decode cHart_count 1 = .ok (.tableswitch 67 0 4 #[35, 41, 47, 53, 58], 35) := by decide +kernel
theorem dHart_count_36 : decode cHart_count 36 = .ok (.aload_n 0, 1) := by decide +kernel
theorem dHart_count_37 : decode cHart_count 37 = .ok (.getfield 60, 3) := by decide +kernel
theorem dHart_count_40 : decode cHart_count 40 = .ok (.i2l, 1) := by decide +kernel
theorem dHart_count_41 : decode cHart_count 41 = .ok (.lreturn, 1) := by decide +kernel
theorem dHart_count_42 : decode cHart_count 42 = .ok (.aload_n 0, 1) := by decide +kernel
theorem dHart_count_43 : decode cHart_count 43 = .ok (.getfield 74, 3) := by decide +kernel
theorem dHart_count_46 : decode cHart_count 46 = .ok (.i2l, 1) := by decide +kernel
theorem dHart_count_47 : decode cHart_count 47 = .ok (.lreturn, 1) := by decide +kernel
theorem dHart_count_48 : decode cHart_count 48 = .ok (.aload_n 0, 1) := by decide +kernel
theorem dHart_count_49 : decode cHart_count 49 = .ok (.getfield 77, 3) := by decide +kernel
theorem dHart_count_52 : decode cHart_count 52 = .ok (.i2l, 1) := by decide +kernel
theorem dHart_count_53 : decode cHart_count 53 = .ok (.lreturn, 1) := by decide +kernel
theorem dHart_count_54 : decode cHart_count 54 = .ok (.aload_n 0, 1) := by decide +kernel
theorem dHart_count_55 : decode cHart_count 55 = .ok (.getfield 80, 3) := by decide +kernel
theorem dHart_count_58 : decode cHart_count 58 = .ok (.lreturn, 1) := by decide +kernel
theorem dHart_count_59 : decode cHart_count 59 = .ok (.aload_n 0, 1) := by decide +kernel
theorem dHart_count_60 : decode cHart_count 60 = .ok (.getfield 10, 3) := by decide +kernel
theorem dHart_count_63 : decode cHart_count 63 = .ok (.invokevirtual 83, 3) := by decide +kernel
theorem dHart_count_66 : decode cHart_count 66 = .ok (.i2l, 1) := by decide +kernel
theorem dHart_count_67 : decode cHart_count 67 = .ok (.lreturn, 1) := by decide +kernel
theorem dHart_count_68 : decode cHart_count 68 = .ok (.new 45, 3) := by decide +kernel
theorem dHart_count_71 : decode cHart_count 71 = .ok (.dup, 1) := by decide +kernel
theorem dHart_count_72 : decode cHart_count 72 = .ok (.ldc 86, 2) := by decide +kernel
theorem dHart_count_74 : decode cHart_count 74 = .ok (.invokespecial 49, 3) := by decide +kernel
theorem dHart_count_77 : decode cHart_count 77 = .ok (.athrow, 1) := by decide +kernel
theorem dHart_carryOutNext_0 : decode cHart_carryOutNext 0 = .ok (.aload_n 0, 1) := by decide +kernel
theorem dHart_carryOutNext_1 : decode cHart_carryOutNext 1 = .ok (.getfield 10, 3) := by decide +kernel
theorem dHart_carryOutNext_4 : decode cHart_carryOutNext 4 = .ok (.aload_n 0, 1) := by decide +kernel
theorem dHart_carryOutNext_5 : decode cHart_carryOutNext 5 = .ok (.getfield 60, 3) := by decide +kernel
theorem dHart_carryOutNext_8 : decode cHart_carryOutNext 8 = .ok (.invokevirtual 88, 3) := by decide +kernel
theorem dHart_carryOutNext_11 : decode cHart_carryOutNext 11 = .ok (.ifCond .ne 13, 3) := by decide +kernel
theorem dHart_carryOutNext_14 : decode cHart_carryOutNext 14 = .ok (.aload_n 0, 1) := by decide +kernel
theorem dHart_carryOutNext_15 : decode cHart_carryOutNext 15 = .ok (.iconst 1, 1) := by decide +kernel
theorem dHart_carryOutNext_16 : decode cHart_carryOutNext 16 = .ok (.aload_n 0, 1) := by decide +kernel
theorem dHart_carryOutNext_17 : decode cHart_carryOutNext 17 = .ok (.getfield 60, 3) := by decide +kernel
theorem dHart_carryOutNext_20 : decode cHart_carryOutNext 20 = .ok (.invokevirtual 91, 3) := by decide +kernel
theorem dHart_carryOutNext_23 : decode cHart_carryOutNext 23 = .ok (.ireturn, 1) := by decide +kernel
theorem dHart_carryOutNext_24 : decode cHart_carryOutNext 24 = .ok (.aload_n 0, 1) := by decide +kernel
theorem dHart_carryOutNext_25 : decode cHart_carryOutNext 25 = .ok (.getfield 10, 3) := by decide +kernel
theorem dHart_carryOutNext_28 : decode cHart_carryOutNext 28 = .ok (.iconst 5, 1) := by decide +kernel
theorem dHart_carryOutNext_29 : decode cHart_carryOutNext 29 = .ok (.aload_n 0, 1) := by decide +kernel
theorem dHart_carryOutNext_30 : decode cHart_carryOutNext 30 = .ok (.getfield 60, 3) := by decide +kernel
theorem dHart_carryOutNext_33 : decode cHart_carryOutNext 33 = .ok (.invokevirtual 41, 3) := by decide +kernel
theorem dHart_carryOutNext_36 : decode cHart_carryOutNext 36 = .ok (.istore_n 1, 1) := by decide +kernel
theorem dHart_carryOutNext_37 : decode cHart_carryOutNext 37 = .ok (.iload_n 1, 1) := by decide +kernel
theorem dHart_carryOutNext_38 : decode cHart_carryOutNext 38 = .ok (.iconst 3, 1) := by decide +kernel
theorem dHart_carryOutNext_39 : decode cHart_carryOutNext 39 = .ok (.iand, 1) := by decide +kernel
theorem dHart_carryOutNext_40 : decode cHart_carryOutNext 40 = .ok (.iconst 3, 1) := by decide +kernel
theorem dHart_carryOutNext_41 : decode cHart_carryOutNext 41 = .ok (.if_icmp .ne 7, 3) := by decide +kernel
theorem dHart_carryOutNext_44 : decode cHart_carryOutNext 44 = .ok (.iconst 1, 1) := by decide +kernel
theorem dHart_carryOutNext_45 : decode cHart_carryOutNext 45 = .ok (.goto 4, 3) := by decide +kernel
theorem dHart_carryOutNext_48 : decode cHart_carryOutNext 48 = .ok (.iconst 0, 1) := by decide +kernel
theorem dHart_carryOutNext_49 : decode cHart_carryOutNext 49 = .ok (.istore_n 2, 1) := by decide +kernel
theorem dHart_carryOutNext_50 : decode cHart_carryOutNext 50 = .ok (.iload_n 2, 1) := by decide +kernel
theorem dHart_carryOutNext_51 : decode cHart_carryOutNext 51 = .ok (.ifCond .eq 29, 3) := by decide +kernel
theorem dHart_carryOutNext_54 : decode cHart_carryOutNext 54 = .ok (.aload_n 0, 1) := by decide +kernel
theorem dHart_carryOutNext_55 : decode cHart_carryOutNext 55 = .ok (.getfield 10, 3) := by decide +kernel
theorem dHart_carryOutNext_58 : decode cHart_carryOutNext 58 = .ok (.aload_n 0, 1) := by decide +kernel
theorem dHart_carryOutNext_59 : decode cHart_carryOutNext 59 = .ok (.getfield 60, 3) := by decide +kernel
theorem dHart_carryOutNext_62 : decode cHart_carryOutNext 62 = .ok (.iconst 2, 1) := by decide +kernel
theorem dHart_carryOutNext_63 : decode cHart_carryOutNext 63 = .ok (.iadd, 1) := by decide +kernel
theorem dHart_carryOutNext_64 : decode cHart_carryOutNext 64 = .ok (.invokevirtual 88, 3) := by decide +kernel
theorem dHart_carryOutNext_67 : decode cHart_carryOutNext 67 = .ok (.ifCond .ne 13, 3) := by decide +kernel
theorem dHart_carryOutNext_70 : decode cHart_carryOutNext 70 = .ok (.aload_n 0, 1) := by decide +kernel
theorem dHart_carryOutNext_71 : decode cHart_carryOutNext 71 = .ok (.iconst 1, 1) := by decide +kernel
theorem dHart_carryOutNext_72 : decode cHart_carryOutNext 72 = .ok (.aload_n 0, 1) := by decide +kernel
theorem dHart_carryOutNext_73 : decode cHart_carryOutNext 73 = .ok (.getfield 60, 3) := by decide +kernel
theorem dHart_carryOutNext_76 : decode cHart_carryOutNext 76 = .ok (.invokevirtual 91, 3) := by decide +kernel
theorem dHart_carryOutNext_79 : decode cHart_carryOutNext 79 = .ok (.ireturn, 1) := by decide +kernel
theorem dHart_carryOutNext_80 : decode cHart_carryOutNext 80 = .ok (.aload_n 0, 1) := by decide +kernel
theorem dHart_carryOutNext_81 : decode cHart_carryOutNext 81 = .ok (.aload_n 0, 1) := by decide +kernel
theorem dHart_carryOutNext_82 : decode cHart_carryOutNext 82 = .ok (.getfield 60, 3) := by decide +kernel
theorem dHart_carryOutNext_85 : decode cHart_carryOutNext 85 = .ok (.iload_n 2, 1) := by decide +kernel
theorem dHart_carryOutNext_86 : decode cHart_carryOutNext 86 = .ok (.ifCond .eq 7, 3) := by decide +kernel
theorem dHart_carryOutNext_89 : decode cHart_carryOutNext 89 = .ok (.iconst 4, 1) := by decide +kernel
theorem dHart_carryOutNext_90 : decode cHart_carryOutNext 90 = .ok (.goto 4, 3) := by decide +kernel
theorem dHart_carryOutNext_93 : decode cHart_carryOutNext 93 = .ok (.iconst 2, 1) := by decide +kernel
theorem dHart_carryOutNext_94 : decode cHart_carryOutNext 94 = .ok (.iadd, 1) := by decide +kernel
theorem dHart_carryOutNext_95 : decode cHart_carryOutNext 95 = .ok (.putfield 94, 3) := by decide +kernel
theorem dHart_carryOutNext_98 : decode cHart_carryOutNext 98 = .ok (.iload_n 2, 1) := by decide +kernel
theorem dHart_carryOutNext_99 : decode cHart_carryOutNext 99 = .ok (.ifCond .eq 15, 3) := by decide +kernel
theorem dHart_carryOutNext_102 : decode cHart_carryOutNext 102 = .ok (.aload_n 0, 1) := by decide +kernel
theorem dHart_carryOutNext_103 : decode cHart_carryOutNext 103 = .ok (.aload_n 0, 1) := by decide +kernel
theorem dHart_carryOutNext_104 : decode cHart_carryOutNext 104 = .ok (.iload_n 1, 1) := by decide +kernel
theorem dHart_carryOutNext_105 : decode cHart_carryOutNext 105 = .ok (.invokevirtual 97, 3) := by decide +kernel
theorem dHart_carryOutNext_108 : decode cHart_carryOutNext 108 = .ok (.invokevirtual 101, 3) := by decide +kernel
theorem dHart_carryOutNext_111 : decode cHart_carryOutNext 111 = .ok (.goto 8, 3) := by decide +kernel
theorem dHart_carryOutNext_114 : decode cHart_carryOutNext 114 = .ok (.aload_n 0, 1) := by decide +kernel
theorem dHart_carryOutNext_115 : decode cHart_carryOutNext 115 = .ok (.iload_n 1, 1) := by decide +kernel
theorem dHart_carryOutNext_116 : decode cHart_carryOutNext 116 = .ok (.invokevirtual 104, 3) := by decide +kernel
theorem dHart_carryOutNext_119 : decode cHart_carryOutNext 119 = .ok (.istore_n 3, 1) := by decide +kernel
theorem dHart_carryOutNext_120 : decode cHart_carryOutNext 120 = .ok (.iload_n 3, 1) := by decide +kernel
theorem dHart_carryOutNext_121 : decode cHart_carryOutNext 121 = .ok (.ifCond .ne 21, 3) := by decide +kernel
theorem dHart_carryOutNext_124 : decode cHart_carryOutNext 124 = .ok (.aload_n 0, 1) := by decide +kernel
theorem dHart_carryOutNext_125 : decode cHart_carryOutNext 125 = .ok (.dup, 1) := by decide +kernel
theorem dHart_carryOutNext_126 : decode cHart_carryOutNext 126 = .ok (.getfield 80, 3) := by decide +kernel
theorem dHart_carryOutNext_129 : decode cHart_carryOutNext 129 = .ok (.lconst 1, 1) := by decide +kernel
theorem dHart_carryOutNext_130 : decode cHart_carryOutNext 130 = .ok (.ladd, 1) := by decide +kernel
theorem dHart_carryOutNext_131 : decode cHart_carryOutNext 131 = .ok (.putfield 80, 3) := by decide +kernel
theorem dHart_carryOutNext_134 : decode cHart_carryOutNext 134 = .ok (.aload_n 0, 1) := by decide +kernel
theorem dHart_carryOutNext_135 : decode cHart_carryOutNext 135 = .ok (.aload_n 0, 1) := by decide +kernel
theorem dHart_carryOutNext_136 : decode cHart_carryOutNext 136 = .ok (.getfield 94, 3) := by decide +kernel
theorem dHart_carryOutNext_139 : decode cHart_carryOutNext 139 = .ok (.putfield 60, 3) := by decide +kernel
theorem dHart_carryOutNext_142 : decode cHart_carryOutNext 142 = .ok (.iload_n 3, 1) := by decide +kernel
theorem dHart_carryOutNext_143 : decode cHart_carryOutNext 143 = .ok (.ireturn, 1) := by decide +kernel
theorem dHart_longFrom_0 : decode cHart_longFrom 0 = .ok (.aload_n 0, 1) := by decide +kernel
theorem dHart_longFrom_1 : decode cHart_longFrom 1 = .ok (.getfield 10, 3) := by decide +kernel
theorem dHart_longFrom_4 : decode cHart_longFrom 4 = .ok (.iconst 5, 1) := by decide +kernel
theorem dHart_longFrom_5 : decode cHart_longFrom 5 = .ok (.aload_n 0, 1) := by decide +kernel
theorem dHart_longFrom_6 : decode cHart_longFrom 6 = .ok (.getfield 60, 3) := by decide +kernel
theorem dHart_longFrom_9 : decode cHart_longFrom 9 = .ok (.iconst 2, 1) := by decide +kernel
theorem dHart_longFrom_10 : decode cHart_longFrom 10 = .ok (.iadd, 1) := by decide +kernel
theorem dHart_longFrom_11 : decode cHart_longFrom 11 = .ok (.invokevirtual 41, 3) := by decide +kernel
theorem dHart_longFrom_14 : decode cHart_longFrom 14 = .ok (.bipush 16, 2) := by decide +kernel
theorem dHart_longFrom_16 : decode cHart_longFrom 16 = .ok (.ishl, 1) := by decide +kernel
theorem dHart_longFrom_17 : decode cHart_longFrom 17 = .ok (.iload_n 1, 1) := by decide +kernel
theorem dHart_longFrom_18 : decode cHart_longFrom 18 = .ok (.ior, 1) := by decide +kernel
theorem dHart_longFrom_19 : decode cHart_longFrom 19 = .ok (.ireturn, 1) := by decide +kernel
theorem dHart_trap_0 : decode cHart_trap 0 = .ok (.aload_n 0, 1) := by decide +kernel
theorem dHart_trap_1 : decode cHart_trap 1 = .ok (.iload_n 1, 1) := by decide +kernel
theorem dHart_trap_2 : decode cHart_trap 2 = .ok (.putfield 74, 3) := by decide +kernel
theorem dHart_trap_5 : decode cHart_trap 5 = .ok (.aload_n 0, 1) := by decide +kernel
theorem dHart_trap_6 : decode cHart_trap 6 = .ok (.iload_n 2, 1) := by decide +kernel
theorem dHart_trap_7 : decode cHart_trap 7 = .ok (.putfield 77, 3) := by decide +kernel
theorem dHart_trap_10 : decode cHart_trap 10 = .ok (.iload_n 1, 1) := by decide +kernel
theorem dHart_trap_11 : decode cHart_trap 11 = .ok (.ireturn, 1) := by decide +kernel
theorem dHart_give_0 : decode cHart_give 0 = .ok (.iload_n 1, 1) := by decide +kernel
theorem dHart_give_1 : decode cHart_give 1 = .ok (.ifCond .eq 10, 3) := by decide +kernel
theorem dHart_give_4 : decode cHart_give 4 = .ok (.aload_n 0, 1) := by decide +kernel
theorem dHart_give_5 : decode cHart_give 5 = .ok (.getfield 16, 3) := by decide +kernel
theorem dHart_give_8 : decode cHart_give 8 = .ok (.iload_n 1, 1) := by decide +kernel
theorem dHart_give_9 : decode cHart_give 9 = .ok (.iload_n 2, 1) := by decide +kernel
theorem dHart_give_10 : decode cHart_give 10 = .ok (.iastore, 1) := by decide +kernel
theorem dHart_give_11 : decode cHart_give 11 = .ok (.iconst 0, 1) := by decide +kernel
theorem dHart_give_12 : decode cHart_give 12 = .ok (.ireturn, 1) := by decide +kernel
theorem dHart_linkAndJump_0 : decode cHart_linkAndJump 0 = .ok (.aload_n 0, 1) := by decide +kernel
theorem dHart_linkAndJump_1 : decode cHart_linkAndJump 1 = .ok (.getfield 94, 3) := by decide +kernel
theorem dHart_linkAndJump_4 : decode cHart_linkAndJump 4 = .ok (.istore_n 3, 1) := by decide +kernel
theorem dHart_linkAndJump_5 : decode cHart_linkAndJump 5 = .ok (.aload_n 0, 1) := by decide +kernel
theorem dHart_linkAndJump_6 : decode cHart_linkAndJump 6 = .ok (.iload_n 2, 1) := by decide +kernel
theorem dHart_linkAndJump_7 : decode cHart_linkAndJump 7 = .ok (.bipush (-2), 2) := by decide +kernel
theorem dHart_linkAndJump_9 : decode cHart_linkAndJump 9 = .ok (.iand, 1) := by decide +kernel
theorem dHart_linkAndJump_10 : decode cHart_linkAndJump 10 = .ok (.putfield 94, 3) := by decide +kernel
theorem dHart_linkAndJump_13 : decode cHart_linkAndJump 13 = .ok (.aload_n 0, 1) := by decide +kernel
theorem dHart_linkAndJump_14 : decode cHart_linkAndJump 14 = .ok (.iload_n 1, 1) := by decide +kernel
theorem dHart_linkAndJump_15 : decode cHart_linkAndJump 15 = .ok (.iload_n 3, 1) := by decide +kernel
theorem dHart_linkAndJump_16 : decode cHart_linkAndJump 16 = .ok (.invokevirtual 57, 3) := by decide +kernel
theorem dHart_linkAndJump_19 : decode cHart_linkAndJump 19 = .ok (.ireturn, 1) := by decide +kernel
theorem dHart_jumpIf_0 : decode cHart_jumpIf 0 = .ok (.iload_n 1, 1) := by decide +kernel
theorem dHart_jumpIf_1 : decode cHart_jumpIf 1 = .ok (.ifCond .eq 12, 3) := by decide +kernel
theorem dHart_jumpIf_4 : decode cHart_jumpIf 4 = .ok (.aload_n 0, 1) := by decide +kernel
theorem dHart_jumpIf_5 : decode cHart_jumpIf 5 = .ok (.iconst 0, 1) := by decide +kernel
theorem dHart_jumpIf_6 : decode cHart_jumpIf 6 = .ok (.iload_n 2, 1) := by decide +kernel
theorem dHart_jumpIf_7 : decode cHart_jumpIf 7 = .ok (.invokevirtual 107, 3) := by decide +kernel
theorem dHart_jumpIf_10 : decode cHart_jumpIf 10 = .ok (.goto 4, 3) := by decide +kernel
theorem dHart_jumpIf_13 : decode cHart_jumpIf 13 = .ok (.iconst 0, 1) := by decide +kernel
theorem dHart_jumpIf_14 : decode cHart_jumpIf 14 = .ok (.ireturn, 1) := by decide +kernel
theorem dHart_load_0 : decode cHart_load 0 = .ok (.iload_n 1, 1) := by decide +kernel
theorem dHart_load_1 : decode cHart_load 1 = .ok (.iload_n 3, 1) := by decide +kernel
theorem dHart_load_2 : decode cHart_load 2 = .ok (.invokestatic 35, 3) := by decide +kernel
theorem dHart_load_5 : decode cHart_load 5 = .ok (.ifCond .eq 10, 3) := by decide +kernel
theorem dHart_load_8 : decode cHart_load 8 = .ok (.aload_n 0, 1) := by decide +kernel
theorem dHart_load_9 : decode cHart_load 9 = .ok (.iconst 5, 1) := by decide +kernel
theorem dHart_load_10 : decode cHart_load 10 = .ok (.iload_n 3, 1) := by decide +kernel
theorem dHart_load_11 : decode cHart_load 11 = .ok (.invokevirtual 91, 3) := by decide +kernel
theorem dHart_load_14 : decode cHart_load 14 = .ok (.ireturn, 1) := by decide +kernel
theorem dHart_load_15 : decode cHart_load 15 = .ok (.aload_n 0, 1) := by decide +kernel
theorem dHart_load_16 : decode cHart_load 16 = .ok (.getfield 10, 3) := by decide +kernel
theorem dHart_load_19 : decode cHart_load 19 = .ok (.iconst 1, 1) := by decide +kernel
theorem dHart_load_20 : decode cHart_load 20 = .ok (.iload_n 3, 1) := by decide +kernel
theorem dHart_load_21 : decode cHart_load 21 = .ok (.invokevirtual 110, 3) := by decide +kernel
theorem dHart_load_24 : decode cHart_load 24 = .ok (.ifCond .ne 11, 3) := by decide +kernel
theorem dHart_load_27 : decode cHart_load 27 = .ok (.aload_n 0, 1) := by decide +kernel
theorem dHart_load_28 : decode cHart_load 28 = .ok (.bipush 6, 2) := by decide +kernel
theorem dHart_load_30 : decode cHart_load 30 = .ok (.iload_n 3, 1) := by decide +kernel
theorem dHart_load_31 : decode cHart_load 31 = .ok (.invokevirtual 91, 3) := by decide +kernel
theorem dHart_load_34 : decode cHart_load 34 = .ok (.ireturn, 1) := by decide +kernel
theorem dHart_load_35 : decode cHart_load 35 = .ok (.aload_n 0, 1) := by decide +kernel
theorem dHart_load_36 : decode cHart_load 36 = .ok (.iload_n 2, 1) := by decide +kernel
theorem dHart_load_37 : decode cHart_load 37 = .ok (.aload_n 0, 1) := by decide +kernel
theorem dHart_load_38 : decode cHart_load 38 = .ok (.getfield 10, 3) := by decide +kernel
theorem dHart_load_41 : decode cHart_load 41 = .ok (.iload_n 1, 1) := by decide +kernel
theorem dHart_load_42 : decode cHart_load 42 = .ok (.iload_n 3, 1) := by decide +kernel
theorem dHart_load_43 : decode cHart_load 43 = .ok (.invokevirtual 41, 3) := by decide +kernel
theorem dHart_load_46 : decode cHart_load 46 = .ok (.invokevirtual 57, 3) := by decide +kernel
theorem dHart_load_49 : decode cHart_load 49 = .ok (.ireturn, 1) := by decide +kernel
theorem dHart_store_0 : decode cHart_store 0 = .ok (.iload_n 1, 1) := by decide +kernel
theorem dHart_store_1 : decode cHart_store 1 = .ok (.iload_n 2, 1) := by decide +kernel
theorem dHart_store_2 : decode cHart_store 2 = .ok (.invokestatic 35, 3) := by decide +kernel
theorem dHart_store_5 : decode cHart_store 5 = .ok (.ifCond .eq 10, 3) := by decide +kernel
theorem dHart_store_8 : decode cHart_store 8 = .ok (.aload_n 0, 1) := by decide +kernel
theorem dHart_store_9 : decode cHart_store 9 = .ok (.iconst 5, 1) := by decide +kernel
theorem dHart_store_10 : decode cHart_store 10 = .ok (.iload_n 2, 1) := by decide +kernel
theorem dHart_store_11 : decode cHart_store 11 = .ok (.invokevirtual 91, 3) := by decide +kernel
theorem dHart_store_14 : decode cHart_store 14 = .ok (.ireturn, 1) := by decide +kernel
theorem dHart_store_15 : decode cHart_store 15 = .ok (.aload_n 0, 1) := by decide +kernel
theorem dHart_store_16 : decode cHart_store 16 = .ok (.getfield 10, 3) := by decide +kernel
theorem dHart_store_19 : decode cHart_store 19 = .ok (.iconst 2, 1) := by decide +kernel
theorem dHart_store_20 : decode cHart_store 20 = .ok (.iload_n 2, 1) := by decide +kernel
theorem dHart_store_21 : decode cHart_store 21 = .ok (.invokevirtual 110, 3) := by decide +kernel
theorem dHart_store_24 : decode cHart_store 24 = .ok (.ifCond .ne 11, 3) := by decide +kernel
theorem dHart_store_27 : decode cHart_store 27 = .ok (.aload_n 0, 1) := by decide +kernel
theorem dHart_store_28 : decode cHart_store 28 = .ok (.bipush 7, 2) := by decide +kernel
theorem dHart_store_30 : decode cHart_store 30 = .ok (.iload_n 2, 1) := by decide +kernel
theorem dHart_store_31 : decode cHart_store 31 = .ok (.invokevirtual 91, 3) := by decide +kernel
theorem dHart_store_34 : decode cHart_store 34 = .ok (.ireturn, 1) := by decide +kernel
theorem dHart_store_35 : decode cHart_store 35 = .ok (.aload_n 0, 1) := by decide +kernel
theorem dHart_store_36 : decode cHart_store 36 = .ok (.getfield 10, 3) := by decide +kernel
theorem dHart_store_39 : decode cHart_store 39 = .ok (.iload_n 1, 1) := by decide +kernel
theorem dHart_store_40 : decode cHart_store 40 = .ok (.iload_n 2, 1) := by decide +kernel
theorem dHart_store_41 : decode cHart_store 41 = .ok (.iload_n 3, 1) := by decide +kernel
theorem dHart_store_42 : decode cHart_store 42 = .ok (.invokevirtual 31, 3) := by decide +kernel
theorem dHart_store_45 : decode cHart_store 45 = .ok (.iconst 0, 1) := by decide +kernel
theorem dHart_store_46 : decode cHart_store 46 = .ok (.ireturn, 1) := by decide +kernel
theorem dHart_carryOutLong_0 : decode cHart_carryOutLong 0 = .ok (.iload_n 1, 1) := by decide +kernel
theorem dHart_carryOutLong_1 : decode cHart_carryOutLong 1 = .ok (.invokestatic 113, 3) := by decide +kernel
theorem dHart_carryOutLong_4 : decode cHart_carryOutLong 4 = .ok (.istore_n 2, 1) := by decide +kernel
theorem dHart_carryOutLong_5 : decode cHart_carryOutLong 5 = .ok (.iload_n 1, 1) := by decide +kernel
theorem dHart_carryOutLong_6 : decode cHart_carryOutLong 6 = .ok (.bipush 127, 2) := by decide +kernel
theorem dHart_carryOutLong_8 : decode cHart_carryOutLong 8 = .ok (.iand, 1) := by decide +kernel
theorem dHart_carryOutLong_9 : decode cHart_carryOutLong 9 = .ok (.lookupswitch 214 #[(3, 159), (15, 189), (19, 171), (23, 117), (35, 165), (47, 183), (51, 177), (55, 107), (99, 153), (103, 147), (111, 132), (115, 208)], 107) := by decide +kernel
theorem dHart_carryOutLong_116 : decode cHart_carryOutLong 116 = .ok (.aload_n 0, 1) := by decide +kernel
theorem dHart_carryOutLong_117 : decode cHart_carryOutLong 117 = .ok (.iload_n 2, 1) := by decide +kernel
theorem dHart_carryOutLong_118 : decode cHart_carryOutLong 118 = .ok (.iload_n 1, 1) := by decide +kernel
theorem dHart_carryOutLong_119 : decode cHart_carryOutLong 119 = .ok (.invokestatic 118, 3) := by decide +kernel
theorem dHart_carryOutLong_122 : decode cHart_carryOutLong 122 = .ok (.invokevirtual 57, 3) := by decide +kernel
theorem dHart_carryOutLong_125 : decode cHart_carryOutLong 125 = .ok (.ireturn, 1) := by decide +kernel
theorem dHart_carryOutLong_126 : decode cHart_carryOutLong 126 = .ok (.aload_n 0, 1) := by decide +kernel
theorem dHart_carryOutLong_127 : decode cHart_carryOutLong 127 = .ok (.iload_n 2, 1) := by decide +kernel
theorem dHart_carryOutLong_128 : decode cHart_carryOutLong 128 = .ok (.aload_n 0, 1) := by decide +kernel
theorem dHart_carryOutLong_129 : decode cHart_carryOutLong 129 = .ok (.getfield 60, 3) := by decide +kernel
theorem dHart_carryOutLong_132 : decode cHart_carryOutLong 132 = .ok (.iload_n 1, 1) := by decide +kernel
theorem dHart_carryOutLong_133 : decode cHart_carryOutLong 133 = .ok (.invokestatic 118, 3) := by decide +kernel
theorem dHart_carryOutLong_136 : decode cHart_carryOutLong 136 = .ok (.iadd, 1) := by decide +kernel
theorem dHart_carryOutLong_137 : decode cHart_carryOutLong 137 = .ok (.invokevirtual 57, 3) := by decide +kernel
theorem dHart_carryOutLong_140 : decode cHart_carryOutLong 140 = .ok (.ireturn, 1) := by decide +kernel
theorem dHart_carryOutLong_141 : decode cHart_carryOutLong 141 = .ok (.aload_n 0, 1) := by decide +kernel
theorem dHart_carryOutLong_142 : decode cHart_carryOutLong 142 = .ok (.iload_n 2, 1) := by decide +kernel
theorem dHart_carryOutLong_143 : decode cHart_carryOutLong 143 = .ok (.aload_n 0, 1) := by decide +kernel
theorem dHart_carryOutLong_144 : decode cHart_carryOutLong 144 = .ok (.getfield 60, 3) := by decide +kernel
theorem dHart_carryOutLong_147 : decode cHart_carryOutLong 147 = .ok (.iload_n 1, 1) := by decide +kernel
theorem dHart_carryOutLong_148 : decode cHart_carryOutLong 148 = .ok (.invokestatic 121, 3) := by decide +kernel
theorem dHart_carryOutLong_151 : decode cHart_carryOutLong 151 = .ok (.iadd, 1) := by decide +kernel
theorem dHart_carryOutLong_152 : decode cHart_carryOutLong 152 = .ok (.invokevirtual 107, 3) := by decide +kernel
theorem dHart_carryOutLong_155 : decode cHart_carryOutLong 155 = .ok (.ireturn, 1) := by decide +kernel
theorem dHart_carryOutLong_156 : decode cHart_carryOutLong 156 = .ok (.aload_n 0, 1) := by decide +kernel
theorem dHart_carryOutLong_157 : decode cHart_carryOutLong 157 = .ok (.iload_n 1, 1) := by decide +kernel
theorem dHart_carryOutLong_158 : decode cHart_carryOutLong 158 = .ok (.invokevirtual 124, 3) := by decide +kernel
theorem dHart_carryOutLong_161 : decode cHart_carryOutLong 161 = .ok (.ireturn, 1) := by decide +kernel
theorem dHart_carryOutLong_162 : decode cHart_carryOutLong 162 = .ok (.aload_n 0, 1) := by decide +kernel
theorem dHart_carryOutLong_163 : decode cHart_carryOutLong 163 = .ok (.iload_n 1, 1) := by decide +kernel
theorem dHart_carryOutLong_164 : decode cHart_carryOutLong 164 = .ok (.invokevirtual 127, 3) := by decide +kernel
theorem dHart_carryOutLong_167 : decode cHart_carryOutLong 167 = .ok (.ireturn, 1) := by decide +kernel
theorem dHart_carryOutLong_168 : decode cHart_carryOutLong 168 = .ok (.aload_n 0, 1) := by decide +kernel
theorem dHart_carryOutLong_169 : decode cHart_carryOutLong 169 = .ok (.iload_n 1, 1) := by decide +kernel
theorem dHart_carryOutLong_170 : decode cHart_carryOutLong 170 = .ok (.invokevirtual 130, 3) := by decide +kernel
theorem dHart_carryOutLong_173 : decode cHart_carryOutLong 173 = .ok (.ireturn, 1) := by decide +kernel
theorem dHart_carryOutLong_174 : decode cHart_carryOutLong 174 = .ok (.aload_n 0, 1) := by decide +kernel
theorem dHart_carryOutLong_175 : decode cHart_carryOutLong 175 = .ok (.iload_n 1, 1) := by decide +kernel
theorem dHart_carryOutLong_176 : decode cHart_carryOutLong 176 = .ok (.invokevirtual 133, 3) := by decide +kernel
theorem dHart_carryOutLong_179 : decode cHart_carryOutLong 179 = .ok (.ireturn, 1) := by decide +kernel
theorem dHart_carryOutLong_180 : decode cHart_carryOutLong 180 = .ok (.aload_n 0, 1) := by decide +kernel
theorem dHart_carryOutLong_181 : decode cHart_carryOutLong 181 = .ok (.iload_n 1, 1) := by decide +kernel
theorem dHart_carryOutLong_182 : decode cHart_carryOutLong 182 = .ok (.invokevirtual 136, 3) := by decide +kernel
theorem dHart_carryOutLong_185 : decode cHart_carryOutLong 185 = .ok (.ireturn, 1) := by decide +kernel
theorem dHart_carryOutLong_186 : decode cHart_carryOutLong 186 = .ok (.aload_n 0, 1) := by decide +kernel
theorem dHart_carryOutLong_187 : decode cHart_carryOutLong 187 = .ok (.iload_n 1, 1) := by decide +kernel
theorem dHart_carryOutLong_188 : decode cHart_carryOutLong 188 = .ok (.invokevirtual 139, 3) := by decide +kernel
theorem dHart_carryOutLong_191 : decode cHart_carryOutLong 191 = .ok (.ireturn, 1) := by decide +kernel
theorem dHart_carryOutLong_192 : decode cHart_carryOutLong 192 = .ok (.aload_n 0, 1) := by decide +kernel
theorem dHart_carryOutLong_193 : decode cHart_carryOutLong 193 = .ok (.iload_n 1, 1) := by decide +kernel
theorem dHart_carryOutLong_194 : decode cHart_carryOutLong 194 = .ok (.invokevirtual 142, 3) := by decide +kernel
theorem dHart_carryOutLong_197 : decode cHart_carryOutLong 197 = .ok (.ireturn, 1) := by decide +kernel
theorem dHart_carryOutLong_198 : decode cHart_carryOutLong 198 = .ok (.iload_n 1, 1) := by decide +kernel
theorem dHart_carryOutLong_199 : decode cHart_carryOutLong 199 = .ok (.invokestatic 145, 3) := by decide +kernel
theorem dHart_carryOutLong_202 : decode cHart_carryOutLong 202 = .ok (.iconst 1, 1) := by decide +kernel
theorem dHart_carryOutLong_203 : decode cHart_carryOutLong 203 = .ok (.if_icmp .gt 7, 3) := by decide +kernel
theorem dHart_carryOutLong_206 : decode cHart_carryOutLong 206 = .ok (.iconst 0, 1) := by decide +kernel
theorem dHart_carryOutLong_207 : decode cHart_carryOutLong 207 = .ok (.goto 9, 3) := by decide +kernel
theorem dHart_carryOutLong_210 : decode cHart_carryOutLong 210 = .ok (.aload_n 0, 1) := by decide +kernel
theorem dHart_carryOutLong_211 : decode cHart_carryOutLong 211 = .ok (.iconst 2, 1) := by decide +kernel
theorem dHart_carryOutLong_212 : decode cHart_carryOutLong 212 = .ok (.iload_n 1, 1) := by decide +kernel
theorem dHart_carryOutLong_213 : decode cHart_carryOutLong 213 = .ok (.invokevirtual 91, 3) := by decide +kernel
theorem dHart_carryOutLong_216 : decode cHart_carryOutLong 216 = .ok (.ireturn, 1) := by decide +kernel
theorem dHart_carryOutLong_217 : decode cHart_carryOutLong 217 = .ok (.aload_n 0, 1) := by decide +kernel
theorem dHart_carryOutLong_218 : decode cHart_carryOutLong 218 = .ok (.iload_n 1, 1) := by decide +kernel
theorem dHart_carryOutLong_219 : decode cHart_carryOutLong 219 = .ok (.invokevirtual 148, 3) := by decide +kernel
theorem dHart_carryOutLong_222 : decode cHart_carryOutLong 222 = .ok (.ireturn, 1) := by decide +kernel
theorem dHart_carryOutLong_223 : decode cHart_carryOutLong 223 = .ok (.aload_n 0, 1) := by decide +kernel
theorem dHart_carryOutLong_224 : decode cHart_carryOutLong 224 = .ok (.iconst 2, 1) := by decide +kernel
theorem dHart_carryOutLong_225 : decode cHart_carryOutLong 225 = .ok (.iload_n 1, 1) := by decide +kernel
theorem dHart_carryOutLong_226 : decode cHart_carryOutLong 226 = .ok (.invokevirtual 91, 3) := by decide +kernel
theorem dHart_carryOutLong_229 : decode cHart_carryOutLong 229 = .ok (.ireturn, 1) := by decide +kernel
