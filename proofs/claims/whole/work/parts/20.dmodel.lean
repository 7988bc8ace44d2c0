theorem dMod_init_0 : decode cMod_init 0 = .ok (.aload_n 0, 1) := by decide +kernel
theorem dMod_init_1 : decode cMod_init 1 = .ok (.invokespecial 1, 3) := by decide +kernel
theorem dMod_init_4 : decode cMod_init 4 = .ok (.aload_n 0, 1) := by decide +kernel
theorem dMod_init_5 : decode cMod_init 5 = .ok (.ldc 7, 2) := by decide +kernel
theorem dMod_init_7 : decode cMod_init 7 = .ok (.newarray .int, 2) := by decide +kernel
theorem dMod_init_9 : decode cMod_init 9 = .ok (.putfield 8, 3) := by decide +kernel
theorem dMod_init_12 : decode cMod_init 12 = .ok (.aload_n 0, 1) := by decide +kernel
theorem dMod_init_13 : decode cMod_init 13 = .ok (.bipush 64, 2) := by decide +kernel
theorem dMod_init_15 : decode cMod_init 15 = .ok (.newarray .int, 2) := by decide +kernel
theorem dMod_init_17 : decode cMod_init 17 = .ok (.putfield 14, 3) := by decide +kernel
theorem dMod_init_20 : decode cMod_init 20 = .ok (.aload_n 0, 1) := by decide +kernel
theorem dMod_init_21 : decode cMod_init 21 = .ok (.bipush 32, 2) := by decide +kernel
theorem dMod_init_23 : decode cMod_init 23 = .ok (.newarray .int, 2) := by decide +kernel
theorem dMod_init_25 : decode cMod_init 25 = .ok (.putfield 17, 3) := by decide +kernel
theorem dMod_init_28 : decode cMod_init 28 = .ok (.aload_n 0, 1) := by decide +kernel
theorem dMod_init_29 : decode cMod_init 29 = .ok (.iconst (-1), 1) := by decide +kernel
theorem dMod_init_30 : decode cMod_init 30 = .ok (.putfield 20, 3) := by decide +kernel
theorem dMod_init_33 : decode cMod_init 33 = .ok (.iconst 0, 1) := by decide +kernel
theorem dMod_init_34 : decode cMod_init 34 = .ok (.istore_n 1, 1) := by decide +kernel
theorem dMod_init_35 : decode cMod_init 35 = .ok (.iload_n 1, 1) := by decide +kernel
theorem dMod_init_36 : decode cMod_init 36 = .ok (.bipush 64, 2) := by decide +kernel
theorem dMod_init_38 : decode cMod_init 38 = .ok (.if_icmp .ge 17, 3) := by decide +kernel
theorem dMod_init_41 : decode cMod_init 41 = .ok (.aload_n 0, 1) := by decide +kernel
theorem dMod_init_42 : decode cMod_init 42 = .ok (.getfield 14, 3) := by decide +kernel
theorem dMod_init_45 : decode cMod_init 45 = .ok (.iload_n 1, 1) := by decide +kernel
theorem dMod_init_46 : decode cMod_init 46 = .ok (.bipush 7, 2) := by decide +kernel
theorem dMod_init_48 : decode cMod_init 48 = .ok (.iastore, 1) := by decide +kernel
theorem dMod_init_49 : decode cMod_init 49 = .ok (.iinc 1 1, 3) := by decide +kernel
theorem dMod_init_52 : decode cMod_init 52 = .ok (.goto (-17), 3) := by decide +kernel
theorem dMod_init_55 : decode cMod_init 55 = .ok (.return_, 1) := by decide +kernel
theorem dMod_thrown_0 : decode cMod_thrown 0 = .ok (.aload_n 0, 1) := by decide +kernel
theorem dMod_thrown_1 : decode cMod_thrown 1 = .ok (.getfield 24, 3) := by decide +kernel
theorem dMod_thrown_4 : decode cMod_thrown 4 = .ok (.ireturn, 1) := by decide +kernel
theorem dMod_in_0 : decode cMod_in 0 = .ok (.iload_n 0, 1) := by decide +kernel
theorem dMod_in_1 : decode cMod_in 1 = .ok (.iload_n 1, 1) := by decide +kernel
theorem dMod_in_2 : decode cMod_in 2 = .ok (.if_icmp .lt 12, 3) := by decide +kernel
theorem dMod_in_5 : decode cMod_in 5 = .ok (.iload_n 0, 1) := by decide +kernel
theorem dMod_in_6 : decode cMod_in 6 = .ok (.iload_n 2, 1) := by decide +kernel
theorem dMod_in_7 : decode cMod_in 7 = .ok (.if_icmp .gt 7, 3) := by decide +kernel
theorem dMod_in_10 : decode cMod_in 10 = .ok (.iconst 1, 1) := by decide +kernel
theorem dMod_in_11 : decode cMod_in 11 = .ok (.goto 4, 3) := by decide +kernel
theorem dMod_in_14 : decode cMod_in 14 = .ok (.iconst 0, 1) := by decide +kernel
theorem dMod_in_15 : decode cMod_in 15 = .ok (.ireturn, 1) := by decide +kernel
theorem dMod_write_0 : decode cMod_write 0 = .ok (.aload_n 0, 1) := by decide +kernel
theorem dMod_write_1 : decode cMod_write 1 = .ok (.getfield 8, 3) := by decide +kernel
theorem dMod_write_4 : decode cMod_write 4 = .ok (.iload_n 1, 1) := by decide +kernel
theorem dMod_write_5 : decode cMod_write 5 = .ok (.iload_n 2, 1) := by decide +kernel
theorem dMod_write_6 : decode cMod_write 6 = .ok (.sipush 255, 3) := by decide +kernel
theorem dMod_write_9 : decode cMod_write 9 = .ok (.iand, 1) := by decide +kernel
theorem dMod_write_10 : decode cMod_write 10 = .ok (.iastore, 1) := by decide +kernel
theorem dMod_write_11 : decode cMod_write 11 = .ok (.aload_n 0, 1) := by decide +kernel
theorem dMod_write_12 : decode cMod_write 12 = .ok (.getfield 20, 3) := by decide +kernel
theorem dMod_write_15 : decode cMod_write 15 = .ok (.iconst (-1), 1) := by decide +kernel
theorem dMod_write_16 : decode cMod_write 16 = .ok (.if_icmp .eq 20, 3) := by decide +kernel
theorem dMod_write_19 : decode cMod_write 19 = .ok (.iload_n 1, 1) := by decide +kernel
theorem dMod_write_20 : decode cMod_write 20 = .ok (.iconst 4, 1) := by decide +kernel
theorem dMod_write_21 : decode cMod_write 21 = .ok (.idiv, 1) := by decide +kernel
theorem dMod_write_22 : decode cMod_write 22 = .ok (.aload_n 0, 1) := by decide +kernel
theorem dMod_write_23 : decode cMod_write 23 = .ok (.getfield 20, 3) := by decide +kernel
theorem dMod_write_26 : decode cMod_write 26 = .ok (.iconst 4, 1) := by decide +kernel
theorem dMod_write_27 : decode cMod_write 27 = .ok (.idiv, 1) := by decide +kernel
theorem dMod_write_28 : decode cMod_write 28 = .ok (.if_icmp .ne 8, 3) := by decide +kernel
theorem dMod_write_31 : decode cMod_write 31 = .ok (.aload_n 0, 1) := by decide +kernel
theorem dMod_write_32 : decode cMod_write 32 = .ok (.iconst (-1), 1) := by decide +kernel
theorem dMod_write_33 : decode cMod_write 33 = .ok (.putfield 20, 3) := by decide +kernel
theorem dMod_write_36 : decode cMod_write 36 = .ok (.return_, 1) := by decide +kernel
theorem dMod_poke_0 : decode cMod_poke 0 = .ok (.aload_n 0, 1) := by decide +kernel
theorem dMod_poke_1 : decode cMod_poke 1 = .ok (.iload_n 1, 1) := by decide +kernel
theorem dMod_poke_2 : decode cMod_poke 2 = .ok (.iconst 0, 1) := by decide +kernel
theorem dMod_poke_3 : decode cMod_poke 3 = .ok (.ldc 27, 2) := by decide +kernel
theorem dMod_poke_5 : decode cMod_poke 5 = .ok (.invokestatic 28, 3) := by decide +kernel
theorem dMod_poke_8 : decode cMod_poke 8 = .ok (.ifCond .eq 7, 3) := by decide +kernel
theorem dMod_poke_11 : decode cMod_poke 11 = .ok (.iconst 0, 1) := by decide +kernel
theorem dMod_poke_12 : decode cMod_poke 12 = .ok (.goto 4, 3) := by decide +kernel
theorem dMod_poke_15 : decode cMod_poke 15 = .ok (.iconst 1, 1) := by decide +kernel
theorem dMod_poke_16 : decode cMod_poke 16 = .ok (.putfield 24, 3) := by decide +kernel
theorem dMod_poke_19 : decode cMod_poke 19 = .ok (.aload_n 0, 1) := by decide +kernel
theorem dMod_poke_20 : decode cMod_poke 20 = .ok (.getfield 24, 3) := by decide +kernel
theorem dMod_poke_23 : decode cMod_poke 23 = .ok (.ifCond .ne 9, 3) := by decide +kernel
theorem dMod_poke_26 : decode cMod_poke 26 = .ok (.aload_n 0, 1) := by decide +kernel
theorem dMod_poke_27 : decode cMod_poke 27 = .ok (.iload_n 1, 1) := by decide +kernel
theorem dMod_poke_28 : decode cMod_poke 28 = .ok (.iload_n 2, 1) := by decide +kernel
theorem dMod_poke_29 : decode cMod_poke 29 = .ok (.invokevirtual 32, 3) := by decide +kernel
theorem dMod_poke_32 : decode cMod_poke 32 = .ok (.return_, 1) := by decide +kernel
theorem dMod_plant_0 : decode cMod_plant 0 = .ok (.aload_n 0, 1) := by decide +kernel
theorem dMod_plant_1 : decode cMod_plant 1 = .ok (.iload_n 1, 1) := by decide +kernel
theorem dMod_plant_2 : decode cMod_plant 2 = .ok (.iconst 0, 1) := by decide +kernel
theorem dMod_plant_3 : decode cMod_plant 3 = .ok (.ldc 36, 2) := by decide +kernel
theorem dMod_plant_5 : decode cMod_plant 5 = .ok (.invokestatic 28, 3) := by decide +kernel
theorem dMod_plant_8 : decode cMod_plant 8 = .ok (.ifCond .eq 13, 3) := by decide +kernel
theorem dMod_plant_11 : decode cMod_plant 11 = .ok (.iload_n 1, 1) := by decide +kernel
theorem dMod_plant_12 : decode cMod_plant 12 = .ok (.iconst 4, 1) := by decide +kernel
theorem dMod_plant_13 : decode cMod_plant 13 = .ok (.irem, 1) := by decide +kernel
theorem dMod_plant_14 : decode cMod_plant 14 = .ok (.ifCond .ne 7, 3) := by decide +kernel
theorem dMod_plant_17 : decode cMod_plant 17 = .ok (.iconst 0, 1) := by decide +kernel
theorem dMod_plant_18 : decode cMod_plant 18 = .ok (.goto 4, 3) := by decide +kernel
theorem dMod_plant_21 : decode cMod_plant 21 = .ok (.iconst 1, 1) := by decide +kernel
theorem dMod_plant_22 : decode cMod_plant 22 = .ok (.putfield 24, 3) := by decide +kernel
theorem dMod_plant_25 : decode cMod_plant 25 = .ok (.iconst 0, 1) := by decide +kernel
theorem dMod_plant_26 : decode cMod_plant 26 = .ok (.istore_n 3, 1) := by decide +kernel
theorem dMod_plant_27 : decode cMod_plant 27 = .ok (.iload_n 3, 1) := by decide +kernel
theorem dMod_plant_28 : decode cMod_plant 28 = .ok (.iconst 4, 1) := by decide +kernel
theorem dMod_plant_29 : decode cMod_plant 29 = .ok (.if_icmp .ge 29, 3) := by decide +kernel
theorem dMod_plant_32 : decode cMod_plant 32 = .ok (.aload_n 0, 1) := by decide +kernel
theorem dMod_plant_33 : decode cMod_plant 33 = .ok (.getfield 24, 3) := by decide +kernel
theorem dMod_plant_36 : decode cMod_plant 36 = .ok (.ifCond .ne 22, 3) := by decide +kernel
theorem dMod_plant_39 : decode cMod_plant 39 = .ok (.aload_n 0, 1) := by decide +kernel
theorem dMod_plant_40 : decode cMod_plant 40 = .ok (.iload_n 1, 1) := by decide +kernel
theorem dMod_plant_41 : decode cMod_plant 41 = .ok (.iload_n 3, 1) := by decide +kernel
theorem dMod_plant_42 : decode cMod_plant 42 = .ok (.iadd, 1) := by decide +kernel
theorem dMod_plant_43 : decode cMod_plant 43 = .ok (.iload_n 2, 1) := by decide +kernel
theorem dMod_plant_44 : decode cMod_plant 44 = .ok (.bipush 8, 2) := by decide +kernel
theorem dMod_plant_46 : decode cMod_plant 46 = .ok (.iload_n 3, 1) := by decide +kernel
theorem dMod_plant_47 : decode cMod_plant 47 = .ok (.imul, 1) := by decide +kernel
theorem dMod_plant_48 : decode cMod_plant 48 = .ok (.ishr, 1) := by decide +kernel
theorem dMod_plant_49 : decode cMod_plant 49 = .ok (.invokevirtual 32, 3) := by decide +kernel
theorem dMod_plant_52 : decode cMod_plant 52 = .ok (.iinc 3 1, 3) := by decide +kernel
theorem dMod_plant_55 : decode cMod_plant 55 = .ok (.goto (-28), 3) := by decide +kernel
theorem dMod_plant_58 : decode cMod_plant 58 = .ok (.return_, 1) := by decide +kernel
theorem dMod_peek_0 : decode cMod_peek 0 = .ok (.aload_n 0, 1) := by decide +kernel
theorem dMod_peek_1 : decode cMod_peek 1 = .ok (.iload_n 1, 1) := by decide +kernel
theorem dMod_peek_2 : decode cMod_peek 2 = .ok (.iconst 0, 1) := by decide +kernel
theorem dMod_peek_3 : decode cMod_peek 3 = .ok (.ldc 27, 2) := by decide +kernel
theorem dMod_peek_5 : decode cMod_peek 5 = .ok (.invokestatic 28, 3) := by decide +kernel
theorem dMod_peek_8 : decode cMod_peek 8 = .ok (.ifCond .eq 7, 3) := by decide +kernel
theorem dMod_peek_11 : decode cMod_peek 11 = .ok (.iconst 0, 1) := by decide +kernel
theorem dMod_peek_12 : decode cMod_peek 12 = .ok (.goto 4, 3) := by decide +kernel
theorem dMod_peek_15 : decode cMod_peek 15 = .ok (.iconst 1, 1) := by decide +kernel
theorem dMod_peek_16 : decode cMod_peek 16 = .ok (.putfield 24, 3) := by decide +kernel
theorem dMod_peek_19 : decode cMod_peek 19 = .ok (.aload_n 0, 1) := by decide +kernel
theorem dMod_peek_20 : decode cMod_peek 20 = .ok (.getfield 24, 3) := by decide +kernel
theorem dMod_peek_23 : decode cMod_peek 23 = .ok (.ifCond .le 7, 3) := by decide +kernel
theorem dMod_peek_26 : decode cMod_peek 26 = .ok (.iconst 0, 1) := by decide +kernel
theorem dMod_peek_27 : decode cMod_peek 27 = .ok (.goto 9, 3) := by decide +kernel
theorem dMod_peek_30 : decode cMod_peek 30 = .ok (.aload_n 0, 1) := by decide +kernel
theorem dMod_peek_31 : decode cMod_peek 31 = .ok (.getfield 8, 3) := by decide +kernel
theorem dMod_peek_34 : decode cMod_peek 34 = .ok (.iload_n 1, 1) := by decide +kernel
theorem dMod_peek_35 : decode cMod_peek 35 = .ok (.iaload, 1) := by decide +kernel
theorem dMod_peek_36 : decode cMod_peek 36 = .ok (.ireturn, 1) := by decide +kernel
theorem dMod_rights_0 : decode cMod_rights 0 = .ok (.aload_n 0, 1) := by decide +kernel
theorem dMod_rights_1 : decode cMod_rights 1 = .ok (.iload_n 1, 1) := by decide +kernel
theorem dMod_rights_2 : decode cMod_rights 2 = .ok (.iconst 0, 1) := by decide +kernel
theorem dMod_rights_3 : decode cMod_rights 3 = .ok (.bipush 63, 2) := by decide +kernel
theorem dMod_rights_5 : decode cMod_rights 5 = .ok (.invokestatic 28, 3) := by decide +kernel
theorem dMod_rights_8 : decode cMod_rights 8 = .ok (.ifCond .eq 17, 3) := by decide +kernel
theorem dMod_rights_11 : decode cMod_rights 11 = .ok (.iload_n 2, 1) := by decide +kernel
theorem dMod_rights_12 : decode cMod_rights 12 = .ok (.iconst 0, 1) := by decide +kernel
theorem dMod_rights_13 : decode cMod_rights 13 = .ok (.bipush 7, 2) := by decide +kernel
theorem dMod_rights_15 : decode cMod_rights 15 = .ok (.invokestatic 28, 3) := by decide +kernel
theorem dMod_rights_18 : decode cMod_rights 18 = .ok (.ifCond .eq 7, 3) := by decide +kernel
theorem dMod_rights_21 : decode cMod_rights 21 = .ok (.iconst 0, 1) := by decide +kernel
theorem dMod_rights_22 : decode cMod_rights 22 = .ok (.goto 4, 3) := by decide +kernel
theorem dMod_rights_25 : decode cMod_rights 25 = .ok (.iconst 1, 1) := by decide +kernel
theorem dMod_rights_26 : decode cMod_rights 26 = .ok (.putfield 24, 3) := by decide +kernel
theorem dMod_rights_29 : decode cMod_rights 29 = .ok (.aload_n 0, 1) := by decide +kernel
theorem dMod_rights_30 : decode cMod_rights 30 = .ok (.getfield 24, 3) := by decide +kernel
theorem dMod_rights_33 : decode cMod_rights 33 = .ok (.ifCond .le 5, 3) := by decide +kernel
theorem dMod_rights_36 : decode cMod_rights 36 = .ok (.iconst 0, 1) := by decide +kernel
theorem dMod_rights_37 : decode cMod_rights 37 = .ok (.ireturn, 1) := by decide +kernel
theorem dMod_rights_38 : decode cMod_rights 38 = .ok (.aload_n 0, 1) := by decide +kernel
theorem dMod_rights_39 : decode cMod_rights 39 = .ok (.getfield 14, 3) := by decide +kernel
theorem dMod_rights_42 : decode cMod_rights 42 = .ok (.iload_n 1, 1) := by decide +kernel
theorem dMod_rights_43 : decode cMod_rights 43 = .ok (.iaload, 1) := by decide +kernel
theorem dMod_rights_44 : decode cMod_rights 44 = .ok (.istore_n 3, 1) := by decide +kernel
theorem dMod_rights_45 : decode cMod_rights 45 = .ok (.aload_n 0, 1) := by decide +kernel
theorem dMod_rights_46 : decode cMod_rights 46 = .ok (.getfield 14, 3) := by decide +kernel
theorem dMod_rights_49 : decode cMod_rights 49 = .ok (.iload_n 1, 1) := by decide +kernel
theorem dMod_rights_50 : decode cMod_rights 50 = .ok (.iload_n 2, 1) := by decide +kernel
theorem dMod_rights_51 : decode cMod_rights 51 = .ok (.iastore, 1) := by decide +kernel
theorem dMod_rights_52 : decode cMod_rights 52 = .ok (.iload_n 3, 1) := by decide +kernel
theorem dMod_rights_53 : decode cMod_rights 53 = .ok (.ireturn, 1) := by decide +kernel
theorem dMod_set_0 : decode cMod_set 0 = .ok (.aload_n 0, 1) := by decide +kernel
theorem dMod_set_1 : decode cMod_set 1 = .ok (.iload_n 1, 1) := by decide +kernel
theorem dMod_set_2 : decode cMod_set 2 = .ok (.iconst 0, 1) := by decide +kernel
theorem dMod_set_3 : decode cMod_set 3 = .ok (.bipush 31, 2) := by decide +kernel
theorem dMod_set_5 : decode cMod_set 5 = .ok (.invokestatic 28, 3) := by decide +kernel
theorem dMod_set_8 : decode cMod_set 8 = .ok (.ifCond .eq 7, 3) := by decide +kernel
theorem dMod_set_11 : decode cMod_set 11 = .ok (.iconst 0, 1) := by decide +kernel
theorem dMod_set_12 : decode cMod_set 12 = .ok (.goto 4, 3) := by decide +kernel
theorem dMod_set_15 : decode cMod_set 15 = .ok (.iconst 1, 1) := by decide +kernel
theorem dMod_set_16 : decode cMod_set 16 = .ok (.putfield 24, 3) := by decide +kernel
theorem dMod_set_19 : decode cMod_set 19 = .ok (.aload_n 0, 1) := by decide +kernel
theorem dMod_set_20 : decode cMod_set 20 = .ok (.getfield 24, 3) := by decide +kernel
theorem dMod_set_23 : decode cMod_set 23 = .ok (.ifCond .gt 7, 3) := by decide +kernel
theorem dMod_set_26 : decode cMod_set 26 = .ok (.iload_n 1, 1) := by decide +kernel
theorem dMod_set_27 : decode cMod_set 27 = .ok (.ifCond .ne 5, 3) := by decide +kernel
theorem dMod_set_30 : decode cMod_set 30 = .ok (.iconst 0, 1) := by decide +kernel
theorem dMod_set_31 : decode cMod_set 31 = .ok (.ireturn, 1) := by decide +kernel
theorem dMod_set_32 : decode cMod_set 32 = .ok (.aload_n 0, 1) := by decide +kernel
theorem dMod_set_33 : decode cMod_set 33 = .ok (.getfield 17, 3) := by decide +kernel
theorem dMod_set_36 : decode cMod_set 36 = .ok (.iload_n 1, 1) := by decide +kernel
theorem dMod_set_37 : decode cMod_set 37 = .ok (.iload_n 2, 1) := by decide +kernel
theorem dMod_set_38 : decode cMod_set 38 = .ok (.iastore, 1) := by decide +kernel
theorem dMod_set_39 : decode cMod_set 39 = .ok (.iconst 1, 1) := by decide +kernel
theorem dMod_set_40 : decode cMod_set 40 = .ok (.ireturn, 1) := by decide +kernel
theorem dMod_register_0 : decode cMod_register 0 = .ok (.aload_n 0, 1) := by decide +kernel
theorem dMod_register_1 : decode cMod_register 1 = .ok (.iload_n 1, 1) := by decide +kernel
theorem dMod_register_2 : decode cMod_register 2 = .ok (.iconst 0, 1) := by decide +kernel
theorem dMod_register_3 : decode cMod_register 3 = .ok (.bipush 31, 2) := by decide +kernel
theorem dMod_register_5 : decode cMod_register 5 = .ok (.invokestatic 28, 3) := by decide +kernel
theorem dMod_register_8 : decode cMod_register 8 = .ok (.ifCond .eq 7, 3) := by decide +kernel
theorem dMod_register_11 : decode cMod_register 11 = .ok (.iconst 0, 1) := by decide +kernel
theorem dMod_register_12 : decode cMod_register 12 = .ok (.goto 4, 3) := by decide +kernel
theorem dMod_register_15 : decode cMod_register 15 = .ok (.iconst 1, 1) := by decide +kernel
theorem dMod_register_16 : decode cMod_register 16 = .ok (.putfield 24, 3) := by decide +kernel
theorem dMod_register_19 : decode cMod_register 19 = .ok (.aload_n 0, 1) := by decide +kernel
theorem dMod_register_20 : decode cMod_register 20 = .ok (.getfield 24, 3) := by decide +kernel
theorem dMod_register_23 : decode cMod_register 23 = .ok (.ifCond .le 7, 3) := by decide +kernel
theorem dMod_register_26 : decode cMod_register 26 = .ok (.iconst 0, 1) := by decide +kernel
theorem dMod_register_27 : decode cMod_register 27 = .ok (.goto 9, 3) := by decide +kernel
theorem dMod_register_30 : decode cMod_register 30 = .ok (.aload_n 0, 1) := by decide +kernel
theorem dMod_register_31 : decode cMod_register 31 = .ok (.getfield 17, 3) := by decide +kernel
theorem dMod_register_34 : decode cMod_register 34 = .ok (.iload_n 1, 1) := by decide +kernel
theorem dMod_register_35 : decode cMod_register 35 = .ok (.iaload, 1) := by decide +kernel
theorem dMod_register_36 : decode cMod_register 36 = .ok (.ireturn, 1) := by decide +kernel
theorem dMod_jump_0 : decode cMod_jump 0 = .ok (.aload_n 0, 1) := by decide +kernel
theorem dMod_jump_1 : decode cMod_jump 1 = .ok (.iconst 0, 1) := by decide +kernel
theorem dMod_jump_2 : decode cMod_jump 2 = .ok (.putfield 24, 3) := by decide +kernel
theorem dMod_jump_5 : decode cMod_jump 5 = .ok (.aload_n 0, 1) := by decide +kernel
theorem dMod_jump_6 : decode cMod_jump 6 = .ok (.iload_n 1, 1) := by decide +kernel
theorem dMod_jump_7 : decode cMod_jump 7 = .ok (.putfield 37, 3) := by decide +kernel
theorem dMod_jump_10 : decode cMod_jump 10 = .ok (.return_, 1) := by decide +kernel
theorem dMod_clock_0 : decode cMod_clock 0 = .ok (.aload_n 0, 1) := by decide +kernel
theorem dMod_clock_1 : decode cMod_clock 1 = .ok (.iconst 0, 1) := by decide +kernel
theorem dMod_clock_2 : decode cMod_clock 2 = .ok (.putfield 24, 3) := by decide +kernel
theorem dMod_clock_5 : decode cMod_clock 5 = .ok (.aload_n 0, 1) := by decide +kernel
theorem dMod_clock_6 : decode cMod_clock 6 = .ok (.lload_n 1, 1) := by decide +kernel
theorem dMod_clock_7 : decode cMod_clock 7 = .ok (.putfield 40, 3) := by decide +kernel
theorem dMod_clock_10 : decode cMod_clock 10 = .ok (.return_, 1) := by decide +kernel
theorem dMod_part_0 : decode cMod_part 0 = .ok (.iload_n 0, 1) := by decide +kernel
theorem dMod_part_1 : decode cMod_part 1 = .ok (.iload_n 1, 1) := by decide +kernel
theorem dMod_part_2 : decode cMod_part 2 = .ok (.iushr, 1) := by decide +kernel
theorem dMod_part_3 : decode cMod_part 3 = .ok (.iconst 1, 1) := by decide +kernel
theorem dMod_part_4 : decode cMod_part 4 = .ok (.iload_n 2, 1) := by decide +kernel
theorem dMod_part_5 : decode cMod_part 5 = .ok (.ishl, 1) := by decide +kernel
theorem dMod_part_6 : decode cMod_part 6 = .ok (.iconst 1, 1) := by decide +kernel
theorem dMod_part_7 : decode cMod_part 7 = .ok (.isub, 1) := by decide +kernel
theorem dMod_part_8 : decode cMod_part 8 = .ok (.iand, 1) := by decide +kernel
theorem dMod_part_9 : decode cMod_part 9 = .ok (.ireturn, 1) := by decide +kernel
theorem dMod_bit_0 : decode cMod_bit 0 = .ok (.iload_n 0, 1) := by decide +kernel
theorem dMod_bit_1 : decode cMod_bit 1 = .ok (.iload_n 1, 1) := by decide +kernel
theorem dMod_bit_2 : decode cMod_bit 2 = .ok (.iload_n 2, 1) := by decide +kernel
theorem dMod_bit_3 : decode cMod_bit 3 = .ok (.invokestatic 44, 3) := by decide +kernel
theorem dMod_bit_6 : decode cMod_bit 6 = .ok (.iload_n 3, 1) := by decide +kernel
theorem dMod_bit_7 : decode cMod_bit 7 = .ok (.ishl, 1) := by decide +kernel
theorem dMod_bit_8 : decode cMod_bit 8 = .ok (.ireturn, 1) := by decide +kernel
theorem dMod_signed_0 : decode cMod_signed 0 = .ok (.iload_n 0, 1) := by decide +kernel
theorem dMod_signed_1 : decode cMod_signed 1 = .ok (.bipush 32, 2) := by decide +kernel
theorem dMod_signed_3 : decode cMod_signed 3 = .ok (.iload_n 1, 1) := by decide +kernel
theorem dMod_signed_4 : decode cMod_signed 4 = .ok (.isub, 1) := by decide +kernel
theorem dMod_signed_5 : decode cMod_signed 5 = .ok (.ishl, 1) := by decide +kernel
theorem dMod_signed_6 : decode cMod_signed 6 = .ok (.bipush 32, 2) := by decide +kernel
theorem dMod_signed_8 : decode cMod_signed 8 = .ok (.iload_n 1, 1) := by decide +kernel
theorem dMod_signed_9 : decode cMod_signed 9 = .ok (.isub, 1) := by decide +kernel
theorem dMod_signed_10 : decode cMod_signed 10 = .ok (.ishr, 1) := by decide +kernel
theorem dMod_signed_11 : decode cMod_signed 11 = .ok (.ireturn, 1) := by decide +kernel
theorem dMod_immediate_0 : decode cMod_immediate 0 = .ok (.iload_n 0, 1) := by decide +kernel
theorem dMod_immediate_1 : decode cMod_immediate 1 = .ok (.iload_n 2, 1) := by decide +kernel
theorem dMod_immediate_2 : decode cMod_immediate 2 = .ok (.bipush 7, 2) := by decide +kernel
theorem dMod_immediate_4 : decode cMod_immediate 4 = .ok (.ishl, 1) := by decide +kernel
theorem dMod_immediate_5 : decode cMod_immediate 5 = .ok (.ior, 1) := by decide +kernel
theorem dMod_immediate_6 : decode cMod_immediate 6 = .ok (.iload_n 1, 1) := by decide +kernel
theorem dMod_immediate_7 : decode cMod_immediate 7 = .ok (.bipush 12, 2) := by decide +kernel
theorem dMod_immediate_9 : decode cMod_immediate 9 = .ok (.ishl, 1) := by decide +kernel
theorem dMod_immediate_10 : decode cMod_immediate 10 = .ok (.ior, 1) := by decide +kernel
theorem dMod_immediate_11 : decode cMod_immediate 11 = .ok (.iload_n 3, 1) := by decide +kernel
theorem dMod_immediate_12 : decode cMod_immediate 12 = .ok (.bipush 15, 2) := by decide +kernel
theorem dMod_immediate_14 : decode cMod_immediate 14 = .ok (.ishl, 1) := by decide +kernel
theorem dMod_immediate_15 : decode cMod_immediate 15 = .ok (.ior, 1) := by decide +kernel
theorem dMod_immediate_16 : decode cMod_immediate 16 = .ok (.iload 4, 2) := by decide +kernel
theorem dMod_immediate_18 : decode cMod_immediate 18 = .ok (.bipush 20, 2) := by decide +kernel
theorem dMod_immediate_20 : decode cMod_immediate 20 = .ok (.ishl, 1) := by decide +kernel
theorem dMod_immediate_21 : decode cMod_immediate 21 = .ok (.ior, 1) := by decide +kernel
theorem dMod_immediate_22 : decode cMod_immediate 22 = .ok (.ireturn, 1) := by decide +kernel
theorem dMod_registers_0 : decode cMod_registers 0 = .ok (.bipush 51, 2) := by decide +kernel
theorem dMod_registers_2 : decode cMod_registers 2 = .ok (.iload_n 2, 1) := by decide +kernel
theorem dMod_registers_3 : decode cMod_registers 3 = .ok (.bipush 7, 2) := by decide +kernel
theorem dMod_registers_5 : decode cMod_registers 5 = .ok (.ishl, 1) := by decide +kernel
theorem dMod_registers_6 : decode cMod_registers 6 = .ok (.ior, 1) := by decide +kernel
theorem dMod_registers_7 : decode cMod_registers 7 = .ok (.iload_n 0, 1) := by decide +kernel
theorem dMod_registers_8 : decode cMod_registers 8 = .ok (.bipush 12, 2) := by decide +kernel
theorem dMod_registers_10 : decode cMod_registers 10 = .ok (.ishl, 1) := by decide +kernel
theorem dMod_registers_11 : decode cMod_registers 11 = .ok (.ior, 1) := by decide +kernel
theorem dMod_registers_12 : decode cMod_registers 12 = .ok (.iload_n 3, 1) := by decide +kernel
theorem dMod_registers_13 : decode cMod_registers 13 = .ok (.bipush 15, 2) := by decide +kernel
theorem dMod_registers_15 : decode cMod_registers 15 = .ok (.ishl, 1) := by decide +kernel
theorem dMod_registers_16 : decode cMod_registers 16 = .ok (.ior, 1) := by decide +kernel
theorem dMod_registers_17 : decode cMod_registers 17 = .ok (.iload 4, 2) := by decide +kernel
theorem dMod_registers_19 : decode cMod_registers 19 = .ok (.bipush 20, 2) := by decide +kernel
theorem dMod_registers_21 : decode cMod_registers 21 = .ok (.ishl, 1) := by decide +kernel
theorem dMod_registers_22 : decode cMod_registers 22 = .ok (.ior, 1) := by decide +kernel
theorem dMod_registers_23 : decode cMod_registers 23 = .ok (.iload_n 1, 1) := by decide +kernel
theorem dMod_registers_24 : decode cMod_registers 24 = .ok (.bipush 25, 2) := by decide +kernel
theorem dMod_registers_26 : decode cMod_registers 26 = .ok (.ishl, 1) := by decide +kernel
theorem dMod_registers_27 : decode cMod_registers 27 = .ok (.ior, 1) := by decide +kernel
theorem dMod_registers_28 : decode cMod_registers 28 = .ok (.ireturn, 1) := by decide +kernel
theorem dMod_store_0 : decode cMod_store 0 = .ok (.bipush 35, 2) := by decide +kernel
theorem dMod_store_2 : decode cMod_store 2 = .ok (.iload_n 2, 1) := by decide +kernel
theorem dMod_store_3 : decode cMod_store 3 = .ok (.iconst 0, 1) := by decide +kernel
theorem dMod_store_4 : decode cMod_store 4 = .ok (.iconst 5, 1) := by decide +kernel
theorem dMod_store_5 : decode cMod_store 5 = .ok (.bipush 7, 2) := by decide +kernel
theorem dMod_store_7 : decode cMod_store 7 = .ok (.invokestatic 48, 3) := by decide +kernel
theorem dMod_store_10 : decode cMod_store 10 = .ok (.ior, 1) := by decide +kernel
theorem dMod_store_11 : decode cMod_store 11 = .ok (.sipush 8192, 3) := by decide +kernel
theorem dMod_store_14 : decode cMod_store 14 = .ok (.ior, 1) := by decide +kernel
theorem dMod_store_15 : decode cMod_store 15 = .ok (.iload_n 0, 1) := by decide +kernel
theorem dMod_store_16 : decode cMod_store 16 = .ok (.bipush 15, 2) := by decide +kernel
theorem dMod_store_18 : decode cMod_store 18 = .ok (.ishl, 1) := by decide +kernel
theorem dMod_store_19 : decode cMod_store 19 = .ok (.ior, 1) := by decide +kernel
theorem dMod_store_20 : decode cMod_store 20 = .ok (.iload_n 1, 1) := by decide +kernel
theorem dMod_store_21 : decode cMod_store 21 = .ok (.bipush 20, 2) := by decide +kernel
theorem dMod_store_23 : decode cMod_store 23 = .ok (.ishl, 1) := by decide +kernel
theorem dMod_store_24 : decode cMod_store 24 = .ok (.ior, 1) := by decide +kernel
theorem dMod_store_25 : decode cMod_store 25 = .ok (.iload_n 2, 1) := by decide +kernel
theorem dMod_store_26 : decode cMod_store 26 = .ok (.iconst 5, 1) := by decide +kernel
theorem dMod_store_27 : decode cMod_store 27 = .ok (.bipush 7, 2) := by decide +kernel
theorem dMod_store_29 : decode cMod_store 29 = .ok (.bipush 25, 2) := by decide +kernel
theorem dMod_store_31 : decode cMod_store 31 = .ok (.invokestatic 48, 3) := by decide +kernel
theorem dMod_store_34 : decode cMod_store 34 = .ok (.ior, 1) := by decide +kernel
theorem dMod_store_35 : decode cMod_store 35 = .ok (.ireturn, 1) := by decide +kernel
theorem dMod_link_0 : decode cMod_link 0 = .ok (.bipush 111, 2) := by decide +kernel
theorem dMod_link_2 : decode cMod_link 2 = .ok (.iload_n 0, 1) := by decide +kernel
theorem dMod_link_3 : decode cMod_link 3 = .ok (.bipush 7, 2) := by decide +kernel
theorem dMod_link_5 : decode cMod_link 5 = .ok (.ishl, 1) := by decide +kernel
theorem dMod_link_6 : decode cMod_link 6 = .ok (.ior, 1) := by decide +kernel
theorem dMod_link_7 : decode cMod_link 7 = .ok (.iload_n 1, 1) := by decide +kernel
theorem dMod_link_8 : decode cMod_link 8 = .ok (.bipush 12, 2) := by decide +kernel
theorem dMod_link_10 : decode cMod_link 10 = .ok (.bipush 8, 2) := by decide +kernel
theorem dMod_link_12 : decode cMod_link 12 = .ok (.bipush 12, 2) := by decide +kernel
theorem dMod_link_14 : decode cMod_link 14 = .ok (.invokestatic 48, 3) := by decide +kernel
theorem dMod_link_17 : decode cMod_link 17 = .ok (.ior, 1) := by decide +kernel
theorem dMod_link_18 : decode cMod_link 18 = .ok (.iload_n 1, 1) := by decide +kernel
theorem dMod_link_19 : decode cMod_link 19 = .ok (.bipush 11, 2) := by decide +kernel
theorem dMod_link_21 : decode cMod_link 21 = .ok (.iconst 1, 1) := by decide +kernel
theorem dMod_link_22 : decode cMod_link 22 = .ok (.bipush 20, 2) := by decide +kernel
theorem dMod_link_24 : decode cMod_link 24 = .ok (.invokestatic 48, 3) := by decide +kernel
theorem dMod_link_27 : decode cMod_link 27 = .ok (.ior, 1) := by decide +kernel
theorem dMod_link_28 : decode cMod_link 28 = .ok (.iload_n 1, 1) := by decide +kernel
theorem dMod_link_29 : decode cMod_link 29 = .ok (.iconst 1, 1) := by decide +kernel
theorem dMod_link_30 : decode cMod_link 30 = .ok (.bipush 10, 2) := by decide +kernel
theorem dMod_link_32 : decode cMod_link 32 = .ok (.bipush 21, 2) := by decide +kernel
theorem dMod_link_34 : decode cMod_link 34 = .ok (.invokestatic 48, 3) := by decide +kernel
theorem dMod_link_37 : decode cMod_link 37 = .ok (.ior, 1) := by decide +kernel
theorem dMod_link_38 : decode cMod_link 38 = .ok (.iload_n 1, 1) := by decide +kernel
theorem dMod_link_39 : decode cMod_link 39 = .ok (.bipush 20, 2) := by decide +kernel
theorem dMod_link_41 : decode cMod_link 41 = .ok (.iconst 1, 1) := by decide +kernel
theorem dMod_link_42 : decode cMod_link 42 = .ok (.bipush 31, 2) := by decide +kernel
theorem dMod_link_44 : decode cMod_link 44 = .ok (.invokestatic 48, 3) := by decide +kernel
theorem dMod_link_47 : decode cMod_link 47 = .ok (.ior, 1) := by decide +kernel
theorem dMod_link_48 : decode cMod_link 48 = .ok (.ireturn, 1) := by decide +kernel
theorem dMod_branch_0 : decode cMod_branch 0 = .ok (.bipush 99, 2) := by decide +kernel
theorem dMod_branch_2 : decode cMod_branch 2 = .ok (.iload_n 2, 1) := by decide +kernel
theorem dMod_branch_3 : decode cMod_branch 3 = .ok (.bipush 11, 2) := by decide +kernel
theorem dMod_branch_5 : decode cMod_branch 5 = .ok (.iconst 1, 1) := by decide +kernel
theorem dMod_branch_6 : decode cMod_branch 6 = .ok (.bipush 7, 2) := by decide +kernel
theorem dMod_branch_8 : decode cMod_branch 8 = .ok (.invokestatic 48, 3) := by decide +kernel
theorem dMod_branch_11 : decode cMod_branch 11 = .ok (.ior, 1) := by decide +kernel
theorem dMod_branch_12 : decode cMod_branch 12 = .ok (.iload_n 2, 1) := by decide +kernel
theorem dMod_branch_13 : decode cMod_branch 13 = .ok (.iconst 1, 1) := by decide +kernel
theorem dMod_branch_14 : decode cMod_branch 14 = .ok (.iconst 4, 1) := by decide +kernel
theorem dMod_branch_15 : decode cMod_branch 15 = .ok (.bipush 8, 2) := by decide +kernel
theorem dMod_branch_17 : decode cMod_branch 17 = .ok (.invokestatic 48, 3) := by decide +kernel
theorem dMod_branch_20 : decode cMod_branch 20 = .ok (.ior, 1) := by decide +kernel
theorem dMod_branch_21 : decode cMod_branch 21 = .ok (.iload_n 0, 1) := by decide +kernel
theorem dMod_branch_22 : decode cMod_branch 22 = .ok (.bipush 12, 2) := by decide +kernel
theorem dMod_branch_24 : decode cMod_branch 24 = .ok (.ishl, 1) := by decide +kernel
theorem dMod_branch_25 : decode cMod_branch 25 = .ok (.ior, 1) := by decide +kernel
theorem dMod_branch_26 : decode cMod_branch 26 = .ok (.iload_n 1, 1) := by decide +kernel
theorem dMod_branch_27 : decode cMod_branch 27 = .ok (.bipush 15, 2) := by decide +kernel
theorem dMod_branch_29 : decode cMod_branch 29 = .ok (.ishl, 1) := by decide +kernel
theorem dMod_branch_30 : decode cMod_branch 30 = .ok (.ior, 1) := by decide +kernel
theorem dMod_branch_31 : decode cMod_branch 31 = .ok (.iload_n 2, 1) := by decide +kernel
theorem dMod_branch_32 : decode cMod_branch 32 = .ok (.iconst 5, 1) := by decide +kernel
theorem dMod_branch_33 : decode cMod_branch 33 = .ok (.bipush 6, 2) := by decide +kernel
theorem dMod_branch_35 : decode cMod_branch 35 = .ok (.bipush 25, 2) := by decide +kernel
theorem dMod_branch_37 : decode cMod_branch 37 = .ok (.invokestatic 48, 3) := by decide +kernel
theorem dMod_branch_40 : decode cMod_branch 40 = .ok (.ior, 1) := by decide +kernel
theorem dMod_branch_41 : decode cMod_branch 41 = .ok (.iload_n 2, 1) := by decide +kernel
theorem dMod_branch_42 : decode cMod_branch 42 = .ok (.bipush 12, 2) := by decide +kernel
theorem dMod_branch_44 : decode cMod_branch 44 = .ok (.iconst 1, 1) := by decide +kernel
theorem dMod_branch_45 : decode cMod_branch 45 = .ok (.bipush 31, 2) := by decide +kernel
theorem dMod_branch_47 : decode cMod_branch 47 = .ok (.invokestatic 48, 3) := by decide +kernel
theorem dMod_branch_50 : decode cMod_branch 50 = .ok (.ior, 1) := by decide +kernel
theorem dMod_branch_51 : decode cMod_branch 51 = .ok (.ireturn, 1) := by decide +kernel
theorem dMod_expand_0 : decode cMod_expand 0 = .ok (.iload_n 0, 1) := by decide +kernel
theorem dMod_expand_1 : decode cMod_expand 1 = .ok (.iconst 0, 1) := by decide +kernel
theorem dMod_expand_2 : decode cMod_expand 2 = .ok (.iconst 2, 1) := by decide +kernel
theorem dMod_expand_3 : decode cMod_expand 3 = .ok (.invokestatic 44, 3) := by decide +kernel
theorem dMod_expand_6 : decode cMod_expand 6 = .ok (.istore_n 1, 1) := by decide +kernel
theorem dMod_expand_7 : decode cMod_expand 7 = .ok (.iload_n 0, 1) := by decide +kernel
theorem dMod_expand_8 : decode cMod_expand 8 = .ok (.bipush 13, 2) := by decide +kernel
theorem dMod_expand_10 : decode cMod_expand 10 = .ok (.iconst 3, 1) := by decide +kernel
theorem dMod_expand_11 : decode cMod_expand 11 = .ok (.invokestatic 44, 3) := by decide +kernel
theorem dMod_expand_14 : decode cMod_expand 14 = .ok (.istore_n 2, 1) := by decide +kernel
theorem dMod_expand_15 : decode cMod_expand 15 = .ok (.iload_n 1, 1) := by decide +kernel
theorem dMod_expand_16 : decode cMod_expand 16 = .ok (.ifCond .ne 11, 3) := by decide +kernel
theorem dMod_expand_19 : decode cMod_expand 19 = .ok (.iload_n 0, 1) := by decide +kernel
theorem dMod_expand_20 : decode cMod_expand 20 = .ok (.iload_n 2, 1) := by decide +kernel
theorem dMod_expand_21 : decode cMod_expand 21 = .ok (.invokestatic 52, 3) := by decide +kernel
theorem dMod_expand_24 : decode cMod_expand 24 = .ok (.goto 21, 3) := by decide +kernel
theorem dMod_expand_27 : decode cMod_expand 27 = .ok (.iload_n 1, 1) := by decide +kernel
theorem dMod_expand_28 : decode cMod_expand 28 = .ok (.iconst 1, 1) := by decide +kernel
theorem dMod_expand_29 : decode cMod_expand 29 = .ok (.if_icmp .ne 11, 3) := by decide +kernel
theorem dMod_expand_32 : decode cMod_expand 32 = .ok (.iload_n 0, 1) := by decide +kernel
theorem dMod_expand_33 : decode cMod_expand 33 = .ok (.iload_n 2, 1) := by decide +kernel
theorem dMod_expand_34 : decode cMod_expand 34 = .ok (.invokestatic 56, 3) := by decide +kernel
theorem dMod_expand_37 : decode cMod_expand 37 = .ok (.goto 8, 3) := by decide +kernel
theorem dMod_expand_40 : decode cMod_expand 40 = .ok (.iload_n 0, 1) := by decide +kernel
theorem dMod_expand_41 : decode cMod_expand 41 = .ok (.iload_n 2, 1) := by decide +kernel
theorem dMod_expand_42 : decode cMod_expand 42 = .ok (.invokestatic 59, 3) := by decide +kernel
theorem dMod_expand_45 : decode cMod_expand 45 = .ok (.ireturn, 1) := by decide +kernel
theorem dMod_zero_0 : decode cMod_zero 0 = .ok (.bipush 8, 2) := by decide +kernel
theorem dMod_zero_2 : decode cMod_zero 2 = .ok (.iload_n 0, 1) := by decide +kernel
theorem dMod_zero_3 : decode cMod_zero 3 = .ok (.iconst 2, 1) := by decide +kernel
theorem dMod_zero_4 : decode cMod_zero 4 = .ok (.iconst 3, 1) := by decide +kernel
theorem dMod_zero_5 : decode cMod_zero 5 = .ok (.invokestatic 44, 3) := by decide +kernel
theorem dMod_zero_8 : decode cMod_zero 8 = .ok (.iadd, 1) := by decide +kernel
theorem dMod_zero_9 : decode cMod_zero 9 = .ok (.istore_n 2, 1) := by decide +kernel
theorem dMod_zero_10 : decode cMod_zero 10 = .ok (.bipush 8, 2) := by decide +kernel
theorem dMod_zero_12 : decode cMod_zero 12 = .ok (.iload_n 0, 1) := by decide +kernel
theorem dMod_zero_13 : decode cMod_zero 13 = .ok (.bipush 7, 2) := by decide +kernel
theorem dMod_zero_15 : decode cMod_zero 15 = .ok (.iconst 3, 1) := by decide +kernel
theorem dMod_zero_16 : decode cMod_zero 16 = .ok (.invokestatic 44, 3) := by decide +kernel
theorem dMod_zero_19 : decode cMod_zero 19 = .ok (.iadd, 1) := by decide +kernel
theorem dMod_zero_20 : decode cMod_zero 20 = .ok (.istore_n 3, 1) := by decide +kernel
theorem dMod_zero_21 : decode cMod_zero 21 = .ok (.iload_n 0, 1) := by decide +kernel
theorem dMod_zero_22 : decode cMod_zero 22 = .ok (.bipush 10, 2) := by decide +kernel
theorem dMod_zero_24 : decode cMod_zero 24 = .ok (.iconst 3, 1) := by decide +kernel
theorem dMod_zero_25 : decode cMod_zero 25 = .ok (.iconst 3, 1) := by decide +kernel
theorem dMod_zero_26 : decode cMod_zero 26 = .ok (.invokestatic 48, 3) := by decide +kernel
theorem dMod_zero_29 : decode cMod_zero 29 = .ok (.iload_n 0, 1) := by decide +kernel
theorem dMod_zero_30 : decode cMod_zero 30 = .ok (.bipush 6, 2) := by decide +kernel
theorem dMod_zero_32 : decode cMod_zero 32 = .ok (.iconst 1, 1) := by decide +kernel
theorem dMod_zero_33 : decode cMod_zero 33 = .ok (.iconst 2, 1) := by decide +kernel
theorem dMod_zero_34 : decode cMod_zero 34 = .ok (.invokestatic 48, 3) := by decide +kernel
theorem dMod_zero_37 : decode cMod_zero 37 = .ok (.ior, 1) := by decide +kernel
theorem dMod_zero_38 : decode cMod_zero 38 = .ok (.iload_n 0, 1) := by decide +kernel
theorem dMod_zero_39 : decode cMod_zero 39 = .ok (.iconst 5, 1) := by decide +kernel
theorem dMod_zero_40 : decode cMod_zero 40 = .ok (.iconst 1, 1) := by decide +kernel
theorem dMod_zero_41 : decode cMod_zero 41 = .ok (.bipush 6, 2) := by decide +kernel
theorem dMod_zero_43 : decode cMod_zero 43 = .ok (.invokestatic 48, 3) := by decide +kernel
theorem dMod_zero_46 : decode cMod_zero 46 = .ok (.ior, 1) := by decide +kernel
theorem dMod_zero_47 : decode cMod_zero 47 = .ok (.istore 4, 2) := by decide +kernel
theorem dMod_zero_49 : decode cMod_zero 49 = .ok (.iload_n 0, 1) := by decide +kernel
theorem dMod_zero_50 : decode cMod_zero 50 = .ok (.bipush 11, 2) := by decide +kernel
theorem dMod_zero_52 : decode cMod_zero 52 = .ok (.iconst 2, 1) := by decide +kernel
theorem dMod_zero_53 : decode cMod_zero 53 = .ok (.iconst 4, 1) := by decide +kernel
theorem dMod_zero_54 : decode cMod_zero 54 = .ok (.invokestatic 48, 3) := by decide +kernel
theorem dMod_zero_57 : decode cMod_zero 57 = .ok (.iload_n 0, 1) := by decide +kernel
theorem dMod_zero_58 : decode cMod_zero 58 = .ok (.bipush 7, 2) := by decide +kernel
theorem dMod_zero_60 : decode cMod_zero 60 = .ok (.iconst 4, 1) := by decide +kernel
theorem dMod_zero_61 : decode cMod_zero 61 = .ok (.bipush 6, 2) := by decide +kernel
theorem dMod_zero_63 : decode cMod_zero 63 = .ok (.invokestatic 48, 3) := by decide +kernel
theorem dMod_zero_66 : decode cMod_zero 66 = .ok (.ior, 1) := by decide +kernel
theorem dMod_zero_67 : decode cMod_zero 67 = .ok (.iload_n 0, 1) := by decide +kernel
theorem dMod_zero_68 : decode cMod_zero 68 = .ok (.bipush 6, 2) := by decide +kernel
theorem dMod_zero_70 : decode cMod_zero 70 = .ok (.iconst 1, 1) := by decide +kernel
theorem dMod_zero_71 : decode cMod_zero 71 = .ok (.iconst 2, 1) := by decide +kernel
theorem dMod_zero_72 : decode cMod_zero 72 = .ok (.invokestatic 48, 3) := by decide +kernel
theorem dMod_zero_75 : decode cMod_zero 75 = .ok (.ior, 1) := by decide +kernel
theorem dMod_zero_76 : decode cMod_zero 76 = .ok (.iload_n 0, 1) := by decide +kernel
theorem dMod_zero_77 : decode cMod_zero 77 = .ok (.iconst 5, 1) := by decide +kernel
theorem dMod_zero_78 : decode cMod_zero 78 = .ok (.iconst 1, 1) := by decide +kernel
theorem dMod_zero_79 : decode cMod_zero 79 = .ok (.iconst 3, 1) := by decide +kernel
theorem dMod_zero_80 : decode cMod_zero 80 = .ok (.invokestatic 48, 3) := by decide +kernel
theorem dMod_zero_83 : decode cMod_zero 83 = .ok (.ior, 1) := by decide +kernel
theorem dMod_zero_84 : decode cMod_zero 84 = .ok (.istore 5, 2) := by decide +kernel
theorem dMod_zero_86 : decode cMod_zero 86 = .ok (.iload_n 1, 1) := by decide +kernel
theorem dMod_zero_87 : decode cMod_zero 87 = .ok (.ifCond .ne 23, 3) := by decide +kernel
theorem dMod_zero_90 : decode cMod_zero 90 = .ok (.iload 5, 2) := by decide +kernel
theorem dMod_zero_92 : decode cMod_zero 92 = .ok (.ifCond .ne 7, 3) := by decide +kernel
theorem dMod_zero_95 : decode cMod_zero 95 = .ok (.iconst 0, 1) := by decide +kernel
theorem dMod_zero_96 : decode cMod_zero 96 = .ok (.goto 13, 3) := by decide +kernel
theorem dMod_zero_99 : decode cMod_zero 99 = .ok (.bipush 19, 2) := by decide +kernel
theorem dMod_zero_101 : decode cMod_zero 101 = .ok (.iconst 0, 1) := by decide +kernel
theorem dMod_zero_102 : decode cMod_zero 102 = .ok (.iload_n 2, 1) := by decide +kernel
theorem dMod_zero_103 : decode cMod_zero 103 = .ok (.iconst 2, 1) := by decide +kernel
theorem dMod_zero_104 : decode cMod_zero 104 = .ok (.iload 5, 2) := by decide +kernel
theorem dMod_zero_106 : decode cMod_zero 106 = .ok (.invokestatic 62, 3) := by decide +kernel
theorem dMod_zero_109 : decode cMod_zero 109 = .ok (.ireturn, 1) := by decide +kernel
theorem dMod_zero_110 : decode cMod_zero 110 = .ok (.iload_n 1, 1) := by decide +kernel
theorem dMod_zero_111 : decode cMod_zero 111 = .ok (.iconst 2, 1) := by decide +kernel
theorem dMod_zero_112 : decode cMod_zero 112 = .ok (.if_icmp .ne 15, 3) := by decide +kernel
theorem dMod_zero_115 : decode cMod_zero 115 = .ok (.iconst 3, 1) := by decide +kernel
theorem dMod_zero_116 : decode cMod_zero 116 = .ok (.iconst 2, 1) := by decide +kernel
theorem dMod_zero_117 : decode cMod_zero 117 = .ok (.iload_n 2, 1) := by decide +kernel
theorem dMod_zero_118 : decode cMod_zero 118 = .ok (.iload_n 3, 1) := by decide +kernel
theorem dMod_zero_119 : decode cMod_zero 119 = .ok (.iload 4, 2) := by decide +kernel
theorem dMod_zero_121 : decode cMod_zero 121 = .ok (.invokestatic 62, 3) := by decide +kernel
theorem dMod_zero_124 : decode cMod_zero 124 = .ok (.goto 20, 3) := by decide +kernel
theorem dMod_zero_127 : decode cMod_zero 127 = .ok (.iload_n 1, 1) := by decide +kernel
theorem dMod_zero_128 : decode cMod_zero 128 = .ok (.bipush 6, 2) := by decide +kernel
theorem dMod_zero_130 : decode cMod_zero 130 = .ok (.if_icmp .ne 13, 3) := by decide +kernel
theorem dMod_zero_133 : decode cMod_zero 133 = .ok (.iload_n 3, 1) := by decide +kernel
theorem dMod_zero_134 : decode cMod_zero 134 = .ok (.iload_n 2, 1) := by decide +kernel
theorem dMod_zero_135 : decode cMod_zero 135 = .ok (.iload 4, 2) := by decide +kernel
theorem dMod_zero_137 : decode cMod_zero 137 = .ok (.invokestatic 66, 3) := by decide +kernel
theorem dMod_zero_140 : decode cMod_zero 140 = .ok (.goto 4, 3) := by decide +kernel
theorem dMod_zero_143 : decode cMod_zero 143 = .ok (.iconst 0, 1) := by decide +kernel
theorem dMod_zero_144 : decode cMod_zero 144 = .ok (.ireturn, 1) := by decide +kernel
theorem dMod_one_0 : decode cMod_one 0 = .ok (.iload_n 0, 1) := by decide +kernel
theorem dMod_one_1 : decode cMod_one 1 = .ok (.bipush 7, 2) := by decide +kernel
theorem dMod_one_3 : decode cMod_one 3 = .ok (.iconst 5, 1) := by decide +kernel
theorem dMod_one_4 : decode cMod_one 4 = .ok (.invokestatic 44, 3) := by decide +kernel
theorem dMod_one_7 : decode cMod_one 7 = .ok (.istore_n 2, 1) := by decide +kernel
theorem dMod_one_8 : decode cMod_one 8 = .ok (.iload_n 0, 1) := by decide +kernel
theorem dMod_one_9 : decode cMod_one 9 = .ok (.bipush 12, 2) := by decide +kernel
theorem dMod_one_11 : decode cMod_one 11 = .ok (.iconst 1, 1) := by decide +kernel
theorem dMod_one_12 : decode cMod_one 12 = .ok (.iconst 5, 1) := by decide +kernel
theorem dMod_one_13 : decode cMod_one 13 = .ok (.invokestatic 48, 3) := by decide +kernel
theorem dMod_one_16 : decode cMod_one 16 = .ok (.iload_n 0, 1) := by decide +kernel
theorem dMod_one_17 : decode cMod_one 17 = .ok (.iconst 2, 1) := by decide +kernel
theorem dMod_one_18 : decode cMod_one 18 = .ok (.iconst 5, 1) := by decide +kernel
theorem dMod_one_19 : decode cMod_one 19 = .ok (.invokestatic 44, 3) := by decide +kernel
theorem dMod_one_22 : decode cMod_one 22 = .ok (.ior, 1) := by decide +kernel
theorem dMod_one_23 : decode cMod_one 23 = .ok (.bipush 6, 2) := by decide +kernel
theorem dMod_one_25 : decode cMod_one 25 = .ok (.invokestatic 69, 3) := by decide +kernel
theorem dMod_one_28 : decode cMod_one 28 = .ok (.istore_n 3, 1) := by decide +kernel
theorem dMod_one_29 : decode cMod_one 29 = .ok (.iload_n 0, 1) := by decide +kernel
theorem dMod_one_30 : decode cMod_one 30 = .ok (.bipush 12, 2) := by decide +kernel
theorem dMod_one_32 : decode cMod_one 32 = .ok (.iconst 1, 1) := by decide +kernel
theorem dMod_one_33 : decode cMod_one 33 = .ok (.bipush 11, 2) := by decide +kernel
theorem dMod_one_35 : decode cMod_one 35 = .ok (.invokestatic 48, 3) := by decide +kernel
theorem dMod_one_38 : decode cMod_one 38 = .ok (.iload_n 0, 1) := by decide +kernel
theorem dMod_one_39 : decode cMod_one 39 = .ok (.bipush 11, 2) := by decide +kernel
theorem dMod_one_41 : decode cMod_one 41 = .ok (.iconst 1, 1) := by decide +kernel
theorem dMod_one_42 : decode cMod_one 42 = .ok (.iconst 4, 1) := by decide +kernel
theorem dMod_one_43 : decode cMod_one 43 = .ok (.invokestatic 48, 3) := by decide +kernel
theorem dMod_one_46 : decode cMod_one 46 = .ok (.ior, 1) := by decide +kernel
theorem dMod_one_47 : decode cMod_one 47 = .ok (.iload_n 0, 1) := by decide +kernel
theorem dMod_one_48 : decode cMod_one 48 = .ok (.bipush 9, 2) := by decide +kernel
theorem dMod_one_50 : decode cMod_one 50 = .ok (.iconst 2, 1) := by decide +kernel
theorem dMod_one_51 : decode cMod_one 51 = .ok (.bipush 8, 2) := by decide +kernel
theorem dMod_one_53 : decode cMod_one 53 = .ok (.invokestatic 48, 3) := by decide +kernel
theorem dMod_one_56 : decode cMod_one 56 = .ok (.ior, 1) := by decide +kernel
theorem dMod_one_57 : decode cMod_one 57 = .ok (.iload_n 0, 1) := by decide +kernel
theorem dMod_one_58 : decode cMod_one 58 = .ok (.bipush 8, 2) := by decide +kernel
theorem dMod_one_60 : decode cMod_one 60 = .ok (.iconst 1, 1) := by decide +kernel
theorem dMod_one_61 : decode cMod_one 61 = .ok (.bipush 10, 2) := by decide +kernel
theorem dMod_one_63 : decode cMod_one 63 = .ok (.invokestatic 48, 3) := by decide +kernel
theorem dMod_one_66 : decode cMod_one 66 = .ok (.ior, 1) := by decide +kernel
theorem dMod_one_67 : decode cMod_one 67 = .ok (.iload_n 0, 1) := by decide +kernel
theorem dMod_one_68 : decode cMod_one 68 = .ok (.bipush 7, 2) := by decide +kernel
theorem dMod_one_70 : decode cMod_one 70 = .ok (.iconst 1, 1) := by decide +kernel
theorem dMod_one_71 : decode cMod_one 71 = .ok (.bipush 6, 2) := by decide +kernel
theorem dMod_one_73 : decode cMod_one 73 = .ok (.invokestatic 48, 3) := by decide +kernel
theorem dMod_one_76 : decode cMod_one 76 = .ok (.ior, 1) := by decide +kernel
theorem dMod_one_77 : decode cMod_one 77 = .ok (.iload_n 0, 1) := by decide +kernel
theorem dMod_one_78 : decode cMod_one 78 = .ok (.bipush 6, 2) := by decide +kernel
theorem dMod_one_80 : decode cMod_one 80 = .ok (.iconst 1, 1) := by decide +kernel
theorem dMod_one_81 : decode cMod_one 81 = .ok (.bipush 7, 2) := by decide +kernel
theorem dMod_one_83 : decode cMod_one 83 = .ok (.invokestatic 48, 3) := by decide +kernel
theorem dMod_one_86 : decode cMod_one 86 = .ok (.ior, 1) := by decide +kernel
theorem dMod_one_87 : decode cMod_one 87 = .ok (.iload_n 0, 1) := by decide +kernel
theorem dMod_one_88 : decode cMod_one 88 = .ok (.iconst 3, 1) := by decide +kernel
theorem dMod_one_89 : decode cMod_one 89 = .ok (.iconst 3, 1) := by decide +kernel
theorem dMod_one_90 : decode cMod_one 90 = .ok (.iconst 1, 1) := by decide +kernel
theorem dMod_one_91 : decode cMod_one 91 = .ok (.invokestatic 48, 3) := by decide +kernel
theorem dMod_one_94 : decode cMod_one 94 = .ok (.ior, 1) := by decide +kernel
theorem dMod_one_95 : decode cMod_one 95 = .ok (.iload_n 0, 1) := by decide +kernel
theorem dMod_one_96 : decode cMod_one 96 = .ok (.iconst 2, 1) := by decide +kernel
theorem dMod_one_97 : decode cMod_one 97 = .ok (.iconst 1, 1) := by decide +kernel
theorem dMod_one_98 : decode cMod_one 98 = .ok (.iconst 5, 1) := by decide +kernel
theorem dMod_one_99 : decode cMod_one 99 = .ok (.invokestatic 48, 3) := by decide +kernel
theorem dMod_one_102 : decode cMod_one 102 = .ok (.ior, 1) := by decide +kernel
theorem dMod_one_103 : decode cMod_one 103 = .ok (.bipush 12, 2) := by decide +kernel
theorem dMod_one_105 : decode cMod_one 105 = .ok (.invokestatic 69, 3) := by decide +kernel
theorem dMod_one_108 : decode cMod_one 108 = .ok (.istore 4, 2) := by decide +kernel
theorem dMod_one_110 : decode cMod_one 110 = .ok (.iload_n 0, 1) := by decide +kernel
theorem dMod_one_111 : decode cMod_one 111 = .ok (.bipush 12, 2) := by decide +kernel
theorem dMod_one_113 : decode cMod_one 113 = .ok (.iconst 1, 1) := by decide +kernel
theorem dMod_one_114 : decode cMod_one 114 = .ok (.bipush 8, 2) := by decide +kernel
theorem dMod_one_116 : decode cMod_one 116 = .ok (.invokestatic 48, 3) := by decide +kernel
theorem dMod_one_119 : decode cMod_one 119 = .ok (.iload_n 0, 1) := by decide +kernel
theorem dMod_one_120 : decode cMod_one 120 = .ok (.bipush 10, 2) := by decide +kernel
theorem dMod_one_122 : decode cMod_one 122 = .ok (.iconst 2, 1) := by decide +kernel
theorem dMod_one_123 : decode cMod_one 123 = .ok (.iconst 3, 1) := by decide +kernel
theorem dMod_one_124 : decode cMod_one 124 = .ok (.invokestatic 48, 3) := by decide +kernel
theorem dMod_one_127 : decode cMod_one 127 = .ok (.ior, 1) := by decide +kernel
theorem dMod_one_128 : decode cMod_one 128 = .ok (.iload_n 0, 1) := by decide +kernel
theorem dMod_one_129 : decode cMod_one 129 = .ok (.iconst 5, 1) := by decide +kernel
theorem dMod_one_130 : decode cMod_one 130 = .ok (.iconst 2, 1) := by decide +kernel
theorem dMod_one_131 : decode cMod_one 131 = .ok (.bipush 6, 2) := by decide +kernel
theorem dMod_one_133 : decode cMod_one 133 = .ok (.invokestatic 48, 3) := by decide +kernel
theorem dMod_one_136 : decode cMod_one 136 = .ok (.ior, 1) := by decide +kernel
theorem dMod_one_137 : decode cMod_one 137 = .ok (.iload_n 0, 1) := by decide +kernel
theorem dMod_one_138 : decode cMod_one 138 = .ok (.iconst 3, 1) := by decide +kernel
theorem dMod_one_139 : decode cMod_one 139 = .ok (.iconst 2, 1) := by decide +kernel
theorem dMod_one_140 : decode cMod_one 140 = .ok (.iconst 1, 1) := by decide +kernel
theorem dMod_one_141 : decode cMod_one 141 = .ok (.invokestatic 48, 3) := by decide +kernel
theorem dMod_one_144 : decode cMod_one 144 = .ok (.ior, 1) := by decide +kernel
theorem dMod_one_145 : decode cMod_one 145 = .ok (.iload_n 0, 1) := by decide +kernel
theorem dMod_one_146 : decode cMod_one 146 = .ok (.iconst 2, 1) := by decide +kernel
theorem dMod_one_147 : decode cMod_one 147 = .ok (.iconst 1, 1) := by decide +kernel
theorem dMod_one_148 : decode cMod_one 148 = .ok (.iconst 5, 1) := by decide +kernel
theorem dMod_one_149 : decode cMod_one 149 = .ok (.invokestatic 48, 3) := by decide +kernel
theorem dMod_one_152 : decode cMod_one 152 = .ok (.ior, 1) := by decide +kernel
theorem dMod_one_153 : decode cMod_one 153 = .ok (.bipush 9, 2) := by decide +kernel
theorem dMod_one_155 : decode cMod_one 155 = .ok (.invokestatic 69, 3) := by decide +kernel
theorem dMod_one_158 : decode cMod_one 158 = .ok (.istore 5, 2) := by decide +kernel
theorem dMod_one_160 : decode cMod_one 160 = .ok (.iload_n 0, 1) := by decide +kernel
theorem dMod_one_161 : decode cMod_one 161 = .ok (.bipush 12, 2) := by decide +kernel
theorem dMod_one_163 : decode cMod_one 163 = .ok (.iconst 1, 1) := by decide +kernel
theorem dMod_one_164 : decode cMod_one 164 = .ok (.bipush 9, 2) := by decide +kernel
theorem dMod_one_166 : decode cMod_one 166 = .ok (.invokestatic 48, 3) := by decide +kernel
theorem dMod_one_169 : decode cMod_one 169 = .ok (.iload_n 0, 1) := by decide +kernel
theorem dMod_one_170 : decode cMod_one 170 = .ok (.bipush 6, 2) := by decide +kernel
theorem dMod_one_172 : decode cMod_one 172 = .ok (.iconst 1, 1) := by decide +kernel
theorem dMod_one_173 : decode cMod_one 173 = .ok (.iconst 4, 1) := by decide +kernel
theorem dMod_one_174 : decode cMod_one 174 = .ok (.invokestatic 48, 3) := by decide +kernel
theorem dMod_one_177 : decode cMod_one 177 = .ok (.ior, 1) := by decide +kernel
theorem dMod_one_178 : decode cMod_one 178 = .ok (.iload_n 0, 1) := by decide +kernel
theorem dMod_one_179 : decode cMod_one 179 = .ok (.iconst 5, 1) := by decide +kernel
theorem dMod_one_180 : decode cMod_one 180 = .ok (.iconst 1, 1) := by decide +kernel
theorem dMod_one_181 : decode cMod_one 181 = .ok (.bipush 6, 2) := by decide +kernel
theorem dMod_one_183 : decode cMod_one 183 = .ok (.invokestatic 48, 3) := by decide +kernel
theorem dMod_one_186 : decode cMod_one 186 = .ok (.ior, 1) := by decide +kernel
theorem dMod_one_187 : decode cMod_one 187 = .ok (.iload_n 0, 1) := by decide +kernel
theorem dMod_one_188 : decode cMod_one 188 = .ok (.iconst 3, 1) := by decide +kernel
theorem dMod_one_189 : decode cMod_one 189 = .ok (.iconst 2, 1) := by decide +kernel
theorem dMod_one_190 : decode cMod_one 190 = .ok (.bipush 7, 2) := by decide +kernel
theorem dMod_one_192 : decode cMod_one 192 = .ok (.invokestatic 48, 3) := by decide +kernel
theorem dMod_one_195 : decode cMod_one 195 = .ok (.ior, 1) := by decide +kernel
theorem dMod_one_196 : decode cMod_one 196 = .ok (.iload_n 0, 1) := by decide +kernel
theorem dMod_one_197 : decode cMod_one 197 = .ok (.iconst 2, 1) := by decide +kernel
theorem dMod_one_198 : decode cMod_one 198 = .ok (.iconst 1, 1) := by decide +kernel
theorem dMod_one_199 : decode cMod_one 199 = .ok (.iconst 5, 1) := by decide +kernel
theorem dMod_one_200 : decode cMod_one 200 = .ok (.invokestatic 48, 3) := by decide +kernel
theorem dMod_one_203 : decode cMod_one 203 = .ok (.ior, 1) := by decide +kernel
theorem dMod_one_204 : decode cMod_one 204 = .ok (.bipush 10, 2) := by decide +kernel
theorem dMod_one_206 : decode cMod_one 206 = .ok (.invokestatic 69, 3) := by decide +kernel
theorem dMod_one_209 : decode cMod_one 209 = .ok (.istore 6, 2) := by decide +kernel
theorem dMod_one_211 : decode cMod_one 211 = .ok (.iload_n 1, 1) := by decide +kernel
theorem dMod_one_212 : decode cMod_one 212 = .ok (.tableswitch 128 0 5 #[40, 50, 57, 67, 115, 121], 40) := by decide +kernel
theorem dMod_one_252 : decode cMod_one 252 = .ok (.bipush 19, 2) := by decide +kernel
theorem dMod_one_254 : decode cMod_one 254 = .ok (.iconst 0, 1) := by decide +kernel
theorem dMod_one_255 : decode cMod_one 255 = .ok (.iload_n 2, 1) := by decide +kernel
theorem dMod_one_256 : decode cMod_one 256 = .ok (.iload_n 2, 1) := by decide +kernel
theorem dMod_one_257 : decode cMod_one 257 = .ok (.iload_n 3, 1) := by decide +kernel
theorem dMod_one_258 : decode cMod_one 258 = .ok (.invokestatic 62, 3) := by decide +kernel
theorem dMod_one_261 : decode cMod_one 261 = .ok (.ireturn, 1) := by decide +kernel
theorem dMod_one_262 : decode cMod_one 262 = .ok (.iconst 1, 1) := by decide +kernel
theorem dMod_one_263 : decode cMod_one 263 = .ok (.iload 4, 2) := by decide +kernel
theorem dMod_one_265 : decode cMod_one 265 = .ok (.invokestatic 72, 3) := by decide +kernel
theorem dMod_one_268 : decode cMod_one 268 = .ok (.ireturn, 1) := by decide +kernel
theorem dMod_one_269 : decode cMod_one 269 = .ok (.bipush 19, 2) := by decide +kernel
theorem dMod_one_271 : decode cMod_one 271 = .ok (.iconst 0, 1) := by decide +kernel
theorem dMod_one_272 : decode cMod_one 272 = .ok (.iload_n 2, 1) := by decide +kernel
theorem dMod_one_273 : decode cMod_one 273 = .ok (.iconst 0, 1) := by decide +kernel
theorem dMod_one_274 : decode cMod_one 274 = .ok (.iload_n 3, 1) := by decide +kernel
theorem dMod_one_275 : decode cMod_one 275 = .ok (.invokestatic 62, 3) := by decide +kernel
theorem dMod_one_278 : decode cMod_one 278 = .ok (.ireturn, 1) := by decide +kernel
theorem dMod_one_279 : decode cMod_one 279 = .ok (.iload_n 2, 1) := by decide +kernel
theorem dMod_one_280 : decode cMod_one 280 = .ok (.iconst 2, 1) := by decide +kernel
theorem dMod_one_281 : decode cMod_one 281 = .ok (.if_icmp .ne 25, 3) := by decide +kernel
theorem dMod_one_284 : decode cMod_one 284 = .ok (.iload 6, 2) := by decide +kernel
theorem dMod_one_286 : decode cMod_one 286 = .ok (.ifCond .ne 7, 3) := by decide +kernel
theorem dMod_one_289 : decode cMod_one 289 = .ok (.iconst 0, 1) := by decide +kernel
theorem dMod_one_290 : decode cMod_one 290 = .ok (.goto 36, 3) := by decide +kernel
theorem dMod_one_293 : decode cMod_one 293 = .ok (.bipush 19, 2) := by decide +kernel
theorem dMod_one_295 : decode cMod_one 295 = .ok (.iconst 0, 1) := by decide +kernel
theorem dMod_one_296 : decode cMod_one 296 = .ok (.iconst 2, 1) := by decide +kernel
theorem dMod_one_297 : decode cMod_one 297 = .ok (.iconst 2, 1) := by decide +kernel
theorem dMod_one_298 : decode cMod_one 298 = .ok (.iload 6, 2) := by decide +kernel
theorem dMod_one_300 : decode cMod_one 300 = .ok (.invokestatic 62, 3) := by decide +kernel
theorem dMod_one_303 : decode cMod_one 303 = .ok (.goto 23, 3) := by decide +kernel
theorem dMod_one_306 : decode cMod_one 306 = .ok (.iload_n 3, 1) := by decide +kernel
theorem dMod_one_307 : decode cMod_one 307 = .ok (.ifCond .ne 7, 3) := by decide +kernel
theorem dMod_one_310 : decode cMod_one 310 = .ok (.iconst 0, 1) := by decide +kernel
theorem dMod_one_311 : decode cMod_one 311 = .ok (.goto 15, 3) := by decide +kernel
theorem dMod_one_314 : decode cMod_one 314 = .ok (.bipush 55, 2) := by decide +kernel
theorem dMod_one_316 : decode cMod_one 316 = .ok (.iload_n 2, 1) := by decide +kernel
theorem dMod_one_317 : decode cMod_one 317 = .ok (.bipush 7, 2) := by decide +kernel
theorem dMod_one_319 : decode cMod_one 319 = .ok (.ishl, 1) := by decide +kernel
theorem dMod_one_320 : decode cMod_one 320 = .ok (.ior, 1) := by decide +kernel
theorem dMod_one_321 : decode cMod_one 321 = .ok (.iload_n 3, 1) := by decide +kernel
theorem dMod_one_322 : decode cMod_one 322 = .ok (.bipush 12, 2) := by decide +kernel
theorem dMod_one_324 : decode cMod_one 324 = .ok (.ishl, 1) := by decide +kernel
theorem dMod_one_325 : decode cMod_one 325 = .ok (.ior, 1) := by decide +kernel
theorem dMod_one_326 : decode cMod_one 326 = .ok (.ireturn, 1) := by decide +kernel
theorem dMod_one_327 : decode cMod_one 327 = .ok (.iload_n 0, 1) := by decide +kernel
theorem dMod_one_328 : decode cMod_one 328 = .ok (.iload_n 3, 1) := by decide +kernel
theorem dMod_one_329 : decode cMod_one 329 = .ok (.invokestatic 75, 3) := by decide +kernel
theorem dMod_one_332 : decode cMod_one 332 = .ok (.ireturn, 1) := by decide +kernel
theorem dMod_one_333 : decode cMod_one 333 = .ok (.iconst 0, 1) := by decide +kernel
theorem dMod_one_334 : decode cMod_one 334 = .ok (.iload 4, 2) := by decide +kernel
theorem dMod_one_336 : decode cMod_one 336 = .ok (.invokestatic 72, 3) := by decide +kernel
theorem dMod_one_339 : decode cMod_one 339 = .ok (.ireturn, 1) := by decide +kernel
theorem dMod_one_340 : decode cMod_one 340 = .ok (.iload_n 1, 1) := by decide +kernel
theorem dMod_one_341 : decode cMod_one 341 = .ok (.bipush 6, 2) := by decide +kernel
theorem dMod_one_343 : decode cMod_one 343 = .ok (.isub, 1) := by decide +kernel
theorem dMod_one_344 : decode cMod_one 344 = .ok (.bipush 8, 2) := by decide +kernel
theorem dMod_one_346 : decode cMod_one 346 = .ok (.iload_n 0, 1) := by decide +kernel
theorem dMod_one_347 : decode cMod_one 347 = .ok (.bipush 7, 2) := by decide +kernel
theorem dMod_one_349 : decode cMod_one 349 = .ok (.iconst 3, 1) := by decide +kernel
theorem dMod_one_350 : decode cMod_one 350 = .ok (.invokestatic 44, 3) := by decide +kernel
theorem dMod_one_353 : decode cMod_one 353 = .ok (.iadd, 1) := by decide +kernel
theorem dMod_one_354 : decode cMod_one 354 = .ok (.iload 5, 2) := by decide +kernel
theorem dMod_one_356 : decode cMod_one 356 = .ok (.invokestatic 78, 3) := by decide +kernel
theorem dMod_one_359 : decode cMod_one 359 = .ok (.ireturn, 1) := by decide +kernel
theorem dMod_four_0 : decode cMod_four 0 = .ok (.bipush 8, 2) := by decide +kernel
theorem dMod_four_2 : decode cMod_four 2 = .ok (.iload_n 0, 1) := by decide +kernel
theorem dMod_four_3 : decode cMod_four 3 = .ok (.bipush 7, 2) := by decide +kernel
theorem dMod_four_5 : decode cMod_four 5 = .ok (.iconst 3, 1) := by decide +kernel
theorem dMod_four_6 : decode cMod_four 6 = .ok (.invokestatic 44, 3) := by decide +kernel
theorem dMod_four_9 : decode cMod_four 9 = .ok (.iadd, 1) := by decide +kernel
theorem dMod_four_10 : decode cMod_four 10 = .ok (.istore_n 2, 1) := by decide +kernel
theorem dMod_four_11 : decode cMod_four 11 = .ok (.bipush 8, 2) := by decide +kernel
theorem dMod_four_13 : decode cMod_four 13 = .ok (.iload_n 0, 1) := by decide +kernel
theorem dMod_four_14 : decode cMod_four 14 = .ok (.iconst 2, 1) := by decide +kernel
theorem dMod_four_15 : decode cMod_four 15 = .ok (.iconst 3, 1) := by decide +kernel
theorem dMod_four_16 : decode cMod_four 16 = .ok (.invokestatic 44, 3) := by decide +kernel
theorem dMod_four_19 : decode cMod_four 19 = .ok (.iadd, 1) := by decide +kernel
theorem dMod_four_20 : decode cMod_four 20 = .ok (.istore_n 3, 1) := by decide +kernel
theorem dMod_four_21 : decode cMod_four 21 = .ok (.iload_n 0, 1) := by decide +kernel
theorem dMod_four_22 : decode cMod_four 22 = .ok (.bipush 10, 2) := by decide +kernel
theorem dMod_four_24 : decode cMod_four 24 = .ok (.iconst 2, 1) := by decide +kernel
theorem dMod_four_25 : decode cMod_four 25 = .ok (.invokestatic 44, 3) := by decide +kernel
theorem dMod_four_28 : decode cMod_four 28 = .ok (.istore 4, 2) := by decide +kernel
theorem dMod_four_30 : decode cMod_four 30 = .ok (.iload_n 0, 1) := by decide +kernel
theorem dMod_four_31 : decode cMod_four 31 = .ok (.iconst 5, 1) := by decide +kernel
theorem dMod_four_32 : decode cMod_four 32 = .ok (.iconst 2, 1) := by decide +kernel
theorem dMod_four_33 : decode cMod_four 33 = .ok (.invokestatic 44, 3) := by decide +kernel
theorem dMod_four_36 : decode cMod_four 36 = .ok (.istore 5, 2) := by decide +kernel
theorem dMod_four_38 : decode cMod_four 38 = .ok (.iload 4, 2) := by decide +kernel
theorem dMod_four_40 : decode cMod_four 40 = .ok (.iconst 2, 1) := by decide +kernel
theorem dMod_four_41 : decode cMod_four 41 = .ok (.if_icmp .ne 14, 3) := by decide +kernel
theorem dMod_four_44 : decode cMod_four 44 = .ok (.bipush 19, 2) := by decide +kernel
theorem dMod_four_46 : decode cMod_four 46 = .ok (.bipush 7, 2) := by decide +kernel
theorem dMod_four_48 : decode cMod_four 48 = .ok (.iload_n 2, 1) := by decide +kernel
theorem dMod_four_49 : decode cMod_four 49 = .ok (.iload_n 2, 1) := by decide +kernel
theorem dMod_four_50 : decode cMod_four 50 = .ok (.iload_n 1, 1) := by decide +kernel
theorem dMod_four_51 : decode cMod_four 51 = .ok (.invokestatic 62, 3) := by decide +kernel
theorem dMod_four_54 : decode cMod_four 54 = .ok (.ireturn, 1) := by decide +kernel
theorem dMod_four_55 : decode cMod_four 55 = .ok (.iload_n 0, 1) := by decide +kernel
theorem dMod_four_56 : decode cMod_four 56 = .ok (.bipush 12, 2) := by decide +kernel
theorem dMod_four_58 : decode cMod_four 58 = .ok (.iconst 1, 1) := by decide +kernel
theorem dMod_four_59 : decode cMod_four 59 = .ok (.invokestatic 44, 3) := by decide +kernel
theorem dMod_four_62 : decode cMod_four 62 = .ok (.iconst 1, 1) := by decide +kernel
theorem dMod_four_63 : decode cMod_four 63 = .ok (.if_icmp .ne 5, 3) := by decide +kernel
theorem dMod_four_66 : decode cMod_four 66 = .ok (.iconst 0, 1) := by decide +kernel
theorem dMod_four_67 : decode cMod_four 67 = .ok (.ireturn, 1) := by decide +kernel
theorem dMod_four_68 : decode cMod_four 68 = .ok (.iload 4, 2) := by decide +kernel
theorem dMod_four_70 : decode cMod_four 70 = .ok (.iconst 2, 1) := by decide +kernel
theorem dMod_four_71 : decode cMod_four 71 = .ok (.if_icmp .ge 24, 3) := by decide +kernel
theorem dMod_four_74 : decode cMod_four 74 = .ok (.bipush 19, 2) := by decide +kernel
theorem dMod_four_76 : decode cMod_four 76 = .ok (.iconst 5, 1) := by decide +kernel
theorem dMod_four_77 : decode cMod_four 77 = .ok (.iload_n 2, 1) := by decide +kernel
theorem dMod_four_78 : decode cMod_four 78 = .ok (.iload_n 2, 1) := by decide +kernel
theorem dMod_four_79 : decode cMod_four 79 = .ok (.iload_n 0, 1) := by decide +kernel
theorem dMod_four_80 : decode cMod_four 80 = .ok (.iconst 2, 1) := by decide +kernel
theorem dMod_four_81 : decode cMod_four 81 = .ok (.iconst 5, 1) := by decide +kernel
theorem dMod_four_82 : decode cMod_four 82 = .ok (.invokestatic 44, 3) := by decide +kernel
theorem dMod_four_85 : decode cMod_four 85 = .ok (.iload 4, 2) := by decide +kernel
theorem dMod_four_87 : decode cMod_four 87 = .ok (.bipush 10, 2) := by decide +kernel
theorem dMod_four_89 : decode cMod_four 89 = .ok (.ishl, 1) := by decide +kernel
theorem dMod_four_90 : decode cMod_four 90 = .ok (.ior, 1) := by decide +kernel
theorem dMod_four_91 : decode cMod_four 91 = .ok (.invokestatic 62, 3) := by decide +kernel
theorem dMod_four_94 : decode cMod_four 94 = .ok (.ireturn, 1) := by decide +kernel
theorem dMod_four_95 : decode cMod_four 95 = .ok (.iload 5, 2) := by decide +kernel
theorem dMod_four_97 : decode cMod_four 97 = .ok (.ifCond .ne 15, 3) := by decide +kernel
theorem dMod_four_100 : decode cMod_four 100 = .ok (.iconst 0, 1) := by decide +kernel
theorem dMod_four_101 : decode cMod_four 101 = .ok (.bipush 32, 2) := by decide +kernel
theorem dMod_four_103 : decode cMod_four 103 = .ok (.iload_n 2, 1) := by decide +kernel
theorem dMod_four_104 : decode cMod_four 104 = .ok (.iload_n 2, 1) := by decide +kernel
theorem dMod_four_105 : decode cMod_four 105 = .ok (.iload_n 3, 1) := by decide +kernel
theorem dMod_four_106 : decode cMod_four 106 = .ok (.invokestatic 81, 3) := by decide +kernel
theorem dMod_four_109 : decode cMod_four 109 = .ok (.goto 24, 3) := by decide +kernel
theorem dMod_four_112 : decode cMod_four 112 = .ok (.iload 5, 2) := by decide +kernel
theorem dMod_four_114 : decode cMod_four 114 = .ok (.iconst 1, 1) := by decide +kernel
theorem dMod_four_115 : decode cMod_four 115 = .ok (.if_icmp .ne 7, 3) := by decide +kernel
theorem dMod_four_118 : decode cMod_four 118 = .ok (.iconst 4, 1) := by decide +kernel
theorem dMod_four_119 : decode cMod_four 119 = .ok (.goto 7, 3) := by decide +kernel
theorem dMod_four_122 : decode cMod_four 122 = .ok (.iload 5, 2) := by decide +kernel
theorem dMod_four_124 : decode cMod_four 124 = .ok (.iconst 4, 1) := by decide +kernel
theorem dMod_four_125 : decode cMod_four 125 = .ok (.iadd, 1) := by decide +kernel
theorem dMod_four_126 : decode cMod_four 126 = .ok (.iconst 0, 1) := by decide +kernel
theorem dMod_four_127 : decode cMod_four 127 = .ok (.iload_n 2, 1) := by decide +kernel
theorem dMod_four_128 : decode cMod_four 128 = .ok (.iload_n 2, 1) := by decide +kernel
theorem dMod_four_129 : decode cMod_four 129 = .ok (.iload_n 3, 1) := by decide +kernel
theorem dMod_four_130 : decode cMod_four 130 = .ok (.invokestatic 81, 3) := by decide +kernel
theorem dMod_four_133 : decode cMod_four 133 = .ok (.ireturn, 1) := by decide +kernel
theorem dMod_two_0 : decode cMod_two 0 = .ok (.iload_n 0, 1) := by decide +kernel
theorem dMod_two_1 : decode cMod_two 1 = .ok (.bipush 7, 2) := by decide +kernel
theorem dMod_two_3 : decode cMod_two 3 = .ok (.iconst 5, 1) := by decide +kernel
theorem dMod_two_4 : decode cMod_two 4 = .ok (.invokestatic 44, 3) := by decide +kernel
theorem dMod_two_7 : decode cMod_two 7 = .ok (.istore_n 2, 1) := by decide +kernel
theorem dMod_two_8 : decode cMod_two 8 = .ok (.iload_n 0, 1) := by decide +kernel
theorem dMod_two_9 : decode cMod_two 9 = .ok (.iconst 2, 1) := by decide +kernel
theorem dMod_two_10 : decode cMod_two 10 = .ok (.iconst 5, 1) := by decide +kernel
theorem dMod_two_11 : decode cMod_two 11 = .ok (.invokestatic 44, 3) := by decide +kernel
theorem dMod_two_14 : decode cMod_two 14 = .ok (.istore_n 3, 1) := by decide +kernel
theorem dMod_two_15 : decode cMod_two 15 = .ok (.iload_n 0, 1) := by decide +kernel
theorem dMod_two_16 : decode cMod_two 16 = .ok (.bipush 12, 2) := by decide +kernel
theorem dMod_two_18 : decode cMod_two 18 = .ok (.iconst 1, 1) := by decide +kernel
theorem dMod_two_19 : decode cMod_two 19 = .ok (.invokestatic 44, 3) := by decide +kernel
theorem dMod_two_22 : decode cMod_two 22 = .ok (.iconst 1, 1) := by decide +kernel
theorem dMod_two_23 : decode cMod_two 23 = .ok (.if_icmp .ne 7, 3) := by decide +kernel
theorem dMod_two_26 : decode cMod_two 26 = .ok (.iconst 1, 1) := by decide +kernel
theorem dMod_two_27 : decode cMod_two 27 = .ok (.goto 4, 3) := by decide +kernel
theorem dMod_two_30 : decode cMod_two 30 = .ok (.iconst 0, 1) := by decide +kernel
theorem dMod_two_31 : decode cMod_two 31 = .ok (.istore 4, 2) := by decide +kernel
theorem dMod_two_33 : decode cMod_two 33 = .ok (.iload_n 0, 1) := by decide +kernel
theorem dMod_two_34 : decode cMod_two 34 = .ok (.bipush 12, 2) := by decide +kernel
theorem dMod_two_36 : decode cMod_two 36 = .ok (.iconst 1, 1) := by decide +kernel
theorem dMod_two_37 : decode cMod_two 37 = .ok (.iconst 5, 1) := by decide +kernel
theorem dMod_two_38 : decode cMod_two 38 = .ok (.invokestatic 48, 3) := by decide +kernel
theorem dMod_two_41 : decode cMod_two 41 = .ok (.iload_n 0, 1) := by decide +kernel
theorem dMod_two_42 : decode cMod_two 42 = .ok (.iconst 4, 1) := by decide +kernel
theorem dMod_two_43 : decode cMod_two 43 = .ok (.iconst 3, 1) := by decide +kernel
theorem dMod_two_44 : decode cMod_two 44 = .ok (.iconst 2, 1) := by decide +kernel
theorem dMod_two_45 : decode cMod_two 45 = .ok (.invokestatic 48, 3) := by decide +kernel
theorem dMod_two_48 : decode cMod_two 48 = .ok (.ior, 1) := by decide +kernel
theorem dMod_two_49 : decode cMod_two 49 = .ok (.iload_n 0, 1) := by decide +kernel
theorem dMod_two_50 : decode cMod_two 50 = .ok (.iconst 2, 1) := by decide +kernel
theorem dMod_two_51 : decode cMod_two 51 = .ok (.iconst 2, 1) := by decide +kernel
theorem dMod_two_52 : decode cMod_two 52 = .ok (.bipush 6, 2) := by decide +kernel
theorem dMod_two_54 : decode cMod_two 54 = .ok (.invokestatic 48, 3) := by decide +kernel
theorem dMod_two_57 : decode cMod_two 57 = .ok (.ior, 1) := by decide +kernel
theorem dMod_two_58 : decode cMod_two 58 = .ok (.istore 5, 2) := by decide +kernel
theorem dMod_two_60 : decode cMod_two 60 = .ok (.iload_n 0, 1) := by decide +kernel
theorem dMod_two_61 : decode cMod_two 61 = .ok (.bipush 9, 2) := by decide +kernel
theorem dMod_two_63 : decode cMod_two 63 = .ok (.iconst 4, 1) := by decide +kernel
theorem dMod_two_64 : decode cMod_two 64 = .ok (.iconst 2, 1) := by decide +kernel
theorem dMod_two_65 : decode cMod_two 65 = .ok (.invokestatic 48, 3) := by decide +kernel
theorem dMod_two_68 : decode cMod_two 68 = .ok (.iload_n 0, 1) := by decide +kernel
theorem dMod_two_69 : decode cMod_two 69 = .ok (.bipush 7, 2) := by decide +kernel
theorem dMod_two_71 : decode cMod_two 71 = .ok (.iconst 2, 1) := by decide +kernel
theorem dMod_two_72 : decode cMod_two 72 = .ok (.bipush 6, 2) := by decide +kernel
theorem dMod_two_74 : decode cMod_two 74 = .ok (.invokestatic 48, 3) := by decide +kernel
theorem dMod_two_77 : decode cMod_two 77 = .ok (.ior, 1) := by decide +kernel
theorem dMod_two_78 : decode cMod_two 78 = .ok (.istore 6, 2) := by decide +kernel
theorem dMod_two_80 : decode cMod_two 80 = .ok (.iload_n 1, 1) := by decide +kernel
theorem dMod_two_81 : decode cMod_two 81 = .ok (.ifCond .ne 22, 3) := by decide +kernel
theorem dMod_two_84 : decode cMod_two 84 = .ok (.iload 4, 2) := by decide +kernel
theorem dMod_two_86 : decode cMod_two 86 = .ok (.ifCond .eq 7, 3) := by decide +kernel
theorem dMod_two_89 : decode cMod_two 89 = .ok (.iconst 0, 1) := by decide +kernel
theorem dMod_two_90 : decode cMod_two 90 = .ok (.goto 12, 3) := by decide +kernel
theorem dMod_two_93 : decode cMod_two 93 = .ok (.bipush 19, 2) := by decide +kernel
theorem dMod_two_95 : decode cMod_two 95 = .ok (.iconst 1, 1) := by decide +kernel
theorem dMod_two_96 : decode cMod_two 96 = .ok (.iload_n 2, 1) := by decide +kernel
theorem dMod_two_97 : decode cMod_two 97 = .ok (.iload_n 2, 1) := by decide +kernel
theorem dMod_two_98 : decode cMod_two 98 = .ok (.iload_n 3, 1) := by decide +kernel
theorem dMod_two_99 : decode cMod_two 99 = .ok (.invokestatic 62, 3) := by decide +kernel
theorem dMod_two_102 : decode cMod_two 102 = .ok (.ireturn, 1) := by decide +kernel
theorem dMod_two_103 : decode cMod_two 103 = .ok (.iload_n 1, 1) := by decide +kernel
theorem dMod_two_104 : decode cMod_two 104 = .ok (.iconst 2, 1) := by decide +kernel
theorem dMod_two_105 : decode cMod_two 105 = .ok (.if_icmp .ne 21, 3) := by decide +kernel
theorem dMod_two_108 : decode cMod_two 108 = .ok (.iload_n 2, 1) := by decide +kernel
theorem dMod_two_109 : decode cMod_two 109 = .ok (.ifCond .ne 7, 3) := by decide +kernel
theorem dMod_two_112 : decode cMod_two 112 = .ok (.iconst 0, 1) := by decide +kernel
theorem dMod_two_113 : decode cMod_two 113 = .ok (.goto 12, 3) := by decide +kernel
theorem dMod_two_116 : decode cMod_two 116 = .ok (.iconst 3, 1) := by decide +kernel
theorem dMod_two_117 : decode cMod_two 117 = .ok (.iconst 2, 1) := by decide +kernel
theorem dMod_two_118 : decode cMod_two 118 = .ok (.iload_n 2, 1) := by decide +kernel
theorem dMod_two_119 : decode cMod_two 119 = .ok (.iconst 2, 1) := by decide +kernel
theorem dMod_two_120 : decode cMod_two 120 = .ok (.iload 5, 2) := by decide +kernel
theorem dMod_two_122 : decode cMod_two 122 = .ok (.invokestatic 62, 3) := by decide +kernel
theorem dMod_two_125 : decode cMod_two 125 = .ok (.ireturn, 1) := by decide +kernel
theorem dMod_two_126 : decode cMod_two 126 = .ok (.iload_n 1, 1) := by decide +kernel
theorem dMod_two_127 : decode cMod_two 127 = .ok (.bipush 6, 2) := by decide +kernel
theorem dMod_two_129 : decode cMod_two 129 = .ok (.if_icmp .ne 11, 3) := by decide +kernel
theorem dMod_two_132 : decode cMod_two 132 = .ok (.iconst 2, 1) := by decide +kernel
theorem dMod_two_133 : decode cMod_two 133 = .ok (.iload_n 3, 1) := by decide +kernel
theorem dMod_two_134 : decode cMod_two 134 = .ok (.iload 6, 2) := by decide +kernel
theorem dMod_two_136 : decode cMod_two 136 = .ok (.invokestatic 66, 3) := by decide +kernel
theorem dMod_two_139 : decode cMod_two 139 = .ok (.ireturn, 1) := by decide +kernel
theorem dMod_two_140 : decode cMod_two 140 = .ok (.iload_n 1, 1) := by decide +kernel
theorem dMod_two_141 : decode cMod_two 141 = .ok (.iconst 4, 1) := by decide +kernel
theorem dMod_two_142 : decode cMod_two 142 = .ok (.if_icmp .eq 5, 3) := by decide +kernel
theorem dMod_two_145 : decode cMod_two 145 = .ok (.iconst 0, 1) := by decide +kernel
theorem dMod_two_146 : decode cMod_two 146 = .ok (.ireturn, 1) := by decide +kernel
theorem dMod_two_147 : decode cMod_two 147 = .ok (.iload_n 3, 1) := by decide +kernel
theorem dMod_two_148 : decode cMod_two 148 = .ok (.ifCond .le 21, 3) := by decide +kernel
theorem dMod_two_151 : decode cMod_two 151 = .ok (.iconst 0, 1) := by decide +kernel
theorem dMod_two_152 : decode cMod_two 152 = .ok (.iconst 0, 1) := by decide +kernel
theorem dMod_two_153 : decode cMod_two 153 = .ok (.iload_n 2, 1) := by decide +kernel
theorem dMod_two_154 : decode cMod_two 154 = .ok (.iload 4, 2) := by decide +kernel
theorem dMod_two_156 : decode cMod_two 156 = .ok (.ifCond .eq 7, 3) := by decide +kernel
theorem dMod_two_159 : decode cMod_two 159 = .ok (.iload_n 2, 1) := by decide +kernel
theorem dMod_two_160 : decode cMod_two 160 = .ok (.goto 4, 3) := by decide +kernel
theorem dMod_two_163 : decode cMod_two 163 = .ok (.iconst 0, 1) := by decide +kernel
theorem dMod_two_164 : decode cMod_two 164 = .ok (.iload_n 3, 1) := by decide +kernel
theorem dMod_two_165 : decode cMod_two 165 = .ok (.invokestatic 81, 3) := by decide +kernel
theorem dMod_two_168 : decode cMod_two 168 = .ok (.ireturn, 1) := by decide +kernel
theorem dMod_two_169 : decode cMod_two 169 = .ok (.iload_n 2, 1) := by decide +kernel
theorem dMod_two_170 : decode cMod_two 170 = .ok (.ifCond .ne 15, 3) := by decide +kernel
theorem dMod_two_173 : decode cMod_two 173 = .ok (.iload 4, 2) := by decide +kernel
theorem dMod_two_175 : decode cMod_two 175 = .ok (.ifCond .eq 8, 3) := by decide +kernel
theorem dMod_two_178 : decode cMod_two 178 = .ok (.ldc 84, 2) := by decide +kernel
theorem dMod_two_180 : decode cMod_two 180 = .ok (.goto 4, 3) := by decide +kernel
theorem dMod_two_183 : decode cMod_two 183 = .ok (.iconst 0, 1) := by decide +kernel
theorem dMod_two_184 : decode cMod_two 184 = .ok (.ireturn, 1) := by decide +kernel
theorem dMod_two_185 : decode cMod_two 185 = .ok (.bipush 103, 2) := by decide +kernel
theorem dMod_two_187 : decode cMod_two 187 = .ok (.iconst 0, 1) := by decide +kernel
theorem dMod_two_188 : decode cMod_two 188 = .ok (.iload 4, 2) := by decide +kernel
theorem dMod_two_190 : decode cMod_two 190 = .ok (.ifCond .eq 7, 3) := by decide +kernel
theorem dMod_two_193 : decode cMod_two 193 = .ok (.iconst 1, 1) := by decide +kernel
theorem dMod_two_194 : decode cMod_two 194 = .ok (.goto 4, 3) := by decide +kernel
theorem dMod_two_197 : decode cMod_two 197 = .ok (.iconst 0, 1) := by decide +kernel
theorem dMod_two_198 : decode cMod_two 198 = .ok (.iload_n 2, 1) := by decide +kernel
theorem dMod_two_199 : decode cMod_two 199 = .ok (.iconst 0, 1) := by decide +kernel
theorem dMod_two_200 : decode cMod_two 200 = .ok (.invokestatic 62, 3) := by decide +kernel
theorem dMod_two_203 : decode cMod_two 203 = .ok (.ireturn, 1) := by decide +kernel
theorem dMod_trap_0 : decode cMod_trap 0 = .ok (.aload_n 0, 1) := by decide +kernel
theorem dMod_trap_1 : decode cMod_trap 1 = .ok (.iload_n 1, 1) := by decide +kernel
theorem dMod_trap_2 : decode cMod_trap 2 = .ok (.putfield 85, 3) := by decide +kernel
theorem dMod_trap_5 : decode cMod_trap 5 = .ok (.aload_n 0, 1) := by decide +kernel
theorem dMod_trap_6 : decode cMod_trap 6 = .ok (.iload_n 2, 1) := by decide +kernel
theorem dMod_trap_7 : decode cMod_trap 7 = .ok (.putfield 88, 3) := by decide +kernel
theorem dMod_trap_10 : decode cMod_trap 10 = .ok (.aload_n 0, 1) := by decide +kernel
theorem dMod_trap_11 : decode cMod_trap 11 = .ok (.iload_n 1, 1) := by decide +kernel
theorem dMod_trap_12 : decode cMod_trap 12 = .ok (.putfield 91, 3) := by decide +kernel
theorem dMod_trap_15 : decode cMod_trap 15 = .ok (.iconst 0, 1) := by decide +kernel
theorem dMod_trap_16 : decode cMod_trap 16 = .ok (.ireturn, 1) := by decide +kernel
theorem dMod_illegal_0 : decode cMod_illegal 0 = .ok (.aload_n 0, 1) := by decide +kernel
theorem dMod_illegal_1 : decode cMod_illegal 1 = .ok (.iconst 2, 1) := by decide +kernel
theorem dMod_illegal_2 : decode cMod_illegal 2 = .ok (.aload_n 0, 1) := by decide +kernel
theorem dMod_illegal_3 : decode cMod_illegal 3 = .ok (.getfield 94, 3) := by decide +kernel
theorem dMod_illegal_6 : decode cMod_illegal 6 = .ok (.invokevirtual 97, 3) := by decide +kernel
theorem dMod_illegal_9 : decode cMod_illegal 9 = .ok (.ireturn, 1) := by decide +kernel
theorem dMod_may_0 : decode cMod_may 0 = .ok (.iload_n 1, 1) := by decide +kernel
theorem dMod_may_1 : decode cMod_may 1 = .ok (.iconst 0, 1) := by decide +kernel
theorem dMod_may_2 : decode cMod_may 2 = .ok (.ldc 27, 2) := by decide +kernel
theorem dMod_may_4 : decode cMod_may 4 = .ok (.invokestatic 28, 3) := by decide +kernel
theorem dMod_may_7 : decode cMod_may 7 = .ok (.ifCond .eq 22, 3) := by decide +kernel
theorem dMod_may_10 : decode cMod_may 10 = .ok (.aload_n 0, 1) := by decide +kernel
theorem dMod_may_11 : decode cMod_may 11 = .ok (.getfield 14, 3) := by decide +kernel
theorem dMod_may_14 : decode cMod_may 14 = .ok (.iload_n 1, 1) := by decide +kernel
theorem dMod_may_15 : decode cMod_may 15 = .ok (.sipush 1024, 3) := by decide +kernel
theorem dMod_may_18 : decode cMod_may 18 = .ok (.idiv, 1) := by decide +kernel
theorem dMod_may_19 : decode cMod_may 19 = .ok (.iaload, 1) := by decide +kernel
theorem dMod_may_20 : decode cMod_may 20 = .ok (.iload_n 2, 1) := by decide +kernel
theorem dMod_may_21 : decode cMod_may 21 = .ok (.iand, 1) := by decide +kernel
theorem dMod_may_22 : decode cMod_may 22 = .ok (.ifCond .le 7, 3) := by decide +kernel
theorem dMod_may_25 : decode cMod_may 25 = .ok (.iconst 1, 1) := by decide +kernel
theorem dMod_may_26 : decode cMod_may 26 = .ok (.goto 4, 3) := by decide +kernel
theorem dMod_may_29 : decode cMod_may 29 = .ok (.iconst 0, 1) := by decide +kernel
theorem dMod_may_30 : decode cMod_may 30 = .ok (.ireturn, 1) := by decide +kernel
theorem dMod_half_0 : decode cMod_half 0 = .ok (.aload_n 0, 1) := by decide +kernel
theorem dMod_half_1 : decode cMod_half 1 = .ok (.getfield 8, 3) := by decide +kernel
theorem dMod_half_4 : decode cMod_half 4 = .ok (.iload_n 1, 1) := by decide +kernel
theorem dMod_half_5 : decode cMod_half 5 = .ok (.iaload, 1) := by decide +kernel
theorem dMod_half_6 : decode cMod_half 6 = .ok (.aload_n 0, 1) := by decide +kernel
theorem dMod_half_7 : decode cMod_half 7 = .ok (.getfield 8, 3) := by decide +kernel
theorem dMod_half_10 : decode cMod_half 10 = .ok (.iload_n 1, 1) := by decide +kernel
theorem dMod_half_11 : decode cMod_half 11 = .ok (.iconst 1, 1) := by decide +kernel
theorem dMod_half_12 : decode cMod_half 12 = .ok (.iadd, 1) := by decide +kernel
theorem dMod_half_13 : decode cMod_half 13 = .ok (.iaload, 1) := by decide +kernel
theorem dMod_half_14 : decode cMod_half 14 = .ok (.bipush 8, 2) := by decide +kernel
theorem dMod_half_16 : decode cMod_half 16 = .ok (.ishl, 1) := by decide +kernel
theorem dMod_half_17 : decode cMod_half 17 = .ok (.ior, 1) := by decide +kernel
theorem dMod_half_18 : decode cMod_half 18 = .ok (.ireturn, 1) := by decide +kernel
theorem dMod_fetches_0 : decode cMod_fetches 0 = .ok (.aload_n 0, 1) := by decide +kernel
theorem dMod_fetches_1 : decode cMod_fetches 1 = .ok (.iload_n 1, 1) := by decide +kernel
theorem dMod_fetches_2 : decode cMod_fetches 2 = .ok (.iconst 4, 1) := by decide +kernel
theorem dMod_fetches_3 : decode cMod_fetches 3 = .ok (.invokevirtual 100, 3) := by decide +kernel
theorem dMod_fetches_6 : decode cMod_fetches 6 = .ok (.ifCond .eq 18, 3) := by decide +kernel
theorem dMod_fetches_9 : decode cMod_fetches 9 = .ok (.aload_n 0, 1) := by decide +kernel
theorem dMod_fetches_10 : decode cMod_fetches 10 = .ok (.iload_n 1, 1) := by decide +kernel
theorem dMod_fetches_11 : decode cMod_fetches 11 = .ok (.iconst 1, 1) := by decide +kernel
theorem dMod_fetches_12 : decode cMod_fetches 12 = .ok (.iadd, 1) := by decide +kernel
theorem dMod_fetches_13 : decode cMod_fetches 13 = .ok (.iconst 4, 1) := by decide +kernel
theorem dMod_fetches_14 : decode cMod_fetches 14 = .ok (.invokevirtual 100, 3) := by decide +kernel
theorem dMod_fetches_17 : decode cMod_fetches 17 = .ok (.ifCond .eq 7, 3) := by decide +kernel
theorem dMod_fetches_20 : decode cMod_fetches 20 = .ok (.iconst 1, 1) := by decide +kernel
theorem dMod_fetches_21 : decode cMod_fetches 21 = .ok (.goto 4, 3) := by decide +kernel
theorem dMod_fetches_24 : decode cMod_fetches 24 = .ok (.iconst 0, 1) := by decide +kernel
theorem dMod_fetches_25 : decode cMod_fetches 25 = .ok (.ireturn, 1) := by decide +kernel
