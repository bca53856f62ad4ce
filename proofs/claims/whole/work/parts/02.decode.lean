theorem dX4_init_0 : decode cX4_init 0 = .ok (.aload_n 0, 1) := by decide +kernel
theorem dX4_init_1 : decode cX4_init 1 = .ok (.invokespecial 1, 3) := by decide +kernel
theorem dX4_init_4 : decode cX4_init 4 = .ok (.aload_n 0, 1) := by decide +kernel
theorem dX4_init_5 : decode cX4_init 5 = .ok (.iconst 0, 1) := by decide +kernel
theorem dX4_init_6 : decode cX4_init 6 = .ok (.putfield 7, 3) := by decide +kernel
theorem dX4_init_9 : decode cX4_init 9 = .ok (.iload_n 2, 1) := by decide +kernel
theorem dX4_init_10 : decode cX4_init 10 = .ok (.iconst 1, 1) := by decide +kernel
theorem dX4_init_11 : decode cX4_init 11 = .ok (.bipush 8, 2) := by decide +kernel
theorem dX4_init_13 : decode cX4_init 13 = .ok (.invokestatic 13, 3) := by decide +kernel
theorem dX4_init_16 : decode cX4_init 16 = .ok (.istore 6, 2) := by decide +kernel
theorem dX4_init_18 : decode cX4_init 18 = .ok (.iload_n 3, 1) := by decide +kernel
theorem dX4_init_19 : decode cX4_init 19 = .ok (.iconst 1, 1) := by decide +kernel
theorem dX4_init_20 : decode cX4_init 20 = .ok (.iconst 4, 1) := by decide +kernel
theorem dX4_init_21 : decode cX4_init 21 = .ok (.invokestatic 13, 3) := by decide +kernel
theorem dX4_init_24 : decode cX4_init 24 = .ok (.istore 7, 2) := by decide +kernel
theorem dX4_init_26 : decode cX4_init 26 = .ok (.iload 5, 2) := by decide +kernel
theorem dX4_init_28 : decode cX4_init 28 = .ok (.iconst 1, 1) := by decide +kernel
theorem dX4_init_29 : decode cX4_init 29 = .ok (.bipush 32, 2) := by decide +kernel
theorem dX4_init_31 : decode cX4_init 31 = .ok (.invokestatic 13, 3) := by decide +kernel
theorem dX4_init_34 : decode cX4_init 34 = .ok (.istore 8, 2) := by decide +kernel
theorem dX4_init_36 : decode cX4_init 36 = .ok (.aload_n 0, 1) := by decide +kernel
theorem dX4_init_37 : decode cX4_init 37 = .ok (.new 17, 3) := by decide +kernel
theorem dX4_init_40 : decode cX4_init 40 = .ok (.dup, 1) := by decide +kernel
theorem dX4_init_41 : decode cX4_init 41 = .ok (.iload 7, 2) := by decide +kernel
theorem dX4_init_43 : decode cX4_init 43 = .ok (.iload 4, 2) := by decide +kernel
theorem dX4_init_45 : decode cX4_init 45 = .ok (.iload 7, 2) := by decide +kernel
theorem dX4_init_47 : decode cX4_init 47 = .ok (.bipush 64, 2) := by decide +kernel
theorem dX4_init_49 : decode cX4_init 49 = .ok (.invokestatic 13, 3) := by decide +kernel
theorem dX4_init_52 : decode cX4_init 52 = .ok (.invokespecial 19, 3) := by decide +kernel
theorem dX4_init_55 : decode cX4_init 55 = .ok (.putfield 22, 3) := by decide +kernel
theorem dX4_init_58 : decode cX4_init 58 = .ok (.aload_n 0, 1) := by decide +kernel
theorem dX4_init_59 : decode cX4_init 59 = .ok (.iload_n 1, 1) := by decide +kernel
theorem dX4_init_60 : decode cX4_init 60 = .ok (.iconst 1, 1) := by decide +kernel
theorem dX4_init_61 : decode cX4_init 61 = .ok (.iconst 4, 1) := by decide +kernel
theorem dX4_init_62 : decode cX4_init 62 = .ok (.invokestatic 13, 3) := by decide +kernel
theorem dX4_init_65 : decode cX4_init 65 = .ok (.anewarray 26, 3) := by decide +kernel
theorem dX4_init_68 : decode cX4_init 68 = .ok (.putfield 28, 3) := by decide +kernel
theorem dX4_init_71 : decode cX4_init 71 = .ok (.iconst 0, 1) := by decide +kernel
theorem dX4_init_72 : decode cX4_init 72 = .ok (.istore 9, 2) := by decide +kernel
theorem dX4_init_74 : decode cX4_init 74 = .ok (.iload 9, 2) := by decide +kernel
theorem dX4_init_76 : decode cX4_init 76 = .ok (.aload_n 0, 1) := by decide +kernel
theorem dX4_init_77 : decode cX4_init 77 = .ok (.getfield 28, 3) := by decide +kernel
theorem dX4_init_80 : decode cX4_init 80 = .ok (.arraylength, 1) := by decide +kernel
theorem dX4_init_81 : decode cX4_init 81 = .ok (.if_icmp .ge 33, 3) := by decide +kernel
theorem dX4_init_84 : decode cX4_init 84 = .ok (.aload_n 0, 1) := by decide +kernel
theorem dX4_init_85 : decode cX4_init 85 = .ok (.getfield 28, 3) := by decide +kernel
theorem dX4_init_88 : decode cX4_init 88 = .ok (.iload 9, 2) := by decide +kernel
theorem dX4_init_90 : decode cX4_init 90 = .ok (.new 26, 3) := by decide +kernel
theorem dX4_init_93 : decode cX4_init 93 = .ok (.dup, 1) := by decide +kernel
theorem dX4_init_94 : decode cX4_init 94 = .ok (.iload 9, 2) := by decide +kernel
theorem dX4_init_96 : decode cX4_init 96 = .ok (.iload 6, 2) := by decide +kernel
theorem dX4_init_98 : decode cX4_init 98 = .ok (.iload 8, 2) := by decide +kernel
theorem dX4_init_100 : decode cX4_init 100 = .ok (.aload_n 0, 1) := by decide +kernel
theorem dX4_init_101 : decode cX4_init 101 = .ok (.getfield 22, 3) := by decide +kernel
theorem dX4_init_104 : decode cX4_init 104 = .ok (.invokespecial 32, 3) := by decide +kernel
theorem dX4_init_107 : decode cX4_init 107 = .ok (.aastore, 1) := by decide +kernel
theorem dX4_init_108 : decode cX4_init 108 = .ok (.iinc 9 1, 3) := by decide +kernel
theorem dX4_init_111 : decode cX4_init 111 = .ok (.goto (-37), 3) := by decide +kernel
theorem dX4_init_114 : decode cX4_init 114 = .ok (.aload_n 0, 1) := by decide +kernel
theorem dX4_init_115 : decode cX4_init 115 = .ok (.new 35, 3) := by decide +kernel
theorem dX4_init_118 : decode cX4_init 118 = .ok (.dup, 1) := by decide +kernel
theorem dX4_init_119 : decode cX4_init 119 = .ok (.aload_n 0, 1) := by decide +kernel
theorem dX4_init_120 : decode cX4_init 120 = .ok (.getfield 28, 3) := by decide +kernel
theorem dX4_init_123 : decode cX4_init 123 = .ok (.aload_n 0, 1) := by decide +kernel
theorem dX4_init_124 : decode cX4_init 124 = .ok (.getfield 22, 3) := by decide +kernel
theorem dX4_init_127 : decode cX4_init 127 = .ok (.invokespecial 37, 3) := by decide +kernel
theorem dX4_init_130 : decode cX4_init 130 = .ok (.putfield 40, 3) := by decide +kernel
theorem dX4_init_133 : decode cX4_init 133 = .ok (.return_, 1) := by decide +kernel
theorem dX4_limited_0 : decode cX4_limited 0 = .ok (.iload_n 1, 1) := by decide +kernel
theorem dX4_limited_1 : decode cX4_limited 1 = .ok (.iload_n 2, 1) := by decide +kernel
theorem dX4_limited_2 : decode cX4_limited 2 = .ok (.iload_n 0, 1) := by decide +kernel
theorem dX4_limited_3 : decode cX4_limited 3 = .ok (.invokestatic 143, 3) := by decide +kernel
theorem dX4_limited_6 : decode cX4_limited 6 = .ok (.invokestatic 149, 3) := by decide +kernel
theorem dX4_limited_9 : decode cX4_limited 9 = .ok (.ireturn, 1) := by decide +kernel
theorem dX4_load_0 : decode cX4_load 0 = .ok (.aload_n 0, 1) := by decide +kernel
theorem dX4_load_1 : decode cX4_load 1 = .ok (.getfield 7, 3) := by decide +kernel
theorem dX4_load_4 : decode cX4_load 4 = .ok (.ifCond .ne 28, 3) := by decide +kernel
theorem dX4_load_7 : decode cX4_load 7 = .ok (.aload_n 0, 1) := by decide +kernel
theorem dX4_load_8 : decode cX4_load 8 = .ok (.iload_n 1, 1) := by decide +kernel
theorem dX4_load_9 : decode cX4_load 9 = .ok (.invokevirtual 44, 3) := by decide +kernel
theorem dX4_load_12 : decode cX4_load 12 = .ok (.ifCond .eq 20, 3) := by decide +kernel
theorem dX4_load_15 : decode cX4_load 15 = .ok (.iload_n 2, 1) := by decide +kernel
theorem dX4_load_16 : decode cX4_load 16 = .ok (.aload_n 0, 1) := by decide +kernel
theorem dX4_load_17 : decode cX4_load 17 = .ok (.getfield 28, 3) := by decide +kernel
theorem dX4_load_20 : decode cX4_load 20 = .ok (.iload_n 1, 1) := by decide +kernel
theorem dX4_load_21 : decode cX4_load 21 = .ok (.aaload, 1) := by decide +kernel
theorem dX4_load_22 : decode cX4_load 22 = .ok (.getfield 48, 3) := by decide +kernel
theorem dX4_load_25 : decode cX4_load 25 = .ok (.arraylength, 1) := by decide +kernel
theorem dX4_load_26 : decode cX4_load 26 = .ok (.invokestatic 52, 3) := by decide +kernel
theorem dX4_load_29 : decode cX4_load 29 = .ok (.ifCond .ne 5, 3) := by decide +kernel
theorem dX4_load_32 : decode cX4_load 32 = .ok (.iconst 0, 1) := by decide +kernel
theorem dX4_load_33 : decode cX4_load 33 = .ok (.ireturn, 1) := by decide +kernel
theorem dX4_load_34 : decode cX4_load 34 = .ok (.aload_n 0, 1) := by decide +kernel
theorem dX4_load_35 : decode cX4_load 35 = .ok (.getfield 28, 3) := by decide +kernel
theorem dX4_load_38 : decode cX4_load 38 = .ok (.iload_n 1, 1) := by decide +kernel
theorem dX4_load_39 : decode cX4_load 39 = .ok (.aaload, 1) := by decide +kernel
theorem dX4_load_40 : decode cX4_load 40 = .ok (.getfield 48, 3) := by decide +kernel
theorem dX4_load_43 : decode cX4_load 43 = .ok (.iload_n 2, 1) := by decide +kernel
theorem dX4_load_44 : decode cX4_load 44 = .ok (.iload_n 3, 1) := by decide +kernel
theorem dX4_load_45 : decode cX4_load 45 = .ok (.iastore, 1) := by decide +kernel
theorem dX4_load_46 : decode cX4_load 46 = .ok (.iconst 1, 1) := by decide +kernel
theorem dX4_load_47 : decode cX4_load 47 = .ok (.ireturn, 1) := by decide +kernel
theorem dX4_hasCore_0 : decode cX4_hasCore 0 = .ok (.iload_n 1, 1) := by decide +kernel
theorem dX4_hasCore_1 : decode cX4_hasCore 1 = .ok (.aload_n 0, 1) := by decide +kernel
theorem dX4_hasCore_2 : decode cX4_hasCore 2 = .ok (.getfield 28, 3) := by decide +kernel
theorem dX4_hasCore_5 : decode cX4_hasCore 5 = .ok (.arraylength, 1) := by decide +kernel
theorem dX4_hasCore_6 : decode cX4_hasCore 6 = .ok (.invokestatic 52, 3) := by decide +kernel
theorem dX4_hasCore_9 : decode cX4_hasCore 9 = .ok (.ireturn, 1) := by decide +kernel
theorem dX4_within_0 : decode cX4_within 0 = .ok (.iload_n 0, 1) := by decide +kernel
theorem dX4_within_1 : decode cX4_within 1 = .ok (.ifCond .lt 12, 3) := by decide +kernel
theorem dX4_within_4 : decode cX4_within 4 = .ok (.iload_n 0, 1) := by decide +kernel
theorem dX4_within_5 : decode cX4_within 5 = .ok (.iload_n 1, 1) := by decide +kernel
theorem dX4_within_6 : decode cX4_within 6 = .ok (.if_icmp .ge 7, 3) := by decide +kernel
theorem dX4_within_9 : decode cX4_within 9 = .ok (.iconst 1, 1) := by decide +kernel
theorem dX4_within_10 : decode cX4_within 10 = .ok (.goto 4, 3) := by decide +kernel
theorem dX4_within_13 : decode cX4_within 13 = .ok (.iconst 0, 1) := by decide +kernel
theorem dX4_within_14 : decode cX4_within 14 = .ok (.ireturn, 1) := by decide +kernel
theorem dX4_poke_0 : decode cX4_poke 0 = .ok (.aload_n 0, 1) := by decide +kernel
theorem dX4_poke_1 : decode cX4_poke 1 = .ok (.getfield 7, 3) := by decide +kernel
theorem dX4_poke_4 : decode cX4_poke 4 = .ok (.ifCond .ne 14, 3) := by decide +kernel
theorem dX4_poke_7 : decode cX4_poke 7 = .ok (.aload_n 0, 1) := by decide +kernel
theorem dX4_poke_8 : decode cX4_poke 8 = .ok (.getfield 22, 3) := by decide +kernel
theorem dX4_poke_11 : decode cX4_poke 11 = .ok (.iload_n 1, 1) := by decide +kernel
theorem dX4_poke_12 : decode cX4_poke 12 = .ok (.invokevirtual 56, 3) := by decide +kernel
theorem dX4_poke_15 : decode cX4_poke 15 = .ok (.ifCond .ne 5, 3) := by decide +kernel
theorem dX4_poke_18 : decode cX4_poke 18 = .ok (.iconst 0, 1) := by decide +kernel
theorem dX4_poke_19 : decode cX4_poke 19 = .ok (.ireturn, 1) := by decide +kernel
theorem dX4_poke_20 : decode cX4_poke 20 = .ok (.aload_n 0, 1) := by decide +kernel
theorem dX4_poke_21 : decode cX4_poke 21 = .ok (.getfield 22, 3) := by decide +kernel
theorem dX4_poke_24 : decode cX4_poke 24 = .ok (.getfield 59, 3) := by decide +kernel
theorem dX4_poke_27 : decode cX4_poke 27 = .ok (.iload_n 1, 1) := by decide +kernel
theorem dX4_poke_28 : decode cX4_poke 28 = .ok (.iload_n 2, 1) := by decide +kernel
theorem dX4_poke_29 : decode cX4_poke 29 = .ok (.iastore, 1) := by decide +kernel
theorem dX4_poke_30 : decode cX4_poke 30 = .ok (.iconst 1, 1) := by decide +kernel
theorem dX4_poke_31 : decode cX4_poke 31 = .ok (.ireturn, 1) := by decide +kernel
theorem dX4_step_0 : decode cX4_step 0 = .ok (.aload_n 0, 1) := by decide +kernel
theorem dX4_step_1 : decode cX4_step 1 = .ok (.iload_n 1, 1) := by decide +kernel
theorem dX4_step_2 : decode cX4_step 2 = .ok (.invokevirtual 44, 3) := by decide +kernel
theorem dX4_step_5 : decode cX4_step 5 = .ok (.ifCond .ne 5, 3) := by decide +kernel
theorem dX4_step_8 : decode cX4_step 8 = .ok (.iconst (-1), 1) := by decide +kernel
theorem dX4_step_9 : decode cX4_step 9 = .ok (.ireturn, 1) := by decide +kernel
theorem dX4_step_10 : decode cX4_step 10 = .ok (.aload_n 0, 1) := by decide +kernel
theorem dX4_step_11 : decode cX4_step 11 = .ok (.iconst 1, 1) := by decide +kernel
theorem dX4_step_12 : decode cX4_step 12 = .ok (.putfield 7, 3) := by decide +kernel
theorem dX4_step_15 : decode cX4_step 15 = .ok (.aload_n 0, 1) := by decide +kernel
theorem dX4_step_16 : decode cX4_step 16 = .ok (.getfield 28, 3) := by decide +kernel
theorem dX4_step_19 : decode cX4_step 19 = .ok (.iload_n 1, 1) := by decide +kernel
theorem dX4_step_20 : decode cX4_step 20 = .ok (.aaload, 1) := by decide +kernel
theorem dX4_step_21 : decode cX4_step 21 = .ok (.astore_n 2, 1) := by decide +kernel
theorem dX4_step_22 : decode cX4_step 22 = .ok (.aload_n 2, 1) := by decide +kernel
theorem dX4_step_23 : decode cX4_step 23 = .ok (.invokevirtual 62, 3) := by decide +kernel
theorem dX4_step_26 : decode cX4_step 26 = .ok (.aload_n 2, 1) := by decide +kernel
theorem dX4_step_27 : decode cX4_step 27 = .ok (.getfield 65, 3) := by decide +kernel
theorem dX4_step_30 : decode cX4_step 30 = .ok (.tableswitch 32 1 3 #[26, 28, 30], 26) := by decide +kernel
theorem dX4_step_56 : decode cX4_step 56 = .ok (.iconst 2, 1) := by decide +kernel
theorem dX4_step_57 : decode cX4_step 57 = .ok (.ireturn, 1) := by decide +kernel
theorem dX4_step_58 : decode cX4_step 58 = .ok (.iconst 3, 1) := by decide +kernel
theorem dX4_step_59 : decode cX4_step 59 = .ok (.ireturn, 1) := by decide +kernel
theorem dX4_step_60 : decode cX4_step 60 = .ok (.iconst 4, 1) := by decide +kernel
theorem dX4_step_61 : decode cX4_step 61 = .ok (.ireturn, 1) := by decide +kernel
theorem dX4_step_62 : decode cX4_step 62 = .ok (.iconst 1, 1) := by decide +kernel
theorem dX4_step_63 : decode cX4_step 63 = .ok (.ireturn, 1) := by decide +kernel
theorem dX4_bus_0 : decode cX4_bus 0 = .ok (.aload_n 0, 1) := by decide +kernel
theorem dX4_bus_1 : decode cX4_bus 1 = .ok (.getfield 40, 3) := by decide +kernel
theorem dX4_bus_4 : decode cX4_bus 4 = .ok (.invokevirtual 69, 3) := by decide +kernel
theorem dX4_bus_7 : decode cX4_bus 7 = .ok (.ireturn, 1) := by decide +kernel
theorem dX4_evict_0 : decode cX4_evict 0 = .ok (.aload_n 0, 1) := by decide +kernel
theorem dX4_evict_1 : decode cX4_evict 1 = .ok (.iload_n 1, 1) := by decide +kernel
theorem dX4_evict_2 : decode cX4_evict 2 = .ok (.iload_n 2, 1) := by decide +kernel
theorem dX4_evict_3 : decode cX4_evict 3 = .ok (.invokevirtual 73, 3) := by decide +kernel
theorem dX4_evict_6 : decode cX4_evict 6 = .ok (.ifCond .ne 5, 3) := by decide +kernel
theorem dX4_evict_9 : decode cX4_evict 9 = .ok (.iconst (-1), 1) := by decide +kernel
theorem dX4_evict_10 : decode cX4_evict 10 = .ok (.ireturn, 1) := by decide +kernel
theorem dX4_evict_11 : decode cX4_evict 11 = .ok (.aload_n 0, 1) := by decide +kernel
theorem dX4_evict_12 : decode cX4_evict 12 = .ok (.getfield 28, 3) := by decide +kernel
theorem dX4_evict_15 : decode cX4_evict 15 = .ok (.iload_n 1, 1) := by decide +kernel
theorem dX4_evict_16 : decode cX4_evict 16 = .ok (.aaload, 1) := by decide +kernel
theorem dX4_evict_17 : decode cX4_evict 17 = .ok (.getfield 76, 3) := by decide +kernel
theorem dX4_evict_20 : decode cX4_evict 20 = .ok (.iload_n 2, 1) := by decide +kernel
theorem dX4_evict_21 : decode cX4_evict 21 = .ok (.aaload, 1) := by decide +kernel
theorem dX4_evict_22 : decode cX4_evict 22 = .ok (.astore_n 3, 1) := by decide +kernel
theorem dX4_evict_23 : decode cX4_evict 23 = .ok (.aload_n 0, 1) := by decide +kernel
theorem dX4_evict_24 : decode cX4_evict 24 = .ok (.getfield 40, 3) := by decide +kernel
theorem dX4_evict_27 : decode cX4_evict 27 = .ok (.iload_n 1, 1) := by decide +kernel
theorem dX4_evict_28 : decode cX4_evict 28 = .ok (.iload_n 2, 1) := by decide +kernel
theorem dX4_evict_29 : decode cX4_evict 29 = .ok (.invokevirtual 80, 3) := by decide +kernel
theorem dX4_evict_32 : decode cX4_evict 32 = .ok (.ifCond .eq 5, 3) := by decide +kernel
theorem dX4_evict_35 : decode cX4_evict 35 = .ok (.iconst 2, 1) := by decide +kernel
theorem dX4_evict_36 : decode cX4_evict 36 = .ok (.ireturn, 1) := by decide +kernel
theorem dX4_evict_37 : decode cX4_evict 37 = .ok (.aload_n 3, 1) := by decide +kernel
theorem dX4_evict_38 : decode cX4_evict 38 = .ok (.getfield 83, 3) := by decide +kernel
theorem dX4_evict_41 : decode cX4_evict 41 = .ok (.ifCond .ne 5, 3) := by decide +kernel
theorem dX4_evict_44 : decode cX4_evict 44 = .ok (.iconst 0, 1) := by decide +kernel
theorem dX4_evict_45 : decode cX4_evict 45 = .ok (.ireturn, 1) := by decide +kernel
theorem dX4_evict_46 : decode cX4_evict 46 = .ok (.aload_n 0, 1) := by decide +kernel
theorem dX4_evict_47 : decode cX4_evict 47 = .ok (.getfield 22, 3) := by decide +kernel
theorem dX4_evict_50 : decode cX4_evict 50 = .ok (.aload_n 3, 1) := by decide +kernel
theorem dX4_evict_51 : decode cX4_evict 51 = .ok (.invokevirtual 88, 3) := by decide +kernel
theorem dX4_evict_54 : decode cX4_evict 54 = .ok (.iconst 1, 1) := by decide +kernel
theorem dX4_evict_55 : decode cX4_evict 55 = .ok (.ireturn, 1) := by decide +kernel
theorem dX4_hasSlot_0 : decode cX4_hasSlot 0 = .ok (.aload_n 0, 1) := by decide +kernel
theorem dX4_hasSlot_1 : decode cX4_hasSlot 1 = .ok (.iload_n 1, 1) := by decide +kernel
theorem dX4_hasSlot_2 : decode cX4_hasSlot 2 = .ok (.invokevirtual 44, 3) := by decide +kernel
theorem dX4_hasSlot_5 : decode cX4_hasSlot 5 = .ok (.ifCond .eq 24, 3) := by decide +kernel
theorem dX4_hasSlot_8 : decode cX4_hasSlot 8 = .ok (.iload_n 2, 1) := by decide +kernel
theorem dX4_hasSlot_9 : decode cX4_hasSlot 9 = .ok (.aload_n 0, 1) := by decide +kernel
theorem dX4_hasSlot_10 : decode cX4_hasSlot 10 = .ok (.getfield 28, 3) := by decide +kernel
theorem dX4_hasSlot_13 : decode cX4_hasSlot 13 = .ok (.iload_n 1, 1) := by decide +kernel
theorem dX4_hasSlot_14 : decode cX4_hasSlot 14 = .ok (.aaload, 1) := by decide +kernel
theorem dX4_hasSlot_15 : decode cX4_hasSlot 15 = .ok (.getfield 76, 3) := by decide +kernel
theorem dX4_hasSlot_18 : decode cX4_hasSlot 18 = .ok (.arraylength, 1) := by decide +kernel
theorem dX4_hasSlot_19 : decode cX4_hasSlot 19 = .ok (.invokestatic 52, 3) := by decide +kernel
theorem dX4_hasSlot_22 : decode cX4_hasSlot 22 = .ok (.ifCond .eq 7, 3) := by decide +kernel
theorem dX4_hasSlot_25 : decode cX4_hasSlot 25 = .ok (.iconst 1, 1) := by decide +kernel
theorem dX4_hasSlot_26 : decode cX4_hasSlot 26 = .ok (.goto 4, 3) := by decide +kernel
theorem dX4_hasSlot_29 : decode cX4_hasSlot 29 = .ok (.iconst 0, 1) := by decide +kernel
theorem dX4_hasSlot_30 : decode cX4_hasSlot 30 = .ok (.ireturn, 1) := by decide +kernel
theorem dX4_register_0 : decode cX4_register 0 = .ok (.aload_n 0, 1) := by decide +kernel
theorem dX4_register_1 : decode cX4_register 1 = .ok (.iload_n 1, 1) := by decide +kernel
theorem dX4_register_2 : decode cX4_register 2 = .ok (.invokevirtual 44, 3) := by decide +kernel
theorem dX4_register_5 : decode cX4_register 5 = .ok (.ifCond .eq 11, 3) := by decide +kernel
theorem dX4_register_8 : decode cX4_register 8 = .ok (.iload_n 2, 1) := by decide +kernel
theorem dX4_register_9 : decode cX4_register 9 = .ok (.iconst 4, 1) := by decide +kernel
theorem dX4_register_10 : decode cX4_register 10 = .ok (.invokestatic 52, 3) := by decide +kernel
theorem dX4_register_13 : decode cX4_register 13 = .ok (.ifCond .ne 5, 3) := by decide +kernel
theorem dX4_register_16 : decode cX4_register 16 = .ok (.iconst 0, 1) := by decide +kernel
theorem dX4_register_17 : decode cX4_register 17 = .ok (.ireturn, 1) := by decide +kernel
theorem dX4_register_18 : decode cX4_register 18 = .ok (.aload_n 0, 1) := by decide +kernel
theorem dX4_register_19 : decode cX4_register 19 = .ok (.getfield 28, 3) := by decide +kernel
theorem dX4_register_22 : decode cX4_register 22 = .ok (.iload_n 1, 1) := by decide +kernel
theorem dX4_register_23 : decode cX4_register 23 = .ok (.aaload, 1) := by decide +kernel
theorem dX4_register_24 : decode cX4_register 24 = .ok (.getfield 92, 3) := by decide +kernel
theorem dX4_register_27 : decode cX4_register 27 = .ok (.iload_n 2, 1) := by decide +kernel
theorem dX4_register_28 : decode cX4_register 28 = .ok (.iaload, 1) := by decide +kernel
theorem dX4_register_29 : decode cX4_register 29 = .ok (.ireturn, 1) := by decide +kernel
theorem dX4_cpu_0 : decode cX4_cpu 0 = .ok (.aload_n 0, 1) := by decide +kernel
theorem dX4_cpu_1 : decode cX4_cpu 1 = .ok (.iload_n 1, 1) := by decide +kernel
theorem dX4_cpu_2 : decode cX4_cpu 2 = .ok (.invokevirtual 44, 3) := by decide +kernel
theorem dX4_cpu_5 : decode cX4_cpu 5 = .ok (.ifCond .ne 5, 3) := by decide +kernel
theorem dX4_cpu_8 : decode cX4_cpu 8 = .ok (.iconst (-1), 1) := by decide +kernel
theorem dX4_cpu_9 : decode cX4_cpu 9 = .ok (.ireturn, 1) := by decide +kernel
theorem dX4_cpu_10 : decode cX4_cpu 10 = .ok (.aload_n 0, 1) := by decide +kernel
theorem dX4_cpu_11 : decode cX4_cpu 11 = .ok (.getfield 28, 3) := by decide +kernel
theorem dX4_cpu_14 : decode cX4_cpu 14 = .ok (.iload_n 1, 1) := by decide +kernel
theorem dX4_cpu_15 : decode cX4_cpu 15 = .ok (.aaload, 1) := by decide +kernel
theorem dX4_cpu_16 : decode cX4_cpu 16 = .ok (.astore_n 3, 1) := by decide +kernel
theorem dX4_cpu_17 : decode cX4_cpu 17 = .ok (.iload_n 2, 1) := by decide +kernel
theorem dX4_cpu_18 : decode cX4_cpu 18 = .ok (.tableswitch 59 0 4 #[34, 39, 44, 49, 54], 34) := by decide +kernel
theorem dX4_cpu_52 : decode cX4_cpu 52 = .ok (.aload_n 3, 1) := by decide +kernel
theorem dX4_cpu_53 : decode cX4_cpu 53 = .ok (.getfield 95, 3) := by decide +kernel
theorem dX4_cpu_56 : decode cX4_cpu 56 = .ok (.ireturn, 1) := by decide +kernel
theorem dX4_cpu_57 : decode cX4_cpu 57 = .ok (.aload_n 3, 1) := by decide +kernel
theorem dX4_cpu_58 : decode cX4_cpu 58 = .ok (.getfield 65, 3) := by decide +kernel
theorem dX4_cpu_61 : decode cX4_cpu 61 = .ok (.ireturn, 1) := by decide +kernel
theorem dX4_cpu_62 : decode cX4_cpu 62 = .ok (.aload_n 3, 1) := by decide +kernel
theorem dX4_cpu_63 : decode cX4_cpu 63 = .ok (.getfield 98, 3) := by decide +kernel
theorem dX4_cpu_66 : decode cX4_cpu 66 = .ok (.ireturn, 1) := by decide +kernel
theorem dX4_cpu_67 : decode cX4_cpu 67 = .ok (.aload_n 3, 1) := by decide +kernel
theorem dX4_cpu_68 : decode cX4_cpu 68 = .ok (.getfield 101, 3) := by decide +kernel
theorem dX4_cpu_71 : decode cX4_cpu 71 = .ok (.ireturn, 1) := by decide +kernel
theorem dX4_cpu_72 : decode cX4_cpu 72 = .ok (.aload_n 3, 1) := by decide +kernel
theorem dX4_cpu_73 : decode cX4_cpu 73 = .ok (.getfield 104, 3) := by decide +kernel
theorem dX4_cpu_76 : decode cX4_cpu 76 = .ok (.ireturn, 1) := by decide +kernel
theorem dX4_cpu_77 : decode cX4_cpu 77 = .ok (.iconst (-1), 1) := by decide +kernel
theorem dX4_cpu_78 : decode cX4_cpu 78 = .ok (.ireturn, 1) := by decide +kernel
theorem dX4_slot_0 : decode cX4_slot 0 = .ok (.aload_n 0, 1) := by decide +kernel
theorem dX4_slot_1 : decode cX4_slot 1 = .ok (.iload_n 1, 1) := by decide +kernel
theorem dX4_slot_2 : decode cX4_slot 2 = .ok (.iload_n 2, 1) := by decide +kernel
theorem dX4_slot_3 : decode cX4_slot 3 = .ok (.invokevirtual 73, 3) := by decide +kernel
theorem dX4_slot_6 : decode cX4_slot 6 = .ok (.ifCond .eq 19, 3) := by decide +kernel
theorem dX4_slot_9 : decode cX4_slot 9 = .ok (.iload_n 3, 1) := by decide +kernel
theorem dX4_slot_10 : decode cX4_slot 10 = .ok (.iconst 2, 1) := by decide +kernel
theorem dX4_slot_11 : decode cX4_slot 11 = .ok (.aload_n 0, 1) := by decide +kernel
theorem dX4_slot_12 : decode cX4_slot 12 = .ok (.getfield 22, 3) := by decide +kernel
theorem dX4_slot_15 : decode cX4_slot 15 = .ok (.getfield 107, 3) := by decide +kernel
theorem dX4_slot_18 : decode cX4_slot 18 = .ok (.iadd, 1) := by decide +kernel
theorem dX4_slot_19 : decode cX4_slot 19 = .ok (.invokestatic 52, 3) := by decide +kernel
theorem dX4_slot_22 : decode cX4_slot 22 = .ok (.ifCond .ne 5, 3) := by decide +kernel
theorem dX4_slot_25 : decode cX4_slot 25 = .ok (.iconst (-1), 1) := by decide +kernel
theorem dX4_slot_26 : decode cX4_slot 26 = .ok (.ireturn, 1) := by decide +kernel
theorem dX4_slot_27 : decode cX4_slot 27 = .ok (.aload_n 0, 1) := by decide +kernel
theorem dX4_slot_28 : decode cX4_slot 28 = .ok (.getfield 28, 3) := by decide +kernel
theorem dX4_slot_31 : decode cX4_slot 31 = .ok (.iload_n 1, 1) := by decide +kernel
theorem dX4_slot_32 : decode cX4_slot 32 = .ok (.aaload, 1) := by decide +kernel
theorem dX4_slot_33 : decode cX4_slot 33 = .ok (.getfield 76, 3) := by decide +kernel
theorem dX4_slot_36 : decode cX4_slot 36 = .ok (.iload_n 2, 1) := by decide +kernel
theorem dX4_slot_37 : decode cX4_slot 37 = .ok (.aaload, 1) := by decide +kernel
theorem dX4_slot_38 : decode cX4_slot 38 = .ok (.astore 4, 2) := by decide +kernel
theorem dX4_slot_40 : decode cX4_slot 40 = .ok (.iload_n 3, 1) := by decide +kernel
theorem dX4_slot_41 : decode cX4_slot 41 = .ok (.lookupswitch 39 #[(0, 27), (1, 33)], 27) := by decide +kernel
theorem dX4_slot_68 : decode cX4_slot 68 = .ok (.aload 4, 2) := by decide +kernel
theorem dX4_slot_70 : decode cX4_slot 70 = .ok (.getfield 83, 3) := by decide +kernel
theorem dX4_slot_73 : decode cX4_slot 73 = .ok (.ireturn, 1) := by decide +kernel
theorem dX4_slot_74 : decode cX4_slot 74 = .ok (.aload 4, 2) := by decide +kernel
theorem dX4_slot_76 : decode cX4_slot 76 = .ok (.getfield 110, 3) := by decide +kernel
theorem dX4_slot_79 : decode cX4_slot 79 = .ok (.ireturn, 1) := by decide +kernel
theorem dX4_slot_80 : decode cX4_slot 80 = .ok (.aload 4, 2) := by decide +kernel
theorem dX4_slot_82 : decode cX4_slot 82 = .ok (.getfield 83, 3) := by decide +kernel
theorem dX4_slot_85 : decode cX4_slot 85 = .ok (.ifCond .ne 7, 3) := by decide +kernel
theorem dX4_slot_88 : decode cX4_slot 88 = .ok (.iconst 0, 1) := by decide +kernel
theorem dX4_slot_89 : decode cX4_slot 89 = .ok (.goto 12, 3) := by decide +kernel
theorem dX4_slot_92 : decode cX4_slot 92 = .ok (.aload 4, 2) := by decide +kernel
theorem dX4_slot_94 : decode cX4_slot 94 = .ok (.getfield 113, 3) := by decide +kernel
theorem dX4_slot_97 : decode cX4_slot 97 = .ok (.iload_n 3, 1) := by decide +kernel
theorem dX4_slot_98 : decode cX4_slot 98 = .ok (.iconst 2, 1) := by decide +kernel
theorem dX4_slot_99 : decode cX4_slot 99 = .ok (.isub, 1) := by decide +kernel
theorem dX4_slot_100 : decode cX4_slot 100 = .ok (.iaload, 1) := by decide +kernel
theorem dX4_slot_101 : decode cX4_slot 101 = .ok (.ireturn, 1) := by decide +kernel
theorem dX4_peek_0 : decode cX4_peek 0 = .ok (.aload_n 0, 1) := by decide +kernel
theorem dX4_peek_1 : decode cX4_peek 1 = .ok (.getfield 22, 3) := by decide +kernel
theorem dX4_peek_4 : decode cX4_peek 4 = .ok (.iload_n 1, 1) := by decide +kernel
theorem dX4_peek_5 : decode cX4_peek 5 = .ok (.invokevirtual 56, 3) := by decide +kernel
theorem dX4_peek_8 : decode cX4_peek 8 = .ok (.ifCond .ne 5, 3) := by decide +kernel
theorem dX4_peek_11 : decode cX4_peek 11 = .ok (.iconst 0, 1) := by decide +kernel
theorem dX4_peek_12 : decode cX4_peek 12 = .ok (.ireturn, 1) := by decide +kernel
theorem dX4_peek_13 : decode cX4_peek 13 = .ok (.aload_n 0, 1) := by decide +kernel
theorem dX4_peek_14 : decode cX4_peek 14 = .ok (.getfield 22, 3) := by decide +kernel
theorem dX4_peek_17 : decode cX4_peek 17 = .ok (.iload_n 1, 1) := by decide +kernel
theorem dX4_peek_18 : decode cX4_peek 18 = .ok (.invokevirtual 114, 3) := by decide +kernel
theorem dX4_peek_21 : decode cX4_peek 21 = .ok (.istore_n 2, 1) := by decide +kernel
theorem dX4_peek_22 : decode cX4_peek 22 = .ok (.iconst 0, 1) := by decide +kernel
theorem dX4_peek_23 : decode cX4_peek 23 = .ok (.istore_n 3, 1) := by decide +kernel
theorem dX4_peek_24 : decode cX4_peek 24 = .ok (.iload_n 3, 1) := by decide +kernel
theorem dX4_peek_25 : decode cX4_peek 25 = .ok (.aload_n 0, 1) := by decide +kernel
theorem dX4_peek_26 : decode cX4_peek 26 = .ok (.getfield 28, 3) := by decide +kernel
theorem dX4_peek_29 : decode cX4_peek 29 = .ok (.arraylength, 1) := by decide +kernel
theorem dX4_peek_30 : decode cX4_peek 30 = .ok (.if_icmp .ge 53, 3) := by decide +kernel
theorem dX4_peek_33 : decode cX4_peek 33 = .ok (.aload_n 0, 1) := by decide +kernel
theorem dX4_peek_34 : decode cX4_peek 34 = .ok (.getfield 28, 3) := by decide +kernel
theorem dX4_peek_37 : decode cX4_peek 37 = .ok (.iload_n 3, 1) := by decide +kernel
theorem dX4_peek_38 : decode cX4_peek 38 = .ok (.aaload, 1) := by decide +kernel
theorem dX4_peek_39 : decode cX4_peek 39 = .ok (.iload_n 2, 1) := by decide +kernel
theorem dX4_peek_40 : decode cX4_peek 40 = .ok (.invokevirtual 118, 3) := by decide +kernel
theorem dX4_peek_43 : decode cX4_peek 43 = .ok (.astore 4, 2) := by decide +kernel
theorem dX4_peek_45 : decode cX4_peek 45 = .ok (.aload 4, 2) := by decide +kernel
theorem dX4_peek_47 : decode cX4_peek 47 = .ok (.iload_n 2, 1) := by decide +kernel
theorem dX4_peek_48 : decode cX4_peek 48 = .ok (.invokevirtual 122, 3) := by decide +kernel
theorem dX4_peek_51 : decode cX4_peek 51 = .ok (.ifCond .eq 26, 3) := by decide +kernel
theorem dX4_peek_54 : decode cX4_peek 54 = .ok (.aload 4, 2) := by decide +kernel
theorem dX4_peek_56 : decode cX4_peek 56 = .ok (.invokevirtual 125, 3) := by decide +kernel
theorem dX4_peek_59 : decode cX4_peek 59 = .ok (.ifCond .eq 18, 3) := by decide +kernel
theorem dX4_peek_62 : decode cX4_peek 62 = .ok (.aload 4, 2) := by decide +kernel
theorem dX4_peek_64 : decode cX4_peek 64 = .ok (.getfield 113, 3) := by decide +kernel
theorem dX4_peek_67 : decode cX4_peek 67 = .ok (.aload_n 0, 1) := by decide +kernel
theorem dX4_peek_68 : decode cX4_peek 68 = .ok (.getfield 22, 3) := by decide +kernel
theorem dX4_peek_71 : decode cX4_peek 71 = .ok (.iload_n 1, 1) := by decide +kernel
theorem dX4_peek_72 : decode cX4_peek 72 = .ok (.invokevirtual 129, 3) := by decide +kernel
theorem dX4_peek_75 : decode cX4_peek 75 = .ok (.iaload, 1) := by decide +kernel
theorem dX4_peek_76 : decode cX4_peek 76 = .ok (.ireturn, 1) := by decide +kernel
theorem dX4_peek_77 : decode cX4_peek 77 = .ok (.iinc 3 1, 3) := by decide +kernel
theorem dX4_peek_80 : decode cX4_peek 80 = .ok (.goto (-56), 3) := by decide +kernel
theorem dX4_peek_83 : decode cX4_peek 83 = .ok (.aload_n 0, 1) := by decide +kernel
theorem dX4_peek_84 : decode cX4_peek 84 = .ok (.getfield 22, 3) := by decide +kernel
theorem dX4_peek_87 : decode cX4_peek 87 = .ok (.getfield 59, 3) := by decide +kernel
theorem dX4_peek_90 : decode cX4_peek 90 = .ok (.iload_n 1, 1) := by decide +kernel
theorem dX4_peek_91 : decode cX4_peek 91 = .ok (.iaload, 1) := by decide +kernel
theorem dX4_peek_92 : decode cX4_peek 92 = .ok (.ireturn, 1) := by decide +kernel
theorem dX4_memory_0 : decode cX4_memory 0 = .ok (.aload_n 0, 1) := by decide +kernel
theorem dX4_memory_1 : decode cX4_memory 1 = .ok (.getfield 22, 3) := by decide +kernel
theorem dX4_memory_4 : decode cX4_memory 4 = .ok (.iload_n 1, 1) := by decide +kernel
theorem dX4_memory_5 : decode cX4_memory 5 = .ok (.invokevirtual 56, 3) := by decide +kernel
theorem dX4_memory_8 : decode cX4_memory 8 = .ok (.ifCond .eq 15, 3) := by decide +kernel
theorem dX4_memory_11 : decode cX4_memory 11 = .ok (.aload_n 0, 1) := by decide +kernel
theorem dX4_memory_12 : decode cX4_memory 12 = .ok (.getfield 22, 3) := by decide +kernel
theorem dX4_memory_15 : decode cX4_memory 15 = .ok (.getfield 59, 3) := by decide +kernel
theorem dX4_memory_18 : decode cX4_memory 18 = .ok (.iload_n 1, 1) := by decide +kernel
theorem dX4_memory_19 : decode cX4_memory 19 = .ok (.iaload, 1) := by decide +kernel
theorem dX4_memory_20 : decode cX4_memory 20 = .ok (.goto 4, 3) := by decide +kernel
theorem dX4_memory_23 : decode cX4_memory 23 = .ok (.iconst 0, 1) := by decide +kernel
theorem dX4_memory_24 : decode cX4_memory 24 = .ok (.ireturn, 1) := by decide +kernel
theorem dX4_state_0 : decode cX4_state 0 = .ok (.iload_n 1, 1) := by decide +kernel
theorem dX4_state_1 : decode cX4_state 1 = .ok (.tableswitch 63 0 3 #[31, 39, 47, 55], 31) := by decide +kernel
theorem dX4_state_32 : decode cX4_state 32 = .ok (.aload_n 0, 1) := by decide +kernel
theorem dX4_state_33 : decode cX4_state 33 = .ok (.getfield 40, 3) := by decide +kernel
theorem dX4_state_36 : decode cX4_state 36 = .ok (.getfield 132, 3) := by decide +kernel
theorem dX4_state_39 : decode cX4_state 39 = .ok (.ireturn, 1) := by decide +kernel
theorem dX4_state_40 : decode cX4_state 40 = .ok (.aload_n 0, 1) := by decide +kernel
theorem dX4_state_41 : decode cX4_state 41 = .ok (.getfield 40, 3) := by decide +kernel
theorem dX4_state_44 : decode cX4_state 44 = .ok (.getfield 135, 3) := by decide +kernel
theorem dX4_state_47 : decode cX4_state 47 = .ok (.ireturn, 1) := by decide +kernel
theorem dX4_state_48 : decode cX4_state 48 = .ok (.aload_n 0, 1) := by decide +kernel
theorem dX4_state_49 : decode cX4_state 49 = .ok (.getfield 40, 3) := by decide +kernel
theorem dX4_state_52 : decode cX4_state 52 = .ok (.getfield 138, 3) := by decide +kernel
theorem dX4_state_55 : decode cX4_state 55 = .ok (.ireturn, 1) := by decide +kernel
theorem dX4_state_56 : decode cX4_state 56 = .ok (.aload_n 0, 1) := by decide +kernel
theorem dX4_state_57 : decode cX4_state 57 = .ok (.getfield 40, 3) := by decide +kernel
theorem dX4_state_60 : decode cX4_state 60 = .ok (.getfield 139, 3) := by decide +kernel
theorem dX4_state_63 : decode cX4_state 63 = .ok (.ireturn, 1) := by decide +kernel
theorem dX4_state_64 : decode cX4_state 64 = .ok (.iload_n 1, 1) := by decide +kernel
theorem dX4_state_65 : decode cX4_state 65 = .ok (.iconst 4, 1) := by decide +kernel
theorem dX4_state_66 : decode cX4_state 66 = .ok (.isub, 1) := by decide +kernel
theorem dX4_state_67 : decode cX4_state 67 = .ok (.iconst 4, 1) := by decide +kernel
theorem dX4_state_68 : decode cX4_state 68 = .ok (.invokestatic 52, 3) := by decide +kernel
theorem dX4_state_71 : decode cX4_state 71 = .ok (.ifCond .eq 17, 3) := by decide +kernel
theorem dX4_state_74 : decode cX4_state 74 = .ok (.aload_n 0, 1) := by decide +kernel
theorem dX4_state_75 : decode cX4_state 75 = .ok (.getfield 40, 3) := by decide +kernel
theorem dX4_state_78 : decode cX4_state 78 = .ok (.getfield 140, 3) := by decide +kernel
theorem dX4_state_81 : decode cX4_state 81 = .ok (.iload_n 1, 1) := by decide +kernel
theorem dX4_state_82 : decode cX4_state 82 = .ok (.iconst 4, 1) := by decide +kernel
theorem dX4_state_83 : decode cX4_state 83 = .ok (.isub, 1) := by decide +kernel
theorem dX4_state_84 : decode cX4_state 84 = .ok (.iaload, 1) := by decide +kernel
theorem dX4_state_85 : decode cX4_state 85 = .ok (.goto 4, 3) := by decide +kernel
theorem dX4_state_88 : decode cX4_state 88 = .ok (.iconst (-1), 1) := by decide +kernel
theorem dX4_state_89 : decode cX4_state 89 = .ok (.ireturn, 1) := by decide +kernel
theorem dL_cell_0 : decode cL_cell 0 = .ok (.iload_n 1, 1) := by decide +kernel
theorem dL_cell_1 : decode cL_cell 1 = .ok (.aload_n 0, 1) := by decide +kernel
theorem dL_cell_2 : decode cL_cell 2 = .ok (.arraylength, 1) := by decide +kernel
theorem dL_cell_3 : decode cL_cell 3 = .ok (.if_icmp .ge 9, 3) := by decide +kernel
theorem dL_cell_6 : decode cL_cell 6 = .ok (.aload_n 0, 1) := by decide +kernel
theorem dL_cell_7 : decode cL_cell 7 = .ok (.iload_n 1, 1) := by decide +kernel
theorem dL_cell_8 : decode cL_cell 8 = .ok (.iaload, 1) := by decide +kernel
theorem dL_cell_9 : decode cL_cell 9 = .ok (.goto 4, 3) := by decide +kernel
theorem dL_cell_12 : decode cL_cell 12 = .ok (.iconst 0, 1) := by decide +kernel
theorem dL_cell_13 : decode cL_cell 13 = .ok (.ireturn, 1) := by decide +kernel
theorem dX5_init_0 : decode cX5_init 0 = .ok (.aload_n 0, 1) := by decide +kernel
theorem dX5_init_1 : decode cX5_init 1 = .ok (.invokespecial 1, 3) := by decide +kernel
theorem dX5_init_4 : decode cX5_init 4 = .ok (.aload_n 0, 1) := by decide +kernel
theorem dX5_init_5 : decode cX5_init 5 = .ok (.bipush 64, 2) := by decide +kernel
theorem dX5_init_7 : decode cX5_init 7 = .ok (.newarray .int, 2) := by decide +kernel
theorem dX5_init_9 : decode cX5_init 9 = .ok (.putfield 7, 3) := by decide +kernel
theorem dX5_init_12 : decode cX5_init 12 = .ok (.aload_n 0, 1) := by decide +kernel
theorem dX5_init_13 : decode cX5_init 13 = .ok (.sipush 128, 3) := by decide +kernel
theorem dX5_init_16 : decode cX5_init 16 = .ok (.newarray .int, 2) := by decide +kernel
theorem dX5_init_18 : decode cX5_init 18 = .ok (.putfield 13, 3) := by decide +kernel
theorem dX5_init_21 : decode cX5_init 21 = .ok (.aload_n 0, 1) := by decide +kernel
theorem dX5_init_22 : decode cX5_init 22 = .ok (.bipush 16, 2) := by decide +kernel
theorem dX5_init_24 : decode cX5_init 24 = .ok (.newarray .int, 2) := by decide +kernel
theorem dX5_init_26 : decode cX5_init 26 = .ok (.putfield 16, 3) := by decide +kernel
theorem dX5_init_29 : decode cX5_init 29 = .ok (.aload_n 0, 1) := by decide +kernel
theorem dX5_init_30 : decode cX5_init 30 = .ok (.iconst 4, 1) := by decide +kernel
theorem dX5_init_31 : decode cX5_init 31 = .ok (.newarray .int, 2) := by decide +kernel
theorem dX5_init_33 : decode cX5_init 33 = .ok (.putfield 19, 3) := by decide +kernel
theorem dX5_init_36 : decode cX5_init 36 = .ok (.aload_n 0, 1) := by decide +kernel
theorem dX5_init_37 : decode cX5_init 37 = .ok (.iconst 4, 1) := by decide +kernel
theorem dX5_init_38 : decode cX5_init 38 = .ok (.newarray .int, 2) := by decide +kernel
theorem dX5_init_40 : decode cX5_init 40 = .ok (.putfield 22, 3) := by decide +kernel
theorem dX5_init_43 : decode cX5_init 43 = .ok (.aload_n 0, 1) := by decide +kernel
theorem dX5_init_44 : decode cX5_init 44 = .ok (.iconst 4, 1) := by decide +kernel
theorem dX5_init_45 : decode cX5_init 45 = .ok (.newarray .int, 2) := by decide +kernel
theorem dX5_init_47 : decode cX5_init 47 = .ok (.putfield 25, 3) := by decide +kernel
theorem dX5_init_50 : decode cX5_init 50 = .ok (.aload_n 0, 1) := by decide +kernel
theorem dX5_init_51 : decode cX5_init 51 = .ok (.iconst 4, 1) := by decide +kernel
theorem dX5_init_52 : decode cX5_init 52 = .ok (.newarray .int, 2) := by decide +kernel
theorem dX5_init_54 : decode cX5_init 54 = .ok (.putfield 28, 3) := by decide +kernel
theorem dX5_init_57 : decode cX5_init 57 = .ok (.aload_n 0, 1) := by decide +kernel
theorem dX5_init_58 : decode cX5_init 58 = .ok (.iconst 4, 1) := by decide +kernel
theorem dX5_init_59 : decode cX5_init 59 = .ok (.newarray .int, 2) := by decide +kernel
theorem dX5_init_61 : decode cX5_init 61 = .ok (.putfield 31, 3) := by decide +kernel
theorem dX5_init_64 : decode cX5_init 64 = .ok (.aload_n 0, 1) := by decide +kernel
theorem dX5_init_65 : decode cX5_init 65 = .ok (.bipush 32, 2) := by decide +kernel
theorem dX5_init_67 : decode cX5_init 67 = .ok (.newarray .int, 2) := by decide +kernel
theorem dX5_init_69 : decode cX5_init 69 = .ok (.putfield 34, 3) := by decide +kernel
theorem dX5_init_72 : decode cX5_init 72 = .ok (.aload_n 0, 1) := by decide +kernel
theorem dX5_init_73 : decode cX5_init 73 = .ok (.bipush 32, 2) := by decide +kernel
theorem dX5_init_75 : decode cX5_init 75 = .ok (.newarray .int, 2) := by decide +kernel
theorem dX5_init_77 : decode cX5_init 77 = .ok (.putfield 37, 3) := by decide +kernel
theorem dX5_init_80 : decode cX5_init 80 = .ok (.aload_n 0, 1) := by decide +kernel
theorem dX5_init_81 : decode cX5_init 81 = .ok (.sipush 128, 3) := by decide +kernel
theorem dX5_init_84 : decode cX5_init 84 = .ok (.newarray .int, 2) := by decide +kernel
theorem dX5_init_86 : decode cX5_init 86 = .ok (.putfield 40, 3) := by decide +kernel
theorem dX5_init_89 : decode cX5_init 89 = .ok (.aload_n 0, 1) := by decide +kernel
theorem dX5_init_90 : decode cX5_init 90 = .ok (.iconst 4, 1) := by decide +kernel
theorem dX5_init_91 : decode cX5_init 91 = .ok (.newarray .int, 2) := by decide +kernel
theorem dX5_init_93 : decode cX5_init 93 = .ok (.putfield 43, 3) := by decide +kernel
theorem dX5_init_96 : decode cX5_init 96 = .ok (.aload_n 0, 1) := by decide +kernel
theorem dX5_init_97 : decode cX5_init 97 = .ok (.iconst 5, 1) := by decide +kernel
theorem dX5_init_98 : decode cX5_init 98 = .ok (.newarray .int, 2) := by decide +kernel
theorem dX5_init_100 : decode cX5_init 100 = .ok (.putfield 46, 3) := by decide +kernel
theorem dX5_init_103 : decode cX5_init 103 = .ok (.aload_n 0, 1) := by decide +kernel
theorem dX5_init_104 : decode cX5_init 104 = .ok (.iload_n 1, 1) := by decide +kernel
theorem dX5_init_105 : decode cX5_init 105 = .ok (.iconst 1, 1) := by decide +kernel
theorem dX5_init_106 : decode cX5_init 106 = .ok (.iconst 4, 1) := by decide +kernel
theorem dX5_init_107 : decode cX5_init 107 = .ok (.invokestatic 49, 3) := by decide +kernel
theorem dX5_init_110 : decode cX5_init 110 = .ok (.putfield 53, 3) := by decide +kernel
theorem dX5_init_113 : decode cX5_init 113 = .ok (.aload_n 0, 1) := by decide +kernel
theorem dX5_init_114 : decode cX5_init 114 = .ok (.iload_n 2, 1) := by decide +kernel
theorem dX5_init_115 : decode cX5_init 115 = .ok (.iconst 1, 1) := by decide +kernel
theorem dX5_init_116 : decode cX5_init 116 = .ok (.bipush 8, 2) := by decide +kernel
theorem dX5_init_118 : decode cX5_init 118 = .ok (.invokestatic 49, 3) := by decide +kernel
theorem dX5_init_121 : decode cX5_init 121 = .ok (.putfield 57, 3) := by decide +kernel
theorem dX5_init_124 : decode cX5_init 124 = .ok (.aload_n 0, 1) := by decide +kernel
theorem dX5_init_125 : decode cX5_init 125 = .ok (.iload_n 3, 1) := by decide +kernel
theorem dX5_init_126 : decode cX5_init 126 = .ok (.iconst 1, 1) := by decide +kernel
theorem dX5_init_127 : decode cX5_init 127 = .ok (.iconst 4, 1) := by decide +kernel
theorem dX5_init_128 : decode cX5_init 128 = .ok (.invokestatic 49, 3) := by decide +kernel
theorem dX5_init_131 : decode cX5_init 131 = .ok (.putfield 60, 3) := by decide +kernel
theorem dX5_init_134 : decode cX5_init 134 = .ok (.aload_n 0, 1) := by decide +kernel
theorem dX5_init_135 : decode cX5_init 135 = .ok (.iload 4, 2) := by decide +kernel
theorem dX5_init_137 : decode cX5_init 137 = .ok (.aload_n 0, 1) := by decide +kernel
theorem dX5_init_138 : decode cX5_init 138 = .ok (.getfield 60, 3) := by decide +kernel
theorem dX5_init_141 : decode cX5_init 141 = .ok (.bipush 64, 2) := by decide +kernel
theorem dX5_init_143 : decode cX5_init 143 = .ok (.invokestatic 49, 3) := by decide +kernel
theorem dX5_init_146 : decode cX5_init 146 = .ok (.aload_n 0, 1) := by decide +kernel
theorem dX5_init_147 : decode cX5_init 147 = .ok (.getfield 60, 3) := by decide +kernel
theorem dX5_init_150 : decode cX5_init 150 = .ok (.idiv, 1) := by decide +kernel
theorem dX5_init_151 : decode cX5_init 151 = .ok (.aload_n 0, 1) := by decide +kernel
theorem dX5_init_152 : decode cX5_init 152 = .ok (.getfield 60, 3) := by decide +kernel
theorem dX5_init_155 : decode cX5_init 155 = .ok (.imul, 1) := by decide +kernel
theorem dX5_init_156 : decode cX5_init 156 = .ok (.putfield 63, 3) := by decide +kernel
theorem dX5_init_159 : decode cX5_init 159 = .ok (.aload_n 0, 1) := by decide +kernel
theorem dX5_init_160 : decode cX5_init 160 = .ok (.iload 5, 2) := by decide +kernel
theorem dX5_init_162 : decode cX5_init 162 = .ok (.iconst 1, 1) := by decide +kernel
theorem dX5_init_163 : decode cX5_init 163 = .ok (.bipush 32, 2) := by decide +kernel
theorem dX5_init_165 : decode cX5_init 165 = .ok (.invokestatic 49, 3) := by decide +kernel
theorem dX5_init_168 : decode cX5_init 168 = .ok (.putfield 66, 3) := by decide +kernel
theorem dX5_init_171 : decode cX5_init 171 = .ok (.iconst 0, 1) := by decide +kernel
theorem dX5_init_172 : decode cX5_init 172 = .ok (.istore 6, 2) := by decide +kernel
theorem dX5_init_174 : decode cX5_init 174 = .ok (.iload 6, 2) := by decide +kernel
theorem dX5_init_176 : decode cX5_init 176 = .ok (.bipush 32, 2) := by decide +kernel
theorem dX5_init_178 : decode cX5_init 178 = .ok (.if_icmp .ge 17, 3) := by decide +kernel
theorem dX5_init_181 : decode cX5_init 181 = .ok (.aload_n 0, 1) := by decide +kernel
theorem dX5_init_182 : decode cX5_init 182 = .ok (.getfield 37, 3) := by decide +kernel
theorem dX5_init_185 : decode cX5_init 185 = .ok (.iload 6, 2) := by decide +kernel
theorem dX5_init_187 : decode cX5_init 187 = .ok (.iconst (-1), 1) := by decide +kernel
theorem dX5_init_188 : decode cX5_init 188 = .ok (.iastore, 1) := by decide +kernel
theorem dX5_init_189 : decode cX5_init 189 = .ok (.iinc 6 1, 3) := by decide +kernel
theorem dX5_init_192 : decode cX5_init 192 = .ok (.goto (-18), 3) := by decide +kernel
theorem dX5_init_195 : decode cX5_init 195 = .ok (.iconst 0, 1) := by decide +kernel
theorem dX5_init_196 : decode cX5_init 196 = .ok (.istore 6, 2) := by decide +kernel
theorem dX5_init_198 : decode cX5_init 198 = .ok (.iload 6, 2) := by decide +kernel
theorem dX5_init_200 : decode cX5_init 200 = .ok (.iconst 4, 1) := by decide +kernel
theorem dX5_init_201 : decode cX5_init 201 = .ok (.if_icmp .ge 17, 3) := by decide +kernel
theorem dX5_init_204 : decode cX5_init 204 = .ok (.aload_n 0, 1) := by decide +kernel
theorem dX5_init_205 : decode cX5_init 205 = .ok (.getfield 31, 3) := by decide +kernel
theorem dX5_init_208 : decode cX5_init 208 = .ok (.iload 6, 2) := by decide +kernel
theorem dX5_init_210 : decode cX5_init 210 = .ok (.iconst (-1), 1) := by decide +kernel
theorem dX5_init_211 : decode cX5_init 211 = .ok (.iastore, 1) := by decide +kernel
theorem dX5_init_212 : decode cX5_init 212 = .ok (.iinc 6 1, 3) := by decide +kernel
theorem dX5_init_215 : decode cX5_init 215 = .ok (.goto (-17), 3) := by decide +kernel
theorem dX5_init_218 : decode cX5_init 218 = .ok (.aload_n 0, 1) := by decide +kernel
theorem dX5_init_219 : decode cX5_init 219 = .ok (.iconst (-1), 1) := by decide +kernel
theorem dX5_init_220 : decode cX5_init 220 = .ok (.putfield 69, 3) := by decide +kernel
theorem dX5_init_223 : decode cX5_init 223 = .ok (.aload_n 0, 1) := by decide +kernel
theorem dX5_init_224 : decode cX5_init 224 = .ok (.iconst (-1), 1) := by decide +kernel
theorem dX5_init_225 : decode cX5_init 225 = .ok (.putfield 72, 3) := by decide +kernel
theorem dX5_init_228 : decode cX5_init 228 = .ok (.return_, 1) := by decide +kernel
theorem dX5_clamp_0 : decode cX5_clamp 0 = .ok (.iload_n 0, 1) := by decide +kernel
theorem dX5_clamp_1 : decode cX5_clamp 1 = .ok (.iload_n 1, 1) := by decide +kernel
theorem dX5_clamp_2 : decode cX5_clamp 2 = .ok (.if_icmp .ge 7, 3) := by decide +kernel
theorem dX5_clamp_5 : decode cX5_clamp 5 = .ok (.iload_n 1, 1) := by decide +kernel
theorem dX5_clamp_6 : decode cX5_clamp 6 = .ok (.goto 13, 3) := by decide +kernel
theorem dX5_clamp_9 : decode cX5_clamp 9 = .ok (.iload_n 0, 1) := by decide +kernel
theorem dX5_clamp_10 : decode cX5_clamp 10 = .ok (.iload_n 2, 1) := by decide +kernel
theorem dX5_clamp_11 : decode cX5_clamp 11 = .ok (.if_icmp .le 7, 3) := by decide +kernel
theorem dX5_clamp_14 : decode cX5_clamp 14 = .ok (.iload_n 2, 1) := by decide +kernel
theorem dX5_clamp_15 : decode cX5_clamp 15 = .ok (.goto 4, 3) := by decide +kernel
theorem dX5_clamp_18 : decode cX5_clamp 18 = .ok (.iload_n 0, 1) := by decide +kernel
theorem dX5_clamp_19 : decode cX5_clamp 19 = .ok (.ireturn, 1) := by decide +kernel
theorem dX5_load_0 : decode cX5_load 0 = .ok (.aload_n 0, 1) := by decide +kernel
theorem dX5_load_1 : decode cX5_load 1 = .ok (.iload_n 1, 1) := by decide +kernel
theorem dX5_load_2 : decode cX5_load 2 = .ok (.invokevirtual 75, 3) := by decide +kernel
theorem dX5_load_5 : decode cX5_load 5 = .ok (.ifCond .eq 22, 3) := by decide +kernel
theorem dX5_load_8 : decode cX5_load 8 = .ok (.iload_n 2, 1) := by decide +kernel
theorem dX5_load_9 : decode cX5_load 9 = .ok (.ifCond .lt 18, 3) := by decide +kernel
theorem dX5_load_12 : decode cX5_load 12 = .ok (.iload_n 2, 1) := by decide +kernel
theorem dX5_load_13 : decode cX5_load 13 = .ok (.aload_n 0, 1) := by decide +kernel
theorem dX5_load_14 : decode cX5_load 14 = .ok (.getfield 66, 3) := by decide +kernel
theorem dX5_load_17 : decode cX5_load 17 = .ok (.if_icmp .ge 10, 3) := by decide +kernel
theorem dX5_load_20 : decode cX5_load 20 = .ok (.aload_n 0, 1) := by decide +kernel
theorem dX5_load_21 : decode cX5_load 21 = .ok (.getfield 79, 3) := by decide +kernel
theorem dX5_load_24 : decode cX5_load 24 = .ok (.ifCond .eq 5, 3) := by decide +kernel
theorem dX5_load_27 : decode cX5_load 27 = .ok (.iconst 0, 1) := by decide +kernel
theorem dX5_load_28 : decode cX5_load 28 = .ok (.ireturn, 1) := by decide +kernel
theorem dX5_load_29 : decode cX5_load 29 = .ok (.aload_n 0, 1) := by decide +kernel
theorem dX5_load_30 : decode cX5_load 30 = .ok (.getfield 13, 3) := by decide +kernel
theorem dX5_load_33 : decode cX5_load 33 = .ok (.bipush 32, 2) := by decide +kernel
theorem dX5_load_35 : decode cX5_load 35 = .ok (.iload_n 1, 1) := by decide +kernel
theorem dX5_load_36 : decode cX5_load 36 = .ok (.imul, 1) := by decide +kernel
theorem dX5_load_37 : decode cX5_load 37 = .ok (.iload_n 2, 1) := by decide +kernel
theorem dX5_load_38 : decode cX5_load 38 = .ok (.iadd, 1) := by decide +kernel
theorem dX5_load_39 : decode cX5_load 39 = .ok (.iload_n 3, 1) := by decide +kernel
theorem dX5_load_40 : decode cX5_load 40 = .ok (.iastore, 1) := by decide +kernel
theorem dX5_load_41 : decode cX5_load 41 = .ok (.iconst 1, 1) := by decide +kernel
theorem dX5_load_42 : decode cX5_load 42 = .ok (.ireturn, 1) := by decide +kernel
theorem dX5_isCpu_0 : decode cX5_isCpu 0 = .ok (.iload_n 1, 1) := by decide +kernel
theorem dX5_isCpu_1 : decode cX5_isCpu 1 = .ok (.ifCond .lt 15, 3) := by decide +kernel
theorem dX5_isCpu_4 : decode cX5_isCpu 4 = .ok (.iload_n 1, 1) := by decide +kernel
theorem dX5_isCpu_5 : decode cX5_isCpu 5 = .ok (.aload_n 0, 1) := by decide +kernel
theorem dX5_isCpu_6 : decode cX5_isCpu 6 = .ok (.getfield 53, 3) := by decide +kernel
theorem dX5_isCpu_9 : decode cX5_isCpu 9 = .ok (.if_icmp .ge 7, 3) := by decide +kernel
theorem dX5_isCpu_12 : decode cX5_isCpu 12 = .ok (.iconst 1, 1) := by decide +kernel
theorem dX5_isCpu_13 : decode cX5_isCpu 13 = .ok (.goto 4, 3) := by decide +kernel
theorem dX5_isCpu_16 : decode cX5_isCpu 16 = .ok (.iconst 0, 1) := by decide +kernel
theorem dX5_isCpu_17 : decode cX5_isCpu 17 = .ok (.ireturn, 1) := by decide +kernel
theorem dX5_poke_0 : decode cX5_poke 0 = .ok (.aload_n 0, 1) := by decide +kernel
theorem dX5_poke_1 : decode cX5_poke 1 = .ok (.iload_n 1, 1) := by decide +kernel
theorem dX5_poke_2 : decode cX5_poke 2 = .ok (.invokevirtual 83, 3) := by decide +kernel
theorem dX5_poke_5 : decode cX5_poke 5 = .ok (.ifCond .eq 10, 3) := by decide +kernel
theorem dX5_poke_8 : decode cX5_poke 8 = .ok (.aload_n 0, 1) := by decide +kernel
theorem dX5_poke_9 : decode cX5_poke 9 = .ok (.getfield 79, 3) := by decide +kernel
theorem dX5_poke_12 : decode cX5_poke 12 = .ok (.ifCond .eq 5, 3) := by decide +kernel
theorem dX5_poke_15 : decode cX5_poke 15 = .ok (.iconst 0, 1) := by decide +kernel
theorem dX5_poke_16 : decode cX5_poke 16 = .ok (.ireturn, 1) := by decide +kernel
theorem dX5_poke_17 : decode cX5_poke 17 = .ok (.aload_n 0, 1) := by decide +kernel
theorem dX5_poke_18 : decode cX5_poke 18 = .ok (.getfield 7, 3) := by decide +kernel
theorem dX5_poke_21 : decode cX5_poke 21 = .ok (.iload_n 1, 1) := by decide +kernel
theorem dX5_poke_22 : decode cX5_poke 22 = .ok (.iload_n 2, 1) := by decide +kernel
theorem dX5_poke_23 : decode cX5_poke 23 = .ok (.iastore, 1) := by decide +kernel
theorem dX5_poke_24 : decode cX5_poke 24 = .ok (.iconst 1, 1) := by decide +kernel
theorem dX5_poke_25 : decode cX5_poke 25 = .ok (.ireturn, 1) := by decide +kernel
theorem dX5_isAddress_0 : decode cX5_isAddress 0 = .ok (.iload_n 1, 1) := by decide +kernel
theorem dX5_isAddress_1 : decode cX5_isAddress 1 = .ok (.ifCond .lt 15, 3) := by decide +kernel
theorem dX5_isAddress_4 : decode cX5_isAddress 4 = .ok (.iload_n 1, 1) := by decide +kernel
theorem dX5_isAddress_5 : decode cX5_isAddress 5 = .ok (.aload_n 0, 1) := by decide +kernel
theorem dX5_isAddress_6 : decode cX5_isAddress 6 = .ok (.getfield 63, 3) := by decide +kernel
theorem dX5_isAddress_9 : decode cX5_isAddress 9 = .ok (.if_icmp .ge 7, 3) := by decide +kernel
theorem dX5_isAddress_12 : decode cX5_isAddress 12 = .ok (.iconst 1, 1) := by decide +kernel
theorem dX5_isAddress_13 : decode cX5_isAddress 13 = .ok (.goto 4, 3) := by decide +kernel
theorem dX5_isAddress_16 : decode cX5_isAddress 16 = .ok (.iconst 0, 1) := by decide +kernel
theorem dX5_isAddress_17 : decode cX5_isAddress 17 = .ok (.ireturn, 1) := by decide +kernel
theorem dX5_step_0 : decode cX5_step 0 = .ok (.aload_n 0, 1) := by decide +kernel
theorem dX5_step_1 : decode cX5_step 1 = .ok (.iload_n 1, 1) := by decide +kernel
theorem dX5_step_2 : decode cX5_step 2 = .ok (.invokevirtual 75, 3) := by decide +kernel
theorem dX5_step_5 : decode cX5_step 5 = .ok (.ifCond .ne 5, 3) := by decide +kernel
theorem dX5_step_8 : decode cX5_step 8 = .ok (.iconst (-1), 1) := by decide +kernel
theorem dX5_step_9 : decode cX5_step 9 = .ok (.ireturn, 1) := by decide +kernel
theorem dX5_step_10 : decode cX5_step 10 = .ok (.aload_n 0, 1) := by decide +kernel
theorem dX5_step_11 : decode cX5_step 11 = .ok (.iconst 1, 1) := by decide +kernel
theorem dX5_step_12 : decode cX5_step 12 = .ok (.putfield 79, 3) := by decide +kernel
theorem dX5_step_15 : decode cX5_step 15 = .ok (.aload_n 0, 1) := by decide +kernel
theorem dX5_step_16 : decode cX5_step 16 = .ok (.getfield 22, 3) := by decide +kernel
theorem dX5_step_19 : decode cX5_step 19 = .ok (.iload_n 1, 1) := by decide +kernel
theorem dX5_step_20 : decode cX5_step 20 = .ok (.iaload, 1) := by decide +kernel
theorem dX5_step_21 : decode cX5_step 21 = .ok (.ifCond .eq 9, 3) := by decide +kernel
theorem dX5_step_24 : decode cX5_step 24 = .ok (.aload_n 0, 1) := by decide +kernel
theorem dX5_step_25 : decode cX5_step 25 = .ok (.iload_n 1, 1) := by decide +kernel
theorem dX5_step_26 : decode cX5_step 26 = .ok (.invokevirtual 100, 3) := by decide +kernel
theorem dX5_step_29 : decode cX5_step 29 = .ok (.ireturn, 1) := by decide +kernel
theorem dX5_step_30 : decode cX5_step 30 = .ok (.aload_n 0, 1) := by decide +kernel
theorem dX5_step_31 : decode cX5_step 31 = .ok (.getfield 19, 3) := by decide +kernel
theorem dX5_step_34 : decode cX5_step 34 = .ok (.iload_n 1, 1) := by decide +kernel
theorem dX5_step_35 : decode cX5_step 35 = .ok (.iaload, 1) := by decide +kernel
theorem dX5_step_36 : decode cX5_step 36 = .ok (.istore_n 2, 1) := by decide +kernel
theorem dX5_step_37 : decode cX5_step 37 = .ok (.iload_n 2, 1) := by decide +kernel
theorem dX5_step_38 : decode cX5_step 38 = .ok (.ifCond .lt 11, 3) := by decide +kernel
theorem dX5_step_41 : decode cX5_step 41 = .ok (.iload_n 2, 1) := by decide +kernel
theorem dX5_step_42 : decode cX5_step 42 = .ok (.aload_n 0, 1) := by decide +kernel
theorem dX5_step_43 : decode cX5_step 43 = .ok (.getfield 66, 3) := by decide +kernel
theorem dX5_step_46 : decode cX5_step 46 = .ok (.if_icmp .lt 9, 3) := by decide +kernel
theorem dX5_step_49 : decode cX5_step 49 = .ok (.aload_n 0, 1) := by decide +kernel
theorem dX5_step_50 : decode cX5_step 50 = .ok (.iload_n 1, 1) := by decide +kernel
theorem dX5_step_51 : decode cX5_step 51 = .ok (.invokevirtual 90, 3) := by decide +kernel
theorem dX5_step_54 : decode cX5_step 54 = .ok (.ireturn, 1) := by decide +kernel
theorem dX5_step_55 : decode cX5_step 55 = .ok (.aload_n 0, 1) := by decide +kernel
theorem dX5_step_56 : decode cX5_step 56 = .ok (.getfield 13, 3) := by decide +kernel
theorem dX5_step_59 : decode cX5_step 59 = .ok (.bipush 32, 2) := by decide +kernel
theorem dX5_step_61 : decode cX5_step 61 = .ok (.iload_n 1, 1) := by decide +kernel
theorem dX5_step_62 : decode cX5_step 62 = .ok (.imul, 1) := by decide +kernel
theorem dX5_step_63 : decode cX5_step 63 = .ok (.iload_n 2, 1) := by decide +kernel
theorem dX5_step_64 : decode cX5_step 64 = .ok (.iadd, 1) := by decide +kernel
theorem dX5_step_65 : decode cX5_step 65 = .ok (.iaload, 1) := by decide +kernel
theorem dX5_step_66 : decode cX5_step 66 = .ok (.istore_n 3, 1) := by decide +kernel
theorem dX5_step_67 : decode cX5_step 67 = .ok (.iload_n 3, 1) := by decide +kernel
theorem dX5_step_68 : decode cX5_step 68 = .ok (.bipush 15, 2) := by decide +kernel
theorem dX5_step_70 : decode cX5_step 70 = .ok (.iand, 1) := by decide +kernel
theorem dX5_step_71 : decode cX5_step 71 = .ok (.istore 4, 2) := by decide +kernel
theorem dX5_step_73 : decode cX5_step 73 = .ok (.iload_n 3, 1) := by decide +kernel
theorem dX5_step_74 : decode cX5_step 74 = .ok (.iconst 4, 1) := by decide +kernel
theorem dX5_step_75 : decode cX5_step 75 = .ok (.ishr, 1) := by decide +kernel
theorem dX5_step_76 : decode cX5_step 76 = .ok (.iconst 3, 1) := by decide +kernel
theorem dX5_step_77 : decode cX5_step 77 = .ok (.iand, 1) := by decide +kernel
theorem dX5_step_78 : decode cX5_step 78 = .ok (.istore 5, 2) := by decide +kernel
theorem dX5_step_80 : decode cX5_step 80 = .ok (.aload_n 0, 1) := by decide +kernel
theorem dX5_step_81 : decode cX5_step 81 = .ok (.getfield 16, 3) := by decide +kernel
theorem dX5_step_84 : decode cX5_step 84 = .ok (.iconst 4, 1) := by decide +kernel
theorem dX5_step_85 : decode cX5_step 85 = .ok (.iload_n 1, 1) := by decide +kernel
theorem dX5_step_86 : decode cX5_step 86 = .ok (.imul, 1) := by decide +kernel
theorem dX5_step_87 : decode cX5_step 87 = .ok (.iload_n 3, 1) := by decide +kernel
theorem dX5_step_88 : decode cX5_step 88 = .ok (.bipush 6, 2) := by decide +kernel
theorem dX5_step_90 : decode cX5_step 90 = .ok (.ishr, 1) := by decide +kernel
theorem dX5_step_91 : decode cX5_step 91 = .ok (.iconst 3, 1) := by decide +kernel
theorem dX5_step_92 : decode cX5_step 92 = .ok (.iand, 1) := by decide +kernel
theorem dX5_step_93 : decode cX5_step 93 = .ok (.iadd, 1) := by decide +kernel
theorem dX5_step_94 : decode cX5_step 94 = .ok (.iaload, 1) := by decide +kernel
theorem dX5_step_95 : decode cX5_step 95 = .ok (.istore 6, 2) := by decide +kernel
theorem dX5_step_97 : decode cX5_step 97 = .ok (.aload_n 0, 1) := by decide +kernel
theorem dX5_step_98 : decode cX5_step 98 = .ok (.getfield 16, 3) := by decide +kernel
theorem dX5_step_101 : decode cX5_step 101 = .ok (.iconst 4, 1) := by decide +kernel
theorem dX5_step_102 : decode cX5_step 102 = .ok (.iload_n 1, 1) := by decide +kernel
theorem dX5_step_103 : decode cX5_step 103 = .ok (.imul, 1) := by decide +kernel
theorem dX5_step_104 : decode cX5_step 104 = .ok (.iload_n 3, 1) := by decide +kernel
theorem dX5_step_105 : decode cX5_step 105 = .ok (.bipush 8, 2) := by decide +kernel
theorem dX5_step_107 : decode cX5_step 107 = .ok (.ishr, 1) := by decide +kernel
theorem dX5_step_108 : decode cX5_step 108 = .ok (.iconst 3, 1) := by decide +kernel
theorem dX5_step_109 : decode cX5_step 109 = .ok (.iand, 1) := by decide +kernel
theorem dX5_step_110 : decode cX5_step 110 = .ok (.iadd, 1) := by decide +kernel
theorem dX5_step_111 : decode cX5_step 111 = .ok (.iaload, 1) := by decide +kernel
theorem dX5_step_112 : decode cX5_step 112 = .ok (.istore 7, 2) := by decide +kernel
theorem dX5_step_114 : decode cX5_step 114 = .ok (.iload_n 3, 1) := by decide +kernel
theorem dX5_step_115 : decode cX5_step 115 = .ok (.bipush 10, 2) := by decide +kernel
theorem dX5_step_117 : decode cX5_step 117 = .ok (.ishr, 1) := by decide +kernel
theorem dX5_step_118 : decode cX5_step 118 = .ok (.istore 8, 2) := by decide +kernel
theorem dX5_step_120 : decode cX5_step 120 = .ok (.iconst 4, 1) := by decide +kernel
theorem dX5_step_121 : decode cX5_step 121 = .ok (.iload_n 1, 1) := by decide +kernel
theorem dX5_step_122 : decode cX5_step 122 = .ok (.imul, 1) := by decide +kernel
theorem dX5_step_123 : decode cX5_step 123 = .ok (.iload 5, 2) := by decide +kernel
theorem dX5_step_125 : decode cX5_step 125 = .ok (.iadd, 1) := by decide +kernel
theorem dX5_step_126 : decode cX5_step 126 = .ok (.istore 9, 2) := by decide +kernel
theorem dX5_step_128 : decode cX5_step 128 = .ok (.iload 4, 2) := by decide +kernel
theorem dX5_step_130 : decode cX5_step 130 = .ok (.tableswitch 212 0 11 #[62, 80, 92, 107, 122, 137, 152, 163, 187, 195, 195, 195], 62) := by decide +kernel
theorem dX5_step_192 : decode cX5_step 192 = .ok (.aload_n 0, 1) := by decide +kernel
theorem dX5_step_193 : decode cX5_step 193 = .ok (.getfield 22, 3) := by decide +kernel
theorem dX5_step_196 : decode cX5_step 196 = .ok (.iload_n 1, 1) := by decide +kernel
theorem dX5_step_197 : decode cX5_step 197 = .ok (.iconst 2, 1) := by decide +kernel
theorem dX5_step_198 : decode cX5_step 198 = .ok (.iastore, 1) := by decide +kernel
theorem dX5_step_199 : decode cX5_step 199 = .ok (.aload_n 0, 1) := by decide +kernel
theorem dX5_step_200 : decode cX5_step 200 = .ok (.iload_n 1, 1) := by decide +kernel
theorem dX5_step_201 : decode cX5_step 201 = .ok (.iload_n 2, 1) := by decide +kernel
theorem dX5_step_202 : decode cX5_step 202 = .ok (.iconst 1, 1) := by decide +kernel
theorem dX5_step_203 : decode cX5_step 203 = .ok (.iadd, 1) := by decide +kernel
theorem dX5_step_204 : decode cX5_step 204 = .ok (.invokevirtual 97, 3) := by decide +kernel
theorem dX5_step_207 : decode cX5_step 207 = .ok (.pop, 1) := by decide +kernel
theorem dX5_step_208 : decode cX5_step 208 = .ok (.iconst 3, 1) := by decide +kernel
theorem dX5_step_209 : decode cX5_step 209 = .ok (.ireturn, 1) := by decide +kernel
theorem dX5_step_210 : decode cX5_step 210 = .ok (.aload_n 0, 1) := by decide +kernel
theorem dX5_step_211 : decode cX5_step 211 = .ok (.getfield 16, 3) := by decide +kernel
theorem dX5_step_214 : decode cX5_step 214 = .ok (.iload 9, 2) := by decide +kernel
theorem dX5_step_216 : decode cX5_step 216 = .ok (.iload 8, 2) := by decide +kernel
theorem dX5_step_218 : decode cX5_step 218 = .ok (.iastore, 1) := by decide +kernel
theorem dX5_step_219 : decode cX5_step 219 = .ok (.goto 129, 3) := by decide +kernel
theorem dX5_step_222 : decode cX5_step 222 = .ok (.aload_n 0, 1) := by decide +kernel
theorem dX5_step_223 : decode cX5_step 223 = .ok (.getfield 16, 3) := by decide +kernel
theorem dX5_step_226 : decode cX5_step 226 = .ok (.iload 9, 2) := by decide +kernel
theorem dX5_step_228 : decode cX5_step 228 = .ok (.iload 6, 2) := by decide +kernel
theorem dX5_step_230 : decode cX5_step 230 = .ok (.iload 7, 2) := by decide +kernel
theorem dX5_step_232 : decode cX5_step 232 = .ok (.iadd, 1) := by decide +kernel
theorem dX5_step_233 : decode cX5_step 233 = .ok (.iastore, 1) := by decide +kernel
theorem dX5_step_234 : decode cX5_step 234 = .ok (.goto 114, 3) := by decide +kernel
theorem dX5_step_237 : decode cX5_step 237 = .ok (.aload_n 0, 1) := by decide +kernel
theorem dX5_step_238 : decode cX5_step 238 = .ok (.getfield 16, 3) := by decide +kernel
theorem dX5_step_241 : decode cX5_step 241 = .ok (.iload 9, 2) := by decide +kernel
theorem dX5_step_243 : decode cX5_step 243 = .ok (.iload 6, 2) := by decide +kernel
theorem dX5_step_245 : decode cX5_step 245 = .ok (.iload 7, 2) := by decide +kernel
theorem dX5_step_247 : decode cX5_step 247 = .ok (.isub, 1) := by decide +kernel
theorem dX5_step_248 : decode cX5_step 248 = .ok (.iastore, 1) := by decide +kernel
theorem dX5_step_249 : decode cX5_step 249 = .ok (.goto 99, 3) := by decide +kernel
theorem dX5_step_252 : decode cX5_step 252 = .ok (.aload_n 0, 1) := by decide +kernel
theorem dX5_step_253 : decode cX5_step 253 = .ok (.getfield 16, 3) := by decide +kernel
theorem dX5_step_256 : decode cX5_step 256 = .ok (.iload 9, 2) := by decide +kernel
theorem dX5_step_258 : decode cX5_step 258 = .ok (.iload 6, 2) := by decide +kernel
theorem dX5_step_260 : decode cX5_step 260 = .ok (.iload 7, 2) := by decide +kernel
theorem dX5_step_262 : decode cX5_step 262 = .ok (.imul, 1) := by decide +kernel
theorem dX5_step_263 : decode cX5_step 263 = .ok (.iastore, 1) := by decide +kernel
theorem dX5_step_264 : decode cX5_step 264 = .ok (.goto 84, 3) := by decide +kernel
theorem dX5_step_267 : decode cX5_step 267 = .ok (.aload_n 0, 1) := by decide +kernel
theorem dX5_step_268 : decode cX5_step 268 = .ok (.getfield 16, 3) := by decide +kernel
theorem dX5_step_271 : decode cX5_step 271 = .ok (.iload 9, 2) := by decide +kernel
theorem dX5_step_273 : decode cX5_step 273 = .ok (.iload 6, 2) := by decide +kernel
theorem dX5_step_275 : decode cX5_step 275 = .ok (.iload 8, 2) := by decide +kernel
theorem dX5_step_277 : decode cX5_step 277 = .ok (.iadd, 1) := by decide +kernel
theorem dX5_step_278 : decode cX5_step 278 = .ok (.iastore, 1) := by decide +kernel
theorem dX5_step_279 : decode cX5_step 279 = .ok (.goto 69, 3) := by decide +kernel
theorem dX5_step_282 : decode cX5_step 282 = .ok (.aload_n 0, 1) := by decide +kernel
theorem dX5_step_283 : decode cX5_step 283 = .ok (.getfield 16, 3) := by decide +kernel
theorem dX5_step_286 : decode cX5_step 286 = .ok (.iload 9, 2) := by decide +kernel
theorem dX5_step_288 : decode cX5_step 288 = .ok (.iload_n 1, 1) := by decide +kernel
theorem dX5_step_289 : decode cX5_step 289 = .ok (.iastore, 1) := by decide +kernel
theorem dX5_step_290 : decode cX5_step 290 = .ok (.goto 58, 3) := by decide +kernel
theorem dX5_step_293 : decode cX5_step 293 = .ok (.aload_n 0, 1) := by decide +kernel
theorem dX5_step_294 : decode cX5_step 294 = .ok (.iload_n 1, 1) := by decide +kernel
theorem dX5_step_295 : decode cX5_step 295 = .ok (.aload_n 0, 1) := by decide +kernel
theorem dX5_step_296 : decode cX5_step 296 = .ok (.getfield 16, 3) := by decide +kernel
theorem dX5_step_299 : decode cX5_step 299 = .ok (.iload 9, 2) := by decide +kernel
theorem dX5_step_301 : decode cX5_step 301 = .ok (.iaload, 1) := by decide +kernel
theorem dX5_step_302 : decode cX5_step 302 = .ok (.ifCond .ne 8, 3) := by decide +kernel
theorem dX5_step_305 : decode cX5_step 305 = .ok (.iload 8, 2) := by decide +kernel
theorem dX5_step_307 : decode cX5_step 307 = .ok (.goto 6, 3) := by decide +kernel
theorem dX5_step_310 : decode cX5_step 310 = .ok (.iload_n 2, 1) := by decide +kernel
theorem dX5_step_311 : decode cX5_step 311 = .ok (.iconst 1, 1) := by decide +kernel
theorem dX5_step_312 : decode cX5_step 312 = .ok (.iadd, 1) := by decide +kernel
theorem dX5_step_313 : decode cX5_step 313 = .ok (.invokevirtual 97, 3) := by decide +kernel
theorem dX5_step_316 : decode cX5_step 316 = .ok (.ireturn, 1) := by decide +kernel
theorem dX5_step_317 : decode cX5_step 317 = .ok (.aload_n 0, 1) := by decide +kernel
theorem dX5_step_318 : decode cX5_step 318 = .ok (.iload_n 1, 1) := by decide +kernel
theorem dX5_step_319 : decode cX5_step 319 = .ok (.iload 8, 2) := by decide +kernel
theorem dX5_step_321 : decode cX5_step 321 = .ok (.invokevirtual 97, 3) := by decide +kernel
theorem dX5_step_324 : decode cX5_step 324 = .ok (.ireturn, 1) := by decide +kernel
theorem dX5_step_325 : decode cX5_step 325 = .ok (.aload_n 0, 1) := by decide +kernel
theorem dX5_step_326 : decode cX5_step 326 = .ok (.iload_n 1, 1) := by decide +kernel
theorem dX5_step_327 : decode cX5_step 327 = .ok (.iload 4, 2) := by decide +kernel
theorem dX5_step_329 : decode cX5_step 329 = .ok (.iload 5, 2) := by decide +kernel
theorem dX5_step_331 : decode cX5_step 331 = .ok (.iload 7, 2) := by decide +kernel
theorem dX5_step_333 : decode cX5_step 333 = .ok (.iload 6, 2) := by decide +kernel
theorem dX5_step_335 : decode cX5_step 335 = .ok (.iload 8, 2) := by decide +kernel
theorem dX5_step_337 : decode cX5_step 337 = .ok (.iadd, 1) := by decide +kernel
theorem dX5_step_338 : decode cX5_step 338 = .ok (.invokevirtual 103, 3) := by decide +kernel
theorem dX5_step_341 : decode cX5_step 341 = .ok (.ireturn, 1) := by decide +kernel
theorem dX5_step_342 : decode cX5_step 342 = .ok (.aload_n 0, 1) := by decide +kernel
theorem dX5_step_343 : decode cX5_step 343 = .ok (.iload_n 1, 1) := by decide +kernel
theorem dX5_step_344 : decode cX5_step 344 = .ok (.invokevirtual 90, 3) := by decide +kernel
theorem dX5_step_347 : decode cX5_step 347 = .ok (.ireturn, 1) := by decide +kernel
theorem dX5_step_348 : decode cX5_step 348 = .ok (.aload_n 0, 1) := by decide +kernel
theorem dX5_step_349 : decode cX5_step 349 = .ok (.iload_n 1, 1) := by decide +kernel
theorem dX5_step_350 : decode cX5_step 350 = .ok (.iload_n 2, 1) := by decide +kernel
theorem dX5_step_351 : decode cX5_step 351 = .ok (.iconst 1, 1) := by decide +kernel
theorem dX5_step_352 : decode cX5_step 352 = .ok (.iadd, 1) := by decide +kernel
theorem dX5_step_353 : decode cX5_step 353 = .ok (.invokevirtual 97, 3) := by decide +kernel
theorem dX5_step_356 : decode cX5_step 356 = .ok (.ireturn, 1) := by decide +kernel
theorem dX5_answer_0 : decode cX5_answer 0 = .ok (.aload_n 0, 1) := by decide +kernel
theorem dX5_answer_1 : decode cX5_answer 1 = .ok (.getfield 22, 3) := by decide +kernel
theorem dX5_answer_4 : decode cX5_answer 4 = .ok (.iload_n 1, 1) := by decide +kernel
theorem dX5_answer_5 : decode cX5_answer 5 = .ok (.iaload, 1) := by decide +kernel
theorem dX5_answer_6 : decode cX5_answer 6 = .ok (.iconst 1, 1) := by decide +kernel
theorem dX5_answer_7 : decode cX5_answer 7 = .ok (.if_icmp .ne 7, 3) := by decide +kernel
theorem dX5_answer_10 : decode cX5_answer 10 = .ok (.iconst 2, 1) := by decide +kernel
theorem dX5_answer_11 : decode cX5_answer 11 = .ok (.goto 18, 3) := by decide +kernel
theorem dX5_answer_14 : decode cX5_answer 14 = .ok (.aload_n 0, 1) := by decide +kernel
theorem dX5_answer_15 : decode cX5_answer 15 = .ok (.getfield 22, 3) := by decide +kernel
theorem dX5_answer_18 : decode cX5_answer 18 = .ok (.iload_n 1, 1) := by decide +kernel
theorem dX5_answer_19 : decode cX5_answer 19 = .ok (.iaload, 1) := by decide +kernel
theorem dX5_answer_20 : decode cX5_answer 20 = .ok (.iconst 2, 1) := by decide +kernel
theorem dX5_answer_21 : decode cX5_answer 21 = .ok (.if_icmp .ne 7, 3) := by decide +kernel
theorem dX5_answer_24 : decode cX5_answer 24 = .ok (.iconst 3, 1) := by decide +kernel
theorem dX5_answer_25 : decode cX5_answer 25 = .ok (.goto 4, 3) := by decide +kernel
theorem dX5_answer_28 : decode cX5_answer 28 = .ok (.iconst 4, 1) := by decide +kernel
theorem dX5_answer_29 : decode cX5_answer 29 = .ok (.ireturn, 1) := by decide +kernel
theorem dX5_trap_0 : decode cX5_trap 0 = .ok (.aload_n 0, 1) := by decide +kernel
theorem dX5_trap_1 : decode cX5_trap 1 = .ok (.getfield 22, 3) := by decide +kernel
theorem dX5_trap_4 : decode cX5_trap 4 = .ok (.iload_n 1, 1) := by decide +kernel
theorem dX5_trap_5 : decode cX5_trap 5 = .ok (.iconst 3, 1) := by decide +kernel
theorem dX5_trap_6 : decode cX5_trap 6 = .ok (.iastore, 1) := by decide +kernel
theorem dX5_trap_7 : decode cX5_trap 7 = .ok (.iconst 4, 1) := by decide +kernel
theorem dX5_trap_8 : decode cX5_trap 8 = .ok (.ireturn, 1) := by decide +kernel
theorem dX5_done_0 : decode cX5_done 0 = .ok (.aload_n 0, 1) := by decide +kernel
theorem dX5_done_1 : decode cX5_done 1 = .ok (.getfield 19, 3) := by decide +kernel
theorem dX5_done_4 : decode cX5_done 4 = .ok (.iload_n 1, 1) := by decide +kernel
theorem dX5_done_5 : decode cX5_done 5 = .ok (.iload_n 2, 1) := by decide +kernel
theorem dX5_done_6 : decode cX5_done 6 = .ok (.iastore, 1) := by decide +kernel
theorem dX5_done_7 : decode cX5_done 7 = .ok (.aload_n 0, 1) := by decide +kernel
theorem dX5_done_8 : decode cX5_done 8 = .ok (.getfield 25, 3) := by decide +kernel
theorem dX5_done_11 : decode cX5_done 11 = .ok (.iload_n 1, 1) := by decide +kernel
theorem dX5_done_12 : decode cX5_done 12 = .ok (.dup2, 1) := by decide +kernel
theorem dX5_done_13 : decode cX5_done 13 = .ok (.iaload, 1) := by decide +kernel
theorem dX5_done_14 : decode cX5_done 14 = .ok (.iconst 1, 1) := by decide +kernel
theorem dX5_done_15 : decode cX5_done 15 = .ok (.iadd, 1) := by decide +kernel
theorem dX5_done_16 : decode cX5_done 16 = .ok (.iastore, 1) := by decide +kernel
theorem dX5_done_17 : decode cX5_done 17 = .ok (.iconst 1, 1) := by decide +kernel
theorem dX5_done_18 : decode cX5_done 18 = .ok (.ireturn, 1) := by decide +kernel
theorem dX5_move_0 : decode cX5_move 0 = .ok (.aload_n 0, 1) := by decide +kernel
theorem dX5_move_1 : decode cX5_move 1 = .ok (.iload 5, 2) := by decide +kernel
theorem dX5_move_3 : decode cX5_move 3 = .ok (.invokevirtual 83, 3) := by decide +kernel
theorem dX5_move_6 : decode cX5_move 6 = .ok (.ifCond .ne 9, 3) := by decide +kernel
theorem dX5_move_9 : decode cX5_move 9 = .ok (.aload_n 0, 1) := by decide +kernel
theorem dX5_move_10 : decode cX5_move 10 = .ok (.iload_n 1, 1) := by decide +kernel
theorem dX5_move_11 : decode cX5_move 11 = .ok (.invokevirtual 90, 3) := by decide +kernel
theorem dX5_move_14 : decode cX5_move 14 = .ok (.ireturn, 1) := by decide +kernel
theorem dX5_move_15 : decode cX5_move 15 = .ok (.iload 5, 2) := by decide +kernel
theorem dX5_move_17 : decode cX5_move 17 = .ok (.aload_n 0, 1) := by decide +kernel
theorem dX5_move_18 : decode cX5_move 18 = .ok (.getfield 60, 3) := by decide +kernel
theorem dX5_move_21 : decode cX5_move 21 = .ok (.idiv, 1) := by decide +kernel
theorem dX5_move_22 : decode cX5_move 22 = .ok (.istore 6, 2) := by decide +kernel
theorem dX5_move_24 : decode cX5_move 24 = .ok (.aload_n 0, 1) := by decide +kernel
theorem dX5_move_25 : decode cX5_move 25 = .ok (.iload_n 1, 1) := by decide +kernel
theorem dX5_move_26 : decode cX5_move 26 = .ok (.iload 6, 2) := by decide +kernel
theorem dX5_move_28 : decode cX5_move 28 = .ok (.invokevirtual 94, 3) := by decide +kernel
theorem dX5_move_31 : decode cX5_move 31 = .ok (.istore 7, 2) := by decide +kernel
theorem dX5_move_33 : decode cX5_move 33 = .ok (.iload_n 2, 1) := by decide +kernel
theorem dX5_move_34 : decode cX5_move 34 = .ok (.bipush 9, 2) := by decide +kernel
theorem dX5_move_36 : decode cX5_move 36 = .ok (.if_icmp .ne 11, 3) := by decide +kernel
theorem dX5_move_39 : decode cX5_move 39 = .ok (.iload 7, 2) := by decide +kernel
theorem dX5_move_41 : decode cX5_move 41 = .ok (.ifCond .ne 52, 3) := by decide +kernel
theorem dX5_move_44 : decode cX5_move 44 = .ok (.goto 15, 3) := by decide +kernel
theorem dX5_move_47 : decode cX5_move 47 = .ok (.iload 7, 2) := by decide +kernel
theorem dX5_move_49 : decode cX5_move 49 = .ok (.iconst 2, 1) := by decide +kernel
theorem dX5_move_50 : decode cX5_move 50 = .ok (.if_icmp .eq 43, 3) := by decide +kernel
theorem dX5_move_53 : decode cX5_move 53 = .ok (.iload 7, 2) := by decide +kernel
theorem dX5_move_55 : decode cX5_move 55 = .ok (.iconst 4, 1) := by decide +kernel
theorem dX5_move_56 : decode cX5_move 56 = .ok (.if_icmp .eq 37, 3) := by decide +kernel
theorem dX5_move_59 : decode cX5_move 59 = .ok (.aload_n 0, 1) := by decide +kernel
theorem dX5_move_60 : decode cX5_move 60 = .ok (.getfield 22, 3) := by decide +kernel
theorem dX5_move_63 : decode cX5_move 63 = .ok (.iload_n 1, 1) := by decide +kernel
theorem dX5_move_64 : decode cX5_move 64 = .ok (.iconst 1, 1) := by decide +kernel
theorem dX5_move_65 : decode cX5_move 65 = .ok (.iastore, 1) := by decide +kernel
theorem dX5_move_66 : decode cX5_move 66 = .ok (.aload_n 0, 1) := by decide +kernel
theorem dX5_move_67 : decode cX5_move 67 = .ok (.getfield 28, 3) := by decide +kernel
theorem dX5_move_70 : decode cX5_move 70 = .ok (.iload_n 1, 1) := by decide +kernel
theorem dX5_move_71 : decode cX5_move 71 = .ok (.iload_n 2, 1) := by decide +kernel
theorem dX5_move_72 : decode cX5_move 72 = .ok (.bipush 9, 2) := by decide +kernel
theorem dX5_move_74 : decode cX5_move 74 = .ok (.if_icmp .ne 7, 3) := by decide +kernel
theorem dX5_move_77 : decode cX5_move 77 = .ok (.iconst 1, 1) := by decide +kernel
theorem dX5_move_78 : decode cX5_move 78 = .ok (.goto 4, 3) := by decide +kernel
theorem dX5_move_81 : decode cX5_move 81 = .ok (.iconst 2, 1) := by decide +kernel
theorem dX5_move_82 : decode cX5_move 82 = .ok (.iastore, 1) := by decide +kernel
theorem dX5_move_83 : decode cX5_move 83 = .ok (.aload_n 0, 1) := by decide +kernel
theorem dX5_move_84 : decode cX5_move 84 = .ok (.getfield 31, 3) := by decide +kernel
theorem dX5_move_87 : decode cX5_move 87 = .ok (.iload_n 1, 1) := by decide +kernel
theorem dX5_move_88 : decode cX5_move 88 = .ok (.iload 6, 2) := by decide +kernel
theorem dX5_move_90 : decode cX5_move 90 = .ok (.iastore, 1) := by decide +kernel
theorem dX5_move_91 : decode cX5_move 91 = .ok (.iconst 2, 1) := by decide +kernel
theorem dX5_move_92 : decode cX5_move 92 = .ok (.ireturn, 1) := by decide +kernel
theorem dX5_move_93 : decode cX5_move 93 = .ok (.aload_n 0, 1) := by decide +kernel
theorem dX5_move_94 : decode cX5_move 94 = .ok (.iload_n 1, 1) := by decide +kernel
theorem dX5_move_95 : decode cX5_move 95 = .ok (.iload 6, 2) := by decide +kernel
theorem dX5_move_97 : decode cX5_move 97 = .ok (.invokevirtual 86, 3) := by decide +kernel
theorem dX5_move_100 : decode cX5_move 100 = .ok (.istore 8, 2) := by decide +kernel
theorem dX5_move_102 : decode cX5_move 102 = .ok (.iconst 4, 1) := by decide +kernel
theorem dX5_move_103 : decode cX5_move 103 = .ok (.iload 8, 2) := by decide +kernel
theorem dX5_move_105 : decode cX5_move 105 = .ok (.imul, 1) := by decide +kernel
theorem dX5_move_106 : decode cX5_move 106 = .ok (.iload 5, 2) := by decide +kernel
theorem dX5_move_108 : decode cX5_move 108 = .ok (.aload_n 0, 1) := by decide +kernel
theorem dX5_move_109 : decode cX5_move 109 = .ok (.getfield 60, 3) := by decide +kernel
theorem dX5_move_112 : decode cX5_move 112 = .ok (.irem, 1) := by decide +kernel
theorem dX5_move_113 : decode cX5_move 113 = .ok (.iadd, 1) := by decide +kernel
theorem dX5_move_114 : decode cX5_move 114 = .ok (.istore 9, 2) := by decide +kernel
theorem dX5_move_116 : decode cX5_move 116 = .ok (.iload_n 2, 1) := by decide +kernel
theorem dX5_move_117 : decode cX5_move 117 = .ok (.bipush 9, 2) := by decide +kernel
theorem dX5_move_119 : decode cX5_move 119 = .ok (.if_icmp .ne 34, 3) := by decide +kernel
theorem dX5_move_122 : decode cX5_move 122 = .ok (.aload_n 0, 1) := by decide +kernel
theorem dX5_move_123 : decode cX5_move 123 = .ok (.getfield 16, 3) := by decide +kernel
theorem dX5_move_126 : decode cX5_move 126 = .ok (.iconst 4, 1) := by decide +kernel
theorem dX5_move_127 : decode cX5_move 127 = .ok (.iload_n 1, 1) := by decide +kernel
theorem dX5_move_128 : decode cX5_move 128 = .ok (.imul, 1) := by decide +kernel
theorem dX5_move_129 : decode cX5_move 129 = .ok (.iload_n 3, 1) := by decide +kernel
theorem dX5_move_130 : decode cX5_move 130 = .ok (.iadd, 1) := by decide +kernel
theorem dX5_move_131 : decode cX5_move 131 = .ok (.aload_n 0, 1) := by decide +kernel
theorem dX5_move_132 : decode cX5_move 132 = .ok (.getfield 40, 3) := by decide +kernel
theorem dX5_move_135 : decode cX5_move 135 = .ok (.iload 9, 2) := by decide +kernel
theorem dX5_move_137 : decode cX5_move 137 = .ok (.iaload, 1) := by decide +kernel
theorem dX5_move_138 : decode cX5_move 138 = .ok (.iastore, 1) := by decide +kernel
theorem dX5_move_139 : decode cX5_move 139 = .ok (.aload_n 0, 1) := by decide +kernel
theorem dX5_move_140 : decode cX5_move 140 = .ok (.iload_n 1, 1) := by decide +kernel
theorem dX5_move_141 : decode cX5_move 141 = .ok (.aload_n 0, 1) := by decide +kernel
theorem dX5_move_142 : decode cX5_move 142 = .ok (.getfield 19, 3) := by decide +kernel
theorem dX5_move_145 : decode cX5_move 145 = .ok (.iload_n 1, 1) := by decide +kernel
theorem dX5_move_146 : decode cX5_move 146 = .ok (.iaload, 1) := by decide +kernel
theorem dX5_move_147 : decode cX5_move 147 = .ok (.iconst 1, 1) := by decide +kernel
theorem dX5_move_148 : decode cX5_move 148 = .ok (.iadd, 1) := by decide +kernel
theorem dX5_move_149 : decode cX5_move 149 = .ok (.invokevirtual 97, 3) := by decide +kernel
theorem dX5_move_152 : decode cX5_move 152 = .ok (.ireturn, 1) := by decide +kernel
theorem dX5_move_153 : decode cX5_move 153 = .ok (.aload_n 0, 1) := by decide +kernel
theorem dX5_move_154 : decode cX5_move 154 = .ok (.getfield 34, 3) := by decide +kernel
theorem dX5_move_157 : decode cX5_move 157 = .ok (.iload 8, 2) := by decide +kernel
theorem dX5_move_159 : decode cX5_move 159 = .ok (.iconst 4, 1) := by decide +kernel
theorem dX5_move_160 : decode cX5_move 160 = .ok (.iastore, 1) := by decide +kernel
theorem dX5_move_161 : decode cX5_move 161 = .ok (.iload_n 2, 1) := by decide +kernel
theorem dX5_move_162 : decode cX5_move 162 = .ok (.bipush 10, 2) := by decide +kernel
theorem dX5_move_164 : decode cX5_move 164 = .ok (.if_icmp .eq 15, 3) := by decide +kernel
theorem dX5_move_167 : decode cX5_move 167 = .ok (.aload_n 0, 1) := by decide +kernel
theorem dX5_move_168 : decode cX5_move 168 = .ok (.getfield 40, 3) := by decide +kernel
theorem dX5_move_171 : decode cX5_move 171 = .ok (.iload 9, 2) := by decide +kernel
theorem dX5_move_173 : decode cX5_move 173 = .ok (.iaload, 1) := by decide +kernel
theorem dX5_move_174 : decode cX5_move 174 = .ok (.iload 4, 2) := by decide +kernel
theorem dX5_move_176 : decode cX5_move 176 = .ok (.if_icmp .ne 7, 3) := by decide +kernel
theorem dX5_move_179 : decode cX5_move 179 = .ok (.iconst 1, 1) := by decide +kernel
theorem dX5_move_180 : decode cX5_move 180 = .ok (.goto 4, 3) := by decide +kernel
theorem dX5_move_183 : decode cX5_move 183 = .ok (.iconst 0, 1) := by decide +kernel
theorem dX5_move_184 : decode cX5_move 184 = .ok (.istore 10, 2) := by decide +kernel
theorem dX5_move_186 : decode cX5_move 186 = .ok (.iload 10, 2) := by decide +kernel
theorem dX5_move_188 : decode cX5_move 188 = .ok (.ifCond .eq 20, 3) := by decide +kernel
theorem dX5_move_191 : decode cX5_move 191 = .ok (.aload_n 0, 1) := by decide +kernel
theorem dX5_move_192 : decode cX5_move 192 = .ok (.getfield 40, 3) := by decide +kernel
theorem dX5_move_195 : decode cX5_move 195 = .ok (.iload 9, 2) := by decide +kernel
theorem dX5_move_197 : decode cX5_move 197 = .ok (.aload_n 0, 1) := by decide +kernel
theorem dX5_move_198 : decode cX5_move 198 = .ok (.getfield 16, 3) := by decide +kernel
theorem dX5_move_201 : decode cX5_move 201 = .ok (.iconst 4, 1) := by decide +kernel
theorem dX5_move_202 : decode cX5_move 202 = .ok (.iload_n 1, 1) := by decide +kernel
theorem dX5_move_203 : decode cX5_move 203 = .ok (.imul, 1) := by decide +kernel
theorem dX5_move_204 : decode cX5_move 204 = .ok (.iload_n 3, 1) := by decide +kernel
theorem dX5_move_205 : decode cX5_move 205 = .ok (.iadd, 1) := by decide +kernel
theorem dX5_move_206 : decode cX5_move 206 = .ok (.iaload, 1) := by decide +kernel
theorem dX5_move_207 : decode cX5_move 207 = .ok (.iastore, 1) := by decide +kernel
theorem dX5_move_208 : decode cX5_move 208 = .ok (.iload_n 2, 1) := by decide +kernel
theorem dX5_move_209 : decode cX5_move 209 = .ok (.bipush 11, 2) := by decide +kernel
theorem dX5_move_211 : decode cX5_move 211 = .ok (.if_icmp .ne 23, 3) := by decide +kernel
theorem dX5_move_214 : decode cX5_move 214 = .ok (.aload_n 0, 1) := by decide +kernel
theorem dX5_move_215 : decode cX5_move 215 = .ok (.getfield 16, 3) := by decide +kernel
theorem dX5_move_218 : decode cX5_move 218 = .ok (.iconst 4, 1) := by decide +kernel
theorem dX5_move_219 : decode cX5_move 219 = .ok (.iload_n 1, 1) := by decide +kernel
theorem dX5_move_220 : decode cX5_move 220 = .ok (.imul, 1) := by decide +kernel
theorem dX5_move_221 : decode cX5_move 221 = .ok (.iload_n 3, 1) := by decide +kernel
theorem dX5_move_222 : decode cX5_move 222 = .ok (.iadd, 1) := by decide +kernel
theorem dX5_move_223 : decode cX5_move 223 = .ok (.iload 10, 2) := by decide +kernel
theorem dX5_move_225 : decode cX5_move 225 = .ok (.ifCond .eq 7, 3) := by decide +kernel
theorem dX5_move_228 : decode cX5_move 228 = .ok (.iconst 1, 1) := by decide +kernel
theorem dX5_move_229 : decode cX5_move 229 = .ok (.goto 4, 3) := by decide +kernel
theorem dX5_move_232 : decode cX5_move 232 = .ok (.iconst 0, 1) := by decide +kernel
theorem dX5_move_233 : decode cX5_move 233 = .ok (.iastore, 1) := by decide +kernel
theorem dX5_move_234 : decode cX5_move 234 = .ok (.aload_n 0, 1) := by decide +kernel
theorem dX5_move_235 : decode cX5_move 235 = .ok (.iload_n 1, 1) := by decide +kernel
theorem dX5_move_236 : decode cX5_move 236 = .ok (.aload_n 0, 1) := by decide +kernel
theorem dX5_move_237 : decode cX5_move 237 = .ok (.getfield 19, 3) := by decide +kernel
theorem dX5_move_240 : decode cX5_move 240 = .ok (.iload_n 1, 1) := by decide +kernel
theorem dX5_move_241 : decode cX5_move 241 = .ok (.iaload, 1) := by decide +kernel
theorem dX5_move_242 : decode cX5_move 242 = .ok (.iconst 1, 1) := by decide +kernel
theorem dX5_move_243 : decode cX5_move 243 = .ok (.iadd, 1) := by decide +kernel
theorem dX5_move_244 : decode cX5_move 244 = .ok (.invokevirtual 97, 3) := by decide +kernel
theorem dX5_move_247 : decode cX5_move 247 = .ok (.ireturn, 1) := by decide +kernel
theorem dX5_stateOf_0 : decode cX5_stateOf 0 = .ok (.aload_n 0, 1) := by decide +kernel
theorem dX5_stateOf_1 : decode cX5_stateOf 1 = .ok (.iload_n 1, 1) := by decide +kernel
theorem dX5_stateOf_2 : decode cX5_stateOf 2 = .ok (.iload_n 2, 1) := by decide +kernel
theorem dX5_stateOf_3 : decode cX5_stateOf 3 = .ok (.invokevirtual 86, 3) := by decide +kernel
theorem dX5_stateOf_6 : decode cX5_stateOf 6 = .ok (.istore_n 3, 1) := by decide +kernel
theorem dX5_stateOf_7 : decode cX5_stateOf 7 = .ok (.aload_n 0, 1) := by decide +kernel
theorem dX5_stateOf_8 : decode cX5_stateOf 8 = .ok (.getfield 37, 3) := by decide +kernel
theorem dX5_stateOf_11 : decode cX5_stateOf 11 = .ok (.iload_n 3, 1) := by decide +kernel
theorem dX5_stateOf_12 : decode cX5_stateOf 12 = .ok (.iaload, 1) := by decide +kernel
theorem dX5_stateOf_13 : decode cX5_stateOf 13 = .ok (.iload_n 2, 1) := by decide +kernel
theorem dX5_stateOf_14 : decode cX5_stateOf 14 = .ok (.if_icmp .ne 12, 3) := by decide +kernel
theorem dX5_stateOf_17 : decode cX5_stateOf 17 = .ok (.aload_n 0, 1) := by decide +kernel
theorem dX5_stateOf_18 : decode cX5_stateOf 18 = .ok (.getfield 34, 3) := by decide +kernel
theorem dX5_stateOf_21 : decode cX5_stateOf 21 = .ok (.iload_n 3, 1) := by decide +kernel
theorem dX5_stateOf_22 : decode cX5_stateOf 22 = .ok (.iaload, 1) := by decide +kernel
theorem dX5_stateOf_23 : decode cX5_stateOf 23 = .ok (.goto 4, 3) := by decide +kernel
theorem dX5_stateOf_26 : decode cX5_stateOf 26 = .ok (.iconst 0, 1) := by decide +kernel
theorem dX5_stateOf_27 : decode cX5_stateOf 27 = .ok (.ireturn, 1) := by decide +kernel
theorem dX5_slotOf_0 : decode cX5_slotOf 0 = .ok (.bipush 8, 2) := by decide +kernel
theorem dX5_slotOf_2 : decode cX5_slotOf 2 = .ok (.iload_n 1, 1) := by decide +kernel
theorem dX5_slotOf_3 : decode cX5_slotOf 3 = .ok (.imul, 1) := by decide +kernel
theorem dX5_slotOf_4 : decode cX5_slotOf 4 = .ok (.iload_n 2, 1) := by decide +kernel
theorem dX5_slotOf_5 : decode cX5_slotOf 5 = .ok (.aload_n 0, 1) := by decide +kernel
theorem dX5_slotOf_6 : decode cX5_slotOf 6 = .ok (.getfield 57, 3) := by decide +kernel
theorem dX5_slotOf_9 : decode cX5_slotOf 9 = .ok (.irem, 1) := by decide +kernel
theorem dX5_slotOf_10 : decode cX5_slotOf 10 = .ok (.iadd, 1) := by decide +kernel
theorem dX5_slotOf_11 : decode cX5_slotOf 11 = .ok (.ireturn, 1) := by decide +kernel
theorem dX5_bus_0 : decode cX5_bus 0 = .ok (.aload_n 0, 1) := by decide +kernel
theorem dX5_bus_1 : decode cX5_bus 1 = .ok (.getfield 107, 3) := by decide +kernel
theorem dX5_bus_4 : decode cX5_bus 4 = .ok (.ifCond .ne 8, 3) := by decide +kernel
theorem dX5_bus_7 : decode cX5_bus 7 = .ok (.aload_n 0, 1) := by decide +kernel
theorem dX5_bus_8 : decode cX5_bus 8 = .ok (.invokevirtual 128, 3) := by decide +kernel
theorem dX5_bus_11 : decode cX5_bus 11 = .ok (.ireturn, 1) := by decide +kernel
theorem dX5_bus_12 : decode cX5_bus 12 = .ok (.aload_n 0, 1) := by decide +kernel
theorem dX5_bus_13 : decode cX5_bus 13 = .ok (.getfield 107, 3) := by decide +kernel
theorem dX5_bus_16 : decode cX5_bus 16 = .ok (.iconst 3, 1) := by decide +kernel
theorem dX5_bus_17 : decode cX5_bus 17 = .ok (.if_icmp .ne 8, 3) := by decide +kernel
theorem dX5_bus_20 : decode cX5_bus 20 = .ok (.aload_n 0, 1) := by decide +kernel
theorem dX5_bus_21 : decode cX5_bus 21 = .ok (.invokevirtual 132, 3) := by decide +kernel
theorem dX5_bus_24 : decode cX5_bus 24 = .ok (.ireturn, 1) := by decide +kernel
theorem dX5_bus_25 : decode cX5_bus 25 = .ok (.aload_n 0, 1) := by decide +kernel
theorem dX5_bus_26 : decode cX5_bus 26 = .ok (.aload_n 0, 1) := by decide +kernel
theorem dX5_bus_27 : decode cX5_bus 27 = .ok (.getfield 69, 3) := by decide +kernel
theorem dX5_bus_30 : decode cX5_bus 30 = .ok (.aload_n 0, 1) := by decide +kernel
theorem dX5_bus_31 : decode cX5_bus 31 = .ok (.getfield 72, 3) := by decide +kernel
theorem dX5_bus_34 : decode cX5_bus 34 = .ok (.invokevirtual 86, 3) := by decide +kernel
theorem dX5_bus_37 : decode cX5_bus 37 = .ok (.istore_n 1, 1) := by decide +kernel
theorem dX5_bus_38 : decode cX5_bus 38 = .ok (.aload_n 0, 1) := by decide +kernel
theorem dX5_bus_39 : decode cX5_bus 39 = .ok (.getfield 107, 3) := by decide +kernel
theorem dX5_bus_42 : decode cX5_bus 42 = .ok (.iconst 1, 1) := by decide +kernel
theorem dX5_bus_43 : decode cX5_bus 43 = .ok (.if_icmp .ne 44, 3) := by decide +kernel
theorem dX5_bus_46 : decode cX5_bus 46 = .ok (.aload_n 0, 1) := by decide +kernel
theorem dX5_bus_47 : decode cX5_bus 47 = .ok (.getfield 37, 3) := by decide +kernel
theorem dX5_bus_50 : decode cX5_bus 50 = .ok (.iload_n 1, 1) := by decide +kernel
theorem dX5_bus_51 : decode cX5_bus 51 = .ok (.iaload, 1) := by decide +kernel
theorem dX5_bus_52 : decode cX5_bus 52 = .ok (.aload_n 0, 1) := by decide +kernel
theorem dX5_bus_53 : decode cX5_bus 53 = .ok (.getfield 72, 3) := by decide +kernel
theorem dX5_bus_56 : decode cX5_bus 56 = .ok (.if_icmp .eq 31, 3) := by decide +kernel
theorem dX5_bus_59 : decode cX5_bus 59 = .ok (.aload_n 0, 1) := by decide +kernel
theorem dX5_bus_60 : decode cX5_bus 60 = .ok (.getfield 34, 3) := by decide +kernel
theorem dX5_bus_63 : decode cX5_bus 63 = .ok (.iload_n 1, 1) := by decide +kernel
theorem dX5_bus_64 : decode cX5_bus 64 = .ok (.iaload, 1) := by decide +kernel
theorem dX5_bus_65 : decode cX5_bus 65 = .ok (.invokestatic 118, 3) := by decide +kernel
theorem dX5_bus_68 : decode cX5_bus 68 = .ok (.ifCond .eq 19, 3) := by decide +kernel
theorem dX5_bus_71 : decode cX5_bus 71 = .ok (.aload_n 0, 1) := by decide +kernel
theorem dX5_bus_72 : decode cX5_bus 72 = .ok (.iload_n 1, 1) := by decide +kernel
theorem dX5_bus_73 : decode cX5_bus 73 = .ok (.invokevirtual 121, 3) := by decide +kernel
theorem dX5_bus_76 : decode cX5_bus 76 = .ok (.aload_n 0, 1) := by decide +kernel
theorem dX5_bus_77 : decode cX5_bus 77 = .ok (.iload_n 1, 1) := by decide +kernel
theorem dX5_bus_78 : decode cX5_bus 78 = .ok (.invokevirtual 125, 3) := by decide +kernel
theorem dX5_bus_81 : decode cX5_bus 81 = .ok (.aload_n 0, 1) := by decide +kernel
theorem dX5_bus_82 : decode cX5_bus 82 = .ok (.iconst 2, 1) := by decide +kernel
theorem dX5_bus_83 : decode cX5_bus 83 = .ok (.invokevirtual 113, 3) := by decide +kernel
theorem dX5_bus_86 : decode cX5_bus 86 = .ok (.ireturn, 1) := by decide +kernel
theorem dX5_bus_87 : decode cX5_bus 87 = .ok (.aload_n 0, 1) := by decide +kernel
theorem dX5_bus_88 : decode cX5_bus 88 = .ok (.invokevirtual 135, 3) := by decide +kernel
theorem dX5_bus_91 : decode cX5_bus 91 = .ok (.ireturn, 1) := by decide +kernel
theorem dX5_take_0 : decode cX5_take 0 = .ok (.iconst 0, 1) := by decide +kernel
theorem dX5_take_1 : decode cX5_take 1 = .ok (.istore_n 1, 1) := by decide +kernel
theorem dX5_take_2 : decode cX5_take 2 = .ok (.iload_n 1, 1) := by decide +kernel
theorem dX5_take_3 : decode cX5_take 3 = .ok (.aload_n 0, 1) := by decide +kernel
theorem dX5_take_4 : decode cX5_take 4 = .ok (.getfield 53, 3) := by decide +kernel
theorem dX5_take_7 : decode cX5_take 7 = .ok (.if_icmp .ge 18, 3) := by decide +kernel
theorem dX5_take_10 : decode cX5_take 10 = .ok (.aload_n 0, 1) := by decide +kernel
theorem dX5_take_11 : decode cX5_take 11 = .ok (.getfield 28, 3) := by decide +kernel
theorem dX5_take_14 : decode cX5_take 14 = .ok (.iload_n 1, 1) := by decide +kernel
theorem dX5_take_15 : decode cX5_take 15 = .ok (.iaload, 1) := by decide +kernel
theorem dX5_take_16 : decode cX5_take 16 = .ok (.ifCond .ne 9, 3) := by decide +kernel
theorem dX5_take_19 : decode cX5_take 19 = .ok (.iinc 1 1, 3) := by decide +kernel
theorem dX5_take_22 : decode cX5_take 22 = .ok (.goto (-20), 3) := by decide +kernel
theorem dX5_take_25 : decode cX5_take 25 = .ok (.iload_n 1, 1) := by decide +kernel
theorem dX5_take_26 : decode cX5_take 26 = .ok (.aload_n 0, 1) := by decide +kernel
theorem dX5_take_27 : decode cX5_take 27 = .ok (.getfield 53, 3) := by decide +kernel
theorem dX5_take_30 : decode cX5_take 30 = .ok (.if_icmp .ne 5, 3) := by decide +kernel
theorem dX5_take_33 : decode cX5_take 33 = .ok (.iconst 0, 1) := by decide +kernel
theorem dX5_take_34 : decode cX5_take 34 = .ok (.ireturn, 1) := by decide +kernel
theorem dX5_take_35 : decode cX5_take 35 = .ok (.aload_n 0, 1) := by decide +kernel
theorem dX5_take_36 : decode cX5_take 36 = .ok (.iload_n 1, 1) := by decide +kernel
theorem dX5_take_37 : decode cX5_take 37 = .ok (.putfield 69, 3) := by decide +kernel
theorem dX5_take_40 : decode cX5_take 40 = .ok (.aload_n 0, 1) := by decide +kernel
theorem dX5_take_41 : decode cX5_take 41 = .ok (.aload_n 0, 1) := by decide +kernel
theorem dX5_take_42 : decode cX5_take 42 = .ok (.getfield 28, 3) := by decide +kernel
theorem dX5_take_45 : decode cX5_take 45 = .ok (.iload_n 1, 1) := by decide +kernel
theorem dX5_take_46 : decode cX5_take 46 = .ok (.iaload, 1) := by decide +kernel
theorem dX5_take_47 : decode cX5_take 47 = .ok (.putfield 110, 3) := by decide +kernel
theorem dX5_take_50 : decode cX5_take 50 = .ok (.aload_n 0, 1) := by decide +kernel
theorem dX5_take_51 : decode cX5_take 51 = .ok (.aload_n 0, 1) := by decide +kernel
theorem dX5_take_52 : decode cX5_take 52 = .ok (.getfield 31, 3) := by decide +kernel
theorem dX5_take_55 : decode cX5_take 55 = .ok (.iload_n 1, 1) := by decide +kernel
theorem dX5_take_56 : decode cX5_take 56 = .ok (.iaload, 1) := by decide +kernel
theorem dX5_take_57 : decode cX5_take 57 = .ok (.putfield 72, 3) := by decide +kernel
theorem dX5_take_60 : decode cX5_take 60 = .ok (.aload_n 0, 1) := by decide +kernel
theorem dX5_take_61 : decode cX5_take 61 = .ok (.getfield 28, 3) := by decide +kernel
theorem dX5_take_64 : decode cX5_take 64 = .ok (.iload_n 1, 1) := by decide +kernel
theorem dX5_take_65 : decode cX5_take 65 = .ok (.iconst 0, 1) := by decide +kernel
theorem dX5_take_66 : decode cX5_take 66 = .ok (.iastore, 1) := by decide +kernel
theorem dX5_take_67 : decode cX5_take 67 = .ok (.aload_n 0, 1) := by decide +kernel
theorem dX5_take_68 : decode cX5_take 68 = .ok (.getfield 31, 3) := by decide +kernel
theorem dX5_take_71 : decode cX5_take 71 = .ok (.iload_n 1, 1) := by decide +kernel
theorem dX5_take_72 : decode cX5_take 72 = .ok (.iconst (-1), 1) := by decide +kernel
theorem dX5_take_73 : decode cX5_take 73 = .ok (.iastore, 1) := by decide +kernel
theorem dX5_take_74 : decode cX5_take 74 = .ok (.aload_n 0, 1) := by decide +kernel
theorem dX5_take_75 : decode cX5_take 75 = .ok (.iconst 1, 1) := by decide +kernel
theorem dX5_take_76 : decode cX5_take 76 = .ok (.invokevirtual 113, 3) := by decide +kernel
theorem dX5_take_79 : decode cX5_take 79 = .ok (.ireturn, 1) := by decide +kernel
theorem dX5_phase_0 : decode cX5_phase 0 = .ok (.aload_n 0, 1) := by decide +kernel
theorem dX5_phase_1 : decode cX5_phase 1 = .ok (.iload_n 1, 1) := by decide +kernel
theorem dX5_phase_2 : decode cX5_phase 2 = .ok (.iconst 4, 1) := by decide +kernel
theorem dX5_phase_3 : decode cX5_phase 3 = .ok (.if_icmp .ne 7, 3) := by decide +kernel
theorem dX5_phase_6 : decode cX5_phase 6 = .ok (.iconst 0, 1) := by decide +kernel
theorem dX5_phase_7 : decode cX5_phase 7 = .ok (.goto 4, 3) := by decide +kernel
theorem dX5_phase_10 : decode cX5_phase 10 = .ok (.iload_n 1, 1) := by decide +kernel
theorem dX5_phase_11 : decode cX5_phase 11 = .ok (.putfield 107, 3) := by decide +kernel
theorem dX5_phase_14 : decode cX5_phase 14 = .ok (.aload_n 0, 1) := by decide +kernel
theorem dX5_phase_15 : decode cX5_phase 15 = .ok (.getfield 46, 3) := by decide +kernel
theorem dX5_phase_18 : decode cX5_phase 18 = .ok (.iload_n 1, 1) := by decide +kernel
theorem dX5_phase_19 : decode cX5_phase 19 = .ok (.dup2, 1) := by decide +kernel
theorem dX5_phase_20 : decode cX5_phase 20 = .ok (.iaload, 1) := by decide +kernel
theorem dX5_phase_21 : decode cX5_phase 21 = .ok (.iconst 1, 1) := by decide +kernel
theorem dX5_phase_22 : decode cX5_phase 22 = .ok (.iadd, 1) := by decide +kernel
theorem dX5_phase_23 : decode cX5_phase 23 = .ok (.iastore, 1) := by decide +kernel
theorem dX5_phase_24 : decode cX5_phase 24 = .ok (.iload_n 1, 1) := by decide +kernel
theorem dX5_phase_25 : decode cX5_phase 25 = .ok (.ireturn, 1) := by decide +kernel
theorem dX5_supply_0 : decode cX5_supply 0 = .ok (.aload_n 0, 1) := by decide +kernel
theorem dX5_supply_1 : decode cX5_supply 1 = .ok (.aload_n 0, 1) := by decide +kernel
theorem dX5_supply_2 : decode cX5_supply 2 = .ok (.getfield 69, 3) := by decide +kernel
theorem dX5_supply_5 : decode cX5_supply 5 = .ok (.aload_n 0, 1) := by decide +kernel
theorem dX5_supply_6 : decode cX5_supply 6 = .ok (.getfield 72, 3) := by decide +kernel
theorem dX5_supply_9 : decode cX5_supply 9 = .ok (.invokevirtual 86, 3) := by decide +kernel
theorem dX5_supply_12 : decode cX5_supply 12 = .ok (.istore_n 1, 1) := by decide +kernel
theorem dX5_supply_13 : decode cX5_supply 13 = .ok (.aload_n 0, 1) := by decide +kernel
theorem dX5_supply_14 : decode cX5_supply 14 = .ok (.getfield 110, 3) := by decide +kernel
theorem dX5_supply_17 : decode cX5_supply 17 = .ok (.iconst 1, 1) := by decide +kernel
theorem dX5_supply_18 : decode cX5_supply 18 = .ok (.if_icmp .eq 18, 3) := by decide +kernel
theorem dX5_supply_21 : decode cX5_supply 21 = .ok (.aload_n 0, 1) := by decide +kernel
theorem dX5_supply_22 : decode cX5_supply 22 = .ok (.aload_n 0, 1) := by decide +kernel
theorem dX5_supply_23 : decode cX5_supply 23 = .ok (.getfield 69, 3) := by decide +kernel
theorem dX5_supply_26 : decode cX5_supply 26 = .ok (.aload_n 0, 1) := by decide +kernel
theorem dX5_supply_27 : decode cX5_supply 27 = .ok (.getfield 72, 3) := by decide +kernel
theorem dX5_supply_30 : decode cX5_supply 30 = .ok (.invokevirtual 94, 3) := by decide +kernel
theorem dX5_supply_33 : decode cX5_supply 33 = .ok (.ifCond .ne 35, 3) := by decide +kernel
theorem dX5_supply_36 : decode cX5_supply 36 = .ok (.iconst 0, 1) := by decide +kernel
theorem dX5_supply_37 : decode cX5_supply 37 = .ok (.istore_n 2, 1) := by decide +kernel
theorem dX5_supply_38 : decode cX5_supply 38 = .ok (.iload_n 2, 1) := by decide +kernel
theorem dX5_supply_39 : decode cX5_supply 39 = .ok (.aload_n 0, 1) := by decide +kernel
theorem dX5_supply_40 : decode cX5_supply 40 = .ok (.getfield 60, 3) := by decide +kernel
theorem dX5_supply_43 : decode cX5_supply 43 = .ok (.if_icmp .ge 25, 3) := by decide +kernel
theorem dX5_supply_46 : decode cX5_supply 46 = .ok (.aload_n 0, 1) := by decide +kernel
theorem dX5_supply_47 : decode cX5_supply 47 = .ok (.getfield 40, 3) := by decide +kernel
theorem dX5_supply_50 : decode cX5_supply 50 = .ok (.iconst 4, 1) := by decide +kernel
theorem dX5_supply_51 : decode cX5_supply 51 = .ok (.iload_n 1, 1) := by decide +kernel
theorem dX5_supply_52 : decode cX5_supply 52 = .ok (.imul, 1) := by decide +kernel
theorem dX5_supply_53 : decode cX5_supply 53 = .ok (.iload_n 2, 1) := by decide +kernel
theorem dX5_supply_54 : decode cX5_supply 54 = .ok (.iadd, 1) := by decide +kernel
theorem dX5_supply_55 : decode cX5_supply 55 = .ok (.aload_n 0, 1) := by decide +kernel
theorem dX5_supply_56 : decode cX5_supply 56 = .ok (.getfield 43, 3) := by decide +kernel
theorem dX5_supply_59 : decode cX5_supply 59 = .ok (.iload_n 2, 1) := by decide +kernel
theorem dX5_supply_60 : decode cX5_supply 60 = .ok (.iaload, 1) := by decide +kernel
theorem dX5_supply_61 : decode cX5_supply 61 = .ok (.iastore, 1) := by decide +kernel
theorem dX5_supply_62 : decode cX5_supply 62 = .ok (.iinc 2 1, 3) := by decide +kernel
theorem dX5_supply_65 : decode cX5_supply 65 = .ok (.goto (-27), 3) := by decide +kernel
theorem dX5_supply_68 : decode cX5_supply 68 = .ok (.aload_n 0, 1) := by decide +kernel
theorem dX5_supply_69 : decode cX5_supply 69 = .ok (.getfield 37, 3) := by decide +kernel
theorem dX5_supply_72 : decode cX5_supply 72 = .ok (.iload_n 1, 1) := by decide +kernel
theorem dX5_supply_73 : decode cX5_supply 73 = .ok (.aload_n 0, 1) := by decide +kernel
theorem dX5_supply_74 : decode cX5_supply 74 = .ok (.getfield 72, 3) := by decide +kernel
theorem dX5_supply_77 : decode cX5_supply 77 = .ok (.iastore, 1) := by decide +kernel
theorem dX5_supply_78 : decode cX5_supply 78 = .ok (.aload_n 0, 1) := by decide +kernel
theorem dX5_supply_79 : decode cX5_supply 79 = .ok (.getfield 34, 3) := by decide +kernel
theorem dX5_supply_82 : decode cX5_supply 82 = .ok (.iload_n 1, 1) := by decide +kernel
theorem dX5_supply_83 : decode cX5_supply 83 = .ok (.aload_n 0, 1) := by decide +kernel
theorem dX5_supply_84 : decode cX5_supply 84 = .ok (.getfield 110, 3) := by decide +kernel
theorem dX5_supply_87 : decode cX5_supply 87 = .ok (.iconst 2, 1) := by decide +kernel
theorem dX5_supply_88 : decode cX5_supply 88 = .ok (.if_icmp .ne 7, 3) := by decide +kernel
theorem dX5_supply_91 : decode cX5_supply 91 = .ok (.iconst 4, 1) := by decide +kernel
theorem dX5_supply_92 : decode cX5_supply 92 = .ok (.goto 15, 3) := by decide +kernel
theorem dX5_supply_95 : decode cX5_supply 95 = .ok (.aload_n 0, 1) := by decide +kernel
theorem dX5_supply_96 : decode cX5_supply 96 = .ok (.getfield 115, 3) := by decide +kernel
theorem dX5_supply_99 : decode cX5_supply 99 = .ok (.ifCond .eq 7, 3) := by decide +kernel
theorem dX5_supply_102 : decode cX5_supply 102 = .ok (.iconst 1, 1) := by decide +kernel
theorem dX5_supply_103 : decode cX5_supply 103 = .ok (.goto 4, 3) := by decide +kernel
theorem dX5_supply_106 : decode cX5_supply 106 = .ok (.iconst 2, 1) := by decide +kernel
theorem dX5_supply_107 : decode cX5_supply 107 = .ok (.iastore, 1) := by decide +kernel
theorem dX5_supply_108 : decode cX5_supply 108 = .ok (.aload_n 0, 1) := by decide +kernel
theorem dX5_supply_109 : decode cX5_supply 109 = .ok (.getfield 22, 3) := by decide +kernel
theorem dX5_supply_112 : decode cX5_supply 112 = .ok (.aload_n 0, 1) := by decide +kernel
theorem dX5_supply_113 : decode cX5_supply 113 = .ok (.getfield 69, 3) := by decide +kernel
theorem dX5_supply_116 : decode cX5_supply 116 = .ok (.iconst 0, 1) := by decide +kernel
theorem dX5_supply_117 : decode cX5_supply 117 = .ok (.iastore, 1) := by decide +kernel
theorem dX5_supply_118 : decode cX5_supply 118 = .ok (.aload_n 0, 1) := by decide +kernel
theorem dX5_supply_119 : decode cX5_supply 119 = .ok (.iconst (-1), 1) := by decide +kernel
theorem dX5_supply_120 : decode cX5_supply 120 = .ok (.putfield 69, 3) := by decide +kernel
theorem dX5_supply_123 : decode cX5_supply 123 = .ok (.aload_n 0, 1) := by decide +kernel
theorem dX5_supply_124 : decode cX5_supply 124 = .ok (.iconst 0, 1) := by decide +kernel
theorem dX5_supply_125 : decode cX5_supply 125 = .ok (.putfield 110, 3) := by decide +kernel
theorem dX5_supply_128 : decode cX5_supply 128 = .ok (.aload_n 0, 1) := by decide +kernel
theorem dX5_supply_129 : decode cX5_supply 129 = .ok (.iconst (-1), 1) := by decide +kernel
theorem dX5_supply_130 : decode cX5_supply 130 = .ok (.putfield 72, 3) := by decide +kernel
theorem dX5_supply_133 : decode cX5_supply 133 = .ok (.aload_n 0, 1) := by decide +kernel
theorem dX5_supply_134 : decode cX5_supply 134 = .ok (.iconst 4, 1) := by decide +kernel
theorem dX5_supply_135 : decode cX5_supply 135 = .ok (.invokevirtual 113, 3) := by decide +kernel
theorem dX5_supply_138 : decode cX5_supply 138 = .ok (.ireturn, 1) := by decide +kernel
theorem dX5_isDirty_0 : decode cX5_isDirty 0 = .ok (.iload_n 0, 1) := by decide +kernel
theorem dX5_isDirty_1 : decode cX5_isDirty 1 = .ok (.iconst 3, 1) := by decide +kernel
theorem dX5_isDirty_2 : decode cX5_isDirty 2 = .ok (.if_icmp .eq 8, 3) := by decide +kernel
theorem dX5_isDirty_5 : decode cX5_isDirty 5 = .ok (.iload_n 0, 1) := by decide +kernel
theorem dX5_isDirty_6 : decode cX5_isDirty 6 = .ok (.iconst 4, 1) := by decide +kernel
theorem dX5_isDirty_7 : decode cX5_isDirty 7 = .ok (.if_icmp .ne 7, 3) := by decide +kernel
theorem dX5_isDirty_10 : decode cX5_isDirty 10 = .ok (.iconst 1, 1) := by decide +kernel
theorem dX5_isDirty_11 : decode cX5_isDirty 11 = .ok (.goto 4, 3) := by decide +kernel
theorem dX5_isDirty_14 : decode cX5_isDirty 14 = .ok (.iconst 0, 1) := by decide +kernel
theorem dX5_isDirty_15 : decode cX5_isDirty 15 = .ok (.ireturn, 1) := by decide +kernel
theorem dX5_writeBack_0 : decode cX5_writeBack 0 = .ok (.iconst 0, 1) := by decide +kernel
theorem dX5_writeBack_1 : decode cX5_writeBack 1 = .ok (.istore_n 2, 1) := by decide +kernel
theorem dX5_writeBack_2 : decode cX5_writeBack 2 = .ok (.iload_n 2, 1) := by decide +kernel
theorem dX5_writeBack_3 : decode cX5_writeBack 3 = .ok (.aload_n 0, 1) := by decide +kernel
theorem dX5_writeBack_4 : decode cX5_writeBack 4 = .ok (.getfield 60, 3) := by decide +kernel
theorem dX5_writeBack_7 : decode cX5_writeBack 7 = .ok (.if_icmp .ge 37, 3) := by decide +kernel
theorem dX5_writeBack_10 : decode cX5_writeBack 10 = .ok (.aload_n 0, 1) := by decide +kernel
theorem dX5_writeBack_11 : decode cX5_writeBack 11 = .ok (.getfield 7, 3) := by decide +kernel
theorem dX5_writeBack_14 : decode cX5_writeBack 14 = .ok (.aload_n 0, 1) := by decide +kernel
theorem dX5_writeBack_15 : decode cX5_writeBack 15 = .ok (.getfield 60, 3) := by decide +kernel
theorem dX5_writeBack_18 : decode cX5_writeBack 18 = .ok (.aload_n 0, 1) := by decide +kernel
theorem dX5_writeBack_19 : decode cX5_writeBack 19 = .ok (.getfield 37, 3) := by decide +kernel
theorem dX5_writeBack_22 : decode cX5_writeBack 22 = .ok (.iload_n 1, 1) := by decide +kernel
theorem dX5_writeBack_23 : decode cX5_writeBack 23 = .ok (.iaload, 1) := by decide +kernel
theorem dX5_writeBack_24 : decode cX5_writeBack 24 = .ok (.imul, 1) := by decide +kernel
theorem dX5_writeBack_25 : decode cX5_writeBack 25 = .ok (.iload_n 2, 1) := by decide +kernel
theorem dX5_writeBack_26 : decode cX5_writeBack 26 = .ok (.iadd, 1) := by decide +kernel
theorem dX5_writeBack_27 : decode cX5_writeBack 27 = .ok (.aload_n 0, 1) := by decide +kernel
theorem dX5_writeBack_28 : decode cX5_writeBack 28 = .ok (.getfield 40, 3) := by decide +kernel
theorem dX5_writeBack_31 : decode cX5_writeBack 31 = .ok (.iconst 4, 1) := by decide +kernel
theorem dX5_writeBack_32 : decode cX5_writeBack 32 = .ok (.iload_n 1, 1) := by decide +kernel
theorem dX5_writeBack_33 : decode cX5_writeBack 33 = .ok (.imul, 1) := by decide +kernel
theorem dX5_writeBack_34 : decode cX5_writeBack 34 = .ok (.iload_n 2, 1) := by decide +kernel
theorem dX5_writeBack_35 : decode cX5_writeBack 35 = .ok (.iadd, 1) := by decide +kernel
theorem dX5_writeBack_36 : decode cX5_writeBack 36 = .ok (.iaload, 1) := by decide +kernel
theorem dX5_writeBack_37 : decode cX5_writeBack 37 = .ok (.iastore, 1) := by decide +kernel
theorem dX5_writeBack_38 : decode cX5_writeBack 38 = .ok (.iinc 2 1, 3) := by decide +kernel
theorem dX5_writeBack_41 : decode cX5_writeBack 41 = .ok (.goto (-39), 3) := by decide +kernel
theorem dX5_writeBack_44 : decode cX5_writeBack 44 = .ok (.return_, 1) := by decide +kernel
theorem dX5_empty_0 : decode cX5_empty 0 = .ok (.aload_n 0, 1) := by decide +kernel
theorem dX5_empty_1 : decode cX5_empty 1 = .ok (.getfield 34, 3) := by decide +kernel
theorem dX5_empty_4 : decode cX5_empty 4 = .ok (.iload_n 1, 1) := by decide +kernel
theorem dX5_empty_5 : decode cX5_empty 5 = .ok (.iconst 0, 1) := by decide +kernel
theorem dX5_empty_6 : decode cX5_empty 6 = .ok (.iastore, 1) := by decide +kernel
theorem dX5_empty_7 : decode cX5_empty 7 = .ok (.aload_n 0, 1) := by decide +kernel
theorem dX5_empty_8 : decode cX5_empty 8 = .ok (.getfield 37, 3) := by decide +kernel
theorem dX5_empty_11 : decode cX5_empty 11 = .ok (.iload_n 1, 1) := by decide +kernel
theorem dX5_empty_12 : decode cX5_empty 12 = .ok (.iconst (-1), 1) := by decide +kernel
theorem dX5_empty_13 : decode cX5_empty 13 = .ok (.iastore, 1) := by decide +kernel
theorem dX5_empty_14 : decode cX5_empty 14 = .ok (.iconst 0, 1) := by decide +kernel
theorem dX5_empty_15 : decode cX5_empty 15 = .ok (.istore_n 2, 1) := by decide +kernel
theorem dX5_empty_16 : decode cX5_empty 16 = .ok (.iload_n 2, 1) := by decide +kernel
theorem dX5_empty_17 : decode cX5_empty 17 = .ok (.iconst 4, 1) := by decide +kernel
theorem dX5_empty_18 : decode cX5_empty 18 = .ok (.if_icmp .ge 20, 3) := by decide +kernel
theorem dX5_empty_21 : decode cX5_empty 21 = .ok (.aload_n 0, 1) := by decide +kernel
theorem dX5_empty_22 : decode cX5_empty 22 = .ok (.getfield 40, 3) := by decide +kernel
theorem dX5_empty_25 : decode cX5_empty 25 = .ok (.iconst 4, 1) := by decide +kernel
theorem dX5_empty_26 : decode cX5_empty 26 = .ok (.iload_n 1, 1) := by decide +kernel
theorem dX5_empty_27 : decode cX5_empty 27 = .ok (.imul, 1) := by decide +kernel
theorem dX5_empty_28 : decode cX5_empty 28 = .ok (.iload_n 2, 1) := by decide +kernel
theorem dX5_empty_29 : decode cX5_empty 29 = .ok (.iadd, 1) := by decide +kernel
theorem dX5_empty_30 : decode cX5_empty 30 = .ok (.iconst 0, 1) := by decide +kernel
theorem dX5_empty_31 : decode cX5_empty 31 = .ok (.iastore, 1) := by decide +kernel
theorem dX5_empty_32 : decode cX5_empty 32 = .ok (.iinc 2 1, 3) := by decide +kernel
theorem dX5_empty_35 : decode cX5_empty 35 = .ok (.goto (-19), 3) := by decide +kernel
theorem dX5_empty_38 : decode cX5_empty 38 = .ok (.return_, 1) := by decide +kernel
theorem dX5_snoop_0 : decode cX5_snoop 0 = .ok (.aload_n 0, 1) := by decide +kernel
theorem dX5_snoop_1 : decode cX5_snoop 1 = .ok (.iconst 0, 1) := by decide +kernel
theorem dX5_snoop_2 : decode cX5_snoop 2 = .ok (.putfield 115, 3) := by decide +kernel
theorem dX5_snoop_5 : decode cX5_snoop 5 = .ok (.iconst 0, 1) := by decide +kernel
theorem dX5_snoop_6 : decode cX5_snoop 6 = .ok (.istore_n 1, 1) := by decide +kernel
theorem dX5_snoop_7 : decode cX5_snoop 7 = .ok (.iload_n 1, 1) := by decide +kernel
theorem dX5_snoop_8 : decode cX5_snoop 8 = .ok (.aload_n 0, 1) := by decide +kernel
theorem dX5_snoop_9 : decode cX5_snoop 9 = .ok (.getfield 60, 3) := by decide +kernel
theorem dX5_snoop_12 : decode cX5_snoop 12 = .ok (.if_icmp .ge 31, 3) := by decide +kernel
theorem dX5_snoop_15 : decode cX5_snoop 15 = .ok (.aload_n 0, 1) := by decide +kernel
theorem dX5_snoop_16 : decode cX5_snoop 16 = .ok (.getfield 43, 3) := by decide +kernel
theorem dX5_snoop_19 : decode cX5_snoop 19 = .ok (.iload_n 1, 1) := by decide +kernel
theorem dX5_snoop_20 : decode cX5_snoop 20 = .ok (.aload_n 0, 1) := by decide +kernel
theorem dX5_snoop_21 : decode cX5_snoop 21 = .ok (.getfield 7, 3) := by decide +kernel
theorem dX5_snoop_24 : decode cX5_snoop 24 = .ok (.aload_n 0, 1) := by decide +kernel
theorem dX5_snoop_25 : decode cX5_snoop 25 = .ok (.getfield 60, 3) := by decide +kernel
theorem dX5_snoop_28 : decode cX5_snoop 28 = .ok (.aload_n 0, 1) := by decide +kernel
theorem dX5_snoop_29 : decode cX5_snoop 29 = .ok (.getfield 72, 3) := by decide +kernel
theorem dX5_snoop_32 : decode cX5_snoop 32 = .ok (.imul, 1) := by decide +kernel
theorem dX5_snoop_33 : decode cX5_snoop 33 = .ok (.iload_n 1, 1) := by decide +kernel
theorem dX5_snoop_34 : decode cX5_snoop 34 = .ok (.iadd, 1) := by decide +kernel
theorem dX5_snoop_35 : decode cX5_snoop 35 = .ok (.iaload, 1) := by decide +kernel
theorem dX5_snoop_36 : decode cX5_snoop 36 = .ok (.iastore, 1) := by decide +kernel
theorem dX5_snoop_37 : decode cX5_snoop 37 = .ok (.iinc 1 1, 3) := by decide +kernel
theorem dX5_snoop_40 : decode cX5_snoop 40 = .ok (.goto (-33), 3) := by decide +kernel
theorem dX5_snoop_43 : decode cX5_snoop 43 = .ok (.iconst 0, 1) := by decide +kernel
theorem dX5_snoop_44 : decode cX5_snoop 44 = .ok (.istore_n 1, 1) := by decide +kernel
theorem dX5_snoop_45 : decode cX5_snoop 45 = .ok (.iload_n 1, 1) := by decide +kernel
theorem dX5_snoop_46 : decode cX5_snoop 46 = .ok (.aload_n 0, 1) := by decide +kernel
theorem dX5_snoop_47 : decode cX5_snoop 47 = .ok (.getfield 53, 3) := by decide +kernel
theorem dX5_snoop_50 : decode cX5_snoop 50 = .ok (.if_icmp .ge 150, 3) := by decide +kernel
theorem dX5_snoop_53 : decode cX5_snoop 53 = .ok (.aload_n 0, 1) := by decide +kernel
theorem dX5_snoop_54 : decode cX5_snoop 54 = .ok (.iload_n 1, 1) := by decide +kernel
theorem dX5_snoop_55 : decode cX5_snoop 55 = .ok (.aload_n 0, 1) := by decide +kernel
theorem dX5_snoop_56 : decode cX5_snoop 56 = .ok (.getfield 72, 3) := by decide +kernel
theorem dX5_snoop_59 : decode cX5_snoop 59 = .ok (.invokevirtual 86, 3) := by decide +kernel
theorem dX5_snoop_62 : decode cX5_snoop 62 = .ok (.istore_n 2, 1) := by decide +kernel
theorem dX5_snoop_63 : decode cX5_snoop 63 = .ok (.aload_n 0, 1) := by decide +kernel
theorem dX5_snoop_64 : decode cX5_snoop 64 = .ok (.iload_n 1, 1) := by decide +kernel
theorem dX5_snoop_65 : decode cX5_snoop 65 = .ok (.aload_n 0, 1) := by decide +kernel
theorem dX5_snoop_66 : decode cX5_snoop 66 = .ok (.getfield 72, 3) := by decide +kernel
theorem dX5_snoop_69 : decode cX5_snoop 69 = .ok (.invokevirtual 94, 3) := by decide +kernel
theorem dX5_snoop_72 : decode cX5_snoop 72 = .ok (.istore_n 3, 1) := by decide +kernel
theorem dX5_snoop_73 : decode cX5_snoop 73 = .ok (.iload_n 1, 1) := by decide +kernel
theorem dX5_snoop_74 : decode cX5_snoop 74 = .ok (.aload_n 0, 1) := by decide +kernel
theorem dX5_snoop_75 : decode cX5_snoop 75 = .ok (.getfield 69, 3) := by decide +kernel
theorem dX5_snoop_78 : decode cX5_snoop 78 = .ok (.if_icmp .eq 116, 3) := by decide +kernel
theorem dX5_snoop_81 : decode cX5_snoop 81 = .ok (.iload_n 3, 1) := by decide +kernel
theorem dX5_snoop_82 : decode cX5_snoop 82 = .ok (.ifCond .eq 112, 3) := by decide +kernel
theorem dX5_snoop_85 : decode cX5_snoop 85 = .ok (.aload_n 0, 1) := by decide +kernel
theorem dX5_snoop_86 : decode cX5_snoop 86 = .ok (.iconst 1, 1) := by decide +kernel
theorem dX5_snoop_87 : decode cX5_snoop 87 = .ok (.putfield 115, 3) := by decide +kernel
theorem dX5_snoop_90 : decode cX5_snoop 90 = .ok (.iconst 0, 1) := by decide +kernel
theorem dX5_snoop_91 : decode cX5_snoop 91 = .ok (.istore 4, 2) := by decide +kernel
theorem dX5_snoop_93 : decode cX5_snoop 93 = .ok (.iload 4, 2) := by decide +kernel
theorem dX5_snoop_95 : decode cX5_snoop 95 = .ok (.aload_n 0, 1) := by decide +kernel
theorem dX5_snoop_96 : decode cX5_snoop 96 = .ok (.getfield 60, 3) := by decide +kernel
theorem dX5_snoop_99 : decode cX5_snoop 99 = .ok (.if_icmp .ge 34, 3) := by decide +kernel
theorem dX5_snoop_102 : decode cX5_snoop 102 = .ok (.iload_n 3, 1) := by decide +kernel
theorem dX5_snoop_103 : decode cX5_snoop 103 = .ok (.invokestatic 118, 3) := by decide +kernel
theorem dX5_snoop_106 : decode cX5_snoop 106 = .ok (.ifCond .eq 27, 3) := by decide +kernel
theorem dX5_snoop_109 : decode cX5_snoop 109 = .ok (.aload_n 0, 1) := by decide +kernel
theorem dX5_snoop_110 : decode cX5_snoop 110 = .ok (.getfield 43, 3) := by decide +kernel
theorem dX5_snoop_113 : decode cX5_snoop 113 = .ok (.iload 4, 2) := by decide +kernel
theorem dX5_snoop_115 : decode cX5_snoop 115 = .ok (.aload_n 0, 1) := by decide +kernel
theorem dX5_snoop_116 : decode cX5_snoop 116 = .ok (.getfield 40, 3) := by decide +kernel
theorem dX5_snoop_119 : decode cX5_snoop 119 = .ok (.iconst 4, 1) := by decide +kernel
theorem dX5_snoop_120 : decode cX5_snoop 120 = .ok (.iload_n 2, 1) := by decide +kernel
theorem dX5_snoop_121 : decode cX5_snoop 121 = .ok (.imul, 1) := by decide +kernel
theorem dX5_snoop_122 : decode cX5_snoop 122 = .ok (.iload 4, 2) := by decide +kernel
theorem dX5_snoop_124 : decode cX5_snoop 124 = .ok (.iadd, 1) := by decide +kernel
theorem dX5_snoop_125 : decode cX5_snoop 125 = .ok (.iaload, 1) := by decide +kernel
theorem dX5_snoop_126 : decode cX5_snoop 126 = .ok (.iastore, 1) := by decide +kernel
theorem dX5_snoop_127 : decode cX5_snoop 127 = .ok (.iinc 4 1, 3) := by decide +kernel
theorem dX5_snoop_130 : decode cX5_snoop 130 = .ok (.goto (-37), 3) := by decide +kernel
theorem dX5_snoop_133 : decode cX5_snoop 133 = .ok (.aload_n 0, 1) := by decide +kernel
theorem dX5_snoop_134 : decode cX5_snoop 134 = .ok (.getfield 110, 3) := by decide +kernel
theorem dX5_snoop_137 : decode cX5_snoop 137 = .ok (.iconst 2, 1) := by decide +kernel
theorem dX5_snoop_138 : decode cX5_snoop 138 = .ok (.if_icmp .ne 15, 3) := by decide +kernel
theorem dX5_snoop_141 : decode cX5_snoop 141 = .ok (.iload_n 3, 1) := by decide +kernel
theorem dX5_snoop_142 : decode cX5_snoop 142 = .ok (.invokestatic 118, 3) := by decide +kernel
theorem dX5_snoop_145 : decode cX5_snoop 145 = .ok (.ifCond .eq 8, 3) := by decide +kernel
theorem dX5_snoop_148 : decode cX5_snoop 148 = .ok (.aload_n 0, 1) := by decide +kernel
theorem dX5_snoop_149 : decode cX5_snoop 149 = .ok (.iload_n 2, 1) := by decide +kernel
theorem dX5_snoop_150 : decode cX5_snoop 150 = .ok (.invokevirtual 121, 3) := by decide +kernel
theorem dX5_snoop_153 : decode cX5_snoop 153 = .ok (.aload_n 0, 1) := by decide +kernel
theorem dX5_snoop_154 : decode cX5_snoop 154 = .ok (.getfield 110, 3) := by decide +kernel
theorem dX5_snoop_157 : decode cX5_snoop 157 = .ok (.iconst 2, 1) := by decide +kernel
theorem dX5_snoop_158 : decode cX5_snoop 158 = .ok (.if_icmp .ne 11, 3) := by decide +kernel
theorem dX5_snoop_161 : decode cX5_snoop 161 = .ok (.aload_n 0, 1) := by decide +kernel
theorem dX5_snoop_162 : decode cX5_snoop 162 = .ok (.iload_n 2, 1) := by decide +kernel
theorem dX5_snoop_163 : decode cX5_snoop 163 = .ok (.invokevirtual 125, 3) := by decide +kernel
theorem dX5_snoop_166 : decode cX5_snoop 166 = .ok (.goto 28, 3) := by decide +kernel
theorem dX5_snoop_169 : decode cX5_snoop 169 = .ok (.aload_n 0, 1) := by decide +kernel
theorem dX5_snoop_170 : decode cX5_snoop 170 = .ok (.getfield 34, 3) := by decide +kernel
theorem dX5_snoop_173 : decode cX5_snoop 173 = .ok (.iload_n 2, 1) := by decide +kernel
theorem dX5_snoop_174 : decode cX5_snoop 174 = .ok (.iload_n 3, 1) := by decide +kernel
theorem dX5_snoop_175 : decode cX5_snoop 175 = .ok (.iconst 4, 1) := by decide +kernel
theorem dX5_snoop_176 : decode cX5_snoop 176 = .ok (.if_icmp .ne 7, 3) := by decide +kernel
theorem dX5_snoop_179 : decode cX5_snoop 179 = .ok (.iconst 3, 1) := by decide +kernel
theorem dX5_snoop_180 : decode cX5_snoop 180 = .ok (.goto 13, 3) := by decide +kernel
theorem dX5_snoop_183 : decode cX5_snoop 183 = .ok (.iload_n 3, 1) := by decide +kernel
theorem dX5_snoop_184 : decode cX5_snoop 184 = .ok (.iconst 2, 1) := by decide +kernel
theorem dX5_snoop_185 : decode cX5_snoop 185 = .ok (.if_icmp .ne 7, 3) := by decide +kernel
theorem dX5_snoop_188 : decode cX5_snoop 188 = .ok (.iconst 1, 1) := by decide +kernel
theorem dX5_snoop_189 : decode cX5_snoop 189 = .ok (.goto 4, 3) := by decide +kernel
theorem dX5_snoop_192 : decode cX5_snoop 192 = .ok (.iload_n 3, 1) := by decide +kernel
theorem dX5_snoop_193 : decode cX5_snoop 193 = .ok (.iastore, 1) := by decide +kernel
theorem dX5_snoop_194 : decode cX5_snoop 194 = .ok (.iinc 1 1, 3) := by decide +kernel
theorem dX5_snoop_197 : decode cX5_snoop 197 = .ok (.goto (-152), 3) := by decide +kernel
theorem dX5_snoop_200 : decode cX5_snoop 200 = .ok (.aload_n 0, 1) := by decide +kernel
theorem dX5_snoop_201 : decode cX5_snoop 201 = .ok (.iconst 3, 1) := by decide +kernel
theorem dX5_snoop_202 : decode cX5_snoop 202 = .ok (.invokevirtual 113, 3) := by decide +kernel
theorem dX5_snoop_205 : decode cX5_snoop 205 = .ok (.ireturn, 1) := by decide +kernel
theorem dX5_evict_0 : decode cX5_evict 0 = .ok (.aload_n 0, 1) := by decide +kernel
theorem dX5_evict_1 : decode cX5_evict 1 = .ok (.iload_n 1, 1) := by decide +kernel
theorem dX5_evict_2 : decode cX5_evict 2 = .ok (.invokevirtual 75, 3) := by decide +kernel
theorem dX5_evict_5 : decode cX5_evict 5 = .ok (.ifCond .eq 15, 3) := by decide +kernel
theorem dX5_evict_8 : decode cX5_evict 8 = .ok (.iload_n 2, 1) := by decide +kernel
theorem dX5_evict_9 : decode cX5_evict 9 = .ok (.ifCond .lt 11, 3) := by decide +kernel
theorem dX5_evict_12 : decode cX5_evict 12 = .ok (.iload_n 2, 1) := by decide +kernel
theorem dX5_evict_13 : decode cX5_evict 13 = .ok (.aload_n 0, 1) := by decide +kernel
theorem dX5_evict_14 : decode cX5_evict 14 = .ok (.getfield 57, 3) := by decide +kernel
theorem dX5_evict_17 : decode cX5_evict 17 = .ok (.if_icmp .lt 5, 3) := by decide +kernel
theorem dX5_evict_20 : decode cX5_evict 20 = .ok (.iconst (-1), 1) := by decide +kernel
theorem dX5_evict_21 : decode cX5_evict 21 = .ok (.ireturn, 1) := by decide +kernel
theorem dX5_evict_22 : decode cX5_evict 22 = .ok (.bipush 8, 2) := by decide +kernel
theorem dX5_evict_24 : decode cX5_evict 24 = .ok (.iload_n 1, 1) := by decide +kernel
theorem dX5_evict_25 : decode cX5_evict 25 = .ok (.imul, 1) := by decide +kernel
theorem dX5_evict_26 : decode cX5_evict 26 = .ok (.iload_n 2, 1) := by decide +kernel
theorem dX5_evict_27 : decode cX5_evict 27 = .ok (.iadd, 1) := by decide +kernel
theorem dX5_evict_28 : decode cX5_evict 28 = .ok (.istore_n 3, 1) := by decide +kernel
theorem dX5_evict_29 : decode cX5_evict 29 = .ok (.aload_n 0, 1) := by decide +kernel
theorem dX5_evict_30 : decode cX5_evict 30 = .ok (.getfield 107, 3) := by decide +kernel
theorem dX5_evict_33 : decode cX5_evict 33 = .ok (.ifCond .le 39, 3) := by decide +kernel
theorem dX5_evict_36 : decode cX5_evict 36 = .ok (.aload_n 0, 1) := by decide +kernel
theorem dX5_evict_37 : decode cX5_evict 37 = .ok (.getfield 69, 3) := by decide +kernel
theorem dX5_evict_40 : decode cX5_evict 40 = .ok (.iload_n 1, 1) := by decide +kernel
theorem dX5_evict_41 : decode cX5_evict 41 = .ok (.if_icmp .ne 16, 3) := by decide +kernel
theorem dX5_evict_44 : decode cX5_evict 44 = .ok (.aload_n 0, 1) := by decide +kernel
theorem dX5_evict_45 : decode cX5_evict 45 = .ok (.getfield 72, 3) := by decide +kernel
theorem dX5_evict_48 : decode cX5_evict 48 = .ok (.aload_n 0, 1) := by decide +kernel
theorem dX5_evict_49 : decode cX5_evict 49 = .ok (.getfield 57, 3) := by decide +kernel
theorem dX5_evict_52 : decode cX5_evict 52 = .ok (.irem, 1) := by decide +kernel
theorem dX5_evict_53 : decode cX5_evict 53 = .ok (.iload_n 2, 1) := by decide +kernel
theorem dX5_evict_54 : decode cX5_evict 54 = .ok (.if_icmp .eq 16, 3) := by decide +kernel
theorem dX5_evict_57 : decode cX5_evict 57 = .ok (.aload_n 0, 1) := by decide +kernel
theorem dX5_evict_58 : decode cX5_evict 58 = .ok (.getfield 72, 3) := by decide +kernel
theorem dX5_evict_61 : decode cX5_evict 61 = .ok (.aload_n 0, 1) := by decide +kernel
theorem dX5_evict_62 : decode cX5_evict 62 = .ok (.getfield 37, 3) := by decide +kernel
theorem dX5_evict_65 : decode cX5_evict 65 = .ok (.iload_n 3, 1) := by decide +kernel
theorem dX5_evict_66 : decode cX5_evict 66 = .ok (.iaload, 1) := by decide +kernel
theorem dX5_evict_67 : decode cX5_evict 67 = .ok (.if_icmp .ne 5, 3) := by decide +kernel
theorem dX5_evict_70 : decode cX5_evict 70 = .ok (.iconst 2, 1) := by decide +kernel
theorem dX5_evict_71 : decode cX5_evict 71 = .ok (.ireturn, 1) := by decide +kernel
theorem dX5_evict_72 : decode cX5_evict 72 = .ok (.aload_n 0, 1) := by decide +kernel
theorem dX5_evict_73 : decode cX5_evict 73 = .ok (.getfield 34, 3) := by decide +kernel
theorem dX5_evict_76 : decode cX5_evict 76 = .ok (.iload_n 3, 1) := by decide +kernel
theorem dX5_evict_77 : decode cX5_evict 77 = .ok (.iaload, 1) := by decide +kernel
theorem dX5_evict_78 : decode cX5_evict 78 = .ok (.ifCond .ne 5, 3) := by decide +kernel
theorem dX5_evict_81 : decode cX5_evict 81 = .ok (.iconst 0, 1) := by decide +kernel
theorem dX5_evict_82 : decode cX5_evict 82 = .ok (.ireturn, 1) := by decide +kernel
theorem dX5_evict_83 : decode cX5_evict 83 = .ok (.aload_n 0, 1) := by decide +kernel
theorem dX5_evict_84 : decode cX5_evict 84 = .ok (.getfield 34, 3) := by decide +kernel
theorem dX5_evict_87 : decode cX5_evict 87 = .ok (.iload_n 3, 1) := by decide +kernel
theorem dX5_evict_88 : decode cX5_evict 88 = .ok (.iaload, 1) := by decide +kernel
theorem dX5_evict_89 : decode cX5_evict 89 = .ok (.invokestatic 118, 3) := by decide +kernel
theorem dX5_evict_92 : decode cX5_evict 92 = .ok (.ifCond .eq 8, 3) := by decide +kernel
theorem dX5_evict_95 : decode cX5_evict 95 = .ok (.aload_n 0, 1) := by decide +kernel
theorem dX5_evict_96 : decode cX5_evict 96 = .ok (.iload_n 3, 1) := by decide +kernel
theorem dX5_evict_97 : decode cX5_evict 97 = .ok (.invokevirtual 121, 3) := by decide +kernel
theorem dX5_evict_100 : decode cX5_evict 100 = .ok (.aload_n 0, 1) := by decide +kernel
theorem dX5_evict_101 : decode cX5_evict 101 = .ok (.iload_n 3, 1) := by decide +kernel
theorem dX5_evict_102 : decode cX5_evict 102 = .ok (.invokevirtual 125, 3) := by decide +kernel
theorem dX5_evict_105 : decode cX5_evict 105 = .ok (.iconst 1, 1) := by decide +kernel
theorem dX5_evict_106 : decode cX5_evict 106 = .ok (.ireturn, 1) := by decide +kernel
theorem dX5_register_0 : decode cX5_register 0 = .ok (.aload_n 0, 1) := by decide +kernel
theorem dX5_register_1 : decode cX5_register 1 = .ok (.iload_n 1, 1) := by decide +kernel
theorem dX5_register_2 : decode cX5_register 2 = .ok (.invokevirtual 75, 3) := by decide +kernel
theorem dX5_register_5 : decode cX5_register 5 = .ok (.ifCond .eq 25, 3) := by decide +kernel
theorem dX5_register_8 : decode cX5_register 8 = .ok (.iload_n 2, 1) := by decide +kernel
theorem dX5_register_9 : decode cX5_register 9 = .ok (.ifCond .lt 21, 3) := by decide +kernel
theorem dX5_register_12 : decode cX5_register 12 = .ok (.iload_n 2, 1) := by decide +kernel
theorem dX5_register_13 : decode cX5_register 13 = .ok (.iconst 4, 1) := by decide +kernel
theorem dX5_register_14 : decode cX5_register 14 = .ok (.if_icmp .ge 16, 3) := by decide +kernel
theorem dX5_register_17 : decode cX5_register 17 = .ok (.aload_n 0, 1) := by decide +kernel
theorem dX5_register_18 : decode cX5_register 18 = .ok (.getfield 16, 3) := by decide +kernel
theorem dX5_register_21 : decode cX5_register 21 = .ok (.iconst 4, 1) := by decide +kernel
theorem dX5_register_22 : decode cX5_register 22 = .ok (.iload_n 1, 1) := by decide +kernel
theorem dX5_register_23 : decode cX5_register 23 = .ok (.imul, 1) := by decide +kernel
theorem dX5_register_24 : decode cX5_register 24 = .ok (.iload_n 2, 1) := by decide +kernel
theorem dX5_register_25 : decode cX5_register 25 = .ok (.iadd, 1) := by decide +kernel
theorem dX5_register_26 : decode cX5_register 26 = .ok (.iaload, 1) := by decide +kernel
theorem dX5_register_27 : decode cX5_register 27 = .ok (.goto 4, 3) := by decide +kernel
theorem dX5_register_30 : decode cX5_register 30 = .ok (.iconst 0, 1) := by decide +kernel
theorem dX5_register_31 : decode cX5_register 31 = .ok (.ireturn, 1) := by decide +kernel
theorem dX5_cpu_0 : decode cX5_cpu 0 = .ok (.aload_n 0, 1) := by decide +kernel
theorem dX5_cpu_1 : decode cX5_cpu 1 = .ok (.iload_n 1, 1) := by decide +kernel
theorem dX5_cpu_2 : decode cX5_cpu 2 = .ok (.invokevirtual 75, 3) := by decide +kernel
theorem dX5_cpu_5 : decode cX5_cpu 5 = .ok (.ifCond .ne 5, 3) := by decide +kernel
theorem dX5_cpu_8 : decode cX5_cpu 8 = .ok (.iconst (-1), 1) := by decide +kernel
theorem dX5_cpu_9 : decode cX5_cpu 9 = .ok (.ireturn, 1) := by decide +kernel
theorem dX5_cpu_10 : decode cX5_cpu 10 = .ok (.iload_n 2, 1) := by decide +kernel
theorem dX5_cpu_11 : decode cX5_cpu 11 = .ok (.ifCond .ne 12, 3) := by decide +kernel
theorem dX5_cpu_14 : decode cX5_cpu 14 = .ok (.aload_n 0, 1) := by decide +kernel
theorem dX5_cpu_15 : decode cX5_cpu 15 = .ok (.getfield 19, 3) := by decide +kernel
theorem dX5_cpu_18 : decode cX5_cpu 18 = .ok (.iload_n 1, 1) := by decide +kernel
theorem dX5_cpu_19 : decode cX5_cpu 19 = .ok (.iaload, 1) := by decide +kernel
theorem dX5_cpu_20 : decode cX5_cpu 20 = .ok (.goto 60, 3) := by decide +kernel
theorem dX5_cpu_23 : decode cX5_cpu 23 = .ok (.iload_n 2, 1) := by decide +kernel
theorem dX5_cpu_24 : decode cX5_cpu 24 = .ok (.iconst 1, 1) := by decide +kernel
theorem dX5_cpu_25 : decode cX5_cpu 25 = .ok (.if_icmp .ne 12, 3) := by decide +kernel
theorem dX5_cpu_28 : decode cX5_cpu 28 = .ok (.aload_n 0, 1) := by decide +kernel
theorem dX5_cpu_29 : decode cX5_cpu 29 = .ok (.getfield 22, 3) := by decide +kernel
theorem dX5_cpu_32 : decode cX5_cpu 32 = .ok (.iload_n 1, 1) := by decide +kernel
theorem dX5_cpu_33 : decode cX5_cpu 33 = .ok (.iaload, 1) := by decide +kernel
theorem dX5_cpu_34 : decode cX5_cpu 34 = .ok (.goto 46, 3) := by decide +kernel
theorem dX5_cpu_37 : decode cX5_cpu 37 = .ok (.iload_n 2, 1) := by decide +kernel
theorem dX5_cpu_38 : decode cX5_cpu 38 = .ok (.iconst 2, 1) := by decide +kernel
theorem dX5_cpu_39 : decode cX5_cpu 39 = .ok (.if_icmp .ne 12, 3) := by decide +kernel
theorem dX5_cpu_42 : decode cX5_cpu 42 = .ok (.aload_n 0, 1) := by decide +kernel
theorem dX5_cpu_43 : decode cX5_cpu 43 = .ok (.getfield 25, 3) := by decide +kernel
theorem dX5_cpu_46 : decode cX5_cpu 46 = .ok (.iload_n 1, 1) := by decide +kernel
theorem dX5_cpu_47 : decode cX5_cpu 47 = .ok (.iaload, 1) := by decide +kernel
theorem dX5_cpu_48 : decode cX5_cpu 48 = .ok (.goto 32, 3) := by decide +kernel
theorem dX5_cpu_51 : decode cX5_cpu 51 = .ok (.iload_n 2, 1) := by decide +kernel
theorem dX5_cpu_52 : decode cX5_cpu 52 = .ok (.iconst 3, 1) := by decide +kernel
theorem dX5_cpu_53 : decode cX5_cpu 53 = .ok (.if_icmp .ne 12, 3) := by decide +kernel
theorem dX5_cpu_56 : decode cX5_cpu 56 = .ok (.aload_n 0, 1) := by decide +kernel
theorem dX5_cpu_57 : decode cX5_cpu 57 = .ok (.getfield 28, 3) := by decide +kernel
theorem dX5_cpu_60 : decode cX5_cpu 60 = .ok (.iload_n 1, 1) := by decide +kernel
theorem dX5_cpu_61 : decode cX5_cpu 61 = .ok (.iaload, 1) := by decide +kernel
theorem dX5_cpu_62 : decode cX5_cpu 62 = .ok (.goto 18, 3) := by decide +kernel
theorem dX5_cpu_65 : decode cX5_cpu 65 = .ok (.iload_n 2, 1) := by decide +kernel
theorem dX5_cpu_66 : decode cX5_cpu 66 = .ok (.iconst 4, 1) := by decide +kernel
theorem dX5_cpu_67 : decode cX5_cpu 67 = .ok (.if_icmp .ne 12, 3) := by decide +kernel
theorem dX5_cpu_70 : decode cX5_cpu 70 = .ok (.aload_n 0, 1) := by decide +kernel
theorem dX5_cpu_71 : decode cX5_cpu 71 = .ok (.getfield 31, 3) := by decide +kernel
theorem dX5_cpu_74 : decode cX5_cpu 74 = .ok (.iload_n 1, 1) := by decide +kernel
theorem dX5_cpu_75 : decode cX5_cpu 75 = .ok (.iaload, 1) := by decide +kernel
theorem dX5_cpu_76 : decode cX5_cpu 76 = .ok (.goto 4, 3) := by decide +kernel
theorem dX5_cpu_79 : decode cX5_cpu 79 = .ok (.iconst (-1), 1) := by decide +kernel
theorem dX5_cpu_80 : decode cX5_cpu 80 = .ok (.ireturn, 1) := by decide +kernel
theorem dX5_slot_0 : decode cX5_slot 0 = .ok (.aload_n 0, 1) := by decide +kernel
theorem dX5_slot_1 : decode cX5_slot 1 = .ok (.iload_n 1, 1) := by decide +kernel
theorem dX5_slot_2 : decode cX5_slot 2 = .ok (.invokevirtual 75, 3) := by decide +kernel
theorem dX5_slot_5 : decode cX5_slot 5 = .ok (.ifCond .eq 29, 3) := by decide +kernel
theorem dX5_slot_8 : decode cX5_slot 8 = .ok (.iload_n 2, 1) := by decide +kernel
theorem dX5_slot_9 : decode cX5_slot 9 = .ok (.ifCond .lt 25, 3) := by decide +kernel
theorem dX5_slot_12 : decode cX5_slot 12 = .ok (.iload_n 2, 1) := by decide +kernel
theorem dX5_slot_13 : decode cX5_slot 13 = .ok (.aload_n 0, 1) := by decide +kernel
theorem dX5_slot_14 : decode cX5_slot 14 = .ok (.getfield 57, 3) := by decide +kernel
theorem dX5_slot_17 : decode cX5_slot 17 = .ok (.if_icmp .ge 17, 3) := by decide +kernel
theorem dX5_slot_20 : decode cX5_slot 20 = .ok (.iload_n 3, 1) := by decide +kernel
theorem dX5_slot_21 : decode cX5_slot 21 = .ok (.ifCond .lt 13, 3) := by decide +kernel
theorem dX5_slot_24 : decode cX5_slot 24 = .ok (.iload_n 3, 1) := by decide +kernel
theorem dX5_slot_25 : decode cX5_slot 25 = .ok (.iconst 2, 1) := by decide +kernel
theorem dX5_slot_26 : decode cX5_slot 26 = .ok (.aload_n 0, 1) := by decide +kernel
theorem dX5_slot_27 : decode cX5_slot 27 = .ok (.getfield 60, 3) := by decide +kernel
theorem dX5_slot_30 : decode cX5_slot 30 = .ok (.iadd, 1) := by decide +kernel
theorem dX5_slot_31 : decode cX5_slot 31 = .ok (.if_icmp .lt 5, 3) := by decide +kernel
theorem dX5_slot_34 : decode cX5_slot 34 = .ok (.iconst (-1), 1) := by decide +kernel
theorem dX5_slot_35 : decode cX5_slot 35 = .ok (.ireturn, 1) := by decide +kernel
theorem dX5_slot_36 : decode cX5_slot 36 = .ok (.bipush 8, 2) := by decide +kernel
theorem dX5_slot_38 : decode cX5_slot 38 = .ok (.iload_n 1, 1) := by decide +kernel
theorem dX5_slot_39 : decode cX5_slot 39 = .ok (.imul, 1) := by decide +kernel
theorem dX5_slot_40 : decode cX5_slot 40 = .ok (.iload_n 2, 1) := by decide +kernel
theorem dX5_slot_41 : decode cX5_slot 41 = .ok (.iadd, 1) := by decide +kernel
theorem dX5_slot_42 : decode cX5_slot 42 = .ok (.istore 4, 2) := by decide +kernel
theorem dX5_slot_44 : decode cX5_slot 44 = .ok (.iload_n 3, 1) := by decide +kernel
theorem dX5_slot_45 : decode cX5_slot 45 = .ok (.ifCond .ne 13, 3) := by decide +kernel
theorem dX5_slot_48 : decode cX5_slot 48 = .ok (.aload_n 0, 1) := by decide +kernel
theorem dX5_slot_49 : decode cX5_slot 49 = .ok (.getfield 34, 3) := by decide +kernel
theorem dX5_slot_52 : decode cX5_slot 52 = .ok (.iload 4, 2) := by decide +kernel
theorem dX5_slot_54 : decode cX5_slot 54 = .ok (.iaload, 1) := by decide +kernel
theorem dX5_slot_55 : decode cX5_slot 55 = .ok (.goto 31, 3) := by decide +kernel
theorem dX5_slot_58 : decode cX5_slot 58 = .ok (.iload_n 3, 1) := by decide +kernel
theorem dX5_slot_59 : decode cX5_slot 59 = .ok (.iconst 1, 1) := by decide +kernel
theorem dX5_slot_60 : decode cX5_slot 60 = .ok (.if_icmp .ne 13, 3) := by decide +kernel
theorem dX5_slot_63 : decode cX5_slot 63 = .ok (.aload_n 0, 1) := by decide +kernel
theorem dX5_slot_64 : decode cX5_slot 64 = .ok (.getfield 37, 3) := by decide +kernel
theorem dX5_slot_67 : decode cX5_slot 67 = .ok (.iload 4, 2) := by decide +kernel
theorem dX5_slot_69 : decode cX5_slot 69 = .ok (.iaload, 1) := by decide +kernel
theorem dX5_slot_70 : decode cX5_slot 70 = .ok (.goto 16, 3) := by decide +kernel
theorem dX5_slot_73 : decode cX5_slot 73 = .ok (.aload_n 0, 1) := by decide +kernel
theorem dX5_slot_74 : decode cX5_slot 74 = .ok (.getfield 40, 3) := by decide +kernel
theorem dX5_slot_77 : decode cX5_slot 77 = .ok (.iconst 4, 1) := by decide +kernel
theorem dX5_slot_78 : decode cX5_slot 78 = .ok (.iload 4, 2) := by decide +kernel
theorem dX5_slot_80 : decode cX5_slot 80 = .ok (.imul, 1) := by decide +kernel
theorem dX5_slot_81 : decode cX5_slot 81 = .ok (.iload_n 3, 1) := by decide +kernel
theorem dX5_slot_82 : decode cX5_slot 82 = .ok (.iadd, 1) := by decide +kernel
theorem dX5_slot_83 : decode cX5_slot 83 = .ok (.iconst 2, 1) := by decide +kernel
theorem dX5_slot_84 : decode cX5_slot 84 = .ok (.isub, 1) := by decide +kernel
theorem dX5_slot_85 : decode cX5_slot 85 = .ok (.iaload, 1) := by decide +kernel
theorem dX5_slot_86 : decode cX5_slot 86 = .ok (.ireturn, 1) := by decide +kernel
theorem dX5_peek_0 : decode cX5_peek 0 = .ok (.aload_n 0, 1) := by decide +kernel
theorem dX5_peek_1 : decode cX5_peek 1 = .ok (.iload_n 1, 1) := by decide +kernel
theorem dX5_peek_2 : decode cX5_peek 2 = .ok (.invokevirtual 83, 3) := by decide +kernel
theorem dX5_peek_5 : decode cX5_peek 5 = .ok (.ifCond .ne 5, 3) := by decide +kernel
theorem dX5_peek_8 : decode cX5_peek 8 = .ok (.iconst 0, 1) := by decide +kernel
theorem dX5_peek_9 : decode cX5_peek 9 = .ok (.ireturn, 1) := by decide +kernel
theorem dX5_peek_10 : decode cX5_peek 10 = .ok (.aload_n 0, 1) := by decide +kernel
theorem dX5_peek_11 : decode cX5_peek 11 = .ok (.getfield 7, 3) := by decide +kernel
theorem dX5_peek_14 : decode cX5_peek 14 = .ok (.iload_n 1, 1) := by decide +kernel
theorem dX5_peek_15 : decode cX5_peek 15 = .ok (.iaload, 1) := by decide +kernel
theorem dX5_peek_16 : decode cX5_peek 16 = .ok (.istore_n 2, 1) := by decide +kernel
theorem dX5_peek_17 : decode cX5_peek 17 = .ok (.iconst 0, 1) := by decide +kernel
theorem dX5_peek_18 : decode cX5_peek 18 = .ok (.istore_n 3, 1) := by decide +kernel
theorem dX5_peek_19 : decode cX5_peek 19 = .ok (.iload_n 3, 1) := by decide +kernel
theorem dX5_peek_20 : decode cX5_peek 20 = .ok (.aload_n 0, 1) := by decide +kernel
theorem dX5_peek_21 : decode cX5_peek 21 = .ok (.getfield 53, 3) := by decide +kernel
theorem dX5_peek_24 : decode cX5_peek 24 = .ok (.if_icmp .ge 60, 3) := by decide +kernel
theorem dX5_peek_27 : decode cX5_peek 27 = .ok (.aload_n 0, 1) := by decide +kernel
theorem dX5_peek_28 : decode cX5_peek 28 = .ok (.iload_n 3, 1) := by decide +kernel
theorem dX5_peek_29 : decode cX5_peek 29 = .ok (.iload_n 1, 1) := by decide +kernel
theorem dX5_peek_30 : decode cX5_peek 30 = .ok (.aload_n 0, 1) := by decide +kernel
theorem dX5_peek_31 : decode cX5_peek 31 = .ok (.getfield 60, 3) := by decide +kernel
theorem dX5_peek_34 : decode cX5_peek 34 = .ok (.idiv, 1) := by decide +kernel
theorem dX5_peek_35 : decode cX5_peek 35 = .ok (.invokevirtual 86, 3) := by decide +kernel
theorem dX5_peek_38 : decode cX5_peek 38 = .ok (.istore 4, 2) := by decide +kernel
theorem dX5_peek_40 : decode cX5_peek 40 = .ok (.aload_n 0, 1) := by decide +kernel
theorem dX5_peek_41 : decode cX5_peek 41 = .ok (.iload_n 3, 1) := by decide +kernel
theorem dX5_peek_42 : decode cX5_peek 42 = .ok (.iload_n 1, 1) := by decide +kernel
theorem dX5_peek_43 : decode cX5_peek 43 = .ok (.aload_n 0, 1) := by decide +kernel
theorem dX5_peek_44 : decode cX5_peek 44 = .ok (.getfield 60, 3) := by decide +kernel
theorem dX5_peek_47 : decode cX5_peek 47 = .ok (.idiv, 1) := by decide +kernel
theorem dX5_peek_48 : decode cX5_peek 48 = .ok (.invokevirtual 94, 3) := by decide +kernel
theorem dX5_peek_51 : decode cX5_peek 51 = .ok (.invokestatic 118, 3) := by decide +kernel
theorem dX5_peek_54 : decode cX5_peek 54 = .ok (.ifCond .eq 22, 3) := by decide +kernel
theorem dX5_peek_57 : decode cX5_peek 57 = .ok (.aload_n 0, 1) := by decide +kernel
theorem dX5_peek_58 : decode cX5_peek 58 = .ok (.getfield 40, 3) := by decide +kernel
theorem dX5_peek_61 : decode cX5_peek 61 = .ok (.iconst 4, 1) := by decide +kernel
theorem dX5_peek_62 : decode cX5_peek 62 = .ok (.iload 4, 2) := by decide +kernel
theorem dX5_peek_64 : decode cX5_peek 64 = .ok (.imul, 1) := by decide +kernel
theorem dX5_peek_65 : decode cX5_peek 65 = .ok (.iload_n 1, 1) := by decide +kernel
theorem dX5_peek_66 : decode cX5_peek 66 = .ok (.aload_n 0, 1) := by decide +kernel
theorem dX5_peek_67 : decode cX5_peek 67 = .ok (.getfield 60, 3) := by decide +kernel
theorem dX5_peek_70 : decode cX5_peek 70 = .ok (.irem, 1) := by decide +kernel
theorem dX5_peek_71 : decode cX5_peek 71 = .ok (.iadd, 1) := by decide +kernel
theorem dX5_peek_72 : decode cX5_peek 72 = .ok (.iaload, 1) := by decide +kernel
theorem dX5_peek_73 : decode cX5_peek 73 = .ok (.goto 4, 3) := by decide +kernel
theorem dX5_peek_76 : decode cX5_peek 76 = .ok (.iload_n 2, 1) := by decide +kernel
theorem dX5_peek_77 : decode cX5_peek 77 = .ok (.istore_n 2, 1) := by decide +kernel
theorem dX5_peek_78 : decode cX5_peek 78 = .ok (.iinc 3 1, 3) := by decide +kernel
theorem dX5_peek_81 : decode cX5_peek 81 = .ok (.goto (-62), 3) := by decide +kernel
theorem dX5_peek_84 : decode cX5_peek 84 = .ok (.iload_n 2, 1) := by decide +kernel
theorem dX5_peek_85 : decode cX5_peek 85 = .ok (.ireturn, 1) := by decide +kernel
theorem dX5_memory_0 : decode cX5_memory 0 = .ok (.aload_n 0, 1) := by decide +kernel
theorem dX5_memory_1 : decode cX5_memory 1 = .ok (.iload_n 1, 1) := by decide +kernel
theorem dX5_memory_2 : decode cX5_memory 2 = .ok (.invokevirtual 83, 3) := by decide +kernel
theorem dX5_memory_5 : decode cX5_memory 5 = .ok (.ifCond .eq 12, 3) := by decide +kernel
theorem dX5_memory_8 : decode cX5_memory 8 = .ok (.aload_n 0, 1) := by decide +kernel
theorem dX5_memory_9 : decode cX5_memory 9 = .ok (.getfield 7, 3) := by decide +kernel
theorem dX5_memory_12 : decode cX5_memory 12 = .ok (.iload_n 1, 1) := by decide +kernel
theorem dX5_memory_13 : decode cX5_memory 13 = .ok (.iaload, 1) := by decide +kernel
theorem dX5_memory_14 : decode cX5_memory 14 = .ok (.goto 4, 3) := by decide +kernel
theorem dX5_memory_17 : decode cX5_memory 17 = .ok (.iconst 0, 1) := by decide +kernel
theorem dX5_memory_18 : decode cX5_memory 18 = .ok (.ireturn, 1) := by decide +kernel
theorem dX5_state_0 : decode cX5_state 0 = .ok (.iload_n 1, 1) := by decide +kernel
theorem dX5_state_1 : decode cX5_state 1 = .ok (.iconst 4, 1) := by decide +kernel
theorem dX5_state_2 : decode cX5_state 2 = .ok (.if_icmp .lt 18, 3) := by decide +kernel
theorem dX5_state_5 : decode cX5_state 5 = .ok (.iload_n 1, 1) := by decide +kernel
theorem dX5_state_6 : decode cX5_state 6 = .ok (.bipush 7, 2) := by decide +kernel
theorem dX5_state_8 : decode cX5_state 8 = .ok (.if_icmp .gt 12, 3) := by decide +kernel
theorem dX5_state_11 : decode cX5_state 11 = .ok (.aload_n 0, 1) := by decide +kernel
theorem dX5_state_12 : decode cX5_state 12 = .ok (.getfield 46, 3) := by decide +kernel
theorem dX5_state_15 : decode cX5_state 15 = .ok (.iload_n 1, 1) := by decide +kernel
theorem dX5_state_16 : decode cX5_state 16 = .ok (.iconst 3, 1) := by decide +kernel
theorem dX5_state_17 : decode cX5_state 17 = .ok (.isub, 1) := by decide +kernel
theorem dX5_state_18 : decode cX5_state 18 = .ok (.iaload, 1) := by decide +kernel
theorem dX5_state_19 : decode cX5_state 19 = .ok (.ireturn, 1) := by decide +kernel
theorem dX5_state_20 : decode cX5_state 20 = .ok (.iload_n 1, 1) := by decide +kernel
theorem dX5_state_21 : decode cX5_state 21 = .ok (.ifCond .ne 10, 3) := by decide +kernel
theorem dX5_state_24 : decode cX5_state 24 = .ok (.aload_n 0, 1) := by decide +kernel
theorem dX5_state_25 : decode cX5_state 25 = .ok (.getfield 107, 3) := by decide +kernel
theorem dX5_state_28 : decode cX5_state 28 = .ok (.goto 40, 3) := by decide +kernel
theorem dX5_state_31 : decode cX5_state 31 = .ok (.iload_n 1, 1) := by decide +kernel
theorem dX5_state_32 : decode cX5_state 32 = .ok (.iconst 1, 1) := by decide +kernel
theorem dX5_state_33 : decode cX5_state 33 = .ok (.if_icmp .ne 10, 3) := by decide +kernel
theorem dX5_state_36 : decode cX5_state 36 = .ok (.aload_n 0, 1) := by decide +kernel
theorem dX5_state_37 : decode cX5_state 37 = .ok (.getfield 69, 3) := by decide +kernel
theorem dX5_state_40 : decode cX5_state 40 = .ok (.goto 28, 3) := by decide +kernel
theorem dX5_state_43 : decode cX5_state 43 = .ok (.iload_n 1, 1) := by decide +kernel
theorem dX5_state_44 : decode cX5_state 44 = .ok (.iconst 2, 1) := by decide +kernel
theorem dX5_state_45 : decode cX5_state 45 = .ok (.if_icmp .ne 10, 3) := by decide +kernel
theorem dX5_state_48 : decode cX5_state 48 = .ok (.aload_n 0, 1) := by decide +kernel
theorem dX5_state_49 : decode cX5_state 49 = .ok (.getfield 110, 3) := by decide +kernel
theorem dX5_state_52 : decode cX5_state 52 = .ok (.goto 16, 3) := by decide +kernel
theorem dX5_state_55 : decode cX5_state 55 = .ok (.iload_n 1, 1) := by decide +kernel
theorem dX5_state_56 : decode cX5_state 56 = .ok (.iconst 3, 1) := by decide +kernel
theorem dX5_state_57 : decode cX5_state 57 = .ok (.if_icmp .ne 10, 3) := by decide +kernel
theorem dX5_state_60 : decode cX5_state 60 = .ok (.aload_n 0, 1) := by decide +kernel
theorem dX5_state_61 : decode cX5_state 61 = .ok (.getfield 72, 3) := by decide +kernel
theorem dX5_state_64 : decode cX5_state 64 = .ok (.goto 4, 3) := by decide +kernel
theorem dX5_state_67 : decode cX5_state 67 = .ok (.iconst (-1), 1) := by decide +kernel
theorem dX5_state_68 : decode cX5_state 68 = .ok (.ireturn, 1) := by decide +kernel
theorem dL_law_0 : decode cL_law 0 = .ok (.new 7, 3) := by decide +kernel
theorem dL_law_3 : decode cL_law 3 = .ok (.dup, 1) := by decide +kernel
theorem dL_law_4 : decode cL_law 4 = .ok (.aload_n 0, 1) := by decide +kernel
theorem dL_law_5 : decode cL_law 5 = .ok (.iconst 0, 1) := by decide +kernel
theorem dL_law_6 : decode cL_law 6 = .ok (.invokestatic 9, 3) := by decide +kernel
theorem dL_law_9 : decode cL_law 9 = .ok (.aload_n 0, 1) := by decide +kernel
theorem dL_law_10 : decode cL_law 10 = .ok (.iconst 1, 1) := by decide +kernel
theorem dL_law_11 : decode cL_law 11 = .ok (.invokestatic 9, 3) := by decide +kernel
theorem dL_law_14 : decode cL_law 14 = .ok (.aload_n 0, 1) := by decide +kernel
theorem dL_law_15 : decode cL_law 15 = .ok (.iconst 2, 1) := by decide +kernel
theorem dL_law_16 : decode cL_law 16 = .ok (.invokestatic 9, 3) := by decide +kernel
theorem dL_law_19 : decode cL_law 19 = .ok (.aload_n 0, 1) := by decide +kernel
theorem dL_law_20 : decode cL_law 20 = .ok (.iconst 3, 1) := by decide +kernel
theorem dL_law_21 : decode cL_law 21 = .ok (.invokestatic 9, 3) := by decide +kernel
theorem dL_law_24 : decode cL_law 24 = .ok (.aload_n 0, 1) := by decide +kernel
theorem dL_law_25 : decode cL_law 25 = .ok (.iconst 4, 1) := by decide +kernel
theorem dL_law_26 : decode cL_law 26 = .ok (.invokestatic 9, 3) := by decide +kernel
theorem dL_law_29 : decode cL_law 29 = .ok (.invokespecial 15, 3) := by decide +kernel
theorem dL_law_32 : decode cL_law 32 = .ok (.astore_n 1, 1) := by decide +kernel
theorem dL_law_33 : decode cL_law 33 = .ok (.new 18, 3) := by decide +kernel
theorem dL_law_36 : decode cL_law 36 = .ok (.dup, 1) := by decide +kernel
theorem dL_law_37 : decode cL_law 37 = .ok (.aload_n 0, 1) := by decide +kernel
theorem dL_law_38 : decode cL_law 38 = .ok (.iconst 0, 1) := by decide +kernel
theorem dL_law_39 : decode cL_law 39 = .ok (.invokestatic 9, 3) := by decide +kernel
theorem dL_law_42 : decode cL_law 42 = .ok (.aload_n 0, 1) := by decide +kernel
theorem dL_law_43 : decode cL_law 43 = .ok (.iconst 1, 1) := by decide +kernel
theorem dL_law_44 : decode cL_law 44 = .ok (.invokestatic 9, 3) := by decide +kernel
theorem dL_law_47 : decode cL_law 47 = .ok (.aload_n 0, 1) := by decide +kernel
theorem dL_law_48 : decode cL_law 48 = .ok (.iconst 2, 1) := by decide +kernel
theorem dL_law_49 : decode cL_law 49 = .ok (.invokestatic 9, 3) := by decide +kernel
theorem dL_law_52 : decode cL_law 52 = .ok (.aload_n 0, 1) := by decide +kernel
theorem dL_law_53 : decode cL_law 53 = .ok (.iconst 3, 1) := by decide +kernel
theorem dL_law_54 : decode cL_law 54 = .ok (.invokestatic 9, 3) := by decide +kernel
theorem dL_law_57 : decode cL_law 57 = .ok (.aload_n 0, 1) := by decide +kernel
theorem dL_law_58 : decode cL_law 58 = .ok (.iconst 4, 1) := by decide +kernel
theorem dL_law_59 : decode cL_law 59 = .ok (.invokestatic 9, 3) := by decide +kernel
theorem dL_law_62 : decode cL_law 62 = .ok (.invokespecial 20, 3) := by decide +kernel
theorem dL_law_65 : decode cL_law 65 = .ok (.astore_n 2, 1) := by decide +kernel
theorem dL_law_66 : decode cL_law 66 = .ok (.iconst 5, 1) := by decide +kernel
theorem dL_law_67 : decode cL_law 67 = .ok (.istore_n 3, 1) := by decide +kernel
theorem dL_law_68 : decode cL_law 68 = .ok (.iload_n 3, 1) := by decide +kernel
theorem dL_law_69 : decode cL_law 69 = .ok (.aload_n 0, 1) := by decide +kernel
theorem dL_law_70 : decode cL_law 70 = .ok (.arraylength, 1) := by decide +kernel
theorem dL_law_71 : decode cL_law 71 = .ok (.iconst 4, 1) := by decide +kernel
theorem dL_law_72 : decode cL_law 72 = .ok (.isub, 1) := by decide +kernel
theorem dL_law_73 : decode cL_law 73 = .ok (.if_icmp .gt 396, 3) := by decide +kernel
theorem dL_law_76 : decode cL_law 76 = .ok (.aload_n 0, 1) := by decide +kernel
theorem dL_law_77 : decode cL_law 77 = .ok (.iload_n 3, 1) := by decide +kernel
theorem dL_law_78 : decode cL_law 78 = .ok (.iaload, 1) := by decide +kernel
theorem dL_law_79 : decode cL_law 79 = .ok (.bipush 15, 2) := by decide +kernel
theorem dL_law_81 : decode cL_law 81 = .ok (.iand, 1) := by decide +kernel
theorem dL_law_82 : decode cL_law 82 = .ok (.tableswitch 381 0 10 #[58, 101, 134, 157, 170, 203, 236, 269, 312, 335, 358], 58) := by decide +kernel
theorem dL_law_140 : decode cL_law 140 = .ok (.aload_n 1, 1) := by decide +kernel
theorem dL_law_141 : decode cL_law 141 = .ok (.aload_n 0, 1) := by decide +kernel
theorem dL_law_142 : decode cL_law 142 = .ok (.iload_n 3, 1) := by decide +kernel
theorem dL_law_143 : decode cL_law 143 = .ok (.iconst 1, 1) := by decide +kernel
theorem dL_law_144 : decode cL_law 144 = .ok (.iadd, 1) := by decide +kernel
theorem dL_law_145 : decode cL_law 145 = .ok (.iaload, 1) := by decide +kernel
theorem dL_law_146 : decode cL_law 146 = .ok (.aload_n 0, 1) := by decide +kernel
theorem dL_law_147 : decode cL_law 147 = .ok (.iload_n 3, 1) := by decide +kernel
theorem dL_law_148 : decode cL_law 148 = .ok (.iconst 2, 1) := by decide +kernel
theorem dL_law_149 : decode cL_law 149 = .ok (.iadd, 1) := by decide +kernel
theorem dL_law_150 : decode cL_law 150 = .ok (.iaload, 1) := by decide +kernel
theorem dL_law_151 : decode cL_law 151 = .ok (.aload_n 0, 1) := by decide +kernel
theorem dL_law_152 : decode cL_law 152 = .ok (.iload_n 3, 1) := by decide +kernel
theorem dL_law_153 : decode cL_law 153 = .ok (.iconst 3, 1) := by decide +kernel
theorem dL_law_154 : decode cL_law 154 = .ok (.iadd, 1) := by decide +kernel
theorem dL_law_155 : decode cL_law 155 = .ok (.iaload, 1) := by decide +kernel
theorem dL_law_156 : decode cL_law 156 = .ok (.invokevirtual 21, 3) := by decide +kernel
theorem dL_law_159 : decode cL_law 159 = .ok (.aload_n 2, 1) := by decide +kernel
theorem dL_law_160 : decode cL_law 160 = .ok (.aload_n 0, 1) := by decide +kernel
theorem dL_law_161 : decode cL_law 161 = .ok (.iload_n 3, 1) := by decide +kernel
theorem dL_law_162 : decode cL_law 162 = .ok (.iconst 1, 1) := by decide +kernel
theorem dL_law_163 : decode cL_law 163 = .ok (.iadd, 1) := by decide +kernel
theorem dL_law_164 : decode cL_law 164 = .ok (.iaload, 1) := by decide +kernel
theorem dL_law_165 : decode cL_law 165 = .ok (.aload_n 0, 1) := by decide +kernel
theorem dL_law_166 : decode cL_law 166 = .ok (.iload_n 3, 1) := by decide +kernel
theorem dL_law_167 : decode cL_law 167 = .ok (.iconst 2, 1) := by decide +kernel
theorem dL_law_168 : decode cL_law 168 = .ok (.iadd, 1) := by decide +kernel
theorem dL_law_169 : decode cL_law 169 = .ok (.iaload, 1) := by decide +kernel
theorem dL_law_170 : decode cL_law 170 = .ok (.aload_n 0, 1) := by decide +kernel
theorem dL_law_171 : decode cL_law 171 = .ok (.iload_n 3, 1) := by decide +kernel
theorem dL_law_172 : decode cL_law 172 = .ok (.iconst 3, 1) := by decide +kernel
theorem dL_law_173 : decode cL_law 173 = .ok (.iadd, 1) := by decide +kernel
theorem dL_law_174 : decode cL_law 174 = .ok (.iaload, 1) := by decide +kernel
theorem dL_law_175 : decode cL_law 175 = .ok (.invokevirtual 25, 3) := by decide +kernel
theorem dL_law_178 : decode cL_law 178 = .ok (.if_icmp .eq 285, 3) := by decide +kernel
theorem dL_law_181 : decode cL_law 181 = .ok (.iconst 0, 1) := by decide +kernel
theorem dL_law_182 : decode cL_law 182 = .ok (.ireturn, 1) := by decide +kernel
theorem dL_law_183 : decode cL_law 183 = .ok (.aload_n 1, 1) := by decide +kernel
theorem dL_law_184 : decode cL_law 184 = .ok (.aload_n 0, 1) := by decide +kernel
theorem dL_law_185 : decode cL_law 185 = .ok (.iload_n 3, 1) := by decide +kernel
theorem dL_law_186 : decode cL_law 186 = .ok (.iconst 1, 1) := by decide +kernel
theorem dL_law_187 : decode cL_law 187 = .ok (.iadd, 1) := by decide +kernel
theorem dL_law_188 : decode cL_law 188 = .ok (.iaload, 1) := by decide +kernel
theorem dL_law_189 : decode cL_law 189 = .ok (.aload_n 0, 1) := by decide +kernel
theorem dL_law_190 : decode cL_law 190 = .ok (.iload_n 3, 1) := by decide +kernel
theorem dL_law_191 : decode cL_law 191 = .ok (.iconst 2, 1) := by decide +kernel
theorem dL_law_192 : decode cL_law 192 = .ok (.iadd, 1) := by decide +kernel
theorem dL_law_193 : decode cL_law 193 = .ok (.iaload, 1) := by decide +kernel
theorem dL_law_194 : decode cL_law 194 = .ok (.invokevirtual 26, 3) := by decide +kernel
theorem dL_law_197 : decode cL_law 197 = .ok (.aload_n 2, 1) := by decide +kernel
theorem dL_law_198 : decode cL_law 198 = .ok (.aload_n 0, 1) := by decide +kernel
theorem dL_law_199 : decode cL_law 199 = .ok (.iload_n 3, 1) := by decide +kernel
theorem dL_law_200 : decode cL_law 200 = .ok (.iconst 1, 1) := by decide +kernel
theorem dL_law_201 : decode cL_law 201 = .ok (.iadd, 1) := by decide +kernel
theorem dL_law_202 : decode cL_law 202 = .ok (.iaload, 1) := by decide +kernel
theorem dL_law_203 : decode cL_law 203 = .ok (.aload_n 0, 1) := by decide +kernel
theorem dL_law_204 : decode cL_law 204 = .ok (.iload_n 3, 1) := by decide +kernel
theorem dL_law_205 : decode cL_law 205 = .ok (.iconst 2, 1) := by decide +kernel
theorem dL_law_206 : decode cL_law 206 = .ok (.iadd, 1) := by decide +kernel
theorem dL_law_207 : decode cL_law 207 = .ok (.iaload, 1) := by decide +kernel
theorem dL_law_208 : decode cL_law 208 = .ok (.invokevirtual 30, 3) := by decide +kernel
theorem dL_law_211 : decode cL_law 211 = .ok (.if_icmp .eq 252, 3) := by decide +kernel
theorem dL_law_214 : decode cL_law 214 = .ok (.iconst 0, 1) := by decide +kernel
theorem dL_law_215 : decode cL_law 215 = .ok (.ireturn, 1) := by decide +kernel
theorem dL_law_216 : decode cL_law 216 = .ok (.aload_n 1, 1) := by decide +kernel
theorem dL_law_217 : decode cL_law 217 = .ok (.aload_n 0, 1) := by decide +kernel
theorem dL_law_218 : decode cL_law 218 = .ok (.iload_n 3, 1) := by decide +kernel
theorem dL_law_219 : decode cL_law 219 = .ok (.iconst 1, 1) := by decide +kernel
theorem dL_law_220 : decode cL_law 220 = .ok (.iadd, 1) := by decide +kernel
theorem dL_law_221 : decode cL_law 221 = .ok (.iaload, 1) := by decide +kernel
theorem dL_law_222 : decode cL_law 222 = .ok (.invokevirtual 31, 3) := by decide +kernel
theorem dL_law_225 : decode cL_law 225 = .ok (.aload_n 2, 1) := by decide +kernel
theorem dL_law_226 : decode cL_law 226 = .ok (.aload_n 0, 1) := by decide +kernel
theorem dL_law_227 : decode cL_law 227 = .ok (.iload_n 3, 1) := by decide +kernel
theorem dL_law_228 : decode cL_law 228 = .ok (.iconst 1, 1) := by decide +kernel
theorem dL_law_229 : decode cL_law 229 = .ok (.iadd, 1) := by decide +kernel
theorem dL_law_230 : decode cL_law 230 = .ok (.iaload, 1) := by decide +kernel
theorem dL_law_231 : decode cL_law 231 = .ok (.invokevirtual 35, 3) := by decide +kernel
theorem dL_law_234 : decode cL_law 234 = .ok (.if_icmp .eq 229, 3) := by decide +kernel
theorem dL_law_237 : decode cL_law 237 = .ok (.iconst 0, 1) := by decide +kernel
theorem dL_law_238 : decode cL_law 238 = .ok (.ireturn, 1) := by decide +kernel
theorem dL_law_239 : decode cL_law 239 = .ok (.aload_n 1, 1) := by decide +kernel
theorem dL_law_240 : decode cL_law 240 = .ok (.invokevirtual 36, 3) := by decide +kernel
theorem dL_law_243 : decode cL_law 243 = .ok (.aload_n 2, 1) := by decide +kernel
theorem dL_law_244 : decode cL_law 244 = .ok (.invokevirtual 40, 3) := by decide +kernel
theorem dL_law_247 : decode cL_law 247 = .ok (.if_icmp .eq 216, 3) := by decide +kernel
theorem dL_law_250 : decode cL_law 250 = .ok (.iconst 0, 1) := by decide +kernel
theorem dL_law_251 : decode cL_law 251 = .ok (.ireturn, 1) := by decide +kernel
theorem dL_law_252 : decode cL_law 252 = .ok (.aload_n 1, 1) := by decide +kernel
theorem dL_law_253 : decode cL_law 253 = .ok (.aload_n 0, 1) := by decide +kernel
theorem dL_law_254 : decode cL_law 254 = .ok (.iload_n 3, 1) := by decide +kernel
theorem dL_law_255 : decode cL_law 255 = .ok (.iconst 1, 1) := by decide +kernel
theorem dL_law_256 : decode cL_law 256 = .ok (.iadd, 1) := by decide +kernel
theorem dL_law_257 : decode cL_law 257 = .ok (.iaload, 1) := by decide +kernel
theorem dL_law_258 : decode cL_law 258 = .ok (.aload_n 0, 1) := by decide +kernel
theorem dL_law_259 : decode cL_law 259 = .ok (.iload_n 3, 1) := by decide +kernel
theorem dL_law_260 : decode cL_law 260 = .ok (.iconst 2, 1) := by decide +kernel
theorem dL_law_261 : decode cL_law 261 = .ok (.iadd, 1) := by decide +kernel
theorem dL_law_262 : decode cL_law 262 = .ok (.iaload, 1) := by decide +kernel
theorem dL_law_263 : decode cL_law 263 = .ok (.invokevirtual 41, 3) := by decide +kernel
theorem dL_law_266 : decode cL_law 266 = .ok (.aload_n 2, 1) := by decide +kernel
theorem dL_law_267 : decode cL_law 267 = .ok (.aload_n 0, 1) := by decide +kernel
theorem dL_law_268 : decode cL_law 268 = .ok (.iload_n 3, 1) := by decide +kernel
theorem dL_law_269 : decode cL_law 269 = .ok (.iconst 1, 1) := by decide +kernel
theorem dL_law_270 : decode cL_law 270 = .ok (.iadd, 1) := by decide +kernel
theorem dL_law_271 : decode cL_law 271 = .ok (.iaload, 1) := by decide +kernel
theorem dL_law_272 : decode cL_law 272 = .ok (.aload_n 0, 1) := by decide +kernel
theorem dL_law_273 : decode cL_law 273 = .ok (.iload_n 3, 1) := by decide +kernel
theorem dL_law_274 : decode cL_law 274 = .ok (.iconst 2, 1) := by decide +kernel
theorem dL_law_275 : decode cL_law 275 = .ok (.iadd, 1) := by decide +kernel
theorem dL_law_276 : decode cL_law 276 = .ok (.iaload, 1) := by decide +kernel
theorem dL_law_277 : decode cL_law 277 = .ok (.invokevirtual 45, 3) := by decide +kernel
theorem dL_law_280 : decode cL_law 280 = .ok (.if_icmp .eq 183, 3) := by decide +kernel
theorem dL_law_283 : decode cL_law 283 = .ok (.iconst 0, 1) := by decide +kernel
theorem dL_law_284 : decode cL_law 284 = .ok (.ireturn, 1) := by decide +kernel
theorem dL_law_285 : decode cL_law 285 = .ok (.aload_n 1, 1) := by decide +kernel
theorem dL_law_286 : decode cL_law 286 = .ok (.aload_n 0, 1) := by decide +kernel
theorem dL_law_287 : decode cL_law 287 = .ok (.iload_n 3, 1) := by decide +kernel
theorem dL_law_288 : decode cL_law 288 = .ok (.iconst 1, 1) := by decide +kernel
theorem dL_law_289 : decode cL_law 289 = .ok (.iadd, 1) := by decide +kernel
theorem dL_law_290 : decode cL_law 290 = .ok (.iaload, 1) := by decide +kernel
theorem dL_law_291 : decode cL_law 291 = .ok (.aload_n 0, 1) := by decide +kernel
theorem dL_law_292 : decode cL_law 292 = .ok (.iload_n 3, 1) := by decide +kernel
theorem dL_law_293 : decode cL_law 293 = .ok (.iconst 2, 1) := by decide +kernel
theorem dL_law_294 : decode cL_law 294 = .ok (.iadd, 1) := by decide +kernel
theorem dL_law_295 : decode cL_law 295 = .ok (.iaload, 1) := by decide +kernel
theorem dL_law_296 : decode cL_law 296 = .ok (.invokevirtual 46, 3) := by decide +kernel
theorem dL_law_299 : decode cL_law 299 = .ok (.aload_n 2, 1) := by decide +kernel
theorem dL_law_300 : decode cL_law 300 = .ok (.aload_n 0, 1) := by decide +kernel
theorem dL_law_301 : decode cL_law 301 = .ok (.iload_n 3, 1) := by decide +kernel
theorem dL_law_302 : decode cL_law 302 = .ok (.iconst 1, 1) := by decide +kernel
theorem dL_law_303 : decode cL_law 303 = .ok (.iadd, 1) := by decide +kernel
theorem dL_law_304 : decode cL_law 304 = .ok (.iaload, 1) := by decide +kernel
theorem dL_law_305 : decode cL_law 305 = .ok (.aload_n 0, 1) := by decide +kernel
theorem dL_law_306 : decode cL_law 306 = .ok (.iload_n 3, 1) := by decide +kernel
theorem dL_law_307 : decode cL_law 307 = .ok (.iconst 2, 1) := by decide +kernel
theorem dL_law_308 : decode cL_law 308 = .ok (.iadd, 1) := by decide +kernel
theorem dL_law_309 : decode cL_law 309 = .ok (.iaload, 1) := by decide +kernel
theorem dL_law_310 : decode cL_law 310 = .ok (.invokevirtual 49, 3) := by decide +kernel
theorem dL_law_313 : decode cL_law 313 = .ok (.if_icmp .eq 150, 3) := by decide +kernel
theorem dL_law_316 : decode cL_law 316 = .ok (.iconst 0, 1) := by decide +kernel
theorem dL_law_317 : decode cL_law 317 = .ok (.ireturn, 1) := by decide +kernel
theorem dL_law_318 : decode cL_law 318 = .ok (.aload_n 1, 1) := by decide +kernel
theorem dL_law_319 : decode cL_law 319 = .ok (.aload_n 0, 1) := by decide +kernel
theorem dL_law_320 : decode cL_law 320 = .ok (.iload_n 3, 1) := by decide +kernel
theorem dL_law_321 : decode cL_law 321 = .ok (.iconst 1, 1) := by decide +kernel
theorem dL_law_322 : decode cL_law 322 = .ok (.iadd, 1) := by decide +kernel
theorem dL_law_323 : decode cL_law 323 = .ok (.iaload, 1) := by decide +kernel
theorem dL_law_324 : decode cL_law 324 = .ok (.aload_n 0, 1) := by decide +kernel
theorem dL_law_325 : decode cL_law 325 = .ok (.iload_n 3, 1) := by decide +kernel
theorem dL_law_326 : decode cL_law 326 = .ok (.iconst 2, 1) := by decide +kernel
theorem dL_law_327 : decode cL_law 327 = .ok (.iadd, 1) := by decide +kernel
theorem dL_law_328 : decode cL_law 328 = .ok (.iaload, 1) := by decide +kernel
theorem dL_law_329 : decode cL_law 329 = .ok (.invokevirtual 50, 3) := by decide +kernel
theorem dL_law_332 : decode cL_law 332 = .ok (.aload_n 2, 1) := by decide +kernel
theorem dL_law_333 : decode cL_law 333 = .ok (.aload_n 0, 1) := by decide +kernel
theorem dL_law_334 : decode cL_law 334 = .ok (.iload_n 3, 1) := by decide +kernel
theorem dL_law_335 : decode cL_law 335 = .ok (.iconst 1, 1) := by decide +kernel
theorem dL_law_336 : decode cL_law 336 = .ok (.iadd, 1) := by decide +kernel
theorem dL_law_337 : decode cL_law 337 = .ok (.iaload, 1) := by decide +kernel
theorem dL_law_338 : decode cL_law 338 = .ok (.aload_n 0, 1) := by decide +kernel
theorem dL_law_339 : decode cL_law 339 = .ok (.iload_n 3, 1) := by decide +kernel
theorem dL_law_340 : decode cL_law 340 = .ok (.iconst 2, 1) := by decide +kernel
theorem dL_law_341 : decode cL_law 341 = .ok (.iadd, 1) := by decide +kernel
theorem dL_law_342 : decode cL_law 342 = .ok (.iaload, 1) := by decide +kernel
theorem dL_law_343 : decode cL_law 343 = .ok (.invokevirtual 53, 3) := by decide +kernel
theorem dL_law_346 : decode cL_law 346 = .ok (.if_icmp .eq 117, 3) := by decide +kernel
theorem dL_law_349 : decode cL_law 349 = .ok (.iconst 0, 1) := by decide +kernel
theorem dL_law_350 : decode cL_law 350 = .ok (.ireturn, 1) := by decide +kernel
theorem dL_law_351 : decode cL_law 351 = .ok (.aload_n 1, 1) := by decide +kernel
theorem dL_law_352 : decode cL_law 352 = .ok (.aload_n 0, 1) := by decide +kernel
theorem dL_law_353 : decode cL_law 353 = .ok (.iload_n 3, 1) := by decide +kernel
theorem dL_law_354 : decode cL_law 354 = .ok (.iconst 1, 1) := by decide +kernel
theorem dL_law_355 : decode cL_law 355 = .ok (.iadd, 1) := by decide +kernel
theorem dL_law_356 : decode cL_law 356 = .ok (.iaload, 1) := by decide +kernel
theorem dL_law_357 : decode cL_law 357 = .ok (.aload_n 0, 1) := by decide +kernel
theorem dL_law_358 : decode cL_law 358 = .ok (.iload_n 3, 1) := by decide +kernel
theorem dL_law_359 : decode cL_law 359 = .ok (.iconst 2, 1) := by decide +kernel
theorem dL_law_360 : decode cL_law 360 = .ok (.iadd, 1) := by decide +kernel
theorem dL_law_361 : decode cL_law 361 = .ok (.iaload, 1) := by decide +kernel
theorem dL_law_362 : decode cL_law 362 = .ok (.aload_n 0, 1) := by decide +kernel
theorem dL_law_363 : decode cL_law 363 = .ok (.iload_n 3, 1) := by decide +kernel
theorem dL_law_364 : decode cL_law 364 = .ok (.iconst 3, 1) := by decide +kernel
theorem dL_law_365 : decode cL_law 365 = .ok (.iadd, 1) := by decide +kernel
theorem dL_law_366 : decode cL_law 366 = .ok (.iaload, 1) := by decide +kernel
theorem dL_law_367 : decode cL_law 367 = .ok (.invokevirtual 54, 3) := by decide +kernel
theorem dL_law_370 : decode cL_law 370 = .ok (.aload_n 2, 1) := by decide +kernel
theorem dL_law_371 : decode cL_law 371 = .ok (.aload_n 0, 1) := by decide +kernel
theorem dL_law_372 : decode cL_law 372 = .ok (.iload_n 3, 1) := by decide +kernel
theorem dL_law_373 : decode cL_law 373 = .ok (.iconst 1, 1) := by decide +kernel
theorem dL_law_374 : decode cL_law 374 = .ok (.iadd, 1) := by decide +kernel
theorem dL_law_375 : decode cL_law 375 = .ok (.iaload, 1) := by decide +kernel
theorem dL_law_376 : decode cL_law 376 = .ok (.aload_n 0, 1) := by decide +kernel
theorem dL_law_377 : decode cL_law 377 = .ok (.iload_n 3, 1) := by decide +kernel
theorem dL_law_378 : decode cL_law 378 = .ok (.iconst 2, 1) := by decide +kernel
theorem dL_law_379 : decode cL_law 379 = .ok (.iadd, 1) := by decide +kernel
theorem dL_law_380 : decode cL_law 380 = .ok (.iaload, 1) := by decide +kernel
theorem dL_law_381 : decode cL_law 381 = .ok (.aload_n 0, 1) := by decide +kernel
theorem dL_law_382 : decode cL_law 382 = .ok (.iload_n 3, 1) := by decide +kernel
theorem dL_law_383 : decode cL_law 383 = .ok (.iconst 3, 1) := by decide +kernel
theorem dL_law_384 : decode cL_law 384 = .ok (.iadd, 1) := by decide +kernel
theorem dL_law_385 : decode cL_law 385 = .ok (.iaload, 1) := by decide +kernel
theorem dL_law_386 : decode cL_law 386 = .ok (.invokevirtual 58, 3) := by decide +kernel
theorem dL_law_389 : decode cL_law 389 = .ok (.if_icmp .eq 74, 3) := by decide +kernel
theorem dL_law_392 : decode cL_law 392 = .ok (.iconst 0, 1) := by decide +kernel
theorem dL_law_393 : decode cL_law 393 = .ok (.ireturn, 1) := by decide +kernel
theorem dL_law_394 : decode cL_law 394 = .ok (.aload_n 1, 1) := by decide +kernel
theorem dL_law_395 : decode cL_law 395 = .ok (.aload_n 0, 1) := by decide +kernel
theorem dL_law_396 : decode cL_law 396 = .ok (.iload_n 3, 1) := by decide +kernel
theorem dL_law_397 : decode cL_law 397 = .ok (.iconst 1, 1) := by decide +kernel
theorem dL_law_398 : decode cL_law 398 = .ok (.iadd, 1) := by decide +kernel
theorem dL_law_399 : decode cL_law 399 = .ok (.iaload, 1) := by decide +kernel
theorem dL_law_400 : decode cL_law 400 = .ok (.invokevirtual 59, 3) := by decide +kernel
theorem dL_law_403 : decode cL_law 403 = .ok (.aload_n 2, 1) := by decide +kernel
theorem dL_law_404 : decode cL_law 404 = .ok (.aload_n 0, 1) := by decide +kernel
theorem dL_law_405 : decode cL_law 405 = .ok (.iload_n 3, 1) := by decide +kernel
theorem dL_law_406 : decode cL_law 406 = .ok (.iconst 1, 1) := by decide +kernel
theorem dL_law_407 : decode cL_law 407 = .ok (.iadd, 1) := by decide +kernel
theorem dL_law_408 : decode cL_law 408 = .ok (.iaload, 1) := by decide +kernel
theorem dL_law_409 : decode cL_law 409 = .ok (.invokevirtual 62, 3) := by decide +kernel
theorem dL_law_412 : decode cL_law 412 = .ok (.if_icmp .eq 51, 3) := by decide +kernel
theorem dL_law_415 : decode cL_law 415 = .ok (.iconst 0, 1) := by decide +kernel
theorem dL_law_416 : decode cL_law 416 = .ok (.ireturn, 1) := by decide +kernel
theorem dL_law_417 : decode cL_law 417 = .ok (.aload_n 1, 1) := by decide +kernel
theorem dL_law_418 : decode cL_law 418 = .ok (.aload_n 0, 1) := by decide +kernel
theorem dL_law_419 : decode cL_law 419 = .ok (.iload_n 3, 1) := by decide +kernel
theorem dL_law_420 : decode cL_law 420 = .ok (.iconst 1, 1) := by decide +kernel
theorem dL_law_421 : decode cL_law 421 = .ok (.iadd, 1) := by decide +kernel
theorem dL_law_422 : decode cL_law 422 = .ok (.iaload, 1) := by decide +kernel
theorem dL_law_423 : decode cL_law 423 = .ok (.invokevirtual 63, 3) := by decide +kernel
theorem dL_law_426 : decode cL_law 426 = .ok (.aload_n 2, 1) := by decide +kernel
theorem dL_law_427 : decode cL_law 427 = .ok (.aload_n 0, 1) := by decide +kernel
theorem dL_law_428 : decode cL_law 428 = .ok (.iload_n 3, 1) := by decide +kernel
theorem dL_law_429 : decode cL_law 429 = .ok (.iconst 1, 1) := by decide +kernel
theorem dL_law_430 : decode cL_law 430 = .ok (.iadd, 1) := by decide +kernel
theorem dL_law_431 : decode cL_law 431 = .ok (.iaload, 1) := by decide +kernel
theorem dL_law_432 : decode cL_law 432 = .ok (.invokevirtual 66, 3) := by decide +kernel
theorem dL_law_435 : decode cL_law 435 = .ok (.if_icmp .eq 28, 3) := by decide +kernel
theorem dL_law_438 : decode cL_law 438 = .ok (.iconst 0, 1) := by decide +kernel
theorem dL_law_439 : decode cL_law 439 = .ok (.ireturn, 1) := by decide +kernel
theorem dL_law_440 : decode cL_law 440 = .ok (.aload_n 1, 1) := by decide +kernel
theorem dL_law_441 : decode cL_law 441 = .ok (.aload_n 0, 1) := by decide +kernel
theorem dL_law_442 : decode cL_law 442 = .ok (.iload_n 3, 1) := by decide +kernel
theorem dL_law_443 : decode cL_law 443 = .ok (.iconst 1, 1) := by decide +kernel
theorem dL_law_444 : decode cL_law 444 = .ok (.iadd, 1) := by decide +kernel
theorem dL_law_445 : decode cL_law 445 = .ok (.iaload, 1) := by decide +kernel
theorem dL_law_446 : decode cL_law 446 = .ok (.invokevirtual 67, 3) := by decide +kernel
theorem dL_law_449 : decode cL_law 449 = .ok (.aload_n 2, 1) := by decide +kernel
theorem dL_law_450 : decode cL_law 450 = .ok (.aload_n 0, 1) := by decide +kernel
theorem dL_law_451 : decode cL_law 451 = .ok (.iload_n 3, 1) := by decide +kernel
theorem dL_law_452 : decode cL_law 452 = .ok (.iconst 1, 1) := by decide +kernel
theorem dL_law_453 : decode cL_law 453 = .ok (.iadd, 1) := by decide +kernel
theorem dL_law_454 : decode cL_law 454 = .ok (.iaload, 1) := by decide +kernel
theorem dL_law_455 : decode cL_law 455 = .ok (.invokevirtual 70, 3) := by decide +kernel
theorem dL_law_458 : decode cL_law 458 = .ok (.if_icmp .eq 5, 3) := by decide +kernel
theorem dL_law_461 : decode cL_law 461 = .ok (.iconst 0, 1) := by decide +kernel
theorem dL_law_462 : decode cL_law 462 = .ok (.ireturn, 1) := by decide +kernel
theorem dL_law_463 : decode cL_law 463 = .ok (.iinc 3 4, 3) := by decide +kernel
theorem dL_law_466 : decode cL_law 466 = .ok (.goto (-398), 3) := by decide +kernel
theorem dL_law_469 : decode cL_law 469 = .ok (.iconst 1, 1) := by decide +kernel
theorem dL_law_470 : decode cL_law 470 = .ok (.ireturn, 1) := by decide +kernel
