/-! the instructions of the class -/
theorem dX0_init_0 : decode m_X0_init.2.1 0 = .ok (.aload_n 0, 1) := by decide +kernel
theorem dX0_init_1 : decode m_X0_init.2.1 1 = .ok (.invokespecial 3, 3) := by decide +kernel
theorem dX0_init_4 : decode m_X0_init.2.1 4 = .ok (.aload_n 0, 1) := by decide +kernel
theorem dX0_init_5 : decode m_X0_init.2.1 5 = .ok (.bipush 6, 2) := by decide +kernel
theorem dX0_init_7 : decode m_X0_init.2.1 7 = .ok (.newarray .int, 2) := by decide +kernel
theorem dX0_init_9 : decode m_X0_init.2.1 9 = .ok (.putfield 9, 3) := by decide +kernel
theorem dX0_init_12 : decode m_X0_init.2.1 12 = .ok (.aload_n 0, 1) := by decide +kernel
theorem dX0_init_13 : decode m_X0_init.2.1 13 = .ok (.bipush 6, 2) := by decide +kernel
theorem dX0_init_15 : decode m_X0_init.2.1 15 = .ok (.newarray .int, 2) := by decide +kernel
theorem dX0_init_17 : decode m_X0_init.2.1 17 = .ok (.putfield 15, 3) := by decide +kernel
theorem dX0_init_20 : decode m_X0_init.2.1 20 = .ok (.aload_n 0, 1) := by decide +kernel
theorem dX0_init_21 : decode m_X0_init.2.1 21 = .ok (.bipush 6, 2) := by decide +kernel
theorem dX0_init_23 : decode m_X0_init.2.1 23 = .ok (.newarray .int, 2) := by decide +kernel
theorem dX0_init_25 : decode m_X0_init.2.1 25 = .ok (.putfield 18, 3) := by decide +kernel
theorem dX0_init_28 : decode m_X0_init.2.1 28 = .ok (.aload_n 0, 1) := by decide +kernel
theorem dX0_init_29 : decode m_X0_init.2.1 29 = .ok (.bipush 6, 2) := by decide +kernel
theorem dX0_init_31 : decode m_X0_init.2.1 31 = .ok (.newarray .int, 2) := by decide +kernel
theorem dX0_init_33 : decode m_X0_init.2.1 33 = .ok (.putfield 21, 3) := by decide +kernel
theorem dX0_init_36 : decode m_X0_init.2.1 36 = .ok (.aload_n 0, 1) := by decide +kernel
theorem dX0_init_37 : decode m_X0_init.2.1 37 = .ok (.bipush 6, 2) := by decide +kernel
theorem dX0_init_39 : decode m_X0_init.2.1 39 = .ok (.newarray .int, 2) := by decide +kernel
theorem dX0_init_41 : decode m_X0_init.2.1 41 = .ok (.putfield 24, 3) := by decide +kernel
theorem dX0_init_44 : decode m_X0_init.2.1 44 = .ok (.aload_n 0, 1) := by decide +kernel
theorem dX0_init_45 : decode m_X0_init.2.1 45 = .ok (.iconst 0, 1) := by decide +kernel
theorem dX0_init_46 : decode m_X0_init.2.1 46 = .ok (.putfield 27, 3) := by decide +kernel
theorem dX0_init_49 : decode m_X0_init.2.1 49 = .ok (.aload_n 0, 1) := by decide +kernel
theorem dX0_init_50 : decode m_X0_init.2.1 50 = .ok (.iconst 3, 1) := by decide +kernel
theorem dX0_init_51 : decode m_X0_init.2.1 51 = .ok (.newarray .int, 2) := by decide +kernel
theorem dX0_init_53 : decode m_X0_init.2.1 53 = .ok (.putfield 31, 3) := by decide +kernel
theorem dX0_init_56 : decode m_X0_init.2.1 56 = .ok (.aload_n 0, 1) := by decide +kernel
theorem dX0_init_57 : decode m_X0_init.2.1 57 = .ok (.iconst 0, 1) := by decide +kernel
theorem dX0_init_58 : decode m_X0_init.2.1 58 = .ok (.putfield 34, 3) := by decide +kernel
theorem dX0_init_61 : decode m_X0_init.2.1 61 = .ok (.return_, 1) := by decide +kernel
theorem dX0_become_0 : decode m_X0_become.2.1 0 = .ok (.aload_n 1, 1) := by decide +kernel
theorem dX0_become_1 : decode m_X0_become.2.1 1 = .ok (.getfield 9, 3) := by decide +kernel
theorem dX0_become_4 : decode m_X0_become.2.1 4 = .ok (.iconst 0, 1) := by decide +kernel
theorem dX0_become_5 : decode m_X0_become.2.1 5 = .ok (.aload_n 0, 1) := by decide +kernel
theorem dX0_become_6 : decode m_X0_become.2.1 6 = .ok (.getfield 9, 3) := by decide +kernel
theorem dX0_become_9 : decode m_X0_become.2.1 9 = .ok (.iconst 0, 1) := by decide +kernel
theorem dX0_become_10 : decode m_X0_become.2.1 10 = .ok (.bipush 6, 2) := by decide +kernel
theorem dX0_become_12 : decode m_X0_become.2.1 12 = .ok (.invokestatic 37, 3) := by decide +kernel
theorem dX0_become_15 : decode m_X0_become.2.1 15 = .ok (.aload_n 1, 1) := by decide +kernel
theorem dX0_become_16 : decode m_X0_become.2.1 16 = .ok (.getfield 15, 3) := by decide +kernel
theorem dX0_become_19 : decode m_X0_become.2.1 19 = .ok (.iconst 0, 1) := by decide +kernel
theorem dX0_become_20 : decode m_X0_become.2.1 20 = .ok (.aload_n 0, 1) := by decide +kernel
theorem dX0_become_21 : decode m_X0_become.2.1 21 = .ok (.getfield 15, 3) := by decide +kernel
theorem dX0_become_24 : decode m_X0_become.2.1 24 = .ok (.iconst 0, 1) := by decide +kernel
theorem dX0_become_25 : decode m_X0_become.2.1 25 = .ok (.bipush 6, 2) := by decide +kernel
theorem dX0_become_27 : decode m_X0_become.2.1 27 = .ok (.invokestatic 37, 3) := by decide +kernel
theorem dX0_become_30 : decode m_X0_become.2.1 30 = .ok (.aload_n 1, 1) := by decide +kernel
theorem dX0_become_31 : decode m_X0_become.2.1 31 = .ok (.getfield 18, 3) := by decide +kernel
theorem dX0_become_34 : decode m_X0_become.2.1 34 = .ok (.iconst 0, 1) := by decide +kernel
theorem dX0_become_35 : decode m_X0_become.2.1 35 = .ok (.aload_n 0, 1) := by decide +kernel
theorem dX0_become_36 : decode m_X0_become.2.1 36 = .ok (.getfield 18, 3) := by decide +kernel
theorem dX0_become_39 : decode m_X0_become.2.1 39 = .ok (.iconst 0, 1) := by decide +kernel
theorem dX0_become_40 : decode m_X0_become.2.1 40 = .ok (.bipush 6, 2) := by decide +kernel
theorem dX0_become_42 : decode m_X0_become.2.1 42 = .ok (.invokestatic 37, 3) := by decide +kernel
theorem dX0_become_45 : decode m_X0_become.2.1 45 = .ok (.aload_n 1, 1) := by decide +kernel
theorem dX0_become_46 : decode m_X0_become.2.1 46 = .ok (.getfield 21, 3) := by decide +kernel
theorem dX0_become_49 : decode m_X0_become.2.1 49 = .ok (.iconst 0, 1) := by decide +kernel
theorem dX0_become_50 : decode m_X0_become.2.1 50 = .ok (.aload_n 0, 1) := by decide +kernel
theorem dX0_become_51 : decode m_X0_become.2.1 51 = .ok (.getfield 21, 3) := by decide +kernel
theorem dX0_become_54 : decode m_X0_become.2.1 54 = .ok (.iconst 0, 1) := by decide +kernel
theorem dX0_become_55 : decode m_X0_become.2.1 55 = .ok (.bipush 6, 2) := by decide +kernel
theorem dX0_become_57 : decode m_X0_become.2.1 57 = .ok (.invokestatic 37, 3) := by decide +kernel
theorem dX0_become_60 : decode m_X0_become.2.1 60 = .ok (.aload_n 1, 1) := by decide +kernel
theorem dX0_become_61 : decode m_X0_become.2.1 61 = .ok (.getfield 24, 3) := by decide +kernel
theorem dX0_become_64 : decode m_X0_become.2.1 64 = .ok (.iconst 0, 1) := by decide +kernel
theorem dX0_become_65 : decode m_X0_become.2.1 65 = .ok (.aload_n 0, 1) := by decide +kernel
theorem dX0_become_66 : decode m_X0_become.2.1 66 = .ok (.getfield 24, 3) := by decide +kernel
theorem dX0_become_69 : decode m_X0_become.2.1 69 = .ok (.iconst 0, 1) := by decide +kernel
theorem dX0_become_70 : decode m_X0_become.2.1 70 = .ok (.bipush 6, 2) := by decide +kernel
theorem dX0_become_72 : decode m_X0_become.2.1 72 = .ok (.invokestatic 37, 3) := by decide +kernel
theorem dX0_become_75 : decode m_X0_become.2.1 75 = .ok (.aload_n 0, 1) := by decide +kernel
theorem dX0_become_76 : decode m_X0_become.2.1 76 = .ok (.aload_n 1, 1) := by decide +kernel
theorem dX0_become_77 : decode m_X0_become.2.1 77 = .ok (.getfield 27, 3) := by decide +kernel
theorem dX0_become_80 : decode m_X0_become.2.1 80 = .ok (.putfield 27, 3) := by decide +kernel
theorem dX0_become_83 : decode m_X0_become.2.1 83 = .ok (.aload_n 1, 1) := by decide +kernel
theorem dX0_become_84 : decode m_X0_become.2.1 84 = .ok (.getfield 31, 3) := by decide +kernel
theorem dX0_become_87 : decode m_X0_become.2.1 87 = .ok (.iconst 0, 1) := by decide +kernel
theorem dX0_become_88 : decode m_X0_become.2.1 88 = .ok (.aload_n 0, 1) := by decide +kernel
theorem dX0_become_89 : decode m_X0_become.2.1 89 = .ok (.getfield 31, 3) := by decide +kernel
theorem dX0_become_92 : decode m_X0_become.2.1 92 = .ok (.iconst 0, 1) := by decide +kernel
theorem dX0_become_93 : decode m_X0_become.2.1 93 = .ok (.iconst 3, 1) := by decide +kernel
theorem dX0_become_94 : decode m_X0_become.2.1 94 = .ok (.invokestatic 37, 3) := by decide +kernel
theorem dX0_become_97 : decode m_X0_become.2.1 97 = .ok (.aload_n 0, 1) := by decide +kernel
theorem dX0_become_98 : decode m_X0_become.2.1 98 = .ok (.aload_n 1, 1) := by decide +kernel
theorem dX0_become_99 : decode m_X0_become.2.1 99 = .ok (.getfield 34, 3) := by decide +kernel
theorem dX0_become_102 : decode m_X0_become.2.1 102 = .ok (.putfield 34, 3) := by decide +kernel
theorem dX0_become_105 : decode m_X0_become.2.1 105 = .ok (.return_, 1) := by decide +kernel
theorem dX0_has_0 : decode m_X0_has.2.1 0 = .ok (.iload_n 1, 1) := by decide +kernel
theorem dX0_has_1 : decode m_X0_has.2.1 1 = .ok (.ifCond .lt 15, 3) := by decide +kernel
theorem dX0_has_4 : decode m_X0_has.2.1 4 = .ok (.iload_n 1, 1) := by decide +kernel
theorem dX0_has_5 : decode m_X0_has.2.1 5 = .ok (.aload_n 0, 1) := by decide +kernel
theorem dX0_has_6 : decode m_X0_has.2.1 6 = .ok (.getfield 27, 3) := by decide +kernel
theorem dX0_has_9 : decode m_X0_has.2.1 9 = .ok (.if_icmp .ge 7, 3) := by decide +kernel
theorem dX0_has_12 : decode m_X0_has.2.1 12 = .ok (.iconst 1, 1) := by decide +kernel
theorem dX0_has_13 : decode m_X0_has.2.1 13 = .ok (.goto 4, 3) := by decide +kernel
theorem dX0_has_16 : decode m_X0_has.2.1 16 = .ok (.iconst 0, 1) := by decide +kernel
theorem dX0_has_17 : decode m_X0_has.2.1 17 = .ok (.ireturn, 1) := by decide +kernel
theorem dX0_add_0 : decode m_X0_add.2.1 0 = .ok (.aload_n 0, 1) := by decide +kernel
theorem dX0_add_1 : decode m_X0_add.2.1 1 = .ok (.getfield 27, 3) := by decide +kernel
theorem dX0_add_4 : decode m_X0_add.2.1 4 = .ok (.bipush 6, 2) := by decide +kernel
theorem dX0_add_6 : decode m_X0_add.2.1 6 = .ok (.if_icmp .lt 6, 3) := by decide +kernel
theorem dX0_add_9 : decode m_X0_add.2.1 9 = .ok (.ldc 43, 2) := by decide +kernel
theorem dX0_add_11 : decode m_X0_add.2.1 11 = .ok (.ireturn, 1) := by decide +kernel
theorem dX0_add_12 : decode m_X0_add.2.1 12 = .ok (.aload_n 0, 1) := by decide +kernel
theorem dX0_add_13 : decode m_X0_add.2.1 13 = .ok (.getfield 27, 3) := by decide +kernel
theorem dX0_add_16 : decode m_X0_add.2.1 16 = .ok (.istore 4, 2) := by decide +kernel
theorem dX0_add_18 : decode m_X0_add.2.1 18 = .ok (.aload_n 0, 1) := by decide +kernel
theorem dX0_add_19 : decode m_X0_add.2.1 19 = .ok (.getfield 9, 3) := by decide +kernel
theorem dX0_add_22 : decode m_X0_add.2.1 22 = .ok (.iload 4, 2) := by decide +kernel
theorem dX0_add_24 : decode m_X0_add.2.1 24 = .ok (.iload_n 1, 1) := by decide +kernel
theorem dX0_add_25 : decode m_X0_add.2.1 25 = .ok (.iastore, 1) := by decide +kernel
theorem dX0_add_26 : decode m_X0_add.2.1 26 = .ok (.aload_n 0, 1) := by decide +kernel
theorem dX0_add_27 : decode m_X0_add.2.1 27 = .ok (.getfield 15, 3) := by decide +kernel
theorem dX0_add_30 : decode m_X0_add.2.1 30 = .ok (.iload 4, 2) := by decide +kernel
theorem dX0_add_32 : decode m_X0_add.2.1 32 = .ok (.iload_n 2, 1) := by decide +kernel
theorem dX0_add_33 : decode m_X0_add.2.1 33 = .ok (.bipush 100, 2) := by decide +kernel
theorem dX0_add_35 : decode m_X0_add.2.1 35 = .ok (.idiv, 1) := by decide +kernel
theorem dX0_add_36 : decode m_X0_add.2.1 36 = .ok (.iastore, 1) := by decide +kernel
theorem dX0_add_37 : decode m_X0_add.2.1 37 = .ok (.aload_n 0, 1) := by decide +kernel
theorem dX0_add_38 : decode m_X0_add.2.1 38 = .ok (.getfield 18, 3) := by decide +kernel
theorem dX0_add_41 : decode m_X0_add.2.1 41 = .ok (.iload 4, 2) := by decide +kernel
theorem dX0_add_43 : decode m_X0_add.2.1 43 = .ok (.iload_n 2, 1) := by decide +kernel
theorem dX0_add_44 : decode m_X0_add.2.1 44 = .ok (.bipush 100, 2) := by decide +kernel
theorem dX0_add_46 : decode m_X0_add.2.1 46 = .ok (.irem, 1) := by decide +kernel
theorem dX0_add_47 : decode m_X0_add.2.1 47 = .ok (.iastore, 1) := by decide +kernel
theorem dX0_add_48 : decode m_X0_add.2.1 48 = .ok (.aload_n 0, 1) := by decide +kernel
theorem dX0_add_49 : decode m_X0_add.2.1 49 = .ok (.getfield 21, 3) := by decide +kernel
theorem dX0_add_52 : decode m_X0_add.2.1 52 = .ok (.iload 4, 2) := by decide +kernel
theorem dX0_add_54 : decode m_X0_add.2.1 54 = .ok (.iload_n 3, 1) := by decide +kernel
theorem dX0_add_55 : decode m_X0_add.2.1 55 = .ok (.iastore, 1) := by decide +kernel
theorem dX0_add_56 : decode m_X0_add.2.1 56 = .ok (.aload_n 0, 1) := by decide +kernel
theorem dX0_add_57 : decode m_X0_add.2.1 57 = .ok (.getfield 24, 3) := by decide +kernel
theorem dX0_add_60 : decode m_X0_add.2.1 60 = .ok (.iload 4, 2) := by decide +kernel
theorem dX0_add_62 : decode m_X0_add.2.1 62 = .ok (.sipush 22222, 3) := by decide +kernel
theorem dX0_add_65 : decode m_X0_add.2.1 65 = .ok (.iastore, 1) := by decide +kernel
theorem dX0_add_66 : decode m_X0_add.2.1 66 = .ok (.aload_n 0, 1) := by decide +kernel
theorem dX0_add_67 : decode m_X0_add.2.1 67 = .ok (.dup, 1) := by decide +kernel
theorem dX0_add_68 : decode m_X0_add.2.1 68 = .ok (.getfield 27, 3) := by decide +kernel
theorem dX0_add_71 : decode m_X0_add.2.1 71 = .ok (.iconst 1, 1) := by decide +kernel
theorem dX0_add_72 : decode m_X0_add.2.1 72 = .ok (.iadd, 1) := by decide +kernel
theorem dX0_add_73 : decode m_X0_add.2.1 73 = .ok (.putfield 27, 3) := by decide +kernel
theorem dX0_add_76 : decode m_X0_add.2.1 76 = .ok (.iload 4, 2) := by decide +kernel
theorem dX0_add_78 : decode m_X0_add.2.1 78 = .ok (.ireturn, 1) := by decide +kernel
theorem dX0_isTold_0 : decode m_X0_isTold.2.1 0 = .ok (.iconst 0, 1) := by decide +kernel
theorem dX0_isTold_1 : decode m_X0_isTold.2.1 1 = .ok (.istore_n 2, 1) := by decide +kernel
theorem dX0_isTold_2 : decode m_X0_isTold.2.1 2 = .ok (.iload_n 2, 1) := by decide +kernel
theorem dX0_isTold_3 : decode m_X0_isTold.2.1 3 = .ok (.aload_n 0, 1) := by decide +kernel
theorem dX0_isTold_4 : decode m_X0_isTold.2.1 4 = .ok (.getfield 34, 3) := by decide +kernel
theorem dX0_isTold_7 : decode m_X0_isTold.2.1 7 = .ok (.if_icmp .ge 21, 3) := by decide +kernel
theorem dX0_isTold_10 : decode m_X0_isTold.2.1 10 = .ok (.aload_n 0, 1) := by decide +kernel
theorem dX0_isTold_11 : decode m_X0_isTold.2.1 11 = .ok (.getfield 31, 3) := by decide +kernel
theorem dX0_isTold_14 : decode m_X0_isTold.2.1 14 = .ok (.iload_n 2, 1) := by decide +kernel
theorem dX0_isTold_15 : decode m_X0_isTold.2.1 15 = .ok (.iaload, 1) := by decide +kernel
theorem dX0_isTold_16 : decode m_X0_isTold.2.1 16 = .ok (.iload_n 1, 1) := by decide +kernel
theorem dX0_isTold_17 : decode m_X0_isTold.2.1 17 = .ok (.if_icmp .ne 5, 3) := by decide +kernel
theorem dX0_isTold_20 : decode m_X0_isTold.2.1 20 = .ok (.iconst 1, 1) := by decide +kernel
theorem dX0_isTold_21 : decode m_X0_isTold.2.1 21 = .ok (.ireturn, 1) := by decide +kernel
theorem dX0_isTold_22 : decode m_X0_isTold.2.1 22 = .ok (.iinc 2 1, 3) := by decide +kernel
theorem dX0_isTold_25 : decode m_X0_isTold.2.1 25 = .ok (.goto (-23), 3) := by decide +kernel
theorem dX0_isTold_28 : decode m_X0_isTold.2.1 28 = .ok (.iconst 0, 1) := by decide +kernel
theorem dX0_isTold_29 : decode m_X0_isTold.2.1 29 = .ok (.ireturn, 1) := by decide +kernel
theorem dX0_addTold_0 : decode m_X0_addTold.2.1 0 = .ok (.aload_n 0, 1) := by decide +kernel
theorem dX0_addTold_1 : decode m_X0_addTold.2.1 1 = .ok (.getfield 34, 3) := by decide +kernel
theorem dX0_addTold_4 : decode m_X0_addTold.2.1 4 = .ok (.iconst 3, 1) := by decide +kernel
theorem dX0_addTold_5 : decode m_X0_addTold.2.1 5 = .ok (.if_icmp .lt 6, 3) := by decide +kernel
theorem dX0_addTold_8 : decode m_X0_addTold.2.1 8 = .ok (.ldc 43, 2) := by decide +kernel
theorem dX0_addTold_10 : decode m_X0_addTold.2.1 10 = .ok (.ireturn, 1) := by decide +kernel
theorem dX0_addTold_11 : decode m_X0_addTold.2.1 11 = .ok (.aload_n 0, 1) := by decide +kernel
theorem dX0_addTold_12 : decode m_X0_addTold.2.1 12 = .ok (.getfield 31, 3) := by decide +kernel
theorem dX0_addTold_15 : decode m_X0_addTold.2.1 15 = .ok (.aload_n 0, 1) := by decide +kernel
theorem dX0_addTold_16 : decode m_X0_addTold.2.1 16 = .ok (.getfield 34, 3) := by decide +kernel
theorem dX0_addTold_19 : decode m_X0_addTold.2.1 19 = .ok (.iload_n 1, 1) := by decide +kernel
theorem dX0_addTold_20 : decode m_X0_addTold.2.1 20 = .ok (.iastore, 1) := by decide +kernel
theorem dX0_addTold_21 : decode m_X0_addTold.2.1 21 = .ok (.aload_n 0, 1) := by decide +kernel
theorem dX0_addTold_22 : decode m_X0_addTold.2.1 22 = .ok (.dup, 1) := by decide +kernel
theorem dX0_addTold_23 : decode m_X0_addTold.2.1 23 = .ok (.getfield 34, 3) := by decide +kernel
theorem dX0_addTold_26 : decode m_X0_addTold.2.1 26 = .ok (.iconst 1, 1) := by decide +kernel
theorem dX0_addTold_27 : decode m_X0_addTold.2.1 27 = .ok (.iadd, 1) := by decide +kernel
theorem dX0_addTold_28 : decode m_X0_addTold.2.1 28 = .ok (.putfield 34, 3) := by decide +kernel
theorem dX0_addTold_31 : decode m_X0_addTold.2.1 31 = .ok (.aload_n 0, 1) := by decide +kernel
theorem dX0_addTold_32 : decode m_X0_addTold.2.1 32 = .ok (.getfield 34, 3) := by decide +kernel
theorem dX0_addTold_35 : decode m_X0_addTold.2.1 35 = .ok (.ireturn, 1) := by decide +kernel
theorem dX0_cheapestMix_0 : decode m_X0_cheapestMix.2.1 0 = .ok (.iconst 1, 1) := by decide +kernel
theorem dX0_cheapestMix_1 : decode m_X0_cheapestMix.2.1 1 = .ok (.istore 4, 2) := by decide +kernel
theorem dX0_cheapestMix_3 : decode m_X0_cheapestMix.2.1 3 = .ok (.iconst 0, 1) := by decide +kernel
theorem dX0_cheapestMix_4 : decode m_X0_cheapestMix.2.1 4 = .ok (.istore 5, 2) := by decide +kernel
theorem dX0_cheapestMix_6 : decode m_X0_cheapestMix.2.1 6 = .ok (.iload 5, 2) := by decide +kernel
theorem dX0_cheapestMix_8 : decode m_X0_cheapestMix.2.1 8 = .ok (.aload_n 0, 1) := by decide +kernel
theorem dX0_cheapestMix_9 : decode m_X0_cheapestMix.2.1 9 = .ok (.getfield 34, 3) := by decide +kernel
theorem dX0_cheapestMix_12 : decode m_X0_cheapestMix.2.1 12 = .ok (.if_icmp .ge 16, 3) := by decide +kernel
theorem dX0_cheapestMix_15 : decode m_X0_cheapestMix.2.1 15 = .ok (.iload 4, 2) := by decide +kernel
theorem dX0_cheapestMix_17 : decode m_X0_cheapestMix.2.1 17 = .ok (.bipush 10, 2) := by decide +kernel
theorem dX0_cheapestMix_19 : decode m_X0_cheapestMix.2.1 19 = .ok (.imul, 1) := by decide +kernel
theorem dX0_cheapestMix_20 : decode m_X0_cheapestMix.2.1 20 = .ok (.istore 4, 2) := by decide +kernel
theorem dX0_cheapestMix_22 : decode m_X0_cheapestMix.2.1 22 = .ok (.iinc 5 1, 3) := by decide +kernel
theorem dX0_cheapestMix_25 : decode m_X0_cheapestMix.2.1 25 = .ok (.goto (-19), 3) := by decide +kernel
theorem dX0_cheapestMix_28 : decode m_X0_cheapestMix.2.1 28 = .ok (.iconst (-1), 1) := by decide +kernel
theorem dX0_cheapestMix_29 : decode m_X0_cheapestMix.2.1 29 = .ok (.istore 5, 2) := by decide +kernel
theorem dX0_cheapestMix_31 : decode m_X0_cheapestMix.2.1 31 = .ok (.iconst 0, 1) := by decide +kernel
theorem dX0_cheapestMix_32 : decode m_X0_cheapestMix.2.1 32 = .ok (.istore 6, 2) := by decide +kernel
theorem dX0_cheapestMix_34 : decode m_X0_cheapestMix.2.1 34 = .ok (.iconst 0, 1) := by decide +kernel
theorem dX0_cheapestMix_35 : decode m_X0_cheapestMix.2.1 35 = .ok (.istore 7, 2) := by decide +kernel
theorem dX0_cheapestMix_37 : decode m_X0_cheapestMix.2.1 37 = .ok (.iload 7, 2) := by decide +kernel
theorem dX0_cheapestMix_39 : decode m_X0_cheapestMix.2.1 39 = .ok (.iload 4, 2) := by decide +kernel
theorem dX0_cheapestMix_41 : decode m_X0_cheapestMix.2.1 41 = .ok (.if_icmp .ge 49, 3) := by decide +kernel
theorem dX0_cheapestMix_44 : decode m_X0_cheapestMix.2.1 44 = .ok (.aload_n 0, 1) := by decide +kernel
theorem dX0_cheapestMix_45 : decode m_X0_cheapestMix.2.1 45 = .ok (.iload 7, 2) := by decide +kernel
theorem dX0_cheapestMix_47 : decode m_X0_cheapestMix.2.1 47 = .ok (.invokevirtual 44, 3) := by decide +kernel
theorem dX0_cheapestMix_50 : decode m_X0_cheapestMix.2.1 50 = .ok (.istore 8, 2) := by decide +kernel
theorem dX0_cheapestMix_52 : decode m_X0_cheapestMix.2.1 52 = .ok (.iload 5, 2) := by decide +kernel
theorem dX0_cheapestMix_54 : decode m_X0_cheapestMix.2.1 54 = .ok (.ifCond .lt 10, 3) := by decide +kernel
theorem dX0_cheapestMix_57 : decode m_X0_cheapestMix.2.1 57 = .ok (.iload 8, 2) := by decide +kernel
theorem dX0_cheapestMix_59 : decode m_X0_cheapestMix.2.1 59 = .ok (.iload 6, 2) := by decide +kernel
theorem dX0_cheapestMix_61 : decode m_X0_cheapestMix.2.1 61 = .ok (.if_icmp .ge 23, 3) := by decide +kernel
theorem dX0_cheapestMix_64 : decode m_X0_cheapestMix.2.1 64 = .ok (.aload_n 0, 1) := by decide +kernel
theorem dX0_cheapestMix_65 : decode m_X0_cheapestMix.2.1 65 = .ok (.iload 7, 2) := by decide +kernel
theorem dX0_cheapestMix_67 : decode m_X0_cheapestMix.2.1 67 = .ok (.iload_n 1, 1) := by decide +kernel
theorem dX0_cheapestMix_68 : decode m_X0_cheapestMix.2.1 68 = .ok (.iload_n 2, 1) := by decide +kernel
theorem dX0_cheapestMix_69 : decode m_X0_cheapestMix.2.1 69 = .ok (.iload_n 3, 1) := by decide +kernel
theorem dX0_cheapestMix_70 : decode m_X0_cheapestMix.2.1 70 = .ok (.invokevirtual 48, 3) := by decide +kernel
theorem dX0_cheapestMix_73 : decode m_X0_cheapestMix.2.1 73 = .ok (.ifCond .eq 11, 3) := by decide +kernel
theorem dX0_cheapestMix_76 : decode m_X0_cheapestMix.2.1 76 = .ok (.iload 7, 2) := by decide +kernel
theorem dX0_cheapestMix_78 : decode m_X0_cheapestMix.2.1 78 = .ok (.istore 5, 2) := by decide +kernel
theorem dX0_cheapestMix_80 : decode m_X0_cheapestMix.2.1 80 = .ok (.iload 8, 2) := by decide +kernel
theorem dX0_cheapestMix_82 : decode m_X0_cheapestMix.2.1 82 = .ok (.istore 6, 2) := by decide +kernel
theorem dX0_cheapestMix_84 : decode m_X0_cheapestMix.2.1 84 = .ok (.iinc 7 1, 3) := by decide +kernel
theorem dX0_cheapestMix_87 : decode m_X0_cheapestMix.2.1 87 = .ok (.goto (-50), 3) := by decide +kernel
theorem dX0_cheapestMix_90 : decode m_X0_cheapestMix.2.1 90 = .ok (.iload 5, 2) := by decide +kernel
theorem dX0_cheapestMix_92 : decode m_X0_cheapestMix.2.1 92 = .ok (.ireturn, 1) := by decide +kernel
theorem dX0_suits_0 : decode m_X0_suits.2.1 0 = .ok (.aload_n 0, 1) := by decide +kernel
theorem dX0_suits_1 : decode m_X0_suits.2.1 1 = .ok (.iload_n 1, 1) := by decide +kernel
theorem dX0_suits_2 : decode m_X0_suits.2.1 2 = .ok (.iconst 1, 1) := by decide +kernel
theorem dX0_suits_3 : decode m_X0_suits.2.1 3 = .ok (.invokevirtual 52, 3) := by decide +kernel
theorem dX0_suits_6 : decode m_X0_suits.2.1 6 = .ok (.iload_n 2, 1) := by decide +kernel
theorem dX0_suits_7 : decode m_X0_suits.2.1 7 = .ok (.if_icmp .ge 5, 3) := by decide +kernel
theorem dX0_suits_10 : decode m_X0_suits.2.1 10 = .ok (.iconst 0, 1) := by decide +kernel
theorem dX0_suits_11 : decode m_X0_suits.2.1 11 = .ok (.ireturn, 1) := by decide +kernel
theorem dX0_suits_12 : decode m_X0_suits.2.1 12 = .ok (.aload_n 0, 1) := by decide +kernel
theorem dX0_suits_13 : decode m_X0_suits.2.1 13 = .ok (.iload_n 1, 1) := by decide +kernel
theorem dX0_suits_14 : decode m_X0_suits.2.1 14 = .ok (.iconst 3, 1) := by decide +kernel
theorem dX0_suits_15 : decode m_X0_suits.2.1 15 = .ok (.invokevirtual 52, 3) := by decide +kernel
theorem dX0_suits_18 : decode m_X0_suits.2.1 18 = .ok (.aload_n 0, 1) := by decide +kernel
theorem dX0_suits_19 : decode m_X0_suits.2.1 19 = .ok (.iload_n 1, 1) := by decide +kernel
theorem dX0_suits_20 : decode m_X0_suits.2.1 20 = .ok (.iconst 2, 1) := by decide +kernel
theorem dX0_suits_21 : decode m_X0_suits.2.1 21 = .ok (.invokevirtual 52, 3) := by decide +kernel
theorem dX0_suits_24 : decode m_X0_suits.2.1 24 = .ok (.invokestatic 56, 3) := by decide +kernel
theorem dX0_suits_27 : decode m_X0_suits.2.1 27 = .ok (.iload_n 3, 1) := by decide +kernel
theorem dX0_suits_28 : decode m_X0_suits.2.1 28 = .ok (.iload 4, 2) := by decide +kernel
theorem dX0_suits_30 : decode m_X0_suits.2.1 30 = .ok (.invokestatic 59, 3) := by decide +kernel
theorem dX0_suits_33 : decode m_X0_suits.2.1 33 = .ok (.ireturn, 1) := by decide +kernel
theorem dX0_tensIn_0 : decode m_X0_tensIn.2.1 0 = .ok (.iload_n 1, 1) := by decide +kernel
theorem dX0_tensIn_1 : decode m_X0_tensIn.2.1 1 = .ok (.istore_n 3, 1) := by decide +kernel
theorem dX0_tensIn_2 : decode m_X0_tensIn.2.1 2 = .ok (.aload_n 0, 1) := by decide +kernel
theorem dX0_tensIn_3 : decode m_X0_tensIn.2.1 3 = .ok (.getfield 34, 3) := by decide +kernel
theorem dX0_tensIn_6 : decode m_X0_tensIn.2.1 6 = .ok (.iconst 1, 1) := by decide +kernel
theorem dX0_tensIn_7 : decode m_X0_tensIn.2.1 7 = .ok (.isub, 1) := by decide +kernel
theorem dX0_tensIn_8 : decode m_X0_tensIn.2.1 8 = .ok (.istore 4, 2) := by decide +kernel
theorem dX0_tensIn_10 : decode m_X0_tensIn.2.1 10 = .ok (.iload 4, 2) := by decide +kernel
theorem dX0_tensIn_12 : decode m_X0_tensIn.2.1 12 = .ok (.iload_n 2, 1) := by decide +kernel
theorem dX0_tensIn_13 : decode m_X0_tensIn.2.1 13 = .ok (.if_icmp .le 14, 3) := by decide +kernel
theorem dX0_tensIn_16 : decode m_X0_tensIn.2.1 16 = .ok (.iload_n 3, 1) := by decide +kernel
theorem dX0_tensIn_17 : decode m_X0_tensIn.2.1 17 = .ok (.bipush 10, 2) := by decide +kernel
theorem dX0_tensIn_19 : decode m_X0_tensIn.2.1 19 = .ok (.idiv, 1) := by decide +kernel
theorem dX0_tensIn_20 : decode m_X0_tensIn.2.1 20 = .ok (.istore_n 3, 1) := by decide +kernel
theorem dX0_tensIn_21 : decode m_X0_tensIn.2.1 21 = .ok (.iinc 4 (-1), 3) := by decide +kernel
theorem dX0_tensIn_24 : decode m_X0_tensIn.2.1 24 = .ok (.goto (-14), 3) := by decide +kernel
theorem dX0_tensIn_27 : decode m_X0_tensIn.2.1 27 = .ok (.iload_n 3, 1) := by decide +kernel
theorem dX0_tensIn_28 : decode m_X0_tensIn.2.1 28 = .ok (.bipush 10, 2) := by decide +kernel
theorem dX0_tensIn_30 : decode m_X0_tensIn.2.1 30 = .ok (.irem, 1) := by decide +kernel
theorem dX0_tensIn_31 : decode m_X0_tensIn.2.1 31 = .ok (.ireturn, 1) := by decide +kernel
theorem dX0_sumIn_0 : decode m_X0_sumIn.2.1 0 = .ok (.iconst 0, 1) := by decide +kernel
theorem dX0_sumIn_1 : decode m_X0_sumIn.2.1 1 = .ok (.istore_n 3, 1) := by decide +kernel
theorem dX0_sumIn_2 : decode m_X0_sumIn.2.1 2 = .ok (.iconst 0, 1) := by decide +kernel
theorem dX0_sumIn_3 : decode m_X0_sumIn.2.1 3 = .ok (.istore 4, 2) := by decide +kernel
theorem dX0_sumIn_5 : decode m_X0_sumIn.2.1 5 = .ok (.iload 4, 2) := by decide +kernel
theorem dX0_sumIn_7 : decode m_X0_sumIn.2.1 7 = .ok (.aload_n 0, 1) := by decide +kernel
theorem dX0_sumIn_8 : decode m_X0_sumIn.2.1 8 = .ok (.getfield 34, 3) := by decide +kernel
theorem dX0_sumIn_11 : decode m_X0_sumIn.2.1 11 = .ok (.if_icmp .ge 50, 3) := by decide +kernel
theorem dX0_sumIn_14 : decode m_X0_sumIn.2.1 14 = .ok (.iload_n 3, 1) := by decide +kernel
theorem dX0_sumIn_15 : decode m_X0_sumIn.2.1 15 = .ok (.aload_n 0, 1) := by decide +kernel
theorem dX0_sumIn_16 : decode m_X0_sumIn.2.1 16 = .ok (.getfield 9, 3) := by decide +kernel
theorem dX0_sumIn_19 : decode m_X0_sumIn.2.1 19 = .ok (.aload_n 0, 1) := by decide +kernel
theorem dX0_sumIn_20 : decode m_X0_sumIn.2.1 20 = .ok (.getfield 31, 3) := by decide +kernel
theorem dX0_sumIn_23 : decode m_X0_sumIn.2.1 23 = .ok (.iload 4, 2) := by decide +kernel
theorem dX0_sumIn_25 : decode m_X0_sumIn.2.1 25 = .ok (.iaload, 1) := by decide +kernel
theorem dX0_sumIn_26 : decode m_X0_sumIn.2.1 26 = .ok (.iaload, 1) := by decide +kernel
theorem dX0_sumIn_27 : decode m_X0_sumIn.2.1 27 = .ok (.aload_n 0, 1) := by decide +kernel
theorem dX0_sumIn_28 : decode m_X0_sumIn.2.1 28 = .ok (.getfield 15, 3) := by decide +kernel
theorem dX0_sumIn_31 : decode m_X0_sumIn.2.1 31 = .ok (.aload_n 0, 1) := by decide +kernel
theorem dX0_sumIn_32 : decode m_X0_sumIn.2.1 32 = .ok (.getfield 31, 3) := by decide +kernel
theorem dX0_sumIn_35 : decode m_X0_sumIn.2.1 35 = .ok (.iload 4, 2) := by decide +kernel
theorem dX0_sumIn_37 : decode m_X0_sumIn.2.1 37 = .ok (.iaload, 1) := by decide +kernel
theorem dX0_sumIn_38 : decode m_X0_sumIn.2.1 38 = .ok (.iaload, 1) := by decide +kernel
theorem dX0_sumIn_39 : decode m_X0_sumIn.2.1 39 = .ok (.bipush 10, 2) := by decide +kernel
theorem dX0_sumIn_41 : decode m_X0_sumIn.2.1 41 = .ok (.aload_n 0, 1) := by decide +kernel
theorem dX0_sumIn_42 : decode m_X0_sumIn.2.1 42 = .ok (.iload_n 1, 1) := by decide +kernel
theorem dX0_sumIn_43 : decode m_X0_sumIn.2.1 43 = .ok (.iload 4, 2) := by decide +kernel
theorem dX0_sumIn_45 : decode m_X0_sumIn.2.1 45 = .ok (.invokevirtual 63, 3) := by decide +kernel
theorem dX0_sumIn_48 : decode m_X0_sumIn.2.1 48 = .ok (.imul, 1) := by decide +kernel
theorem dX0_sumIn_49 : decode m_X0_sumIn.2.1 49 = .ok (.iload_n 2, 1) := by decide +kernel
theorem dX0_sumIn_50 : decode m_X0_sumIn.2.1 50 = .ok (.invokestatic 66, 3) := by decide +kernel
theorem dX0_sumIn_53 : decode m_X0_sumIn.2.1 53 = .ok (.iadd, 1) := by decide +kernel
theorem dX0_sumIn_54 : decode m_X0_sumIn.2.1 54 = .ok (.istore_n 3, 1) := by decide +kernel
theorem dX0_sumIn_55 : decode m_X0_sumIn.2.1 55 = .ok (.iinc 4 1, 3) := by decide +kernel
theorem dX0_sumIn_58 : decode m_X0_sumIn.2.1 58 = .ok (.goto (-53), 3) := by decide +kernel
theorem dX0_sumIn_61 : decode m_X0_sumIn.2.1 61 = .ok (.iload_n 3, 1) := by decide +kernel
theorem dX0_sumIn_62 : decode m_X0_sumIn.2.1 62 = .ok (.ireturn, 1) := by decide +kernel
theorem dX0_priceIn_0 : decode m_X0_priceIn.2.1 0 = .ok (.iconst 0, 1) := by decide +kernel
theorem dX0_priceIn_1 : decode m_X0_priceIn.2.1 1 = .ok (.istore_n 2, 1) := by decide +kernel
theorem dX0_priceIn_2 : decode m_X0_priceIn.2.1 2 = .ok (.iconst 0, 1) := by decide +kernel
theorem dX0_priceIn_3 : decode m_X0_priceIn.2.1 3 = .ok (.istore_n 3, 1) := by decide +kernel
theorem dX0_priceIn_4 : decode m_X0_priceIn.2.1 4 = .ok (.iload_n 3, 1) := by decide +kernel
theorem dX0_priceIn_5 : decode m_X0_priceIn.2.1 5 = .ok (.aload_n 0, 1) := by decide +kernel
theorem dX0_priceIn_6 : decode m_X0_priceIn.2.1 6 = .ok (.getfield 34, 3) := by decide +kernel
theorem dX0_priceIn_9 : decode m_X0_priceIn.2.1 9 = .ok (.if_icmp .ge 33, 3) := by decide +kernel
theorem dX0_priceIn_12 : decode m_X0_priceIn.2.1 12 = .ok (.iload_n 2, 1) := by decide +kernel
theorem dX0_priceIn_13 : decode m_X0_priceIn.2.1 13 = .ok (.aload_n 0, 1) := by decide +kernel
theorem dX0_priceIn_14 : decode m_X0_priceIn.2.1 14 = .ok (.getfield 18, 3) := by decide +kernel
theorem dX0_priceIn_17 : decode m_X0_priceIn.2.1 17 = .ok (.aload_n 0, 1) := by decide +kernel
theorem dX0_priceIn_18 : decode m_X0_priceIn.2.1 18 = .ok (.getfield 31, 3) := by decide +kernel
theorem dX0_priceIn_21 : decode m_X0_priceIn.2.1 21 = .ok (.iload_n 3, 1) := by decide +kernel
theorem dX0_priceIn_22 : decode m_X0_priceIn.2.1 22 = .ok (.iaload, 1) := by decide +kernel
theorem dX0_priceIn_23 : decode m_X0_priceIn.2.1 23 = .ok (.iaload, 1) := by decide +kernel
theorem dX0_priceIn_24 : decode m_X0_priceIn.2.1 24 = .ok (.bipush 10, 2) := by decide +kernel
theorem dX0_priceIn_26 : decode m_X0_priceIn.2.1 26 = .ok (.imul, 1) := by decide +kernel
theorem dX0_priceIn_27 : decode m_X0_priceIn.2.1 27 = .ok (.aload_n 0, 1) := by decide +kernel
theorem dX0_priceIn_28 : decode m_X0_priceIn.2.1 28 = .ok (.iload_n 1, 1) := by decide +kernel
theorem dX0_priceIn_29 : decode m_X0_priceIn.2.1 29 = .ok (.iload_n 3, 1) := by decide +kernel
theorem dX0_priceIn_30 : decode m_X0_priceIn.2.1 30 = .ok (.invokevirtual 63, 3) := by decide +kernel
theorem dX0_priceIn_33 : decode m_X0_priceIn.2.1 33 = .ok (.imul, 1) := by decide +kernel
theorem dX0_priceIn_34 : decode m_X0_priceIn.2.1 34 = .ok (.iadd, 1) := by decide +kernel
theorem dX0_priceIn_35 : decode m_X0_priceIn.2.1 35 = .ok (.istore_n 2, 1) := by decide +kernel
theorem dX0_priceIn_36 : decode m_X0_priceIn.2.1 36 = .ok (.iinc 3 1, 3) := by decide +kernel
theorem dX0_priceIn_39 : decode m_X0_priceIn.2.1 39 = .ok (.goto (-35), 3) := by decide +kernel
theorem dX0_priceIn_42 : decode m_X0_priceIn.2.1 42 = .ok (.iload_n 2, 1) := by decide +kernel
theorem dX0_priceIn_43 : decode m_X0_priceIn.2.1 43 = .ok (.ireturn, 1) := by decide +kernel
theorem dX1_init_0 : decode m_X1_init.2.1 0 = .ok (.aload_n 0, 1) := by decide +kernel
theorem dX1_init_1 : decode m_X1_init.2.1 1 = .ok (.invokespecial 3, 3) := by decide +kernel
theorem dX1_init_4 : decode m_X1_init.2.1 4 = .ok (.aload_n 0, 1) := by decide +kernel
theorem dX1_init_5 : decode m_X1_init.2.1 5 = .ok (.iconst 0, 1) := by decide +kernel
theorem dX1_init_6 : decode m_X1_init.2.1 6 = .ok (.putfield 9, 3) := by decide +kernel
theorem dX1_init_9 : decode m_X1_init.2.1 9 = .ok (.aload_n 0, 1) := by decide +kernel
theorem dX1_init_10 : decode m_X1_init.2.1 10 = .ok (.iconst 0, 1) := by decide +kernel
theorem dX1_init_11 : decode m_X1_init.2.1 11 = .ok (.putfield 15, 3) := by decide +kernel
theorem dX1_init_14 : decode m_X1_init.2.1 14 = .ok (.aload_n 0, 1) := by decide +kernel
theorem dX1_init_15 : decode m_X1_init.2.1 15 = .ok (.iconst 0, 1) := by decide +kernel
theorem dX1_init_16 : decode m_X1_init.2.1 16 = .ok (.putfield 18, 3) := by decide +kernel
theorem dX1_init_19 : decode m_X1_init.2.1 19 = .ok (.aload_n 0, 1) := by decide +kernel
theorem dX1_init_20 : decode m_X1_init.2.1 20 = .ok (.iconst 0, 1) := by decide +kernel
theorem dX1_init_21 : decode m_X1_init.2.1 21 = .ok (.putfield 21, 3) := by decide +kernel
theorem dX1_init_24 : decode m_X1_init.2.1 24 = .ok (.aload_n 0, 1) := by decide +kernel
theorem dX1_init_25 : decode m_X1_init.2.1 25 = .ok (.bipush 24, 2) := by decide +kernel
theorem dX1_init_27 : decode m_X1_init.2.1 27 = .ok (.anewarray 24, 3) := by decide +kernel
theorem dX1_init_30 : decode m_X1_init.2.1 30 = .ok (.putfield 26, 3) := by decide +kernel
theorem dX1_init_33 : decode m_X1_init.2.1 33 = .ok (.iconst 0, 1) := by decide +kernel
theorem dX1_init_34 : decode m_X1_init.2.1 34 = .ok (.istore_n 1, 1) := by decide +kernel
theorem dX1_init_35 : decode m_X1_init.2.1 35 = .ok (.iload_n 1, 1) := by decide +kernel
theorem dX1_init_36 : decode m_X1_init.2.1 36 = .ok (.bipush 24, 2) := by decide +kernel
theorem dX1_init_38 : decode m_X1_init.2.1 38 = .ok (.if_icmp .ge 22, 3) := by decide +kernel
theorem dX1_init_41 : decode m_X1_init.2.1 41 = .ok (.aload_n 0, 1) := by decide +kernel
theorem dX1_init_42 : decode m_X1_init.2.1 42 = .ok (.getfield 26, 3) := by decide +kernel
theorem dX1_init_45 : decode m_X1_init.2.1 45 = .ok (.iload_n 1, 1) := by decide +kernel
theorem dX1_init_46 : decode m_X1_init.2.1 46 = .ok (.new 24, 3) := by decide +kernel
theorem dX1_init_49 : decode m_X1_init.2.1 49 = .ok (.dup, 1) := by decide +kernel
theorem dX1_init_50 : decode m_X1_init.2.1 50 = .ok (.invokespecial 30, 3) := by decide +kernel
theorem dX1_init_53 : decode m_X1_init.2.1 53 = .ok (.aastore, 1) := by decide +kernel
theorem dX1_init_54 : decode m_X1_init.2.1 54 = .ok (.iinc 1 1, 3) := by decide +kernel
theorem dX1_init_57 : decode m_X1_init.2.1 57 = .ok (.goto (-22), 3) := by decide +kernel
theorem dX1_init_60 : decode m_X1_init.2.1 60 = .ok (.aload_n 0, 1) := by decide +kernel
theorem dX1_init_61 : decode m_X1_init.2.1 61 = .ok (.iconst 0, 1) := by decide +kernel
theorem dX1_init_62 : decode m_X1_init.2.1 62 = .ok (.putfield 31, 3) := by decide +kernel
theorem dX1_init_65 : decode m_X1_init.2.1 65 = .ok (.aload_n 0, 1) := by decide +kernel
theorem dX1_init_66 : decode m_X1_init.2.1 66 = .ok (.iconst 5, 1) := by decide +kernel
theorem dX1_init_67 : decode m_X1_init.2.1 67 = .ok (.newarray .int, 2) := by decide +kernel
theorem dX1_init_69 : decode m_X1_init.2.1 69 = .ok (.putfield 34, 3) := by decide +kernel
theorem dX1_init_72 : decode m_X1_init.2.1 72 = .ok (.aload_n 0, 1) := by decide +kernel
theorem dX1_init_73 : decode m_X1_init.2.1 73 = .ok (.iconst 5, 1) := by decide +kernel
theorem dX1_init_74 : decode m_X1_init.2.1 74 = .ok (.newarray .int, 2) := by decide +kernel
theorem dX1_init_76 : decode m_X1_init.2.1 76 = .ok (.putfield 38, 3) := by decide +kernel
theorem dX1_init_79 : decode m_X1_init.2.1 79 = .ok (.aload_n 0, 1) := by decide +kernel
theorem dX1_init_80 : decode m_X1_init.2.1 80 = .ok (.iconst 5, 1) := by decide +kernel
theorem dX1_init_81 : decode m_X1_init.2.1 81 = .ok (.newarray .long, 2) := by decide +kernel
theorem dX1_init_83 : decode m_X1_init.2.1 83 = .ok (.putfield 41, 3) := by decide +kernel
theorem dX1_init_86 : decode m_X1_init.2.1 86 = .ok (.aload_n 0, 1) := by decide +kernel
theorem dX1_init_87 : decode m_X1_init.2.1 87 = .ok (.iconst 5, 1) := by decide +kernel
theorem dX1_init_88 : decode m_X1_init.2.1 88 = .ok (.newarray .int, 2) := by decide +kernel
theorem dX1_init_90 : decode m_X1_init.2.1 90 = .ok (.putfield 45, 3) := by decide +kernel
theorem dX1_init_93 : decode m_X1_init.2.1 93 = .ok (.return_, 1) := by decide +kernel
theorem dX1_become_0 : decode m_X1_become.2.1 0 = .ok (.aload_n 0, 1) := by decide +kernel
theorem dX1_become_1 : decode m_X1_become.2.1 1 = .ok (.aload_n 1, 1) := by decide +kernel
theorem dX1_become_2 : decode m_X1_become.2.1 2 = .ok (.getfield 9, 3) := by decide +kernel
theorem dX1_become_5 : decode m_X1_become.2.1 5 = .ok (.putfield 9, 3) := by decide +kernel
theorem dX1_become_8 : decode m_X1_become.2.1 8 = .ok (.aload_n 0, 1) := by decide +kernel
theorem dX1_become_9 : decode m_X1_become.2.1 9 = .ok (.aload_n 1, 1) := by decide +kernel
theorem dX1_become_10 : decode m_X1_become.2.1 10 = .ok (.getfield 15, 3) := by decide +kernel
theorem dX1_become_13 : decode m_X1_become.2.1 13 = .ok (.putfield 15, 3) := by decide +kernel
theorem dX1_become_16 : decode m_X1_become.2.1 16 = .ok (.aload_n 0, 1) := by decide +kernel
theorem dX1_become_17 : decode m_X1_become.2.1 17 = .ok (.aload_n 1, 1) := by decide +kernel
theorem dX1_become_18 : decode m_X1_become.2.1 18 = .ok (.getfield 18, 3) := by decide +kernel
theorem dX1_become_21 : decode m_X1_become.2.1 21 = .ok (.putfield 18, 3) := by decide +kernel
theorem dX1_become_24 : decode m_X1_become.2.1 24 = .ok (.aload_n 0, 1) := by decide +kernel
theorem dX1_become_25 : decode m_X1_become.2.1 25 = .ok (.aload_n 1, 1) := by decide +kernel
theorem dX1_become_26 : decode m_X1_become.2.1 26 = .ok (.getfield 21, 3) := by decide +kernel
theorem dX1_become_29 : decode m_X1_become.2.1 29 = .ok (.putfield 21, 3) := by decide +kernel
theorem dX1_become_32 : decode m_X1_become.2.1 32 = .ok (.aload_n 0, 1) := by decide +kernel
theorem dX1_become_33 : decode m_X1_become.2.1 33 = .ok (.aload_n 1, 1) := by decide +kernel
theorem dX1_become_34 : decode m_X1_become.2.1 34 = .ok (.getfield 31, 3) := by decide +kernel
theorem dX1_become_37 : decode m_X1_become.2.1 37 = .ok (.putfield 31, 3) := by decide +kernel
theorem dX1_become_40 : decode m_X1_become.2.1 40 = .ok (.iconst 0, 1) := by decide +kernel
theorem dX1_become_41 : decode m_X1_become.2.1 41 = .ok (.istore_n 2, 1) := by decide +kernel
theorem dX1_become_42 : decode m_X1_become.2.1 42 = .ok (.iload_n 2, 1) := by decide +kernel
theorem dX1_become_43 : decode m_X1_become.2.1 43 = .ok (.aload_n 0, 1) := by decide +kernel
theorem dX1_become_44 : decode m_X1_become.2.1 44 = .ok (.getfield 31, 3) := by decide +kernel
theorem dX1_become_47 : decode m_X1_become.2.1 47 = .ok (.if_icmp .ge 24, 3) := by decide +kernel
theorem dX1_become_50 : decode m_X1_become.2.1 50 = .ok (.aload_n 0, 1) := by decide +kernel
theorem dX1_become_51 : decode m_X1_become.2.1 51 = .ok (.getfield 26, 3) := by decide +kernel
theorem dX1_become_54 : decode m_X1_become.2.1 54 = .ok (.iload_n 2, 1) := by decide +kernel
theorem dX1_become_55 : decode m_X1_become.2.1 55 = .ok (.aaload, 1) := by decide +kernel
theorem dX1_become_56 : decode m_X1_become.2.1 56 = .ok (.aload_n 1, 1) := by decide +kernel
theorem dX1_become_57 : decode m_X1_become.2.1 57 = .ok (.getfield 26, 3) := by decide +kernel
theorem dX1_become_60 : decode m_X1_become.2.1 60 = .ok (.iload_n 2, 1) := by decide +kernel
theorem dX1_become_61 : decode m_X1_become.2.1 61 = .ok (.aaload, 1) := by decide +kernel
theorem dX1_become_62 : decode m_X1_become.2.1 62 = .ok (.invokevirtual 48, 3) := by decide +kernel
theorem dX1_become_65 : decode m_X1_become.2.1 65 = .ok (.iinc 2 1, 3) := by decide +kernel
theorem dX1_become_68 : decode m_X1_become.2.1 68 = .ok (.goto (-26), 3) := by decide +kernel
theorem dX1_become_71 : decode m_X1_become.2.1 71 = .ok (.aload_n 1, 1) := by decide +kernel
theorem dX1_become_72 : decode m_X1_become.2.1 72 = .ok (.getfield 34, 3) := by decide +kernel
theorem dX1_become_75 : decode m_X1_become.2.1 75 = .ok (.iconst 0, 1) := by decide +kernel
theorem dX1_become_76 : decode m_X1_become.2.1 76 = .ok (.aload_n 0, 1) := by decide +kernel
theorem dX1_become_77 : decode m_X1_become.2.1 77 = .ok (.getfield 34, 3) := by decide +kernel
theorem dX1_become_80 : decode m_X1_become.2.1 80 = .ok (.iconst 0, 1) := by decide +kernel
theorem dX1_become_81 : decode m_X1_become.2.1 81 = .ok (.iconst 5, 1) := by decide +kernel
theorem dX1_become_82 : decode m_X1_become.2.1 82 = .ok (.invokestatic 52, 3) := by decide +kernel
theorem dX1_become_85 : decode m_X1_become.2.1 85 = .ok (.return_, 1) := by decide +kernel
theorem dX1_has_0 : decode m_X1_has.2.1 0 = .ok (.iload_n 1, 1) := by decide +kernel
theorem dX1_has_1 : decode m_X1_has.2.1 1 = .ok (.ifCond .lt 15, 3) := by decide +kernel
theorem dX1_has_4 : decode m_X1_has.2.1 4 = .ok (.iload_n 1, 1) := by decide +kernel
theorem dX1_has_5 : decode m_X1_has.2.1 5 = .ok (.aload_n 0, 1) := by decide +kernel
theorem dX1_has_6 : decode m_X1_has.2.1 6 = .ok (.getfield 31, 3) := by decide +kernel
theorem dX1_has_9 : decode m_X1_has.2.1 9 = .ok (.if_icmp .ge 7, 3) := by decide +kernel
theorem dX1_has_12 : decode m_X1_has.2.1 12 = .ok (.iconst 1, 1) := by decide +kernel
theorem dX1_has_13 : decode m_X1_has.2.1 13 = .ok (.goto 4, 3) := by decide +kernel
theorem dX1_has_16 : decode m_X1_has.2.1 16 = .ok (.iconst 0, 1) := by decide +kernel
theorem dX1_has_17 : decode m_X1_has.2.1 17 = .ok (.ireturn, 1) := by decide +kernel
theorem dX1_hasRoom_0 : decode m_X1_hasRoom.2.1 0 = .ok (.aload_n 0, 1) := by decide +kernel
theorem dX1_hasRoom_1 : decode m_X1_hasRoom.2.1 1 = .ok (.getfield 31, 3) := by decide +kernel
theorem dX1_hasRoom_4 : decode m_X1_hasRoom.2.1 4 = .ok (.bipush 24, 2) := by decide +kernel
theorem dX1_hasRoom_6 : decode m_X1_hasRoom.2.1 6 = .ok (.if_icmp .ge 7, 3) := by decide +kernel
theorem dX1_hasRoom_9 : decode m_X1_hasRoom.2.1 9 = .ok (.iconst 1, 1) := by decide +kernel
theorem dX1_hasRoom_10 : decode m_X1_hasRoom.2.1 10 = .ok (.goto 4, 3) := by decide +kernel
theorem dX1_hasRoom_13 : decode m_X1_hasRoom.2.1 13 = .ok (.iconst 0, 1) := by decide +kernel
theorem dX1_hasRoom_14 : decode m_X1_hasRoom.2.1 14 = .ok (.ireturn, 1) := by decide +kernel
theorem dX1_topOf_0 : decode m_X1_topOf.2.1 0 = .ok (.aload_n 0, 1) := by decide +kernel
theorem dX1_topOf_1 : decode m_X1_topOf.2.1 1 = .ok (.getfield 34, 3) := by decide +kernel
theorem dX1_topOf_4 : decode m_X1_topOf.2.1 4 = .ok (.iload_n 1, 1) := by decide +kernel
theorem dX1_topOf_5 : decode m_X1_topOf.2.1 5 = .ok (.iaload, 1) := by decide +kernel
theorem dX1_topOf_6 : decode m_X1_topOf.2.1 6 = .ok (.bipush 100, 2) := by decide +kernel
theorem dX1_topOf_8 : decode m_X1_topOf.2.1 8 = .ok (.imul, 1) := by decide +kernel
theorem dX1_topOf_9 : decode m_X1_topOf.2.1 9 = .ok (.getstatic 58, 3) := by decide +kernel
theorem dX1_topOf_12 : decode m_X1_topOf.2.1 12 = .ok (.iload_n 1, 1) := by decide +kernel
theorem dX1_topOf_13 : decode m_X1_topOf.2.1 13 = .ok (.iaload, 1) := by decide +kernel
theorem dX1_topOf_14 : decode m_X1_topOf.2.1 14 = .ok (.idiv, 1) := by decide +kernel
theorem dX1_topOf_15 : decode m_X1_topOf.2.1 15 = .ok (.ireturn, 1) := by decide +kernel
theorem dX1_greatestTop_0 : decode m_X1_greatestTop.2.1 0 = .ok (.iconst 0, 1) := by decide +kernel
theorem dX1_greatestTop_1 : decode m_X1_greatestTop.2.1 1 = .ok (.istore_n 1, 1) := by decide +kernel
theorem dX1_greatestTop_2 : decode m_X1_greatestTop.2.1 2 = .ok (.iconst 0, 1) := by decide +kernel
theorem dX1_greatestTop_3 : decode m_X1_greatestTop.2.1 3 = .ok (.istore_n 2, 1) := by decide +kernel
theorem dX1_greatestTop_4 : decode m_X1_greatestTop.2.1 4 = .ok (.iload_n 2, 1) := by decide +kernel
theorem dX1_greatestTop_5 : decode m_X1_greatestTop.2.1 5 = .ok (.iconst 5, 1) := by decide +kernel
theorem dX1_greatestTop_6 : decode m_X1_greatestTop.2.1 6 = .ok (.if_icmp .ge 19, 3) := by decide +kernel
theorem dX1_greatestTop_9 : decode m_X1_greatestTop.2.1 9 = .ok (.iload_n 1, 1) := by decide +kernel
theorem dX1_greatestTop_10 : decode m_X1_greatestTop.2.1 10 = .ok (.aload_n 0, 1) := by decide +kernel
theorem dX1_greatestTop_11 : decode m_X1_greatestTop.2.1 11 = .ok (.iload_n 2, 1) := by decide +kernel
theorem dX1_greatestTop_12 : decode m_X1_greatestTop.2.1 12 = .ok (.invokevirtual 61, 3) := by decide +kernel
theorem dX1_greatestTop_15 : decode m_X1_greatestTop.2.1 15 = .ok (.invokestatic 65, 3) := by decide +kernel
theorem dX1_greatestTop_18 : decode m_X1_greatestTop.2.1 18 = .ok (.istore_n 1, 1) := by decide +kernel
theorem dX1_greatestTop_19 : decode m_X1_greatestTop.2.1 19 = .ok (.iinc 2 1, 3) := by decide +kernel
theorem dX1_greatestTop_22 : decode m_X1_greatestTop.2.1 22 = .ok (.goto (-18), 3) := by decide +kernel
theorem dX1_greatestTop_25 : decode m_X1_greatestTop.2.1 25 = .ok (.iload_n 1, 1) := by decide +kernel
theorem dX1_greatestTop_26 : decode m_X1_greatestTop.2.1 26 = .ok (.ireturn, 1) := by decide +kernel
theorem dX1_allBulk_0 : decode m_X1_allBulk.2.1 0 = .ok (.iconst 0, 1) := by decide +kernel
theorem dX1_allBulk_1 : decode m_X1_allBulk.2.1 1 = .ok (.istore_n 1, 1) := by decide +kernel
theorem dX1_allBulk_2 : decode m_X1_allBulk.2.1 2 = .ok (.iconst 0, 1) := by decide +kernel
theorem dX1_allBulk_3 : decode m_X1_allBulk.2.1 3 = .ok (.istore_n 2, 1) := by decide +kernel
theorem dX1_allBulk_4 : decode m_X1_allBulk.2.1 4 = .ok (.iload_n 2, 1) := by decide +kernel
theorem dX1_allBulk_5 : decode m_X1_allBulk.2.1 5 = .ok (.iconst 5, 1) := by decide +kernel
theorem dX1_allBulk_6 : decode m_X1_allBulk.2.1 6 = .ok (.if_icmp .ge 18, 3) := by decide +kernel
theorem dX1_allBulk_9 : decode m_X1_allBulk.2.1 9 = .ok (.iload_n 1, 1) := by decide +kernel
theorem dX1_allBulk_10 : decode m_X1_allBulk.2.1 10 = .ok (.aload_n 0, 1) := by decide +kernel
theorem dX1_allBulk_11 : decode m_X1_allBulk.2.1 11 = .ok (.getfield 34, 3) := by decide +kernel
theorem dX1_allBulk_14 : decode m_X1_allBulk.2.1 14 = .ok (.iload_n 2, 1) := by decide +kernel
theorem dX1_allBulk_15 : decode m_X1_allBulk.2.1 15 = .ok (.iaload, 1) := by decide +kernel
theorem dX1_allBulk_16 : decode m_X1_allBulk.2.1 16 = .ok (.iadd, 1) := by decide +kernel
theorem dX1_allBulk_17 : decode m_X1_allBulk.2.1 17 = .ok (.istore_n 1, 1) := by decide +kernel
theorem dX1_allBulk_18 : decode m_X1_allBulk.2.1 18 = .ok (.iinc 2 1, 3) := by decide +kernel
theorem dX1_allBulk_21 : decode m_X1_allBulk.2.1 21 = .ok (.goto (-17), 3) := by decide +kernel
theorem dX1_allBulk_24 : decode m_X1_allBulk.2.1 24 = .ok (.iload_n 1, 1) := by decide +kernel
theorem dX1_allBulk_25 : decode m_X1_allBulk.2.1 25 = .ok (.ireturn, 1) := by decide +kernel
theorem dX1_basic_0 : decode m_X1_basic.2.1 0 = .ok (.aload_n 0, 1) := by decide +kernel
theorem dX1_basic_1 : decode m_X1_basic.2.1 1 = .ok (.getfield 21, 3) := by decide +kernel
theorem dX1_basic_4 : decode m_X1_basic.2.1 4 = .ok (.aload_n 0, 1) := by decide +kernel
theorem dX1_basic_5 : decode m_X1_basic.2.1 5 = .ok (.getfield 18, 3) := by decide +kernel
theorem dX1_basic_8 : decode m_X1_basic.2.1 8 = .ok (.invokestatic 71, 3) := by decide +kernel
theorem dX1_basic_11 : decode m_X1_basic.2.1 11 = .ok (.ireturn, 1) := by decide +kernel
theorem dX1_resistanceOf_0 : decode m_X1_resistanceOf.2.1 0 = .ok (.iconst 1, 1) := by decide +kernel
theorem dX1_resistanceOf_1 : decode m_X1_resistanceOf.2.1 1 = .ok (.istore_n 2, 1) := by decide +kernel
theorem dX1_resistanceOf_2 : decode m_X1_resistanceOf.2.1 2 = .ok (.iconst 0, 1) := by decide +kernel
theorem dX1_resistanceOf_3 : decode m_X1_resistanceOf.2.1 3 = .ok (.istore_n 3, 1) := by decide +kernel
theorem dX1_resistanceOf_4 : decode m_X1_resistanceOf.2.1 4 = .ok (.iload_n 3, 1) := by decide +kernel
theorem dX1_resistanceOf_5 : decode m_X1_resistanceOf.2.1 5 = .ok (.aload_n 0, 1) := by decide +kernel
theorem dX1_resistanceOf_6 : decode m_X1_resistanceOf.2.1 6 = .ok (.getfield 31, 3) := by decide +kernel
theorem dX1_resistanceOf_9 : decode m_X1_resistanceOf.2.1 9 = .ok (.if_icmp .ge 33, 3) := by decide +kernel
theorem dX1_resistanceOf_12 : decode m_X1_resistanceOf.2.1 12 = .ok (.iload_n 2, 1) := by decide +kernel
theorem dX1_resistanceOf_13 : decode m_X1_resistanceOf.2.1 13 = .ok (.aload_n 0, 1) := by decide +kernel
theorem dX1_resistanceOf_14 : decode m_X1_resistanceOf.2.1 14 = .ok (.getfield 26, 3) := by decide +kernel
theorem dX1_resistanceOf_17 : decode m_X1_resistanceOf.2.1 17 = .ok (.iload_n 3, 1) := by decide +kernel
theorem dX1_resistanceOf_18 : decode m_X1_resistanceOf.2.1 18 = .ok (.aaload, 1) := by decide +kernel
theorem dX1_resistanceOf_19 : decode m_X1_resistanceOf.2.1 19 = .ok (.getfield 74, 3) := by decide +kernel
theorem dX1_resistanceOf_22 : decode m_X1_resistanceOf.2.1 22 = .ok (.iload_n 1, 1) := by decide +kernel
theorem dX1_resistanceOf_23 : decode m_X1_resistanceOf.2.1 23 = .ok (.iaload, 1) := by decide +kernel
theorem dX1_resistanceOf_24 : decode m_X1_resistanceOf.2.1 24 = .ok (.aload_n 0, 1) := by decide +kernel
theorem dX1_resistanceOf_25 : decode m_X1_resistanceOf.2.1 25 = .ok (.getfield 26, 3) := by decide +kernel
theorem dX1_resistanceOf_28 : decode m_X1_resistanceOf.2.1 28 = .ok (.iload_n 3, 1) := by decide +kernel
theorem dX1_resistanceOf_29 : decode m_X1_resistanceOf.2.1 29 = .ok (.aaload, 1) := by decide +kernel
theorem dX1_resistanceOf_30 : decode m_X1_resistanceOf.2.1 30 = .ok (.getfield 77, 3) := by decide +kernel
theorem dX1_resistanceOf_33 : decode m_X1_resistanceOf.2.1 33 = .ok (.imul, 1) := by decide +kernel
theorem dX1_resistanceOf_34 : decode m_X1_resistanceOf.2.1 34 = .ok (.iadd, 1) := by decide +kernel
theorem dX1_resistanceOf_35 : decode m_X1_resistanceOf.2.1 35 = .ok (.istore_n 2, 1) := by decide +kernel
theorem dX1_resistanceOf_36 : decode m_X1_resistanceOf.2.1 36 = .ok (.iinc 3 1, 3) := by decide +kernel
theorem dX1_resistanceOf_39 : decode m_X1_resistanceOf.2.1 39 = .ok (.goto (-35), 3) := by decide +kernel
theorem dX1_resistanceOf_42 : decode m_X1_resistanceOf.2.1 42 = .ok (.iload_n 2, 1) := by decide +kernel
theorem dX1_resistanceOf_43 : decode m_X1_resistanceOf.2.1 43 = .ok (.ireturn, 1) := by decide +kernel
theorem dX1_partByWeights_0 : decode m_X1_partByWeights.2.1 0 = .ok (.lconst 0, 1) := by decide +kernel
theorem dX1_partByWeights_1 : decode m_X1_partByWeights.2.1 1 = .ok (.lstore_n 2, 1) := by decide +kernel
theorem dX1_partByWeights_2 : decode m_X1_partByWeights.2.1 2 = .ok (.iconst 0, 1) := by decide +kernel
theorem dX1_partByWeights_3 : decode m_X1_partByWeights.2.1 3 = .ok (.istore 4, 2) := by decide +kernel
theorem dX1_partByWeights_5 : decode m_X1_partByWeights.2.1 5 = .ok (.iload 4, 2) := by decide +kernel
theorem dX1_partByWeights_7 : decode m_X1_partByWeights.2.1 7 = .ok (.iconst 5, 1) := by decide +kernel
theorem dX1_partByWeights_8 : decode m_X1_partByWeights.2.1 8 = .ok (.if_icmp .ge 28, 3) := by decide +kernel
theorem dX1_partByWeights_11 : decode m_X1_partByWeights.2.1 11 = .ok (.lload_n 2, 1) := by decide +kernel
theorem dX1_partByWeights_12 : decode m_X1_partByWeights.2.1 12 = .ok (.aload_n 0, 1) := by decide +kernel
theorem dX1_partByWeights_13 : decode m_X1_partByWeights.2.1 13 = .ok (.getfield 38, 3) := by decide +kernel
theorem dX1_partByWeights_16 : decode m_X1_partByWeights.2.1 16 = .ok (.iload 4, 2) := by decide +kernel
theorem dX1_partByWeights_18 : decode m_X1_partByWeights.2.1 18 = .ok (.iaload, 1) := by decide +kernel
theorem dX1_partByWeights_19 : decode m_X1_partByWeights.2.1 19 = .ok (.i2l, 1) := by decide +kernel
theorem dX1_partByWeights_20 : decode m_X1_partByWeights.2.1 20 = .ok (.ladd, 1) := by decide +kernel
theorem dX1_partByWeights_21 : decode m_X1_partByWeights.2.1 21 = .ok (.lstore_n 2, 1) := by decide +kernel
theorem dX1_partByWeights_22 : decode m_X1_partByWeights.2.1 22 = .ok (.aload_n 0, 1) := by decide +kernel
theorem dX1_partByWeights_23 : decode m_X1_partByWeights.2.1 23 = .ok (.getfield 45, 3) := by decide +kernel
theorem dX1_partByWeights_26 : decode m_X1_partByWeights.2.1 26 = .ok (.iload 4, 2) := by decide +kernel
theorem dX1_partByWeights_28 : decode m_X1_partByWeights.2.1 28 = .ok (.iconst 0, 1) := by decide +kernel
theorem dX1_partByWeights_29 : decode m_X1_partByWeights.2.1 29 = .ok (.iastore, 1) := by decide +kernel
theorem dX1_partByWeights_30 : decode m_X1_partByWeights.2.1 30 = .ok (.iinc 4 1, 3) := by decide +kernel
theorem dX1_partByWeights_33 : decode m_X1_partByWeights.2.1 33 = .ok (.goto (-28), 3) := by decide +kernel
theorem dX1_partByWeights_36 : decode m_X1_partByWeights.2.1 36 = .ok (.lload_n 2, 1) := by decide +kernel
theorem dX1_partByWeights_37 : decode m_X1_partByWeights.2.1 37 = .ok (.lconst 0, 1) := by decide +kernel
theorem dX1_partByWeights_38 : decode m_X1_partByWeights.2.1 38 = .ok (.lcmp, 1) := by decide +kernel
theorem dX1_partByWeights_39 : decode m_X1_partByWeights.2.1 39 = .ok (.ifCond .gt 4, 3) := by decide +kernel
theorem dX1_partByWeights_42 : decode m_X1_partByWeights.2.1 42 = .ok (.return_, 1) := by decide +kernel
theorem dX1_partByWeights_43 : decode m_X1_partByWeights.2.1 43 = .ok (.iload_n 1, 1) := by decide +kernel
theorem dX1_partByWeights_44 : decode m_X1_partByWeights.2.1 44 = .ok (.istore 4, 2) := by decide +kernel
theorem dX1_partByWeights_46 : decode m_X1_partByWeights.2.1 46 = .ok (.iconst 0, 1) := by decide +kernel
theorem dX1_partByWeights_47 : decode m_X1_partByWeights.2.1 47 = .ok (.istore 5, 2) := by decide +kernel
theorem dX1_partByWeights_49 : decode m_X1_partByWeights.2.1 49 = .ok (.iload 5, 2) := by decide +kernel
theorem dX1_partByWeights_51 : decode m_X1_partByWeights.2.1 51 = .ok (.iconst 5, 1) := by decide +kernel
theorem dX1_partByWeights_52 : decode m_X1_partByWeights.2.1 52 = .ok (.if_icmp .ge 57, 3) := by decide +kernel
theorem dX1_partByWeights_55 : decode m_X1_partByWeights.2.1 55 = .ok (.iload_n 1, 1) := by decide +kernel
theorem dX1_partByWeights_56 : decode m_X1_partByWeights.2.1 56 = .ok (.i2l, 1) := by decide +kernel
theorem dX1_partByWeights_57 : decode m_X1_partByWeights.2.1 57 = .ok (.aload_n 0, 1) := by decide +kernel
theorem dX1_partByWeights_58 : decode m_X1_partByWeights.2.1 58 = .ok (.getfield 38, 3) := by decide +kernel
theorem dX1_partByWeights_61 : decode m_X1_partByWeights.2.1 61 = .ok (.iload 5, 2) := by decide +kernel
theorem dX1_partByWeights_63 : decode m_X1_partByWeights.2.1 63 = .ok (.iaload, 1) := by decide +kernel
theorem dX1_partByWeights_64 : decode m_X1_partByWeights.2.1 64 = .ok (.i2l, 1) := by decide +kernel
theorem dX1_partByWeights_65 : decode m_X1_partByWeights.2.1 65 = .ok (.lmul, 1) := by decide +kernel
theorem dX1_partByWeights_66 : decode m_X1_partByWeights.2.1 66 = .ok (.lstore 6, 2) := by decide +kernel
theorem dX1_partByWeights_68 : decode m_X1_partByWeights.2.1 68 = .ok (.aload_n 0, 1) := by decide +kernel
theorem dX1_partByWeights_69 : decode m_X1_partByWeights.2.1 69 = .ok (.getfield 45, 3) := by decide +kernel
theorem dX1_partByWeights_72 : decode m_X1_partByWeights.2.1 72 = .ok (.iload 5, 2) := by decide +kernel
theorem dX1_partByWeights_74 : decode m_X1_partByWeights.2.1 74 = .ok (.lload 6, 2) := by decide +kernel
theorem dX1_partByWeights_76 : decode m_X1_partByWeights.2.1 76 = .ok (.lload_n 2, 1) := by decide +kernel
theorem dX1_partByWeights_77 : decode m_X1_partByWeights.2.1 77 = .ok (.ldiv, 1) := by decide +kernel
theorem dX1_partByWeights_78 : decode m_X1_partByWeights.2.1 78 = .ok (.l2i, 1) := by decide +kernel
theorem dX1_partByWeights_79 : decode m_X1_partByWeights.2.1 79 = .ok (.iastore, 1) := by decide +kernel
theorem dX1_partByWeights_80 : decode m_X1_partByWeights.2.1 80 = .ok (.aload_n 0, 1) := by decide +kernel
theorem dX1_partByWeights_81 : decode m_X1_partByWeights.2.1 81 = .ok (.getfield 41, 3) := by decide +kernel
theorem dX1_partByWeights_84 : decode m_X1_partByWeights.2.1 84 = .ok (.iload 5, 2) := by decide +kernel
theorem dX1_partByWeights_86 : decode m_X1_partByWeights.2.1 86 = .ok (.lload 6, 2) := by decide +kernel
theorem dX1_partByWeights_88 : decode m_X1_partByWeights.2.1 88 = .ok (.lload_n 2, 1) := by decide +kernel
theorem dX1_partByWeights_89 : decode m_X1_partByWeights.2.1 89 = .ok (.lrem, 1) := by decide +kernel
theorem dX1_partByWeights_90 : decode m_X1_partByWeights.2.1 90 = .ok (.lastore, 1) := by decide +kernel
theorem dX1_partByWeights_91 : decode m_X1_partByWeights.2.1 91 = .ok (.iload 4, 2) := by decide +kernel
theorem dX1_partByWeights_93 : decode m_X1_partByWeights.2.1 93 = .ok (.aload_n 0, 1) := by decide +kernel
theorem dX1_partByWeights_94 : decode m_X1_partByWeights.2.1 94 = .ok (.getfield 45, 3) := by decide +kernel
theorem dX1_partByWeights_97 : decode m_X1_partByWeights.2.1 97 = .ok (.iload 5, 2) := by decide +kernel
theorem dX1_partByWeights_99 : decode m_X1_partByWeights.2.1 99 = .ok (.iaload, 1) := by decide +kernel
theorem dX1_partByWeights_100 : decode m_X1_partByWeights.2.1 100 = .ok (.isub, 1) := by decide +kernel
theorem dX1_partByWeights_101 : decode m_X1_partByWeights.2.1 101 = .ok (.istore 4, 2) := by decide +kernel
theorem dX1_partByWeights_103 : decode m_X1_partByWeights.2.1 103 = .ok (.iinc 5 1, 3) := by decide +kernel
theorem dX1_partByWeights_106 : decode m_X1_partByWeights.2.1 106 = .ok (.goto (-57), 3) := by decide +kernel
theorem dX1_partByWeights_109 : decode m_X1_partByWeights.2.1 109 = .ok (.iconst 0, 1) := by decide +kernel
theorem dX1_partByWeights_110 : decode m_X1_partByWeights.2.1 110 = .ok (.istore 5, 2) := by decide +kernel
theorem dX1_partByWeights_112 : decode m_X1_partByWeights.2.1 112 = .ok (.iload 5, 2) := by decide +kernel
theorem dX1_partByWeights_114 : decode m_X1_partByWeights.2.1 114 = .ok (.iload 4, 2) := by decide +kernel
theorem dX1_partByWeights_116 : decode m_X1_partByWeights.2.1 116 = .ok (.if_icmp .ge 42, 3) := by decide +kernel
theorem dX1_partByWeights_119 : decode m_X1_partByWeights.2.1 119 = .ok (.iload 5, 2) := by decide +kernel
theorem dX1_partByWeights_121 : decode m_X1_partByWeights.2.1 121 = .ok (.iconst 5, 1) := by decide +kernel
theorem dX1_partByWeights_122 : decode m_X1_partByWeights.2.1 122 = .ok (.if_icmp .ge 36, 3) := by decide +kernel
theorem dX1_partByWeights_125 : decode m_X1_partByWeights.2.1 125 = .ok (.aload_n 0, 1) := by decide +kernel
theorem dX1_partByWeights_126 : decode m_X1_partByWeights.2.1 126 = .ok (.invokevirtual 80, 3) := by decide +kernel
theorem dX1_partByWeights_129 : decode m_X1_partByWeights.2.1 129 = .ok (.istore 6, 2) := by decide +kernel
theorem dX1_partByWeights_131 : decode m_X1_partByWeights.2.1 131 = .ok (.aload_n 0, 1) := by decide +kernel
theorem dX1_partByWeights_132 : decode m_X1_partByWeights.2.1 132 = .ok (.getfield 45, 3) := by decide +kernel
theorem dX1_partByWeights_135 : decode m_X1_partByWeights.2.1 135 = .ok (.iload 6, 2) := by decide +kernel
theorem dX1_partByWeights_137 : decode m_X1_partByWeights.2.1 137 = .ok (.dup2, 1) := by decide +kernel
theorem dX1_partByWeights_138 : decode m_X1_partByWeights.2.1 138 = .ok (.iaload, 1) := by decide +kernel
theorem dX1_partByWeights_139 : decode m_X1_partByWeights.2.1 139 = .ok (.iconst 1, 1) := by decide +kernel
theorem dX1_partByWeights_140 : decode m_X1_partByWeights.2.1 140 = .ok (.iadd, 1) := by decide +kernel
theorem dX1_partByWeights_141 : decode m_X1_partByWeights.2.1 141 = .ok (.iastore, 1) := by decide +kernel
theorem dX1_partByWeights_142 : decode m_X1_partByWeights.2.1 142 = .ok (.aload_n 0, 1) := by decide +kernel
theorem dX1_partByWeights_143 : decode m_X1_partByWeights.2.1 143 = .ok (.getfield 41, 3) := by decide +kernel
theorem dX1_partByWeights_146 : decode m_X1_partByWeights.2.1 146 = .ok (.iload 6, 2) := by decide +kernel
theorem dX1_partByWeights_148 : decode m_X1_partByWeights.2.1 148 = .ok (.ldc2_w 84, 3) := by decide +kernel
theorem dX1_partByWeights_151 : decode m_X1_partByWeights.2.1 151 = .ok (.lastore, 1) := by decide +kernel
theorem dX1_partByWeights_152 : decode m_X1_partByWeights.2.1 152 = .ok (.iinc 5 1, 3) := by decide +kernel
theorem dX1_partByWeights_155 : decode m_X1_partByWeights.2.1 155 = .ok (.goto (-43), 3) := by decide +kernel
theorem dX1_partByWeights_158 : decode m_X1_partByWeights.2.1 158 = .ok (.return_, 1) := by decide +kernel
theorem dX1_greatestRest_0 : decode m_X1_greatestRest.2.1 0 = .ok (.iconst 0, 1) := by decide +kernel
theorem dX1_greatestRest_1 : decode m_X1_greatestRest.2.1 1 = .ok (.istore_n 1, 1) := by decide +kernel
theorem dX1_greatestRest_2 : decode m_X1_greatestRest.2.1 2 = .ok (.iconst 1, 1) := by decide +kernel
theorem dX1_greatestRest_3 : decode m_X1_greatestRest.2.1 3 = .ok (.istore_n 2, 1) := by decide +kernel
theorem dX1_greatestRest_4 : decode m_X1_greatestRest.2.1 4 = .ok (.iload_n 2, 1) := by decide +kernel
theorem dX1_greatestRest_5 : decode m_X1_greatestRest.2.1 5 = .ok (.iconst 5, 1) := by decide +kernel
theorem dX1_greatestRest_6 : decode m_X1_greatestRest.2.1 6 = .ok (.if_icmp .ge 27, 3) := by decide +kernel
theorem dX1_greatestRest_9 : decode m_X1_greatestRest.2.1 9 = .ok (.aload_n 0, 1) := by decide +kernel
theorem dX1_greatestRest_10 : decode m_X1_greatestRest.2.1 10 = .ok (.getfield 41, 3) := by decide +kernel
theorem dX1_greatestRest_13 : decode m_X1_greatestRest.2.1 13 = .ok (.iload_n 2, 1) := by decide +kernel
theorem dX1_greatestRest_14 : decode m_X1_greatestRest.2.1 14 = .ok (.laload, 1) := by decide +kernel
theorem dX1_greatestRest_15 : decode m_X1_greatestRest.2.1 15 = .ok (.aload_n 0, 1) := by decide +kernel
theorem dX1_greatestRest_16 : decode m_X1_greatestRest.2.1 16 = .ok (.getfield 41, 3) := by decide +kernel
theorem dX1_greatestRest_19 : decode m_X1_greatestRest.2.1 19 = .ok (.iload_n 1, 1) := by decide +kernel
theorem dX1_greatestRest_20 : decode m_X1_greatestRest.2.1 20 = .ok (.laload, 1) := by decide +kernel
theorem dX1_greatestRest_21 : decode m_X1_greatestRest.2.1 21 = .ok (.lcmp, 1) := by decide +kernel
theorem dX1_greatestRest_22 : decode m_X1_greatestRest.2.1 22 = .ok (.ifCond .le 5, 3) := by decide +kernel
theorem dX1_greatestRest_25 : decode m_X1_greatestRest.2.1 25 = .ok (.iload_n 2, 1) := by decide +kernel
theorem dX1_greatestRest_26 : decode m_X1_greatestRest.2.1 26 = .ok (.istore_n 1, 1) := by decide +kernel
theorem dX1_greatestRest_27 : decode m_X1_greatestRest.2.1 27 = .ok (.iinc 2 1, 3) := by decide +kernel
theorem dX1_greatestRest_30 : decode m_X1_greatestRest.2.1 30 = .ok (.goto (-26), 3) := by decide +kernel
theorem dX1_greatestRest_33 : decode m_X1_greatestRest.2.1 33 = .ok (.iload_n 1, 1) := by decide +kernel
theorem dX1_greatestRest_34 : decode m_X1_greatestRest.2.1 34 = .ok (.ireturn, 1) := by decide +kernel
theorem dX1_layOn_0 : decode m_X1_layOn.2.1 0 = .ok (.aload_n 0, 1) := by decide +kernel
theorem dX1_layOn_1 : decode m_X1_layOn.2.1 1 = .ok (.invokevirtual 86, 3) := by decide +kernel
theorem dX1_layOn_4 : decode m_X1_layOn.2.1 4 = .ok (.ifCond .ne 4, 3) := by decide +kernel
theorem dX1_layOn_7 : decode m_X1_layOn.2.1 7 = .ok (.return_, 1) := by decide +kernel
theorem dX1_layOn_8 : decode m_X1_layOn.2.1 8 = .ok (.aload_n 0, 1) := by decide +kernel
theorem dX1_layOn_9 : decode m_X1_layOn.2.1 9 = .ok (.getfield 26, 3) := by decide +kernel
theorem dX1_layOn_12 : decode m_X1_layOn.2.1 12 = .ok (.aload_n 0, 1) := by decide +kernel
theorem dX1_layOn_13 : decode m_X1_layOn.2.1 13 = .ok (.getfield 31, 3) := by decide +kernel
theorem dX1_layOn_16 : decode m_X1_layOn.2.1 16 = .ok (.aaload, 1) := by decide +kernel
theorem dX1_layOn_17 : decode m_X1_layOn.2.1 17 = .ok (.astore 4, 2) := by decide +kernel
theorem dX1_layOn_19 : decode m_X1_layOn.2.1 19 = .ok (.aload_n 0, 1) := by decide +kernel
theorem dX1_layOn_20 : decode m_X1_layOn.2.1 20 = .ok (.dup, 1) := by decide +kernel
theorem dX1_layOn_21 : decode m_X1_layOn.2.1 21 = .ok (.getfield 31, 3) := by decide +kernel
theorem dX1_layOn_24 : decode m_X1_layOn.2.1 24 = .ok (.iconst 1, 1) := by decide +kernel
theorem dX1_layOn_25 : decode m_X1_layOn.2.1 25 = .ok (.iadd, 1) := by decide +kernel
theorem dX1_layOn_26 : decode m_X1_layOn.2.1 26 = .ok (.putfield 31, 3) := by decide +kernel
theorem dX1_layOn_29 : decode m_X1_layOn.2.1 29 = .ok (.aload_n 1, 1) := by decide +kernel
theorem dX1_layOn_30 : decode m_X1_layOn.2.1 30 = .ok (.getfield 90, 3) := by decide +kernel
theorem dX1_layOn_33 : decode m_X1_layOn.2.1 33 = .ok (.iload_n 2, 1) := by decide +kernel
theorem dX1_layOn_34 : decode m_X1_layOn.2.1 34 = .ok (.iaload, 1) := by decide +kernel
theorem dX1_layOn_35 : decode m_X1_layOn.2.1 35 = .ok (.istore 5, 2) := by decide +kernel
theorem dX1_layOn_37 : decode m_X1_layOn.2.1 37 = .ok (.aload_n 1, 1) := by decide +kernel
theorem dX1_layOn_38 : decode m_X1_layOn.2.1 38 = .ok (.getfield 95, 3) := by decide +kernel
theorem dX1_layOn_41 : decode m_X1_layOn.2.1 41 = .ok (.iload_n 2, 1) := by decide +kernel
theorem dX1_layOn_42 : decode m_X1_layOn.2.1 42 = .ok (.iaload, 1) := by decide +kernel
theorem dX1_layOn_43 : decode m_X1_layOn.2.1 43 = .ok (.istore 6, 2) := by decide +kernel
theorem dX1_layOn_45 : decode m_X1_layOn.2.1 45 = .ok (.aload 4, 2) := by decide +kernel
theorem dX1_layOn_47 : decode m_X1_layOn.2.1 47 = .ok (.iload_n 2, 1) := by decide +kernel
theorem dX1_layOn_48 : decode m_X1_layOn.2.1 48 = .ok (.putfield 98, 3) := by decide +kernel
theorem dX1_layOn_51 : decode m_X1_layOn.2.1 51 = .ok (.aload 4, 2) := by decide +kernel
theorem dX1_layOn_53 : decode m_X1_layOn.2.1 53 = .ok (.aload_n 0, 1) := by decide +kernel
theorem dX1_layOn_54 : decode m_X1_layOn.2.1 54 = .ok (.getfield 9, 3) := by decide +kernel
theorem dX1_layOn_57 : decode m_X1_layOn.2.1 57 = .ok (.putfield 101, 3) := by decide +kernel
theorem dX1_layOn_60 : decode m_X1_layOn.2.1 60 = .ok (.aload 4, 2) := by decide +kernel
theorem dX1_layOn_62 : decode m_X1_layOn.2.1 62 = .ok (.iload_n 3, 1) := by decide +kernel
theorem dX1_layOn_63 : decode m_X1_layOn.2.1 63 = .ok (.putfield 102, 3) := by decide +kernel
theorem dX1_layOn_66 : decode m_X1_layOn.2.1 66 = .ok (.aload 4, 2) := by decide +kernel
theorem dX1_layOn_68 : decode m_X1_layOn.2.1 68 = .ok (.iload 5, 2) := by decide +kernel
theorem dX1_layOn_70 : decode m_X1_layOn.2.1 70 = .ok (.invokestatic 105, 3) := by decide +kernel
theorem dX1_layOn_73 : decode m_X1_layOn.2.1 73 = .ok (.putfield 77, 3) := by decide +kernel
theorem dX1_layOn_76 : decode m_X1_layOn.2.1 76 = .ok (.aload 4, 2) := by decide +kernel
theorem dX1_layOn_78 : decode m_X1_layOn.2.1 78 = .ok (.iload 5, 2) := by decide +kernel
theorem dX1_layOn_80 : decode m_X1_layOn.2.1 80 = .ok (.iload 6, 2) := by decide +kernel
theorem dX1_layOn_82 : decode m_X1_layOn.2.1 82 = .ok (.iload_n 3, 1) := by decide +kernel
theorem dX1_layOn_83 : decode m_X1_layOn.2.1 83 = .ok (.invokestatic 110, 3) := by decide +kernel
theorem dX1_layOn_86 : decode m_X1_layOn.2.1 86 = .ok (.putfield 114, 3) := by decide +kernel
theorem dX1_layOn_89 : decode m_X1_layOn.2.1 89 = .ok (.aload 4, 2) := by decide +kernel
theorem dX1_layOn_91 : decode m_X1_layOn.2.1 91 = .ok (.iload 5, 2) := by decide +kernel
theorem dX1_layOn_93 : decode m_X1_layOn.2.1 93 = .ok (.iload 6, 2) := by decide +kernel
theorem dX1_layOn_95 : decode m_X1_layOn.2.1 95 = .ok (.iload_n 3, 1) := by decide +kernel
theorem dX1_layOn_96 : decode m_X1_layOn.2.1 96 = .ok (.invokestatic 115, 3) := by decide +kernel
theorem dX1_layOn_99 : decode m_X1_layOn.2.1 99 = .ok (.putfield 118, 3) := by decide +kernel
theorem dX1_layOn_102 : decode m_X1_layOn.2.1 102 = .ok (.aload 4, 2) := by decide +kernel
theorem dX1_layOn_104 : decode m_X1_layOn.2.1 104 = .ok (.iload 5, 2) := by decide +kernel
theorem dX1_layOn_106 : decode m_X1_layOn.2.1 106 = .ok (.iload 6, 2) := by decide +kernel
theorem dX1_layOn_108 : decode m_X1_layOn.2.1 108 = .ok (.iload_n 3, 1) := by decide +kernel
theorem dX1_layOn_109 : decode m_X1_layOn.2.1 109 = .ok (.invokestatic 119, 3) := by decide +kernel
theorem dX1_layOn_112 : decode m_X1_layOn.2.1 112 = .ok (.putfield 122, 3) := by decide +kernel
theorem dX1_layOn_115 : decode m_X1_layOn.2.1 115 = .ok (.aload 4, 2) := by decide +kernel
theorem dX1_layOn_117 : decode m_X1_layOn.2.1 117 = .ok (.iload 5, 2) := by decide +kernel
theorem dX1_layOn_119 : decode m_X1_layOn.2.1 119 = .ok (.iload_n 3, 1) := by decide +kernel
theorem dX1_layOn_120 : decode m_X1_layOn.2.1 120 = .ok (.invokestatic 123, 3) := by decide +kernel
theorem dX1_layOn_123 : decode m_X1_layOn.2.1 123 = .ok (.putfield 126, 3) := by decide +kernel
theorem dX1_layOn_126 : decode m_X1_layOn.2.1 126 = .ok (.aload 4, 2) := by decide +kernel
theorem dX1_layOn_128 : decode m_X1_layOn.2.1 128 = .ok (.aload 4, 2) := by decide +kernel
theorem dX1_layOn_130 : decode m_X1_layOn.2.1 130 = .ok (.getfield 126, 3) := by decide +kernel
theorem dX1_layOn_133 : decode m_X1_layOn.2.1 133 = .ok (.putfield 129, 3) := by decide +kernel
theorem dX1_layOn_136 : decode m_X1_layOn.2.1 136 = .ok (.aload_n 1, 1) := by decide +kernel
theorem dX1_layOn_137 : decode m_X1_layOn.2.1 137 = .ok (.getfield 132, 3) := by decide +kernel
theorem dX1_layOn_140 : decode m_X1_layOn.2.1 140 = .ok (.iload_n 2, 1) := by decide +kernel
theorem dX1_layOn_141 : decode m_X1_layOn.2.1 141 = .ok (.iaload, 1) := by decide +kernel
theorem dX1_layOn_142 : decode m_X1_layOn.2.1 142 = .ok (.istore 7, 2) := by decide +kernel
theorem dX1_layOn_144 : decode m_X1_layOn.2.1 144 = .ok (.iconst 4, 1) := by decide +kernel
theorem dX1_layOn_145 : decode m_X1_layOn.2.1 145 = .ok (.istore 8, 2) := by decide +kernel
theorem dX1_layOn_147 : decode m_X1_layOn.2.1 147 = .ok (.iload 8, 2) := by decide +kernel
theorem dX1_layOn_149 : decode m_X1_layOn.2.1 149 = .ok (.ifCond .lt 28, 3) := by decide +kernel
theorem dX1_layOn_152 : decode m_X1_layOn.2.1 152 = .ok (.aload_n 0, 1) := by decide +kernel
theorem dX1_layOn_153 : decode m_X1_layOn.2.1 153 = .ok (.getfield 38, 3) := by decide +kernel
theorem dX1_layOn_156 : decode m_X1_layOn.2.1 156 = .ok (.iload 8, 2) := by decide +kernel
theorem dX1_layOn_158 : decode m_X1_layOn.2.1 158 = .ok (.iload 7, 2) := by decide +kernel
theorem dX1_layOn_160 : decode m_X1_layOn.2.1 160 = .ok (.bipush 10, 2) := by decide +kernel
theorem dX1_layOn_162 : decode m_X1_layOn.2.1 162 = .ok (.irem, 1) := by decide +kernel
theorem dX1_layOn_163 : decode m_X1_layOn.2.1 163 = .ok (.iastore, 1) := by decide +kernel
theorem dX1_layOn_164 : decode m_X1_layOn.2.1 164 = .ok (.iload 7, 2) := by decide +kernel
theorem dX1_layOn_166 : decode m_X1_layOn.2.1 166 = .ok (.bipush 10, 2) := by decide +kernel
theorem dX1_layOn_168 : decode m_X1_layOn.2.1 168 = .ok (.idiv, 1) := by decide +kernel
theorem dX1_layOn_169 : decode m_X1_layOn.2.1 169 = .ok (.istore 7, 2) := by decide +kernel
theorem dX1_layOn_171 : decode m_X1_layOn.2.1 171 = .ok (.iinc 8 (-1), 3) := by decide +kernel
theorem dX1_layOn_174 : decode m_X1_layOn.2.1 174 = .ok (.goto (-27), 3) := by decide +kernel
theorem dX1_layOn_177 : decode m_X1_layOn.2.1 177 = .ok (.aload_n 0, 1) := by decide +kernel
theorem dX1_layOn_178 : decode m_X1_layOn.2.1 178 = .ok (.aload 4, 2) := by decide +kernel
theorem dX1_layOn_180 : decode m_X1_layOn.2.1 180 = .ok (.getfield 126, 3) := by decide +kernel
theorem dX1_layOn_183 : decode m_X1_layOn.2.1 183 = .ok (.invokevirtual 135, 3) := by decide +kernel
theorem dX1_layOn_186 : decode m_X1_layOn.2.1 186 = .ok (.iconst 0, 1) := by decide +kernel
theorem dX1_layOn_187 : decode m_X1_layOn.2.1 187 = .ok (.istore 8, 2) := by decide +kernel
theorem dX1_layOn_189 : decode m_X1_layOn.2.1 189 = .ok (.iload 8, 2) := by decide +kernel
theorem dX1_layOn_191 : decode m_X1_layOn.2.1 191 = .ok (.iconst 5, 1) := by decide +kernel
theorem dX1_layOn_192 : decode m_X1_layOn.2.1 192 = .ok (.if_icmp .ge 41, 3) := by decide +kernel
theorem dX1_layOn_195 : decode m_X1_layOn.2.1 195 = .ok (.aload 4, 2) := by decide +kernel
theorem dX1_layOn_197 : decode m_X1_layOn.2.1 197 = .ok (.getfield 74, 3) := by decide +kernel
theorem dX1_layOn_200 : decode m_X1_layOn.2.1 200 = .ok (.iload 8, 2) := by decide +kernel
theorem dX1_layOn_202 : decode m_X1_layOn.2.1 202 = .ok (.aload_n 0, 1) := by decide +kernel
theorem dX1_layOn_203 : decode m_X1_layOn.2.1 203 = .ok (.getfield 45, 3) := by decide +kernel
theorem dX1_layOn_206 : decode m_X1_layOn.2.1 206 = .ok (.iload 8, 2) := by decide +kernel
theorem dX1_layOn_208 : decode m_X1_layOn.2.1 208 = .ok (.iaload, 1) := by decide +kernel
theorem dX1_layOn_209 : decode m_X1_layOn.2.1 209 = .ok (.iastore, 1) := by decide +kernel
theorem dX1_layOn_210 : decode m_X1_layOn.2.1 210 = .ok (.aload_n 0, 1) := by decide +kernel
theorem dX1_layOn_211 : decode m_X1_layOn.2.1 211 = .ok (.getfield 34, 3) := by decide +kernel
theorem dX1_layOn_214 : decode m_X1_layOn.2.1 214 = .ok (.iload 8, 2) := by decide +kernel
theorem dX1_layOn_216 : decode m_X1_layOn.2.1 216 = .ok (.dup2, 1) := by decide +kernel
theorem dX1_layOn_217 : decode m_X1_layOn.2.1 217 = .ok (.iaload, 1) := by decide +kernel
theorem dX1_layOn_218 : decode m_X1_layOn.2.1 218 = .ok (.aload_n 0, 1) := by decide +kernel
theorem dX1_layOn_219 : decode m_X1_layOn.2.1 219 = .ok (.getfield 45, 3) := by decide +kernel
theorem dX1_layOn_222 : decode m_X1_layOn.2.1 222 = .ok (.iload 8, 2) := by decide +kernel
theorem dX1_layOn_224 : decode m_X1_layOn.2.1 224 = .ok (.iaload, 1) := by decide +kernel
theorem dX1_layOn_225 : decode m_X1_layOn.2.1 225 = .ok (.iadd, 1) := by decide +kernel
theorem dX1_layOn_226 : decode m_X1_layOn.2.1 226 = .ok (.iastore, 1) := by decide +kernel
theorem dX1_layOn_227 : decode m_X1_layOn.2.1 227 = .ok (.iinc 8 1, 3) := by decide +kernel
theorem dX1_layOn_230 : decode m_X1_layOn.2.1 230 = .ok (.goto (-41), 3) := by decide +kernel
theorem dX1_layOn_233 : decode m_X1_layOn.2.1 233 = .ok (.return_, 1) := by decide +kernel
theorem dX1_slide_0 : decode m_X1_slide.2.1 0 = .ok (.aload_n 0, 1) := by decide +kernel
theorem dX1_slide_1 : decode m_X1_slide.2.1 1 = .ok (.getfield 31, 3) := by decide +kernel
theorem dX1_slide_4 : decode m_X1_slide.2.1 4 = .ok (.iconst 1, 1) := by decide +kernel
theorem dX1_slide_5 : decode m_X1_slide.2.1 5 = .ok (.if_icmp .ge 4, 3) := by decide +kernel
theorem dX1_slide_8 : decode m_X1_slide.2.1 8 = .ok (.return_, 1) := by decide +kernel
theorem dX1_slide_9 : decode m_X1_slide.2.1 9 = .ok (.aload_n 0, 1) := by decide +kernel
theorem dX1_slide_10 : decode m_X1_slide.2.1 10 = .ok (.getfield 26, 3) := by decide +kernel
theorem dX1_slide_13 : decode m_X1_slide.2.1 13 = .ok (.aload_n 0, 1) := by decide +kernel
theorem dX1_slide_14 : decode m_X1_slide.2.1 14 = .ok (.getfield 31, 3) := by decide +kernel
theorem dX1_slide_17 : decode m_X1_slide.2.1 17 = .ok (.iconst 1, 1) := by decide +kernel
theorem dX1_slide_18 : decode m_X1_slide.2.1 18 = .ok (.isub, 1) := by decide +kernel
theorem dX1_slide_19 : decode m_X1_slide.2.1 19 = .ok (.aaload, 1) := by decide +kernel
theorem dX1_slide_20 : decode m_X1_slide.2.1 20 = .ok (.astore_n 2, 1) := by decide +kernel
theorem dX1_slide_21 : decode m_X1_slide.2.1 21 = .ok (.iconst 0, 1) := by decide +kernel
theorem dX1_slide_22 : decode m_X1_slide.2.1 22 = .ok (.istore_n 3, 1) := by decide +kernel
theorem dX1_slide_23 : decode m_X1_slide.2.1 23 = .ok (.iload_n 3, 1) := by decide +kernel
theorem dX1_slide_24 : decode m_X1_slide.2.1 24 = .ok (.sipush 400, 3) := by decide +kernel
theorem dX1_slide_27 : decode m_X1_slide.2.1 27 = .ok (.if_icmp .ge 19, 3) := by decide +kernel
theorem dX1_slide_30 : decode m_X1_slide.2.1 30 = .ok (.aload_n 0, 1) := by decide +kernel
theorem dX1_slide_31 : decode m_X1_slide.2.1 31 = .ok (.aload_n 2, 1) := by decide +kernel
theorem dX1_slide_32 : decode m_X1_slide.2.1 32 = .ok (.iload_n 1, 1) := by decide +kernel
theorem dX1_slide_33 : decode m_X1_slide.2.1 33 = .ok (.invokevirtual 139, 3) := by decide +kernel
theorem dX1_slide_36 : decode m_X1_slide.2.1 36 = .ok (.ifCond .ne 4, 3) := by decide +kernel
theorem dX1_slide_39 : decode m_X1_slide.2.1 39 = .ok (.return_, 1) := by decide +kernel
theorem dX1_slide_40 : decode m_X1_slide.2.1 40 = .ok (.iinc 3 1, 3) := by decide +kernel
theorem dX1_slide_43 : decode m_X1_slide.2.1 43 = .ok (.goto (-20), 3) := by decide +kernel
theorem dX1_slide_46 : decode m_X1_slide.2.1 46 = .ok (.return_, 1) := by decide +kernel
theorem dX1_slidesOnce_0 : decode m_X1_slidesOnce.2.1 0 = .ok (.iconst 0, 1) := by decide +kernel
theorem dX1_slidesOnce_1 : decode m_X1_slidesOnce.2.1 1 = .ok (.istore_n 3, 1) := by decide +kernel
theorem dX1_slidesOnce_2 : decode m_X1_slidesOnce.2.1 2 = .ok (.iload_n 3, 1) := by decide +kernel
theorem dX1_slidesOnce_3 : decode m_X1_slidesOnce.2.1 3 = .ok (.iconst 4, 1) := by decide +kernel
theorem dX1_slidesOnce_4 : decode m_X1_slidesOnce.2.1 4 = .ok (.if_icmp .ge 117, 3) := by decide +kernel
theorem dX1_slidesOnce_7 : decode m_X1_slidesOnce.2.1 7 = .ok (.aload_n 0, 1) := by decide +kernel
theorem dX1_slidesOnce_8 : decode m_X1_slidesOnce.2.1 8 = .ok (.iload_n 3, 1) := by decide +kernel
theorem dX1_slidesOnce_9 : decode m_X1_slidesOnce.2.1 9 = .ok (.invokevirtual 61, 3) := by decide +kernel
theorem dX1_slidesOnce_12 : decode m_X1_slidesOnce.2.1 12 = .ok (.aload_n 0, 1) := by decide +kernel
theorem dX1_slidesOnce_13 : decode m_X1_slidesOnce.2.1 13 = .ok (.iload_n 3, 1) := by decide +kernel
theorem dX1_slidesOnce_14 : decode m_X1_slidesOnce.2.1 14 = .ok (.iconst 1, 1) := by decide +kernel
theorem dX1_slidesOnce_15 : decode m_X1_slidesOnce.2.1 15 = .ok (.iadd, 1) := by decide +kernel
theorem dX1_slidesOnce_16 : decode m_X1_slidesOnce.2.1 16 = .ok (.invokevirtual 61, 3) := by decide +kernel
theorem dX1_slidesOnce_19 : decode m_X1_slidesOnce.2.1 19 = .ok (.isub, 1) := by decide +kernel
theorem dX1_slidesOnce_20 : decode m_X1_slidesOnce.2.1 20 = .ok (.istore 4, 2) := by decide +kernel
theorem dX1_slidesOnce_22 : decode m_X1_slidesOnce.2.1 22 = .ok (.iload 4, 2) := by decide +kernel
theorem dX1_slidesOnce_24 : decode m_X1_slidesOnce.2.1 24 = .ok (.ifCond .le 7, 3) := by decide +kernel
theorem dX1_slidesOnce_27 : decode m_X1_slidesOnce.2.1 27 = .ok (.iload_n 3, 1) := by decide +kernel
theorem dX1_slidesOnce_28 : decode m_X1_slidesOnce.2.1 28 = .ok (.goto 6, 3) := by decide +kernel
theorem dX1_slidesOnce_31 : decode m_X1_slidesOnce.2.1 31 = .ok (.iload_n 3, 1) := by decide +kernel
theorem dX1_slidesOnce_32 : decode m_X1_slidesOnce.2.1 32 = .ok (.iconst 1, 1) := by decide +kernel
theorem dX1_slidesOnce_33 : decode m_X1_slidesOnce.2.1 33 = .ok (.iadd, 1) := by decide +kernel
theorem dX1_slidesOnce_34 : decode m_X1_slidesOnce.2.1 34 = .ok (.istore 5, 2) := by decide +kernel
theorem dX1_slidesOnce_36 : decode m_X1_slidesOnce.2.1 36 = .ok (.iload 4, 2) := by decide +kernel
theorem dX1_slidesOnce_38 : decode m_X1_slidesOnce.2.1 38 = .ok (.ifCond .le 9, 3) := by decide +kernel
theorem dX1_slidesOnce_41 : decode m_X1_slidesOnce.2.1 41 = .ok (.iload_n 3, 1) := by decide +kernel
theorem dX1_slidesOnce_42 : decode m_X1_slidesOnce.2.1 42 = .ok (.iconst 1, 1) := by decide +kernel
theorem dX1_slidesOnce_43 : decode m_X1_slidesOnce.2.1 43 = .ok (.iadd, 1) := by decide +kernel
theorem dX1_slidesOnce_44 : decode m_X1_slidesOnce.2.1 44 = .ok (.goto 4, 3) := by decide +kernel
theorem dX1_slidesOnce_47 : decode m_X1_slidesOnce.2.1 47 = .ok (.iload_n 3, 1) := by decide +kernel
theorem dX1_slidesOnce_48 : decode m_X1_slidesOnce.2.1 48 = .ok (.istore 6, 2) := by decide +kernel
theorem dX1_slidesOnce_50 : decode m_X1_slidesOnce.2.1 50 = .ok (.iload 4, 2) := by decide +kernel
theorem dX1_slidesOnce_52 : decode m_X1_slidesOnce.2.1 52 = .ok (.invokestatic 143, 3) := by decide +kernel
theorem dX1_slidesOnce_55 : decode m_X1_slidesOnce.2.1 55 = .ok (.iload_n 2, 1) := by decide +kernel
theorem dX1_slidesOnce_56 : decode m_X1_slidesOnce.2.1 56 = .ok (.if_icmp .le 59, 3) := by decide +kernel
theorem dX1_slidesOnce_59 : decode m_X1_slidesOnce.2.1 59 = .ok (.aload_n 1, 1) := by decide +kernel
theorem dX1_slidesOnce_60 : decode m_X1_slidesOnce.2.1 60 = .ok (.getfield 74, 3) := by decide +kernel
theorem dX1_slidesOnce_63 : decode m_X1_slidesOnce.2.1 63 = .ok (.iload 5, 2) := by decide +kernel
theorem dX1_slidesOnce_65 : decode m_X1_slidesOnce.2.1 65 = .ok (.iaload, 1) := by decide +kernel
theorem dX1_slidesOnce_66 : decode m_X1_slidesOnce.2.1 66 = .ok (.ifCond .le 49, 3) := by decide +kernel
theorem dX1_slidesOnce_69 : decode m_X1_slidesOnce.2.1 69 = .ok (.aload_n 1, 1) := by decide +kernel
theorem dX1_slidesOnce_70 : decode m_X1_slidesOnce.2.1 70 = .ok (.getfield 74, 3) := by decide +kernel
theorem dX1_slidesOnce_73 : decode m_X1_slidesOnce.2.1 73 = .ok (.iload 5, 2) := by decide +kernel
theorem dX1_slidesOnce_75 : decode m_X1_slidesOnce.2.1 75 = .ok (.dup2, 1) := by decide +kernel
theorem dX1_slidesOnce_76 : decode m_X1_slidesOnce.2.1 76 = .ok (.iaload, 1) := by decide +kernel
theorem dX1_slidesOnce_77 : decode m_X1_slidesOnce.2.1 77 = .ok (.iconst 1, 1) := by decide +kernel
theorem dX1_slidesOnce_78 : decode m_X1_slidesOnce.2.1 78 = .ok (.isub, 1) := by decide +kernel
theorem dX1_slidesOnce_79 : decode m_X1_slidesOnce.2.1 79 = .ok (.iastore, 1) := by decide +kernel
theorem dX1_slidesOnce_80 : decode m_X1_slidesOnce.2.1 80 = .ok (.aload_n 0, 1) := by decide +kernel
theorem dX1_slidesOnce_81 : decode m_X1_slidesOnce.2.1 81 = .ok (.getfield 34, 3) := by decide +kernel
theorem dX1_slidesOnce_84 : decode m_X1_slidesOnce.2.1 84 = .ok (.iload 5, 2) := by decide +kernel
theorem dX1_slidesOnce_86 : decode m_X1_slidesOnce.2.1 86 = .ok (.dup2, 1) := by decide +kernel
theorem dX1_slidesOnce_87 : decode m_X1_slidesOnce.2.1 87 = .ok (.iaload, 1) := by decide +kernel
theorem dX1_slidesOnce_88 : decode m_X1_slidesOnce.2.1 88 = .ok (.iconst 1, 1) := by decide +kernel
theorem dX1_slidesOnce_89 : decode m_X1_slidesOnce.2.1 89 = .ok (.isub, 1) := by decide +kernel
theorem dX1_slidesOnce_90 : decode m_X1_slidesOnce.2.1 90 = .ok (.iastore, 1) := by decide +kernel
theorem dX1_slidesOnce_91 : decode m_X1_slidesOnce.2.1 91 = .ok (.aload_n 1, 1) := by decide +kernel
theorem dX1_slidesOnce_92 : decode m_X1_slidesOnce.2.1 92 = .ok (.getfield 74, 3) := by decide +kernel
theorem dX1_slidesOnce_95 : decode m_X1_slidesOnce.2.1 95 = .ok (.iload 6, 2) := by decide +kernel
theorem dX1_slidesOnce_97 : decode m_X1_slidesOnce.2.1 97 = .ok (.dup2, 1) := by decide +kernel
theorem dX1_slidesOnce_98 : decode m_X1_slidesOnce.2.1 98 = .ok (.iaload, 1) := by decide +kernel
theorem dX1_slidesOnce_99 : decode m_X1_slidesOnce.2.1 99 = .ok (.iconst 1, 1) := by decide +kernel
theorem dX1_slidesOnce_100 : decode m_X1_slidesOnce.2.1 100 = .ok (.iadd, 1) := by decide +kernel
theorem dX1_slidesOnce_101 : decode m_X1_slidesOnce.2.1 101 = .ok (.iastore, 1) := by decide +kernel
theorem dX1_slidesOnce_102 : decode m_X1_slidesOnce.2.1 102 = .ok (.aload_n 0, 1) := by decide +kernel
theorem dX1_slidesOnce_103 : decode m_X1_slidesOnce.2.1 103 = .ok (.getfield 34, 3) := by decide +kernel
theorem dX1_slidesOnce_106 : decode m_X1_slidesOnce.2.1 106 = .ok (.iload 6, 2) := by decide +kernel
theorem dX1_slidesOnce_108 : decode m_X1_slidesOnce.2.1 108 = .ok (.dup2, 1) := by decide +kernel
theorem dX1_slidesOnce_109 : decode m_X1_slidesOnce.2.1 109 = .ok (.iaload, 1) := by decide +kernel
theorem dX1_slidesOnce_110 : decode m_X1_slidesOnce.2.1 110 = .ok (.iconst 1, 1) := by decide +kernel
theorem dX1_slidesOnce_111 : decode m_X1_slidesOnce.2.1 111 = .ok (.iadd, 1) := by decide +kernel
theorem dX1_slidesOnce_112 : decode m_X1_slidesOnce.2.1 112 = .ok (.iastore, 1) := by decide +kernel
theorem dX1_slidesOnce_113 : decode m_X1_slidesOnce.2.1 113 = .ok (.iconst 1, 1) := by decide +kernel
theorem dX1_slidesOnce_114 : decode m_X1_slidesOnce.2.1 114 = .ok (.ireturn, 1) := by decide +kernel
theorem dX1_slidesOnce_115 : decode m_X1_slidesOnce.2.1 115 = .ok (.iinc 3 1, 3) := by decide +kernel
theorem dX1_slidesOnce_118 : decode m_X1_slidesOnce.2.1 118 = .ok (.goto (-116), 3) := by decide +kernel
theorem dX1_slidesOnce_121 : decode m_X1_slidesOnce.2.1 121 = .ok (.iconst 0, 1) := by decide +kernel
theorem dX1_slidesOnce_122 : decode m_X1_slidesOnce.2.1 122 = .ok (.ireturn, 1) := by decide +kernel
theorem dX1_partGas_0 : decode m_X1_partGas.2.1 0 = .ok (.iconst 0, 1) := by decide +kernel
theorem dX1_partGas_1 : decode m_X1_partGas.2.1 1 = .ok (.istore_n 2, 1) := by decide +kernel
theorem dX1_partGas_2 : decode m_X1_partGas.2.1 2 = .ok (.iload_n 2, 1) := by decide +kernel
theorem dX1_partGas_3 : decode m_X1_partGas.2.1 3 = .ok (.iconst 5, 1) := by decide +kernel
theorem dX1_partGas_4 : decode m_X1_partGas.2.1 4 = .ok (.if_icmp .ge 40, 3) := by decide +kernel
theorem dX1_partGas_7 : decode m_X1_partGas.2.1 7 = .ok (.aload_n 0, 1) := by decide +kernel
theorem dX1_partGas_8 : decode m_X1_partGas.2.1 8 = .ok (.iload_n 2, 1) := by decide +kernel
theorem dX1_partGas_9 : decode m_X1_partGas.2.1 9 = .ok (.invokevirtual 146, 3) := by decide +kernel
theorem dX1_partGas_12 : decode m_X1_partGas.2.1 12 = .ok (.istore_n 3, 1) := by decide +kernel
theorem dX1_partGas_13 : decode m_X1_partGas.2.1 13 = .ok (.aload_n 0, 1) := by decide +kernel
theorem dX1_partGas_14 : decode m_X1_partGas.2.1 14 = .ok (.getfield 38, 3) := by decide +kernel
theorem dX1_partGas_17 : decode m_X1_partGas.2.1 17 = .ok (.iload_n 2, 1) := by decide +kernel
theorem dX1_partGas_18 : decode m_X1_partGas.2.1 18 = .ok (.iload_n 3, 1) := by decide +kernel
theorem dX1_partGas_19 : decode m_X1_partGas.2.1 19 = .ok (.iconst 1, 1) := by decide +kernel
theorem dX1_partGas_20 : decode m_X1_partGas.2.1 20 = .ok (.if_icmp .ge 7, 3) := by decide +kernel
theorem dX1_partGas_23 : decode m_X1_partGas.2.1 23 = .ok (.iconst 0, 1) := by decide +kernel
theorem dX1_partGas_24 : decode m_X1_partGas.2.1 24 = .ok (.goto 13, 3) := by decide +kernel
theorem dX1_partGas_27 : decode m_X1_partGas.2.1 27 = .ok (.getstatic 58, 3) := by decide +kernel
theorem dX1_partGas_30 : decode m_X1_partGas.2.1 30 = .ok (.iload_n 2, 1) := by decide +kernel
theorem dX1_partGas_31 : decode m_X1_partGas.2.1 31 = .ok (.iaload, 1) := by decide +kernel
theorem dX1_partGas_32 : decode m_X1_partGas.2.1 32 = .ok (.ldc 149, 2) := by decide +kernel
theorem dX1_partGas_34 : decode m_X1_partGas.2.1 34 = .ok (.imul, 1) := by decide +kernel
theorem dX1_partGas_35 : decode m_X1_partGas.2.1 35 = .ok (.iload_n 3, 1) := by decide +kernel
theorem dX1_partGas_36 : decode m_X1_partGas.2.1 36 = .ok (.idiv, 1) := by decide +kernel
theorem dX1_partGas_37 : decode m_X1_partGas.2.1 37 = .ok (.iastore, 1) := by decide +kernel
theorem dX1_partGas_38 : decode m_X1_partGas.2.1 38 = .ok (.iinc 2 1, 3) := by decide +kernel
theorem dX1_partGas_41 : decode m_X1_partGas.2.1 41 = .ok (.goto (-39), 3) := by decide +kernel
theorem dX1_partGas_44 : decode m_X1_partGas.2.1 44 = .ok (.aload_n 0, 1) := by decide +kernel
theorem dX1_partGas_45 : decode m_X1_partGas.2.1 45 = .ok (.iload_n 1, 1) := by decide +kernel
theorem dX1_partGas_46 : decode m_X1_partGas.2.1 46 = .ok (.invokevirtual 135, 3) := by decide +kernel
theorem dX1_partGas_49 : decode m_X1_partGas.2.1 49 = .ok (.return_, 1) := by decide +kernel
theorem dX1_eatenOf_0 : decode m_X1_eatenOf.2.1 0 = .ok (.aload_n 0, 1) := by decide +kernel
theorem dX1_eatenOf_1 : decode m_X1_eatenOf.2.1 1 = .ok (.getfield 45, 3) := by decide +kernel
theorem dX1_eatenOf_4 : decode m_X1_eatenOf.2.1 4 = .ok (.iload_n 1, 1) := by decide +kernel
theorem dX1_eatenOf_5 : decode m_X1_eatenOf.2.1 5 = .ok (.iaload, 1) := by decide +kernel
theorem dX1_eatenOf_6 : decode m_X1_eatenOf.2.1 6 = .ok (.iconst 4, 1) := by decide +kernel
theorem dX1_eatenOf_7 : decode m_X1_eatenOf.2.1 7 = .ok (.idiv, 1) := by decide +kernel
theorem dX1_eatenOf_8 : decode m_X1_eatenOf.2.1 8 = .ok (.iconst 1, 1) := by decide +kernel
theorem dX1_eatenOf_9 : decode m_X1_eatenOf.2.1 9 = .ok (.iadd, 1) := by decide +kernel
theorem dX1_eatenOf_10 : decode m_X1_eatenOf.2.1 10 = .ok (.ireturn, 1) := by decide +kernel
theorem dX1_passHour_0 : decode m_X1_passHour.2.1 0 = .ok (.aload_n 0, 1) := by decide +kernel
theorem dX1_passHour_1 : decode m_X1_passHour.2.1 1 = .ok (.iload_n 1, 1) := by decide +kernel
theorem dX1_passHour_2 : decode m_X1_passHour.2.1 2 = .ok (.invokevirtual 150, 3) := by decide +kernel
theorem dX1_passHour_5 : decode m_X1_passHour.2.1 5 = .ok (.iconst 0, 1) := by decide +kernel
theorem dX1_passHour_6 : decode m_X1_passHour.2.1 6 = .ok (.istore_n 2, 1) := by decide +kernel
theorem dX1_passHour_7 : decode m_X1_passHour.2.1 7 = .ok (.iload_n 2, 1) := by decide +kernel
theorem dX1_passHour_8 : decode m_X1_passHour.2.1 8 = .ok (.iconst 5, 1) := by decide +kernel
theorem dX1_passHour_9 : decode m_X1_passHour.2.1 9 = .ok (.if_icmp .ge 19, 3) := by decide +kernel
theorem dX1_passHour_12 : decode m_X1_passHour.2.1 12 = .ok (.aload_n 0, 1) := by decide +kernel
theorem dX1_passHour_13 : decode m_X1_passHour.2.1 13 = .ok (.iload_n 2, 1) := by decide +kernel
theorem dX1_passHour_14 : decode m_X1_passHour.2.1 14 = .ok (.aload_n 0, 1) := by decide +kernel
theorem dX1_passHour_15 : decode m_X1_passHour.2.1 15 = .ok (.iload_n 2, 1) := by decide +kernel
theorem dX1_passHour_16 : decode m_X1_passHour.2.1 16 = .ok (.invokevirtual 153, 3) := by decide +kernel
theorem dX1_passHour_19 : decode m_X1_passHour.2.1 19 = .ok (.invokevirtual 156, 3) := by decide +kernel
theorem dX1_passHour_22 : decode m_X1_passHour.2.1 22 = .ok (.iinc 2 1, 3) := by decide +kernel
theorem dX1_passHour_25 : decode m_X1_passHour.2.1 25 = .ok (.goto (-18), 3) := by decide +kernel
theorem dX1_passHour_28 : decode m_X1_passHour.2.1 28 = .ok (.aload_n 0, 1) := by decide +kernel
theorem dX1_passHour_29 : decode m_X1_passHour.2.1 29 = .ok (.invokevirtual 160, 3) := by decide +kernel
theorem dX1_passHour_32 : decode m_X1_passHour.2.1 32 = .ok (.aload_n 0, 1) := by decide +kernel
theorem dX1_passHour_33 : decode m_X1_passHour.2.1 33 = .ok (.dup, 1) := by decide +kernel
theorem dX1_passHour_34 : decode m_X1_passHour.2.1 34 = .ok (.getfield 9, 3) := by decide +kernel
theorem dX1_passHour_37 : decode m_X1_passHour.2.1 37 = .ok (.iconst 1, 1) := by decide +kernel
theorem dX1_passHour_38 : decode m_X1_passHour.2.1 38 = .ok (.iadd, 1) := by decide +kernel
theorem dX1_passHour_39 : decode m_X1_passHour.2.1 39 = .ok (.putfield 9, 3) := by decide +kernel
theorem dX1_passHour_42 : decode m_X1_passHour.2.1 42 = .ok (.return_, 1) := by decide +kernel
theorem dX1_eat_0 : decode m_X1_eat.2.1 0 = .ok (.iload_n 2, 1) := by decide +kernel
theorem dX1_eat_1 : decode m_X1_eat.2.1 1 = .ok (.istore_n 3, 1) := by decide +kernel
theorem dX1_eat_2 : decode m_X1_eat.2.1 2 = .ok (.iconst 0, 1) := by decide +kernel
theorem dX1_eat_3 : decode m_X1_eat.2.1 3 = .ok (.istore 4, 2) := by decide +kernel
theorem dX1_eat_5 : decode m_X1_eat.2.1 5 = .ok (.iload 4, 2) := by decide +kernel
theorem dX1_eat_7 : decode m_X1_eat.2.1 7 = .ok (.aload_n 0, 1) := by decide +kernel
theorem dX1_eat_8 : decode m_X1_eat.2.1 8 = .ok (.getfield 31, 3) := by decide +kernel
theorem dX1_eat_11 : decode m_X1_eat.2.1 11 = .ok (.if_icmp .ge 77, 3) := by decide +kernel
theorem dX1_eat_14 : decode m_X1_eat.2.1 14 = .ok (.iload_n 3, 1) := by decide +kernel
theorem dX1_eat_15 : decode m_X1_eat.2.1 15 = .ok (.ifCond .le 73, 3) := by decide +kernel
theorem dX1_eat_18 : decode m_X1_eat.2.1 18 = .ok (.iload_n 3, 1) := by decide +kernel
theorem dX1_eat_19 : decode m_X1_eat.2.1 19 = .ok (.aload_n 0, 1) := by decide +kernel
theorem dX1_eat_20 : decode m_X1_eat.2.1 20 = .ok (.getfield 26, 3) := by decide +kernel
theorem dX1_eat_23 : decode m_X1_eat.2.1 23 = .ok (.iload 4, 2) := by decide +kernel
theorem dX1_eat_25 : decode m_X1_eat.2.1 25 = .ok (.aaload, 1) := by decide +kernel
theorem dX1_eat_26 : decode m_X1_eat.2.1 26 = .ok (.getfield 74, 3) := by decide +kernel
theorem dX1_eat_29 : decode m_X1_eat.2.1 29 = .ok (.iload_n 1, 1) := by decide +kernel
theorem dX1_eat_30 : decode m_X1_eat.2.1 30 = .ok (.iaload, 1) := by decide +kernel
theorem dX1_eat_31 : decode m_X1_eat.2.1 31 = .ok (.invokestatic 163, 3) := by decide +kernel
theorem dX1_eat_34 : decode m_X1_eat.2.1 34 = .ok (.istore 5, 2) := by decide +kernel
theorem dX1_eat_36 : decode m_X1_eat.2.1 36 = .ok (.aload_n 0, 1) := by decide +kernel
theorem dX1_eat_37 : decode m_X1_eat.2.1 37 = .ok (.aload_n 0, 1) := by decide +kernel
theorem dX1_eat_38 : decode m_X1_eat.2.1 38 = .ok (.getfield 26, 3) := by decide +kernel
theorem dX1_eat_41 : decode m_X1_eat.2.1 41 = .ok (.iload 4, 2) := by decide +kernel
theorem dX1_eat_43 : decode m_X1_eat.2.1 43 = .ok (.aaload, 1) := by decide +kernel
theorem dX1_eat_44 : decode m_X1_eat.2.1 44 = .ok (.iload 5, 2) := by decide +kernel
theorem dX1_eat_46 : decode m_X1_eat.2.1 46 = .ok (.invokevirtual 166, 3) := by decide +kernel
theorem dX1_eat_49 : decode m_X1_eat.2.1 49 = .ok (.aload_n 0, 1) := by decide +kernel
theorem dX1_eat_50 : decode m_X1_eat.2.1 50 = .ok (.getfield 26, 3) := by decide +kernel
theorem dX1_eat_53 : decode m_X1_eat.2.1 53 = .ok (.iload 4, 2) := by decide +kernel
theorem dX1_eat_55 : decode m_X1_eat.2.1 55 = .ok (.aaload, 1) := by decide +kernel
theorem dX1_eat_56 : decode m_X1_eat.2.1 56 = .ok (.getfield 74, 3) := by decide +kernel
theorem dX1_eat_59 : decode m_X1_eat.2.1 59 = .ok (.iload_n 1, 1) := by decide +kernel
theorem dX1_eat_60 : decode m_X1_eat.2.1 60 = .ok (.dup2, 1) := by decide +kernel
theorem dX1_eat_61 : decode m_X1_eat.2.1 61 = .ok (.iaload, 1) := by decide +kernel
theorem dX1_eat_62 : decode m_X1_eat.2.1 62 = .ok (.iload 5, 2) := by decide +kernel
theorem dX1_eat_64 : decode m_X1_eat.2.1 64 = .ok (.isub, 1) := by decide +kernel
theorem dX1_eat_65 : decode m_X1_eat.2.1 65 = .ok (.iastore, 1) := by decide +kernel
theorem dX1_eat_66 : decode m_X1_eat.2.1 66 = .ok (.aload_n 0, 1) := by decide +kernel
theorem dX1_eat_67 : decode m_X1_eat.2.1 67 = .ok (.getfield 34, 3) := by decide +kernel
theorem dX1_eat_70 : decode m_X1_eat.2.1 70 = .ok (.iload_n 1, 1) := by decide +kernel
theorem dX1_eat_71 : decode m_X1_eat.2.1 71 = .ok (.dup2, 1) := by decide +kernel
theorem dX1_eat_72 : decode m_X1_eat.2.1 72 = .ok (.iaload, 1) := by decide +kernel
theorem dX1_eat_73 : decode m_X1_eat.2.1 73 = .ok (.iload 5, 2) := by decide +kernel
theorem dX1_eat_75 : decode m_X1_eat.2.1 75 = .ok (.isub, 1) := by decide +kernel
theorem dX1_eat_76 : decode m_X1_eat.2.1 76 = .ok (.iastore, 1) := by decide +kernel
theorem dX1_eat_77 : decode m_X1_eat.2.1 77 = .ok (.iload_n 3, 1) := by decide +kernel
theorem dX1_eat_78 : decode m_X1_eat.2.1 78 = .ok (.iload 5, 2) := by decide +kernel
theorem dX1_eat_80 : decode m_X1_eat.2.1 80 = .ok (.isub, 1) := by decide +kernel
theorem dX1_eat_81 : decode m_X1_eat.2.1 81 = .ok (.istore_n 3, 1) := by decide +kernel
theorem dX1_eat_82 : decode m_X1_eat.2.1 82 = .ok (.iinc 4 1, 3) := by decide +kernel
theorem dX1_eat_85 : decode m_X1_eat.2.1 85 = .ok (.goto (-80), 3) := by decide +kernel
theorem dX1_eat_88 : decode m_X1_eat.2.1 88 = .ok (.return_, 1) := by decide +kernel
theorem dX1_bring_0 : decode m_X1_bring.2.1 0 = .ok (.aload_n 1, 1) := by decide +kernel
theorem dX1_bring_1 : decode m_X1_bring.2.1 1 = .ok (.getfield 126, 3) := by decide +kernel
theorem dX1_bring_4 : decode m_X1_bring.2.1 4 = .ok (.aload_n 1, 1) := by decide +kernel
theorem dX1_bring_5 : decode m_X1_bring.2.1 5 = .ok (.getfield 129, 3) := by decide +kernel
theorem dX1_bring_8 : decode m_X1_bring.2.1 8 = .ok (.isub, 1) := by decide +kernel
theorem dX1_bring_9 : decode m_X1_bring.2.1 9 = .ok (.istore_n 3, 1) := by decide +kernel
theorem dX1_bring_10 : decode m_X1_bring.2.1 10 = .ok (.iload_n 3, 1) := by decide +kernel
theorem dX1_bring_11 : decode m_X1_bring.2.1 11 = .ok (.iload_n 2, 1) := by decide +kernel
theorem dX1_bring_12 : decode m_X1_bring.2.1 12 = .ok (.iadd, 1) := by decide +kernel
theorem dX1_bring_13 : decode m_X1_bring.2.1 13 = .ok (.istore 4, 2) := by decide +kernel
theorem dX1_bring_15 : decode m_X1_bring.2.1 15 = .ok (.aload_n 0, 1) := by decide +kernel
theorem dX1_bring_16 : decode m_X1_bring.2.1 16 = .ok (.dup, 1) := by decide +kernel
theorem dX1_bring_17 : decode m_X1_bring.2.1 17 = .ok (.getfield 15, 3) := by decide +kernel
theorem dX1_bring_20 : decode m_X1_bring.2.1 20 = .ok (.aload_n 1, 1) := by decide +kernel
theorem dX1_bring_21 : decode m_X1_bring.2.1 21 = .ok (.aload_n 1, 1) := by decide +kernel
theorem dX1_bring_22 : decode m_X1_bring.2.1 22 = .ok (.getfield 114, 3) := by decide +kernel
theorem dX1_bring_25 : decode m_X1_bring.2.1 25 = .ok (.iload_n 3, 1) := by decide +kernel
theorem dX1_bring_26 : decode m_X1_bring.2.1 26 = .ok (.iload 4, 2) := by decide +kernel
theorem dX1_bring_28 : decode m_X1_bring.2.1 28 = .ok (.invokevirtual 170, 3) := by decide +kernel
theorem dX1_bring_31 : decode m_X1_bring.2.1 31 = .ok (.iadd, 1) := by decide +kernel
theorem dX1_bring_32 : decode m_X1_bring.2.1 32 = .ok (.putfield 15, 3) := by decide +kernel
theorem dX1_bring_35 : decode m_X1_bring.2.1 35 = .ok (.aload_n 0, 1) := by decide +kernel
theorem dX1_bring_36 : decode m_X1_bring.2.1 36 = .ok (.dup, 1) := by decide +kernel
theorem dX1_bring_37 : decode m_X1_bring.2.1 37 = .ok (.getfield 18, 3) := by decide +kernel
theorem dX1_bring_40 : decode m_X1_bring.2.1 40 = .ok (.aload_n 1, 1) := by decide +kernel
theorem dX1_bring_41 : decode m_X1_bring.2.1 41 = .ok (.aload_n 1, 1) := by decide +kernel
theorem dX1_bring_42 : decode m_X1_bring.2.1 42 = .ok (.getfield 118, 3) := by decide +kernel
theorem dX1_bring_45 : decode m_X1_bring.2.1 45 = .ok (.iload_n 3, 1) := by decide +kernel
theorem dX1_bring_46 : decode m_X1_bring.2.1 46 = .ok (.iload 4, 2) := by decide +kernel
theorem dX1_bring_48 : decode m_X1_bring.2.1 48 = .ok (.invokevirtual 170, 3) := by decide +kernel
theorem dX1_bring_51 : decode m_X1_bring.2.1 51 = .ok (.iadd, 1) := by decide +kernel
theorem dX1_bring_52 : decode m_X1_bring.2.1 52 = .ok (.putfield 18, 3) := by decide +kernel
theorem dX1_bring_55 : decode m_X1_bring.2.1 55 = .ok (.aload_n 0, 1) := by decide +kernel
theorem dX1_bring_56 : decode m_X1_bring.2.1 56 = .ok (.dup, 1) := by decide +kernel
theorem dX1_bring_57 : decode m_X1_bring.2.1 57 = .ok (.getfield 21, 3) := by decide +kernel
theorem dX1_bring_60 : decode m_X1_bring.2.1 60 = .ok (.aload_n 1, 1) := by decide +kernel
theorem dX1_bring_61 : decode m_X1_bring.2.1 61 = .ok (.aload_n 1, 1) := by decide +kernel
theorem dX1_bring_62 : decode m_X1_bring.2.1 62 = .ok (.getfield 122, 3) := by decide +kernel
theorem dX1_bring_65 : decode m_X1_bring.2.1 65 = .ok (.iload_n 3, 1) := by decide +kernel
theorem dX1_bring_66 : decode m_X1_bring.2.1 66 = .ok (.iload 4, 2) := by decide +kernel
theorem dX1_bring_68 : decode m_X1_bring.2.1 68 = .ok (.invokevirtual 170, 3) := by decide +kernel
theorem dX1_bring_71 : decode m_X1_bring.2.1 71 = .ok (.iadd, 1) := by decide +kernel
theorem dX1_bring_72 : decode m_X1_bring.2.1 72 = .ok (.putfield 21, 3) := by decide +kernel
theorem dX1_bring_75 : decode m_X1_bring.2.1 75 = .ok (.aload_n 1, 1) := by decide +kernel
theorem dX1_bring_76 : decode m_X1_bring.2.1 76 = .ok (.dup, 1) := by decide +kernel
theorem dX1_bring_77 : decode m_X1_bring.2.1 77 = .ok (.getfield 129, 3) := by decide +kernel
theorem dX1_bring_80 : decode m_X1_bring.2.1 80 = .ok (.iload_n 2, 1) := by decide +kernel
theorem dX1_bring_81 : decode m_X1_bring.2.1 81 = .ok (.isub, 1) := by decide +kernel
theorem dX1_bring_82 : decode m_X1_bring.2.1 82 = .ok (.putfield 129, 3) := by decide +kernel
theorem dX1_bring_85 : decode m_X1_bring.2.1 85 = .ok (.return_, 1) := by decide +kernel
theorem dX1_dropEmptyLayers_0 : decode m_X1_dropEmptyLayers.2.1 0 = .ok (.iconst 0, 1) := by decide +kernel
theorem dX1_dropEmptyLayers_1 : decode m_X1_dropEmptyLayers.2.1 1 = .ok (.istore_n 1, 1) := by decide +kernel
theorem dX1_dropEmptyLayers_2 : decode m_X1_dropEmptyLayers.2.1 2 = .ok (.iconst 0, 1) := by decide +kernel
theorem dX1_dropEmptyLayers_3 : decode m_X1_dropEmptyLayers.2.1 3 = .ok (.istore_n 2, 1) := by decide +kernel
theorem dX1_dropEmptyLayers_4 : decode m_X1_dropEmptyLayers.2.1 4 = .ok (.iload_n 2, 1) := by decide +kernel
theorem dX1_dropEmptyLayers_5 : decode m_X1_dropEmptyLayers.2.1 5 = .ok (.aload_n 0, 1) := by decide +kernel
theorem dX1_dropEmptyLayers_6 : decode m_X1_dropEmptyLayers.2.1 6 = .ok (.getfield 31, 3) := by decide +kernel
theorem dX1_dropEmptyLayers_9 : decode m_X1_dropEmptyLayers.2.1 9 = .ok (.if_icmp .ge 45, 3) := by decide +kernel
theorem dX1_dropEmptyLayers_12 : decode m_X1_dropEmptyLayers.2.1 12 = .ok (.aload_n 0, 1) := by decide +kernel
theorem dX1_dropEmptyLayers_13 : decode m_X1_dropEmptyLayers.2.1 13 = .ok (.getfield 26, 3) := by decide +kernel
theorem dX1_dropEmptyLayers_16 : decode m_X1_dropEmptyLayers.2.1 16 = .ok (.iload_n 2, 1) := by decide +kernel
theorem dX1_dropEmptyLayers_17 : decode m_X1_dropEmptyLayers.2.1 17 = .ok (.aaload, 1) := by decide +kernel
theorem dX1_dropEmptyLayers_18 : decode m_X1_dropEmptyLayers.2.1 18 = .ok (.astore_n 3, 1) := by decide +kernel
theorem dX1_dropEmptyLayers_19 : decode m_X1_dropEmptyLayers.2.1 19 = .ok (.aload_n 3, 1) := by decide +kernel
theorem dX1_dropEmptyLayers_20 : decode m_X1_dropEmptyLayers.2.1 20 = .ok (.getfield 129, 3) := by decide +kernel
theorem dX1_dropEmptyLayers_23 : decode m_X1_dropEmptyLayers.2.1 23 = .ok (.ifCond .le 25, 3) := by decide +kernel
theorem dX1_dropEmptyLayers_26 : decode m_X1_dropEmptyLayers.2.1 26 = .ok (.aload_n 0, 1) := by decide +kernel
theorem dX1_dropEmptyLayers_27 : decode m_X1_dropEmptyLayers.2.1 27 = .ok (.getfield 26, 3) := by decide +kernel
theorem dX1_dropEmptyLayers_30 : decode m_X1_dropEmptyLayers.2.1 30 = .ok (.iload_n 2, 1) := by decide +kernel
theorem dX1_dropEmptyLayers_31 : decode m_X1_dropEmptyLayers.2.1 31 = .ok (.aload_n 0, 1) := by decide +kernel
theorem dX1_dropEmptyLayers_32 : decode m_X1_dropEmptyLayers.2.1 32 = .ok (.getfield 26, 3) := by decide +kernel
theorem dX1_dropEmptyLayers_35 : decode m_X1_dropEmptyLayers.2.1 35 = .ok (.iload_n 1, 1) := by decide +kernel
theorem dX1_dropEmptyLayers_36 : decode m_X1_dropEmptyLayers.2.1 36 = .ok (.aaload, 1) := by decide +kernel
theorem dX1_dropEmptyLayers_37 : decode m_X1_dropEmptyLayers.2.1 37 = .ok (.aastore, 1) := by decide +kernel
theorem dX1_dropEmptyLayers_38 : decode m_X1_dropEmptyLayers.2.1 38 = .ok (.aload_n 0, 1) := by decide +kernel
theorem dX1_dropEmptyLayers_39 : decode m_X1_dropEmptyLayers.2.1 39 = .ok (.getfield 26, 3) := by decide +kernel
theorem dX1_dropEmptyLayers_42 : decode m_X1_dropEmptyLayers.2.1 42 = .ok (.iload_n 1, 1) := by decide +kernel
theorem dX1_dropEmptyLayers_43 : decode m_X1_dropEmptyLayers.2.1 43 = .ok (.aload_n 3, 1) := by decide +kernel
theorem dX1_dropEmptyLayers_44 : decode m_X1_dropEmptyLayers.2.1 44 = .ok (.aastore, 1) := by decide +kernel
theorem dX1_dropEmptyLayers_45 : decode m_X1_dropEmptyLayers.2.1 45 = .ok (.iinc 1 1, 3) := by decide +kernel
theorem dX1_dropEmptyLayers_48 : decode m_X1_dropEmptyLayers.2.1 48 = .ok (.iinc 2 1, 3) := by decide +kernel
theorem dX1_dropEmptyLayers_51 : decode m_X1_dropEmptyLayers.2.1 51 = .ok (.goto (-47), 3) := by decide +kernel
theorem dX1_dropEmptyLayers_54 : decode m_X1_dropEmptyLayers.2.1 54 = .ok (.aload_n 0, 1) := by decide +kernel
theorem dX1_dropEmptyLayers_55 : decode m_X1_dropEmptyLayers.2.1 55 = .ok (.iload_n 1, 1) := by decide +kernel
theorem dX1_dropEmptyLayers_56 : decode m_X1_dropEmptyLayers.2.1 56 = .ok (.putfield 31, 3) := by decide +kernel
theorem dX1_dropEmptyLayers_59 : decode m_X1_dropEmptyLayers.2.1 59 = .ok (.return_, 1) := by decide +kernel
theorem dX1_takeOut_0 : decode m_X1_takeOut.2.1 0 = .ok (.aload_n 0, 1) := by decide +kernel
theorem dX1_takeOut_1 : decode m_X1_takeOut.2.1 1 = .ok (.getfield 15, 3) := by decide +kernel
theorem dX1_takeOut_4 : decode m_X1_takeOut.2.1 4 = .ok (.iconst 1, 1) := by decide +kernel
theorem dX1_takeOut_5 : decode m_X1_takeOut.2.1 5 = .ok (.if_icmp .ge 4, 3) := by decide +kernel
theorem dX1_takeOut_8 : decode m_X1_takeOut.2.1 8 = .ok (.return_, 1) := by decide +kernel
theorem dX1_takeOut_9 : decode m_X1_takeOut.2.1 9 = .ok (.aload_n 0, 1) := by decide +kernel
theorem dX1_takeOut_10 : decode m_X1_takeOut.2.1 10 = .ok (.dup, 1) := by decide +kernel
theorem dX1_takeOut_11 : decode m_X1_takeOut.2.1 11 = .ok (.getfield 18, 3) := by decide +kernel
theorem dX1_takeOut_14 : decode m_X1_takeOut.2.1 14 = .ok (.aload_n 0, 1) := by decide +kernel
theorem dX1_takeOut_15 : decode m_X1_takeOut.2.1 15 = .ok (.getfield 18, 3) := by decide +kernel
theorem dX1_takeOut_18 : decode m_X1_takeOut.2.1 18 = .ok (.i2l, 1) := by decide +kernel
theorem dX1_takeOut_19 : decode m_X1_takeOut.2.1 19 = .ok (.iload_n 1, 1) := by decide +kernel
theorem dX1_takeOut_20 : decode m_X1_takeOut.2.1 20 = .ok (.i2l, 1) := by decide +kernel
theorem dX1_takeOut_21 : decode m_X1_takeOut.2.1 21 = .ok (.lmul, 1) := by decide +kernel
theorem dX1_takeOut_22 : decode m_X1_takeOut.2.1 22 = .ok (.aload_n 0, 1) := by decide +kernel
theorem dX1_takeOut_23 : decode m_X1_takeOut.2.1 23 = .ok (.getfield 15, 3) := by decide +kernel
theorem dX1_takeOut_26 : decode m_X1_takeOut.2.1 26 = .ok (.i2l, 1) := by decide +kernel
theorem dX1_takeOut_27 : decode m_X1_takeOut.2.1 27 = .ok (.ldiv, 1) := by decide +kernel
theorem dX1_takeOut_28 : decode m_X1_takeOut.2.1 28 = .ok (.l2i, 1) := by decide +kernel
theorem dX1_takeOut_29 : decode m_X1_takeOut.2.1 29 = .ok (.isub, 1) := by decide +kernel
theorem dX1_takeOut_30 : decode m_X1_takeOut.2.1 30 = .ok (.putfield 18, 3) := by decide +kernel
theorem dX1_takeOut_33 : decode m_X1_takeOut.2.1 33 = .ok (.aload_n 0, 1) := by decide +kernel
theorem dX1_takeOut_34 : decode m_X1_takeOut.2.1 34 = .ok (.dup, 1) := by decide +kernel
theorem dX1_takeOut_35 : decode m_X1_takeOut.2.1 35 = .ok (.getfield 21, 3) := by decide +kernel
theorem dX1_takeOut_38 : decode m_X1_takeOut.2.1 38 = .ok (.aload_n 0, 1) := by decide +kernel
theorem dX1_takeOut_39 : decode m_X1_takeOut.2.1 39 = .ok (.getfield 21, 3) := by decide +kernel
theorem dX1_takeOut_42 : decode m_X1_takeOut.2.1 42 = .ok (.i2l, 1) := by decide +kernel
theorem dX1_takeOut_43 : decode m_X1_takeOut.2.1 43 = .ok (.iload_n 1, 1) := by decide +kernel
theorem dX1_takeOut_44 : decode m_X1_takeOut.2.1 44 = .ok (.i2l, 1) := by decide +kernel
theorem dX1_takeOut_45 : decode m_X1_takeOut.2.1 45 = .ok (.lmul, 1) := by decide +kernel
theorem dX1_takeOut_46 : decode m_X1_takeOut.2.1 46 = .ok (.aload_n 0, 1) := by decide +kernel
theorem dX1_takeOut_47 : decode m_X1_takeOut.2.1 47 = .ok (.getfield 15, 3) := by decide +kernel
theorem dX1_takeOut_50 : decode m_X1_takeOut.2.1 50 = .ok (.i2l, 1) := by decide +kernel
theorem dX1_takeOut_51 : decode m_X1_takeOut.2.1 51 = .ok (.ldiv, 1) := by decide +kernel
theorem dX1_takeOut_52 : decode m_X1_takeOut.2.1 52 = .ok (.l2i, 1) := by decide +kernel
theorem dX1_takeOut_53 : decode m_X1_takeOut.2.1 53 = .ok (.isub, 1) := by decide +kernel
theorem dX1_takeOut_54 : decode m_X1_takeOut.2.1 54 = .ok (.putfield 21, 3) := by decide +kernel
theorem dX1_takeOut_57 : decode m_X1_takeOut.2.1 57 = .ok (.aload_n 0, 1) := by decide +kernel
theorem dX1_takeOut_58 : decode m_X1_takeOut.2.1 58 = .ok (.dup, 1) := by decide +kernel
theorem dX1_takeOut_59 : decode m_X1_takeOut.2.1 59 = .ok (.getfield 15, 3) := by decide +kernel
theorem dX1_takeOut_62 : decode m_X1_takeOut.2.1 62 = .ok (.iload_n 1, 1) := by decide +kernel
theorem dX1_takeOut_63 : decode m_X1_takeOut.2.1 63 = .ok (.isub, 1) := by decide +kernel
theorem dX1_takeOut_64 : decode m_X1_takeOut.2.1 64 = .ok (.putfield 15, 3) := by decide +kernel
theorem dX1_takeOut_67 : decode m_X1_takeOut.2.1 67 = .ok (.return_, 1) := by decide +kernel
theorem dX2_init_0 : decode m_X2_init.2.1 0 = .ok (.aload_n 0, 1) := by decide +kernel
theorem dX2_init_1 : decode m_X2_init.2.1 1 = .ok (.invokespecial 3, 3) := by decide +kernel
theorem dX2_init_4 : decode m_X2_init.2.1 4 = .ok (.aload_n 0, 1) := by decide +kernel
theorem dX2_init_5 : decode m_X2_init.2.1 5 = .ok (.new 9, 3) := by decide +kernel
theorem dX2_init_8 : decode m_X2_init.2.1 8 = .ok (.dup, 1) := by decide +kernel
theorem dX2_init_9 : decode m_X2_init.2.1 9 = .ok (.invokespecial 11, 3) := by decide +kernel
theorem dX2_init_12 : decode m_X2_init.2.1 12 = .ok (.putfield 12, 3) := by decide +kernel
theorem dX2_init_15 : decode m_X2_init.2.1 15 = .ok (.aload_n 0, 1) := by decide +kernel
theorem dX2_init_16 : decode m_X2_init.2.1 16 = .ok (.new 18, 3) := by decide +kernel
theorem dX2_init_19 : decode m_X2_init.2.1 19 = .ok (.dup, 1) := by decide +kernel
theorem dX2_init_20 : decode m_X2_init.2.1 20 = .ok (.invokespecial 20, 3) := by decide +kernel
theorem dX2_init_23 : decode m_X2_init.2.1 23 = .ok (.putfield 21, 3) := by decide +kernel
theorem dX2_init_26 : decode m_X2_init.2.1 26 = .ok (.aload_n 0, 1) := by decide +kernel
theorem dX2_init_27 : decode m_X2_init.2.1 27 = .ok (.new 25, 3) := by decide +kernel
theorem dX2_init_30 : decode m_X2_init.2.1 30 = .ok (.dup, 1) := by decide +kernel
theorem dX2_init_31 : decode m_X2_init.2.1 31 = .ok (.invokespecial 27, 3) := by decide +kernel
theorem dX2_init_34 : decode m_X2_init.2.1 34 = .ok (.putfield 28, 3) := by decide +kernel
theorem dX2_init_37 : decode m_X2_init.2.1 37 = .ok (.aload_n 0, 1) := by decide +kernel
theorem dX2_init_38 : decode m_X2_init.2.1 38 = .ok (.new 32, 3) := by decide +kernel
theorem dX2_init_41 : decode m_X2_init.2.1 41 = .ok (.dup, 1) := by decide +kernel
theorem dX2_init_42 : decode m_X2_init.2.1 42 = .ok (.invokespecial 34, 3) := by decide +kernel
theorem dX2_init_45 : decode m_X2_init.2.1 45 = .ok (.putfield 35, 3) := by decide +kernel
theorem dX2_init_48 : decode m_X2_init.2.1 48 = .ok (.aload_n 0, 1) := by decide +kernel
theorem dX2_init_49 : decode m_X2_init.2.1 49 = .ok (.iconst 3, 1) := by decide +kernel
theorem dX2_init_50 : decode m_X2_init.2.1 50 = .ok (.newarray .int, 2) := by decide +kernel
theorem dX2_init_52 : decode m_X2_init.2.1 52 = .ok (.dup, 1) := by decide +kernel
theorem dX2_init_53 : decode m_X2_init.2.1 53 = .ok (.iconst 0, 1) := by decide +kernel
theorem dX2_init_54 : decode m_X2_init.2.1 54 = .ok (.bipush 60, 2) := by decide +kernel
theorem dX2_init_56 : decode m_X2_init.2.1 56 = .ok (.iastore, 1) := by decide +kernel
theorem dX2_init_57 : decode m_X2_init.2.1 57 = .ok (.dup, 1) := by decide +kernel
theorem dX2_init_58 : decode m_X2_init.2.1 58 = .ok (.iconst 1, 1) := by decide +kernel
theorem dX2_init_59 : decode m_X2_init.2.1 59 = .ok (.bipush 100, 2) := by decide +kernel
theorem dX2_init_61 : decode m_X2_init.2.1 61 = .ok (.iastore, 1) := by decide +kernel
theorem dX2_init_62 : decode m_X2_init.2.1 62 = .ok (.dup, 1) := by decide +kernel
theorem dX2_init_63 : decode m_X2_init.2.1 63 = .ok (.iconst 2, 1) := by decide +kernel
theorem dX2_init_64 : decode m_X2_init.2.1 64 = .ok (.bipush 60, 2) := by decide +kernel
theorem dX2_init_66 : decode m_X2_init.2.1 66 = .ok (.iastore, 1) := by decide +kernel
theorem dX2_init_67 : decode m_X2_init.2.1 67 = .ok (.putfield 39, 3) := by decide +kernel
theorem dX2_init_70 : decode m_X2_init.2.1 70 = .ok (.return_, 1) := by decide +kernel
theorem dX2_become_0 : decode m_X2_become.2.1 0 = .ok (.aload_n 0, 1) := by decide +kernel
theorem dX2_become_1 : decode m_X2_become.2.1 1 = .ok (.getfield 12, 3) := by decide +kernel
theorem dX2_become_4 : decode m_X2_become.2.1 4 = .ok (.aload_n 1, 1) := by decide +kernel
theorem dX2_become_5 : decode m_X2_become.2.1 5 = .ok (.getfield 12, 3) := by decide +kernel
theorem dX2_become_8 : decode m_X2_become.2.1 8 = .ok (.invokevirtual 43, 3) := by decide +kernel
theorem dX2_become_11 : decode m_X2_become.2.1 11 = .ok (.aload_n 0, 1) := by decide +kernel
theorem dX2_become_12 : decode m_X2_become.2.1 12 = .ok (.getfield 21, 3) := by decide +kernel
theorem dX2_become_15 : decode m_X2_become.2.1 15 = .ok (.aload_n 1, 1) := by decide +kernel
theorem dX2_become_16 : decode m_X2_become.2.1 16 = .ok (.getfield 21, 3) := by decide +kernel
theorem dX2_become_19 : decode m_X2_become.2.1 19 = .ok (.invokevirtual 47, 3) := by decide +kernel
theorem dX2_become_22 : decode m_X2_become.2.1 22 = .ok (.aload_n 0, 1) := by decide +kernel
theorem dX2_become_23 : decode m_X2_become.2.1 23 = .ok (.getfield 28, 3) := by decide +kernel
theorem dX2_become_26 : decode m_X2_become.2.1 26 = .ok (.aload_n 1, 1) := by decide +kernel
theorem dX2_become_27 : decode m_X2_become.2.1 27 = .ok (.getfield 28, 3) := by decide +kernel
theorem dX2_become_30 : decode m_X2_become.2.1 30 = .ok (.invokevirtual 50, 3) := by decide +kernel
theorem dX2_become_33 : decode m_X2_become.2.1 33 = .ok (.aload_n 0, 1) := by decide +kernel
theorem dX2_become_34 : decode m_X2_become.2.1 34 = .ok (.getfield 35, 3) := by decide +kernel
theorem dX2_become_37 : decode m_X2_become.2.1 37 = .ok (.aload_n 1, 1) := by decide +kernel
theorem dX2_become_38 : decode m_X2_become.2.1 38 = .ok (.getfield 35, 3) := by decide +kernel
theorem dX2_become_41 : decode m_X2_become.2.1 41 = .ok (.invokevirtual 53, 3) := by decide +kernel
theorem dX2_become_44 : decode m_X2_become.2.1 44 = .ok (.aload_n 1, 1) := by decide +kernel
theorem dX2_become_45 : decode m_X2_become.2.1 45 = .ok (.getfield 39, 3) := by decide +kernel
theorem dX2_become_48 : decode m_X2_become.2.1 48 = .ok (.iconst 0, 1) := by decide +kernel
theorem dX2_become_49 : decode m_X2_become.2.1 49 = .ok (.aload_n 0, 1) := by decide +kernel
theorem dX2_become_50 : decode m_X2_become.2.1 50 = .ok (.getfield 39, 3) := by decide +kernel
theorem dX2_become_53 : decode m_X2_become.2.1 53 = .ok (.iconst 0, 1) := by decide +kernel
theorem dX2_become_54 : decode m_X2_become.2.1 54 = .ok (.aload_n 0, 1) := by decide +kernel
theorem dX2_become_55 : decode m_X2_become.2.1 55 = .ok (.getfield 39, 3) := by decide +kernel
theorem dX2_become_58 : decode m_X2_become.2.1 58 = .ok (.arraylength, 1) := by decide +kernel
theorem dX2_become_59 : decode m_X2_become.2.1 59 = .ok (.invokestatic 56, 3) := by decide +kernel
theorem dX2_become_62 : decode m_X2_become.2.1 62 = .ok (.return_, 1) := by decide +kernel
theorem dX2_passHour_0 : decode m_X2_passHour.2.1 0 = .ok (.aload_n 1, 1) := by decide +kernel
theorem dX2_passHour_1 : decode m_X2_passHour.2.1 1 = .ok (.aload_n 0, 1) := by decide +kernel
theorem dX2_passHour_2 : decode m_X2_passHour.2.1 2 = .ok (.aload_n 1, 1) := by decide +kernel
theorem dX2_passHour_3 : decode m_X2_passHour.2.1 3 = .ok (.invokevirtual 62, 3) := by decide +kernel
theorem dX2_passHour_6 : decode m_X2_passHour.2.1 6 = .ok (.invokevirtual 66, 3) := by decide +kernel
theorem dX2_passHour_9 : decode m_X2_passHour.2.1 9 = .ok (.return_, 1) := by decide +kernel
theorem dX2_gasFor_0 : decode m_X2_gasFor.2.1 0 = .ok (.aload_n 0, 1) := by decide +kernel
theorem dX2_gasFor_1 : decode m_X2_gasFor.2.1 1 = .ok (.getfield 28, 3) := by decide +kernel
theorem dX2_gasFor_4 : decode m_X2_gasFor.2.1 4 = .ok (.iconst 1, 1) := by decide +kernel
theorem dX2_gasFor_5 : decode m_X2_gasFor.2.1 5 = .ok (.iconst 0, 1) := by decide +kernel
theorem dX2_gasFor_6 : decode m_X2_gasFor.2.1 6 = .ok (.invokevirtual 70, 3) := by decide +kernel
theorem dX2_gasFor_9 : decode m_X2_gasFor.2.1 9 = .ok (.istore_n 2, 1) := by decide +kernel
theorem dX2_gasFor_10 : decode m_X2_gasFor.2.1 10 = .ok (.iload_n 2, 1) := by decide +kernel
theorem dX2_gasFor_11 : decode m_X2_gasFor.2.1 11 = .ok (.ifCond .ge 10, 3) := by decide +kernel
theorem dX2_gasFor_14 : decode m_X2_gasFor.2.1 14 = .ok (.aload_n 0, 1) := by decide +kernel
theorem dX2_gasFor_15 : decode m_X2_gasFor.2.1 15 = .ok (.getfield 39, 3) := by decide +kernel
theorem dX2_gasFor_18 : decode m_X2_gasFor.2.1 18 = .ok (.iconst 1, 1) := by decide +kernel
theorem dX2_gasFor_19 : decode m_X2_gasFor.2.1 19 = .ok (.iaload, 1) := by decide +kernel
theorem dX2_gasFor_20 : decode m_X2_gasFor.2.1 20 = .ok (.ireturn, 1) := by decide +kernel
theorem dX2_gasFor_21 : decode m_X2_gasFor.2.1 21 = .ok (.aload_n 0, 1) := by decide +kernel
theorem dX2_gasFor_22 : decode m_X2_gasFor.2.1 22 = .ok (.getfield 28, 3) := by decide +kernel
theorem dX2_gasFor_25 : decode m_X2_gasFor.2.1 25 = .ok (.bipush 104, 2) := by decide +kernel
theorem dX2_gasFor_27 : decode m_X2_gasFor.2.1 27 = .ok (.aload_n 1, 1) := by decide +kernel
theorem dX2_gasFor_28 : decode m_X2_gasFor.2.1 28 = .ok (.getfield 74, 3) := by decide +kernel
theorem dX2_gasFor_31 : decode m_X2_gasFor.2.1 31 = .ok (.invokevirtual 78, 3) := by decide +kernel
theorem dX2_gasFor_34 : decode m_X2_gasFor.2.1 34 = .ok (.aload_n 0, 1) := by decide +kernel
theorem dX2_gasFor_35 : decode m_X2_gasFor.2.1 35 = .ok (.getfield 28, 3) := by decide +kernel
theorem dX2_gasFor_38 : decode m_X2_gasFor.2.1 38 = .ok (.bipush 116, 2) := by decide +kernel
theorem dX2_gasFor_40 : decode m_X2_gasFor.2.1 40 = .ok (.aload_n 1, 1) := by decide +kernel
theorem dX2_gasFor_41 : decode m_X2_gasFor.2.1 41 = .ok (.invokevirtual 82, 3) := by decide +kernel
theorem dX2_gasFor_44 : decode m_X2_gasFor.2.1 44 = .ok (.invokevirtual 78, 3) := by decide +kernel
theorem dX2_gasFor_47 : decode m_X2_gasFor.2.1 47 = .ok (.aload_n 0, 1) := by decide +kernel
theorem dX2_gasFor_48 : decode m_X2_gasFor.2.1 48 = .ok (.getfield 28, 3) := by decide +kernel
theorem dX2_gasFor_51 : decode m_X2_gasFor.2.1 51 = .ok (.bipush 105, 2) := by decide +kernel
theorem dX2_gasFor_53 : decode m_X2_gasFor.2.1 53 = .ok (.aload_n 1, 1) := by decide +kernel
theorem dX2_gasFor_54 : decode m_X2_gasFor.2.1 54 = .ok (.getfield 86, 3) := by decide +kernel
theorem dX2_gasFor_57 : decode m_X2_gasFor.2.1 57 = .ok (.invokevirtual 78, 3) := by decide +kernel
theorem dX2_gasFor_60 : decode m_X2_gasFor.2.1 60 = .ok (.aload_n 0, 1) := by decide +kernel
theorem dX2_gasFor_61 : decode m_X2_gasFor.2.1 61 = .ok (.getfield 28, 3) := by decide +kernel
theorem dX2_gasFor_64 : decode m_X2_gasFor.2.1 64 = .ok (.iload_n 2, 1) := by decide +kernel
theorem dX2_gasFor_65 : decode m_X2_gasFor.2.1 65 = .ok (.invokevirtual 89, 3) := by decide +kernel
theorem dX2_gasFor_68 : decode m_X2_gasFor.2.1 68 = .ok (.invokestatic 93, 3) := by decide +kernel
theorem dX2_gasFor_71 : decode m_X2_gasFor.2.1 71 = .ok (.ireturn, 1) := by decide +kernel
theorem dX2_playRound_0 : decode m_X2_playRound.2.1 0 = .ok (.iconst 0, 1) := by decide +kernel
theorem dX2_playRound_1 : decode m_X2_playRound.2.1 1 = .ok (.istore_n 1, 1) := by decide +kernel
theorem dX2_playRound_2 : decode m_X2_playRound.2.1 2 = .ok (.iconst 0, 1) := by decide +kernel
theorem dX2_playRound_3 : decode m_X2_playRound.2.1 3 = .ok (.istore_n 2, 1) := by decide +kernel
theorem dX2_playRound_4 : decode m_X2_playRound.2.1 4 = .ok (.iload_n 2, 1) := by decide +kernel
theorem dX2_playRound_5 : decode m_X2_playRound.2.1 5 = .ok (.aload_n 0, 1) := by decide +kernel
theorem dX2_playRound_6 : decode m_X2_playRound.2.1 6 = .ok (.getfield 12, 3) := by decide +kernel
theorem dX2_playRound_9 : decode m_X2_playRound.2.1 9 = .ok (.getfield 96, 3) := by decide +kernel
theorem dX2_playRound_12 : decode m_X2_playRound.2.1 12 = .ok (.if_icmp .ge 38, 3) := by decide +kernel
theorem dX2_playRound_15 : decode m_X2_playRound.2.1 15 = .ok (.aload_n 0, 1) := by decide +kernel
theorem dX2_playRound_16 : decode m_X2_playRound.2.1 16 = .ok (.iload_n 2, 1) := by decide +kernel
theorem dX2_playRound_17 : decode m_X2_playRound.2.1 17 = .ok (.invokevirtual 99, 3) := by decide +kernel
theorem dX2_playRound_20 : decode m_X2_playRound.2.1 20 = .ok (.istore_n 3, 1) := by decide +kernel
theorem dX2_playRound_21 : decode m_X2_playRound.2.1 21 = .ok (.iload_n 3, 1) := by decide +kernel
theorem dX2_playRound_22 : decode m_X2_playRound.2.1 22 = .ok (.ifCond .le 22, 3) := by decide +kernel
theorem dX2_playRound_25 : decode m_X2_playRound.2.1 25 = .ok (.aload_n 0, 1) := by decide +kernel
theorem dX2_playRound_26 : decode m_X2_playRound.2.1 26 = .ok (.getfield 21, 3) := by decide +kernel
theorem dX2_playRound_29 : decode m_X2_playRound.2.1 29 = .ok (.invokevirtual 102, 3) := by decide +kernel
theorem dX2_playRound_32 : decode m_X2_playRound.2.1 32 = .ok (.ifCond .eq 12, 3) := by decide +kernel
theorem dX2_playRound_35 : decode m_X2_playRound.2.1 35 = .ok (.aload_n 0, 1) := by decide +kernel
theorem dX2_playRound_36 : decode m_X2_playRound.2.1 36 = .ok (.iload_n 2, 1) := by decide +kernel
theorem dX2_playRound_37 : decode m_X2_playRound.2.1 37 = .ok (.iload_n 3, 1) := by decide +kernel
theorem dX2_playRound_38 : decode m_X2_playRound.2.1 38 = .ok (.invokevirtual 106, 3) := by decide +kernel
theorem dX2_playRound_41 : decode m_X2_playRound.2.1 41 = .ok (.iinc 1 1, 3) := by decide +kernel
theorem dX2_playRound_44 : decode m_X2_playRound.2.1 44 = .ok (.iinc 2 1, 3) := by decide +kernel
theorem dX2_playRound_47 : decode m_X2_playRound.2.1 47 = .ok (.goto (-43), 3) := by decide +kernel
theorem dX2_playRound_50 : decode m_X2_playRound.2.1 50 = .ok (.iload_n 1, 1) := by decide +kernel
theorem dX2_playRound_51 : decode m_X2_playRound.2.1 51 = .ok (.ireturn, 1) := by decide +kernel
theorem dX2_drawFor_0 : decode m_X2_drawFor.2.1 0 = .ok (.aload_n 0, 1) := by decide +kernel
theorem dX2_drawFor_1 : decode m_X2_drawFor.2.1 1 = .ok (.getfield 28, 3) := by decide +kernel
theorem dX2_drawFor_4 : decode m_X2_drawFor.2.1 4 = .ok (.iconst 0, 1) := by decide +kernel
theorem dX2_drawFor_5 : decode m_X2_drawFor.2.1 5 = .ok (.iload_n 1, 1) := by decide +kernel
theorem dX2_drawFor_6 : decode m_X2_drawFor.2.1 6 = .ok (.invokevirtual 70, 3) := by decide +kernel
theorem dX2_drawFor_9 : decode m_X2_drawFor.2.1 9 = .ok (.istore_n 2, 1) := by decide +kernel
theorem dX2_drawFor_10 : decode m_X2_drawFor.2.1 10 = .ok (.iload_n 2, 1) := by decide +kernel
theorem dX2_drawFor_11 : decode m_X2_drawFor.2.1 11 = .ok (.ifCond .ge 5, 3) := by decide +kernel
theorem dX2_drawFor_14 : decode m_X2_drawFor.2.1 14 = .ok (.iconst 0, 1) := by decide +kernel
theorem dX2_drawFor_15 : decode m_X2_drawFor.2.1 15 = .ok (.ireturn, 1) := by decide +kernel
theorem dX2_drawFor_16 : decode m_X2_drawFor.2.1 16 = .ok (.aload_n 0, 1) := by decide +kernel
theorem dX2_drawFor_17 : decode m_X2_drawFor.2.1 17 = .ok (.getfield 28, 3) := by decide +kernel
theorem dX2_drawFor_20 : decode m_X2_drawFor.2.1 20 = .ok (.bipush 104, 2) := by decide +kernel
theorem dX2_drawFor_22 : decode m_X2_drawFor.2.1 22 = .ok (.aload_n 0, 1) := by decide +kernel
theorem dX2_drawFor_23 : decode m_X2_drawFor.2.1 23 = .ok (.getfield 21, 3) := by decide +kernel
theorem dX2_drawFor_26 : decode m_X2_drawFor.2.1 26 = .ok (.getfield 74, 3) := by decide +kernel
theorem dX2_drawFor_29 : decode m_X2_drawFor.2.1 29 = .ok (.invokevirtual 78, 3) := by decide +kernel
theorem dX2_drawFor_32 : decode m_X2_drawFor.2.1 32 = .ok (.aload_n 0, 1) := by decide +kernel
theorem dX2_drawFor_33 : decode m_X2_drawFor.2.1 33 = .ok (.getfield 28, 3) := by decide +kernel
theorem dX2_drawFor_36 : decode m_X2_drawFor.2.1 36 = .ok (.bipush 116, 2) := by decide +kernel
theorem dX2_drawFor_38 : decode m_X2_drawFor.2.1 38 = .ok (.aload_n 0, 1) := by decide +kernel
theorem dX2_drawFor_39 : decode m_X2_drawFor.2.1 39 = .ok (.getfield 21, 3) := by decide +kernel
theorem dX2_drawFor_42 : decode m_X2_drawFor.2.1 42 = .ok (.invokevirtual 82, 3) := by decide +kernel
theorem dX2_drawFor_45 : decode m_X2_drawFor.2.1 45 = .ok (.invokevirtual 78, 3) := by decide +kernel
theorem dX2_drawFor_48 : decode m_X2_drawFor.2.1 48 = .ok (.aload_n 0, 1) := by decide +kernel
theorem dX2_drawFor_49 : decode m_X2_drawFor.2.1 49 = .ok (.getfield 28, 3) := by decide +kernel
theorem dX2_drawFor_52 : decode m_X2_drawFor.2.1 52 = .ok (.bipush 98, 2) := by decide +kernel
theorem dX2_drawFor_54 : decode m_X2_drawFor.2.1 54 = .ok (.aload_n 0, 1) := by decide +kernel
theorem dX2_drawFor_55 : decode m_X2_drawFor.2.1 55 = .ok (.getfield 21, 3) := by decide +kernel
theorem dX2_drawFor_58 : decode m_X2_drawFor.2.1 58 = .ok (.invokevirtual 110, 3) := by decide +kernel
theorem dX2_drawFor_61 : decode m_X2_drawFor.2.1 61 = .ok (.invokevirtual 78, 3) := by decide +kernel
theorem dX2_drawFor_64 : decode m_X2_drawFor.2.1 64 = .ok (.aload_n 0, 1) := by decide +kernel
theorem dX2_drawFor_65 : decode m_X2_drawFor.2.1 65 = .ok (.getfield 28, 3) := by decide +kernel
theorem dX2_drawFor_68 : decode m_X2_drawFor.2.1 68 = .ok (.bipush 115, 2) := by decide +kernel
theorem dX2_drawFor_70 : decode m_X2_drawFor.2.1 70 = .ok (.aload_n 0, 1) := by decide +kernel
theorem dX2_drawFor_71 : decode m_X2_drawFor.2.1 71 = .ok (.getfield 12, 3) := by decide +kernel
theorem dX2_drawFor_74 : decode m_X2_drawFor.2.1 74 = .ok (.getfield 113, 3) := by decide +kernel
theorem dX2_drawFor_77 : decode m_X2_drawFor.2.1 77 = .ok (.iload_n 1, 1) := by decide +kernel
theorem dX2_drawFor_78 : decode m_X2_drawFor.2.1 78 = .ok (.iaload, 1) := by decide +kernel
theorem dX2_drawFor_79 : decode m_X2_drawFor.2.1 79 = .ok (.invokevirtual 78, 3) := by decide +kernel
theorem dX2_drawFor_82 : decode m_X2_drawFor.2.1 82 = .ok (.aload_n 0, 1) := by decide +kernel
theorem dX2_drawFor_83 : decode m_X2_drawFor.2.1 83 = .ok (.getfield 28, 3) := by decide +kernel
theorem dX2_drawFor_86 : decode m_X2_drawFor.2.1 86 = .ok (.iload_n 2, 1) := by decide +kernel
theorem dX2_drawFor_87 : decode m_X2_drawFor.2.1 87 = .ok (.invokevirtual 89, 3) := by decide +kernel
theorem dX2_drawFor_90 : decode m_X2_drawFor.2.1 90 = .ok (.invokestatic 93, 3) := by decide +kernel
theorem dX2_drawFor_93 : decode m_X2_drawFor.2.1 93 = .ok (.aload_n 0, 1) := by decide +kernel
theorem dX2_drawFor_94 : decode m_X2_drawFor.2.1 94 = .ok (.getfield 12, 3) := by decide +kernel
theorem dX2_drawFor_97 : decode m_X2_drawFor.2.1 97 = .ok (.getfield 113, 3) := by decide +kernel
theorem dX2_drawFor_100 : decode m_X2_drawFor.2.1 100 = .ok (.iload_n 1, 1) := by decide +kernel
theorem dX2_drawFor_101 : decode m_X2_drawFor.2.1 101 = .ok (.iaload, 1) := by decide +kernel
theorem dX2_drawFor_102 : decode m_X2_drawFor.2.1 102 = .ok (.invokestatic 116, 3) := by decide +kernel
theorem dX2_drawFor_105 : decode m_X2_drawFor.2.1 105 = .ok (.ireturn, 1) := by decide +kernel
theorem dX2_chargeOut_0 : decode m_X2_chargeOut.2.1 0 = .ok (.aload_n 0, 1) := by decide +kernel
theorem dX2_chargeOut_1 : decode m_X2_chargeOut.2.1 1 = .ok (.getfield 12, 3) := by decide +kernel
theorem dX2_chargeOut_4 : decode m_X2_chargeOut.2.1 4 = .ok (.getfield 113, 3) := by decide +kernel
theorem dX2_chargeOut_7 : decode m_X2_chargeOut.2.1 7 = .ok (.iload_n 1, 1) := by decide +kernel
theorem dX2_chargeOut_8 : decode m_X2_chargeOut.2.1 8 = .ok (.dup2, 1) := by decide +kernel
theorem dX2_chargeOut_9 : decode m_X2_chargeOut.2.1 9 = .ok (.iaload, 1) := by decide +kernel
theorem dX2_chargeOut_10 : decode m_X2_chargeOut.2.1 10 = .ok (.iload_n 2, 1) := by decide +kernel
theorem dX2_chargeOut_11 : decode m_X2_chargeOut.2.1 11 = .ok (.isub, 1) := by decide +kernel
theorem dX2_chargeOut_12 : decode m_X2_chargeOut.2.1 12 = .ok (.iastore, 1) := by decide +kernel
theorem dX2_chargeOut_13 : decode m_X2_chargeOut.2.1 13 = .ok (.aload_n 0, 1) := by decide +kernel
theorem dX2_chargeOut_14 : decode m_X2_chargeOut.2.1 14 = .ok (.getfield 21, 3) := by decide +kernel
theorem dX2_chargeOut_17 : decode m_X2_chargeOut.2.1 17 = .ok (.aload_n 0, 1) := by decide +kernel
theorem dX2_chargeOut_18 : decode m_X2_chargeOut.2.1 18 = .ok (.getfield 12, 3) := by decide +kernel
theorem dX2_chargeOut_21 : decode m_X2_chargeOut.2.1 21 = .ok (.iload_n 1, 1) := by decide +kernel
theorem dX2_chargeOut_22 : decode m_X2_chargeOut.2.1 22 = .ok (.iload_n 2, 1) := by decide +kernel
theorem dX2_chargeOut_23 : decode m_X2_chargeOut.2.1 23 = .ok (.invokevirtual 121, 3) := by decide +kernel
theorem dX2_chargeOut_26 : decode m_X2_chargeOut.2.1 26 = .ok (.aload_n 0, 1) := by decide +kernel
theorem dX2_chargeOut_27 : decode m_X2_chargeOut.2.1 27 = .ok (.getfield 21, 3) := by decide +kernel
theorem dX2_chargeOut_30 : decode m_X2_chargeOut.2.1 30 = .ok (.aload_n 0, 1) := by decide +kernel
theorem dX2_chargeOut_31 : decode m_X2_chargeOut.2.1 31 = .ok (.getfield 39, 3) := by decide +kernel
theorem dX2_chargeOut_34 : decode m_X2_chargeOut.2.1 34 = .ok (.iconst 0, 1) := by decide +kernel
theorem dX2_chargeOut_35 : decode m_X2_chargeOut.2.1 35 = .ok (.iaload, 1) := by decide +kernel
theorem dX2_chargeOut_36 : decode m_X2_chargeOut.2.1 36 = .ok (.invokevirtual 125, 3) := by decide +kernel
theorem dX2_chargeOut_39 : decode m_X2_chargeOut.2.1 39 = .ok (.return_, 1) := by decide +kernel
theorem dX2_pourOut_0 : decode m_X2_pourOut.2.1 0 = .ok (.aload_n 0, 1) := by decide +kernel
theorem dX2_pourOut_1 : decode m_X2_pourOut.2.1 1 = .ok (.getfield 21, 3) := by decide +kernel
theorem dX2_pourOut_4 : decode m_X2_pourOut.2.1 4 = .ok (.iload_n 1, 1) := by decide +kernel
theorem dX2_pourOut_5 : decode m_X2_pourOut.2.1 5 = .ok (.invokevirtual 128, 3) := by decide +kernel
theorem dX2_pourOut_8 : decode m_X2_pourOut.2.1 8 = .ok (.aload_n 0, 1) := by decide +kernel
theorem dX2_pourOut_9 : decode m_X2_pourOut.2.1 9 = .ok (.getfield 35, 3) := by decide +kernel
theorem dX2_pourOut_12 : decode m_X2_pourOut.2.1 12 = .ok (.iload_n 1, 1) := by decide +kernel
theorem dX2_pourOut_13 : decode m_X2_pourOut.2.1 13 = .ok (.iload_n 2, 1) := by decide +kernel
theorem dX2_pourOut_14 : decode m_X2_pourOut.2.1 14 = .ok (.aload_n 0, 1) := by decide +kernel
theorem dX2_pourOut_15 : decode m_X2_pourOut.2.1 15 = .ok (.getfield 39, 3) := by decide +kernel
theorem dX2_pourOut_18 : decode m_X2_pourOut.2.1 18 = .ok (.iconst 2, 1) := by decide +kernel
theorem dX2_pourOut_19 : decode m_X2_pourOut.2.1 19 = .ok (.iaload, 1) := by decide +kernel
theorem dX2_pourOut_20 : decode m_X2_pourOut.2.1 20 = .ok (.invokevirtual 131, 3) := by decide +kernel
theorem dX2_pourOut_23 : decode m_X2_pourOut.2.1 23 = .ok (.istore_n 3, 1) := by decide +kernel
theorem dX2_pourOut_24 : decode m_X2_pourOut.2.1 24 = .ok (.iload_n 3, 1) := by decide +kernel
theorem dX2_pourOut_25 : decode m_X2_pourOut.2.1 25 = .ok (.aload_n 0, 1) := by decide +kernel
theorem dX2_pourOut_26 : decode m_X2_pourOut.2.1 26 = .ok (.aload_n 0, 1) := by decide +kernel
theorem dX2_pourOut_27 : decode m_X2_pourOut.2.1 27 = .ok (.getfield 35, 3) := by decide +kernel
theorem dX2_pourOut_30 : decode m_X2_pourOut.2.1 30 = .ok (.getfield 135, 3) := by decide +kernel
theorem dX2_pourOut_33 : decode m_X2_pourOut.2.1 33 = .ok (.invokevirtual 138, 3) := by decide +kernel
theorem dX2_pourOut_36 : decode m_X2_pourOut.2.1 36 = .ok (.iadd, 1) := by decide +kernel
theorem dX2_pourOut_37 : decode m_X2_pourOut.2.1 37 = .ok (.ireturn, 1) := by decide +kernel
theorem dX2_lateFor_0 : decode m_X2_lateFor.2.1 0 = .ok (.aload_n 0, 1) := by decide +kernel
theorem dX2_lateFor_1 : decode m_X2_lateFor.2.1 1 = .ok (.getfield 28, 3) := by decide +kernel
theorem dX2_lateFor_4 : decode m_X2_lateFor.2.1 4 = .ok (.iconst 2, 1) := by decide +kernel
theorem dX2_lateFor_5 : decode m_X2_lateFor.2.1 5 = .ok (.iconst 0, 1) := by decide +kernel
theorem dX2_lateFor_6 : decode m_X2_lateFor.2.1 6 = .ok (.invokevirtual 70, 3) := by decide +kernel
theorem dX2_lateFor_9 : decode m_X2_lateFor.2.1 9 = .ok (.istore_n 2, 1) := by decide +kernel
theorem dX2_lateFor_10 : decode m_X2_lateFor.2.1 10 = .ok (.iload_n 2, 1) := by decide +kernel
theorem dX2_lateFor_11 : decode m_X2_lateFor.2.1 11 = .ok (.ifCond .ge 5, 3) := by decide +kernel
theorem dX2_lateFor_14 : decode m_X2_lateFor.2.1 14 = .ok (.iconst 0, 1) := by decide +kernel
theorem dX2_lateFor_15 : decode m_X2_lateFor.2.1 15 = .ok (.ireturn, 1) := by decide +kernel
theorem dX2_lateFor_16 : decode m_X2_lateFor.2.1 16 = .ok (.aload_n 0, 1) := by decide +kernel
theorem dX2_lateFor_17 : decode m_X2_lateFor.2.1 17 = .ok (.getfield 28, 3) := by decide +kernel
theorem dX2_lateFor_20 : decode m_X2_lateFor.2.1 20 = .ok (.bipush 104, 2) := by decide +kernel
theorem dX2_lateFor_22 : decode m_X2_lateFor.2.1 22 = .ok (.aload_n 0, 1) := by decide +kernel
theorem dX2_lateFor_23 : decode m_X2_lateFor.2.1 23 = .ok (.getfield 21, 3) := by decide +kernel
theorem dX2_lateFor_26 : decode m_X2_lateFor.2.1 26 = .ok (.getfield 74, 3) := by decide +kernel
theorem dX2_lateFor_29 : decode m_X2_lateFor.2.1 29 = .ok (.invokevirtual 78, 3) := by decide +kernel
theorem dX2_lateFor_32 : decode m_X2_lateFor.2.1 32 = .ok (.aload_n 0, 1) := by decide +kernel
theorem dX2_lateFor_33 : decode m_X2_lateFor.2.1 33 = .ok (.getfield 28, 3) := by decide +kernel
theorem dX2_lateFor_36 : decode m_X2_lateFor.2.1 36 = .ok (.bipush 99, 2) := by decide +kernel
theorem dX2_lateFor_38 : decode m_X2_lateFor.2.1 38 = .ok (.iload_n 1, 1) := by decide +kernel
theorem dX2_lateFor_39 : decode m_X2_lateFor.2.1 39 = .ok (.invokevirtual 78, 3) := by decide +kernel
theorem dX2_lateFor_42 : decode m_X2_lateFor.2.1 42 = .ok (.aload_n 0, 1) := by decide +kernel
theorem dX2_lateFor_43 : decode m_X2_lateFor.2.1 43 = .ok (.getfield 28, 3) := by decide +kernel
theorem dX2_lateFor_46 : decode m_X2_lateFor.2.1 46 = .ok (.iload_n 2, 1) := by decide +kernel
theorem dX2_lateFor_47 : decode m_X2_lateFor.2.1 47 = .ok (.invokevirtual 89, 3) := by decide +kernel
theorem dX2_lateFor_50 : decode m_X2_lateFor.2.1 50 = .ok (.invokestatic 93, 3) := by decide +kernel
theorem dX2_lateFor_53 : decode m_X2_lateFor.2.1 53 = .ok (.ireturn, 1) := by decide +kernel
theorem dX3_init_0 : decode m_X3_init.2.1 0 = .ok (.aload_n 0, 1) := by decide +kernel
theorem dX3_init_1 : decode m_X3_init.2.1 1 = .ok (.invokespecial 3, 3) := by decide +kernel
theorem dX3_init_4 : decode m_X3_init.2.1 4 = .ok (.aload_n 0, 1) := by decide +kernel
theorem dX3_init_5 : decode m_X3_init.2.1 5 = .ok (.bipush 6, 2) := by decide +kernel
theorem dX3_init_7 : decode m_X3_init.2.1 7 = .ok (.newarray .int, 2) := by decide +kernel
theorem dX3_init_9 : decode m_X3_init.2.1 9 = .ok (.putfield 9, 3) := by decide +kernel
theorem dX3_init_12 : decode m_X3_init.2.1 12 = .ok (.aload_n 0, 1) := by decide +kernel
theorem dX3_init_13 : decode m_X3_init.2.1 13 = .ok (.bipush 6, 2) := by decide +kernel
theorem dX3_init_15 : decode m_X3_init.2.1 15 = .ok (.newarray .int, 2) := by decide +kernel
theorem dX3_init_17 : decode m_X3_init.2.1 17 = .ok (.putfield 15, 3) := by decide +kernel
theorem dX3_init_20 : decode m_X3_init.2.1 20 = .ok (.aload_n 0, 1) := by decide +kernel
theorem dX3_init_21 : decode m_X3_init.2.1 21 = .ok (.iconst 0, 1) := by decide +kernel
theorem dX3_init_22 : decode m_X3_init.2.1 22 = .ok (.putfield 18, 3) := by decide +kernel
theorem dX3_init_25 : decode m_X3_init.2.1 25 = .ok (.aload_n 0, 1) := by decide +kernel
theorem dX3_init_26 : decode m_X3_init.2.1 26 = .ok (.iconst 0, 1) := by decide +kernel
theorem dX3_init_27 : decode m_X3_init.2.1 27 = .ok (.putfield 22, 3) := by decide +kernel
theorem dX3_init_30 : decode m_X3_init.2.1 30 = .ok (.return_, 1) := by decide +kernel
theorem dX3_become_0 : decode m_X3_become.2.1 0 = .ok (.aload_n 1, 1) := by decide +kernel
theorem dX3_become_1 : decode m_X3_become.2.1 1 = .ok (.getfield 9, 3) := by decide +kernel
theorem dX3_become_4 : decode m_X3_become.2.1 4 = .ok (.iconst 0, 1) := by decide +kernel
theorem dX3_become_5 : decode m_X3_become.2.1 5 = .ok (.aload_n 0, 1) := by decide +kernel
theorem dX3_become_6 : decode m_X3_become.2.1 6 = .ok (.getfield 9, 3) := by decide +kernel
theorem dX3_become_9 : decode m_X3_become.2.1 9 = .ok (.iconst 0, 1) := by decide +kernel
theorem dX3_become_10 : decode m_X3_become.2.1 10 = .ok (.bipush 6, 2) := by decide +kernel
theorem dX3_become_12 : decode m_X3_become.2.1 12 = .ok (.invokestatic 25, 3) := by decide +kernel
theorem dX3_become_15 : decode m_X3_become.2.1 15 = .ok (.aload_n 1, 1) := by decide +kernel
theorem dX3_become_16 : decode m_X3_become.2.1 16 = .ok (.getfield 15, 3) := by decide +kernel
theorem dX3_become_19 : decode m_X3_become.2.1 19 = .ok (.iconst 0, 1) := by decide +kernel
theorem dX3_become_20 : decode m_X3_become.2.1 20 = .ok (.aload_n 0, 1) := by decide +kernel
theorem dX3_become_21 : decode m_X3_become.2.1 21 = .ok (.getfield 15, 3) := by decide +kernel
theorem dX3_become_24 : decode m_X3_become.2.1 24 = .ok (.iconst 0, 1) := by decide +kernel
theorem dX3_become_25 : decode m_X3_become.2.1 25 = .ok (.bipush 6, 2) := by decide +kernel
theorem dX3_become_27 : decode m_X3_become.2.1 27 = .ok (.invokestatic 25, 3) := by decide +kernel
theorem dX3_become_30 : decode m_X3_become.2.1 30 = .ok (.aload_n 0, 1) := by decide +kernel
theorem dX3_become_31 : decode m_X3_become.2.1 31 = .ok (.aload_n 1, 1) := by decide +kernel
theorem dX3_become_32 : decode m_X3_become.2.1 32 = .ok (.getfield 18, 3) := by decide +kernel
theorem dX3_become_35 : decode m_X3_become.2.1 35 = .ok (.putfield 18, 3) := by decide +kernel
theorem dX3_become_38 : decode m_X3_become.2.1 38 = .ok (.return_, 1) := by decide +kernel
theorem dX3_has_0 : decode m_X3_has.2.1 0 = .ok (.iload_n 1, 1) := by decide +kernel
theorem dX3_has_1 : decode m_X3_has.2.1 1 = .ok (.ifCond .lt 15, 3) := by decide +kernel
theorem dX3_has_4 : decode m_X3_has.2.1 4 = .ok (.iload_n 1, 1) := by decide +kernel
theorem dX3_has_5 : decode m_X3_has.2.1 5 = .ok (.aload_n 0, 1) := by decide +kernel
theorem dX3_has_6 : decode m_X3_has.2.1 6 = .ok (.getfield 18, 3) := by decide +kernel
theorem dX3_has_9 : decode m_X3_has.2.1 9 = .ok (.if_icmp .ge 7, 3) := by decide +kernel
theorem dX3_has_12 : decode m_X3_has.2.1 12 = .ok (.iconst 1, 1) := by decide +kernel
theorem dX3_has_13 : decode m_X3_has.2.1 13 = .ok (.goto 4, 3) := by decide +kernel
theorem dX3_has_16 : decode m_X3_has.2.1 16 = .ok (.iconst 0, 1) := by decide +kernel
theorem dX3_has_17 : decode m_X3_has.2.1 17 = .ok (.ireturn, 1) := by decide +kernel
theorem dX3_add_0 : decode m_X3_add.2.1 0 = .ok (.aload_n 0, 1) := by decide +kernel
theorem dX3_add_1 : decode m_X3_add.2.1 1 = .ok (.getfield 18, 3) := by decide +kernel
theorem dX3_add_4 : decode m_X3_add.2.1 4 = .ok (.bipush 6, 2) := by decide +kernel
theorem dX3_add_6 : decode m_X3_add.2.1 6 = .ok (.if_icmp .lt 6, 3) := by decide +kernel
theorem dX3_add_9 : decode m_X3_add.2.1 9 = .ok (.ldc 31, 2) := by decide +kernel
theorem dX3_add_11 : decode m_X3_add.2.1 11 = .ok (.ireturn, 1) := by decide +kernel
theorem dX3_add_12 : decode m_X3_add.2.1 12 = .ok (.aload_n 0, 1) := by decide +kernel
theorem dX3_add_13 : decode m_X3_add.2.1 13 = .ok (.getfield 18, 3) := by decide +kernel
theorem dX3_add_16 : decode m_X3_add.2.1 16 = .ok (.istore_n 2, 1) := by decide +kernel
theorem dX3_add_17 : decode m_X3_add.2.1 17 = .ok (.aload_n 0, 1) := by decide +kernel
theorem dX3_add_18 : decode m_X3_add.2.1 18 = .ok (.getfield 9, 3) := by decide +kernel
theorem dX3_add_21 : decode m_X3_add.2.1 21 = .ok (.iload_n 2, 1) := by decide +kernel
theorem dX3_add_22 : decode m_X3_add.2.1 22 = .ok (.iload_n 1, 1) := by decide +kernel
theorem dX3_add_23 : decode m_X3_add.2.1 23 = .ok (.iastore, 1) := by decide +kernel
theorem dX3_add_24 : decode m_X3_add.2.1 24 = .ok (.aload_n 0, 1) := by decide +kernel
theorem dX3_add_25 : decode m_X3_add.2.1 25 = .ok (.getfield 15, 3) := by decide +kernel
theorem dX3_add_28 : decode m_X3_add.2.1 28 = .ok (.iload_n 2, 1) := by decide +kernel
theorem dX3_add_29 : decode m_X3_add.2.1 29 = .ok (.iconst 0, 1) := by decide +kernel
theorem dX3_add_30 : decode m_X3_add.2.1 30 = .ok (.iastore, 1) := by decide +kernel
theorem dX3_add_31 : decode m_X3_add.2.1 31 = .ok (.aload_n 0, 1) := by decide +kernel
theorem dX3_add_32 : decode m_X3_add.2.1 32 = .ok (.dup, 1) := by decide +kernel
theorem dX3_add_33 : decode m_X3_add.2.1 33 = .ok (.getfield 18, 3) := by decide +kernel
theorem dX3_add_36 : decode m_X3_add.2.1 36 = .ok (.iconst 1, 1) := by decide +kernel
theorem dX3_add_37 : decode m_X3_add.2.1 37 = .ok (.iadd, 1) := by decide +kernel
theorem dX3_add_38 : decode m_X3_add.2.1 38 = .ok (.putfield 18, 3) := by decide +kernel
theorem dX3_add_41 : decode m_X3_add.2.1 41 = .ok (.iload_n 2, 1) := by decide +kernel
theorem dX3_add_42 : decode m_X3_add.2.1 42 = .ok (.ireturn, 1) := by decide +kernel
theorem dX3_firstReady_0 : decode m_X3_firstReady.2.1 0 = .ok (.iconst 0, 1) := by decide +kernel
theorem dX3_firstReady_1 : decode m_X3_firstReady.2.1 1 = .ok (.istore_n 1, 1) := by decide +kernel
theorem dX3_firstReady_2 : decode m_X3_firstReady.2.1 2 = .ok (.iconst 1, 1) := by decide +kernel
theorem dX3_firstReady_3 : decode m_X3_firstReady.2.1 3 = .ok (.istore_n 2, 1) := by decide +kernel
theorem dX3_firstReady_4 : decode m_X3_firstReady.2.1 4 = .ok (.iload_n 2, 1) := by decide +kernel
theorem dX3_firstReady_5 : decode m_X3_firstReady.2.1 5 = .ok (.aload_n 0, 1) := by decide +kernel
theorem dX3_firstReady_6 : decode m_X3_firstReady.2.1 6 = .ok (.getfield 18, 3) := by decide +kernel
theorem dX3_firstReady_9 : decode m_X3_firstReady.2.1 9 = .ok (.if_icmp .ge 26, 3) := by decide +kernel
theorem dX3_firstReady_12 : decode m_X3_firstReady.2.1 12 = .ok (.aload_n 0, 1) := by decide +kernel
theorem dX3_firstReady_13 : decode m_X3_firstReady.2.1 13 = .ok (.getfield 15, 3) := by decide +kernel
theorem dX3_firstReady_16 : decode m_X3_firstReady.2.1 16 = .ok (.iload_n 2, 1) := by decide +kernel
theorem dX3_firstReady_17 : decode m_X3_firstReady.2.1 17 = .ok (.iaload, 1) := by decide +kernel
theorem dX3_firstReady_18 : decode m_X3_firstReady.2.1 18 = .ok (.aload_n 0, 1) := by decide +kernel
theorem dX3_firstReady_19 : decode m_X3_firstReady.2.1 19 = .ok (.getfield 15, 3) := by decide +kernel
theorem dX3_firstReady_22 : decode m_X3_firstReady.2.1 22 = .ok (.iload_n 1, 1) := by decide +kernel
theorem dX3_firstReady_23 : decode m_X3_firstReady.2.1 23 = .ok (.iaload, 1) := by decide +kernel
theorem dX3_firstReady_24 : decode m_X3_firstReady.2.1 24 = .ok (.if_icmp .ge 5, 3) := by decide +kernel
theorem dX3_firstReady_27 : decode m_X3_firstReady.2.1 27 = .ok (.iload_n 2, 1) := by decide +kernel
theorem dX3_firstReady_28 : decode m_X3_firstReady.2.1 28 = .ok (.istore_n 1, 1) := by decide +kernel
theorem dX3_firstReady_29 : decode m_X3_firstReady.2.1 29 = .ok (.iinc 2 1, 3) := by decide +kernel
theorem dX3_firstReady_32 : decode m_X3_firstReady.2.1 32 = .ok (.goto (-28), 3) := by decide +kernel
theorem dX3_firstReady_35 : decode m_X3_firstReady.2.1 35 = .ok (.iload_n 1, 1) := by decide +kernel
theorem dX3_firstReady_36 : decode m_X3_firstReady.2.1 36 = .ok (.ireturn, 1) := by decide +kernel
theorem dX3_takeIn_0 : decode m_X3_takeIn.2.1 0 = .ok (.iconst 0, 1) := by decide +kernel
theorem dX3_takeIn_1 : decode m_X3_takeIn.2.1 1 = .ok (.istore 4, 2) := by decide +kernel
theorem dX3_takeIn_3 : decode m_X3_takeIn.2.1 3 = .ok (.iload_n 2, 1) := by decide +kernel
theorem dX3_takeIn_4 : decode m_X3_takeIn.2.1 4 = .ok (.istore 5, 2) := by decide +kernel
theorem dX3_takeIn_6 : decode m_X3_takeIn.2.1 6 = .ok (.iload_n 1, 1) := by decide +kernel
theorem dX3_takeIn_7 : decode m_X3_takeIn.2.1 7 = .ok (.istore 6, 2) := by decide +kernel
theorem dX3_takeIn_9 : decode m_X3_takeIn.2.1 9 = .ok (.aload_n 0, 1) := by decide +kernel
theorem dX3_takeIn_10 : decode m_X3_takeIn.2.1 10 = .ok (.iconst 0, 1) := by decide +kernel
theorem dX3_takeIn_11 : decode m_X3_takeIn.2.1 11 = .ok (.putfield 22, 3) := by decide +kernel
theorem dX3_takeIn_14 : decode m_X3_takeIn.2.1 14 = .ok (.iload 6, 2) := by decide +kernel
theorem dX3_takeIn_16 : decode m_X3_takeIn.2.1 16 = .ok (.ifCond .le 93, 3) := by decide +kernel
theorem dX3_takeIn_19 : decode m_X3_takeIn.2.1 19 = .ok (.aload_n 0, 1) := by decide +kernel
theorem dX3_takeIn_20 : decode m_X3_takeIn.2.1 20 = .ok (.getfield 22, 3) := by decide +kernel
theorem dX3_takeIn_23 : decode m_X3_takeIn.2.1 23 = .ok (.iload_n 1, 1) := by decide +kernel
theorem dX3_takeIn_24 : decode m_X3_takeIn.2.1 24 = .ok (.if_icmp .ge 85, 3) := by decide +kernel
theorem dX3_takeIn_27 : decode m_X3_takeIn.2.1 27 = .ok (.aload_n 0, 1) := by decide +kernel
theorem dX3_takeIn_28 : decode m_X3_takeIn.2.1 28 = .ok (.invokevirtual 32, 3) := by decide +kernel
theorem dX3_takeIn_31 : decode m_X3_takeIn.2.1 31 = .ok (.istore 7, 2) := by decide +kernel
theorem dX3_takeIn_33 : decode m_X3_takeIn.2.1 33 = .ok (.iload 6, 2) := by decide +kernel
theorem dX3_takeIn_35 : decode m_X3_takeIn.2.1 35 = .ok (.aload_n 0, 1) := by decide +kernel
theorem dX3_takeIn_36 : decode m_X3_takeIn.2.1 36 = .ok (.getfield 9, 3) := by decide +kernel
theorem dX3_takeIn_39 : decode m_X3_takeIn.2.1 39 = .ok (.iload 7, 2) := by decide +kernel
theorem dX3_takeIn_41 : decode m_X3_takeIn.2.1 41 = .ok (.iaload, 1) := by decide +kernel
theorem dX3_takeIn_42 : decode m_X3_takeIn.2.1 42 = .ok (.invokestatic 36, 3) := by decide +kernel
theorem dX3_takeIn_45 : decode m_X3_takeIn.2.1 45 = .ok (.istore 8, 2) := by decide +kernel
theorem dX3_takeIn_47 : decode m_X3_takeIn.2.1 47 = .ok (.iload 5, 2) := by decide +kernel
theorem dX3_takeIn_49 : decode m_X3_takeIn.2.1 49 = .ok (.aload_n 0, 1) := by decide +kernel
theorem dX3_takeIn_50 : decode m_X3_takeIn.2.1 50 = .ok (.getfield 15, 3) := by decide +kernel
theorem dX3_takeIn_53 : decode m_X3_takeIn.2.1 53 = .ok (.iload 7, 2) := by decide +kernel
theorem dX3_takeIn_55 : decode m_X3_takeIn.2.1 55 = .ok (.iaload, 1) := by decide +kernel
theorem dX3_takeIn_56 : decode m_X3_takeIn.2.1 56 = .ok (.invokestatic 42, 3) := by decide +kernel
theorem dX3_takeIn_59 : decode m_X3_takeIn.2.1 59 = .ok (.istore 9, 2) := by decide +kernel
theorem dX3_takeIn_61 : decode m_X3_takeIn.2.1 61 = .ok (.iload 4, 2) := by decide +kernel
theorem dX3_takeIn_63 : decode m_X3_takeIn.2.1 63 = .ok (.iload 9, 2) := by decide +kernel
theorem dX3_takeIn_65 : decode m_X3_takeIn.2.1 65 = .ok (.iload 5, 2) := by decide +kernel
theorem dX3_takeIn_67 : decode m_X3_takeIn.2.1 67 = .ok (.isub, 1) := by decide +kernel
theorem dX3_takeIn_68 : decode m_X3_takeIn.2.1 68 = .ok (.iadd, 1) := by decide +kernel
theorem dX3_takeIn_69 : decode m_X3_takeIn.2.1 69 = .ok (.istore 4, 2) := by decide +kernel
theorem dX3_takeIn_71 : decode m_X3_takeIn.2.1 71 = .ok (.iload 9, 2) := by decide +kernel
theorem dX3_takeIn_73 : decode m_X3_takeIn.2.1 73 = .ok (.iload 8, 2) := by decide +kernel
theorem dX3_takeIn_75 : decode m_X3_takeIn.2.1 75 = .ok (.iadd, 1) := by decide +kernel
theorem dX3_takeIn_76 : decode m_X3_takeIn.2.1 76 = .ok (.istore 5, 2) := by decide +kernel
theorem dX3_takeIn_78 : decode m_X3_takeIn.2.1 78 = .ok (.aload_n 0, 1) := by decide +kernel
theorem dX3_takeIn_79 : decode m_X3_takeIn.2.1 79 = .ok (.getfield 15, 3) := by decide +kernel
theorem dX3_takeIn_82 : decode m_X3_takeIn.2.1 82 = .ok (.iload 7, 2) := by decide +kernel
theorem dX3_takeIn_84 : decode m_X3_takeIn.2.1 84 = .ok (.iload 5, 2) := by decide +kernel
theorem dX3_takeIn_86 : decode m_X3_takeIn.2.1 86 = .ok (.iload_n 3, 1) := by decide +kernel
theorem dX3_takeIn_87 : decode m_X3_takeIn.2.1 87 = .ok (.iadd, 1) := by decide +kernel
theorem dX3_takeIn_88 : decode m_X3_takeIn.2.1 88 = .ok (.iastore, 1) := by decide +kernel
theorem dX3_takeIn_89 : decode m_X3_takeIn.2.1 89 = .ok (.iload 6, 2) := by decide +kernel
theorem dX3_takeIn_91 : decode m_X3_takeIn.2.1 91 = .ok (.iload 8, 2) := by decide +kernel
theorem dX3_takeIn_93 : decode m_X3_takeIn.2.1 93 = .ok (.isub, 1) := by decide +kernel
theorem dX3_takeIn_94 : decode m_X3_takeIn.2.1 94 = .ok (.istore 6, 2) := by decide +kernel
theorem dX3_takeIn_96 : decode m_X3_takeIn.2.1 96 = .ok (.aload_n 0, 1) := by decide +kernel
theorem dX3_takeIn_97 : decode m_X3_takeIn.2.1 97 = .ok (.dup, 1) := by decide +kernel
theorem dX3_takeIn_98 : decode m_X3_takeIn.2.1 98 = .ok (.getfield 22, 3) := by decide +kernel
theorem dX3_takeIn_101 : decode m_X3_takeIn.2.1 101 = .ok (.iconst 1, 1) := by decide +kernel
theorem dX3_takeIn_102 : decode m_X3_takeIn.2.1 102 = .ok (.iadd, 1) := by decide +kernel
theorem dX3_takeIn_103 : decode m_X3_takeIn.2.1 103 = .ok (.putfield 22, 3) := by decide +kernel
theorem dX3_takeIn_106 : decode m_X3_takeIn.2.1 106 = .ok (.goto (-92), 3) := by decide +kernel
theorem dX3_takeIn_109 : decode m_X3_takeIn.2.1 109 = .ok (.iload 4, 2) := by decide +kernel
theorem dX3_takeIn_111 : decode m_X3_takeIn.2.1 111 = .ok (.ireturn, 1) := by decide +kernel
theorem dX4_init_0 : decode m_X4_init.2.1 0 = .ok (.aload_n 0, 1) := by decide +kernel
theorem dX4_init_1 : decode m_X4_init.2.1 1 = .ok (.invokespecial 3, 3) := by decide +kernel
theorem dX4_init_4 : decode m_X4_init.2.1 4 = .ok (.aload_n 0, 1) := by decide +kernel
theorem dX4_init_5 : decode m_X4_init.2.1 5 = .ok (.iconst 5, 1) := by decide +kernel
theorem dX4_init_6 : decode m_X4_init.2.1 6 = .ok (.newarray .int, 2) := by decide +kernel
theorem dX4_init_8 : decode m_X4_init.2.1 8 = .ok (.putfield 9, 3) := by decide +kernel
theorem dX4_init_11 : decode m_X4_init.2.1 11 = .ok (.return_, 1) := by decide +kernel
theorem dX4_become_0 : decode m_X4_become.2.1 0 = .ok (.aload_n 0, 1) := by decide +kernel
theorem dX4_become_1 : decode m_X4_become.2.1 1 = .ok (.aload_n 1, 1) := by decide +kernel
theorem dX4_become_2 : decode m_X4_become.2.1 2 = .ok (.getfield 15, 3) := by decide +kernel
theorem dX4_become_5 : decode m_X4_become.2.1 5 = .ok (.putfield 15, 3) := by decide +kernel
theorem dX4_become_8 : decode m_X4_become.2.1 8 = .ok (.aload_n 0, 1) := by decide +kernel
theorem dX4_become_9 : decode m_X4_become.2.1 9 = .ok (.aload_n 1, 1) := by decide +kernel
theorem dX4_become_10 : decode m_X4_become.2.1 10 = .ok (.getfield 19, 3) := by decide +kernel
theorem dX4_become_13 : decode m_X4_become.2.1 13 = .ok (.putfield 19, 3) := by decide +kernel
theorem dX4_become_16 : decode m_X4_become.2.1 16 = .ok (.aload_n 0, 1) := by decide +kernel
theorem dX4_become_17 : decode m_X4_become.2.1 17 = .ok (.aload_n 1, 1) := by decide +kernel
theorem dX4_become_18 : decode m_X4_become.2.1 18 = .ok (.getfield 22, 3) := by decide +kernel
theorem dX4_become_21 : decode m_X4_become.2.1 21 = .ok (.putfield 22, 3) := by decide +kernel
theorem dX4_become_24 : decode m_X4_become.2.1 24 = .ok (.aload_n 0, 1) := by decide +kernel
theorem dX4_become_25 : decode m_X4_become.2.1 25 = .ok (.aload_n 1, 1) := by decide +kernel
theorem dX4_become_26 : decode m_X4_become.2.1 26 = .ok (.getfield 25, 3) := by decide +kernel
theorem dX4_become_29 : decode m_X4_become.2.1 29 = .ok (.putfield 25, 3) := by decide +kernel
theorem dX4_become_32 : decode m_X4_become.2.1 32 = .ok (.aload_n 0, 1) := by decide +kernel
theorem dX4_become_33 : decode m_X4_become.2.1 33 = .ok (.aload_n 1, 1) := by decide +kernel
theorem dX4_become_34 : decode m_X4_become.2.1 34 = .ok (.getfield 28, 3) := by decide +kernel
theorem dX4_become_37 : decode m_X4_become.2.1 37 = .ok (.putfield 28, 3) := by decide +kernel
theorem dX4_become_40 : decode m_X4_become.2.1 40 = .ok (.aload_n 0, 1) := by decide +kernel
theorem dX4_become_41 : decode m_X4_become.2.1 41 = .ok (.aload_n 1, 1) := by decide +kernel
theorem dX4_become_42 : decode m_X4_become.2.1 42 = .ok (.getfield 31, 3) := by decide +kernel
theorem dX4_become_45 : decode m_X4_become.2.1 45 = .ok (.putfield 31, 3) := by decide +kernel
theorem dX4_become_48 : decode m_X4_become.2.1 48 = .ok (.aload_n 0, 1) := by decide +kernel
theorem dX4_become_49 : decode m_X4_become.2.1 49 = .ok (.aload_n 1, 1) := by decide +kernel
theorem dX4_become_50 : decode m_X4_become.2.1 50 = .ok (.getfield 34, 3) := by decide +kernel
theorem dX4_become_53 : decode m_X4_become.2.1 53 = .ok (.putfield 34, 3) := by decide +kernel
theorem dX4_become_56 : decode m_X4_become.2.1 56 = .ok (.aload_n 0, 1) := by decide +kernel
theorem dX4_become_57 : decode m_X4_become.2.1 57 = .ok (.aload_n 1, 1) := by decide +kernel
theorem dX4_become_58 : decode m_X4_become.2.1 58 = .ok (.getfield 37, 3) := by decide +kernel
theorem dX4_become_61 : decode m_X4_become.2.1 61 = .ok (.putfield 37, 3) := by decide +kernel
theorem dX4_become_64 : decode m_X4_become.2.1 64 = .ok (.aload_n 0, 1) := by decide +kernel
theorem dX4_become_65 : decode m_X4_become.2.1 65 = .ok (.aload_n 1, 1) := by decide +kernel
theorem dX4_become_66 : decode m_X4_become.2.1 66 = .ok (.getfield 40, 3) := by decide +kernel
theorem dX4_become_69 : decode m_X4_become.2.1 69 = .ok (.putfield 40, 3) := by decide +kernel
theorem dX4_become_72 : decode m_X4_become.2.1 72 = .ok (.aload_n 1, 1) := by decide +kernel
theorem dX4_become_73 : decode m_X4_become.2.1 73 = .ok (.getfield 9, 3) := by decide +kernel
theorem dX4_become_76 : decode m_X4_become.2.1 76 = .ok (.iconst 0, 1) := by decide +kernel
theorem dX4_become_77 : decode m_X4_become.2.1 77 = .ok (.aload_n 0, 1) := by decide +kernel
theorem dX4_become_78 : decode m_X4_become.2.1 78 = .ok (.getfield 9, 3) := by decide +kernel
theorem dX4_become_81 : decode m_X4_become.2.1 81 = .ok (.iconst 0, 1) := by decide +kernel
theorem dX4_become_82 : decode m_X4_become.2.1 82 = .ok (.iconst 5, 1) := by decide +kernel
theorem dX4_become_83 : decode m_X4_become.2.1 83 = .ok (.invokestatic 43, 3) := by decide +kernel
theorem dX4_become_86 : decode m_X4_become.2.1 86 = .ok (.return_, 1) := by decide +kernel
theorem dX4_broughtBetween_0 : decode m_X4_broughtBetween.2.1 0 = .ok (.aload_n 0, 1) := by decide +kernel
theorem dX4_broughtBetween_1 : decode m_X4_broughtBetween.2.1 1 = .ok (.getfield 37, 3) := by decide +kernel
theorem dX4_broughtBetween_4 : decode m_X4_broughtBetween.2.1 4 = .ok (.iconst 1, 1) := by decide +kernel
theorem dX4_broughtBetween_5 : decode m_X4_broughtBetween.2.1 5 = .ok (.if_icmp .ge 7, 3) := by decide +kernel
theorem dX4_broughtBetween_8 : decode m_X4_broughtBetween.2.1 8 = .ok (.iconst 0, 1) := by decide +kernel
theorem dX4_broughtBetween_9 : decode m_X4_broughtBetween.2.1 9 = .ok (.goto 20, 3) := by decide +kernel
theorem dX4_broughtBetween_12 : decode m_X4_broughtBetween.2.1 12 = .ok (.iload_n 1, 1) := by decide +kernel
theorem dX4_broughtBetween_13 : decode m_X4_broughtBetween.2.1 13 = .ok (.iload_n 3, 1) := by decide +kernel
theorem dX4_broughtBetween_14 : decode m_X4_broughtBetween.2.1 14 = .ok (.imul, 1) := by decide +kernel
theorem dX4_broughtBetween_15 : decode m_X4_broughtBetween.2.1 15 = .ok (.aload_n 0, 1) := by decide +kernel
theorem dX4_broughtBetween_16 : decode m_X4_broughtBetween.2.1 16 = .ok (.getfield 37, 3) := by decide +kernel
theorem dX4_broughtBetween_19 : decode m_X4_broughtBetween.2.1 19 = .ok (.idiv, 1) := by decide +kernel
theorem dX4_broughtBetween_20 : decode m_X4_broughtBetween.2.1 20 = .ok (.iload_n 1, 1) := by decide +kernel
theorem dX4_broughtBetween_21 : decode m_X4_broughtBetween.2.1 21 = .ok (.iload_n 2, 1) := by decide +kernel
theorem dX4_broughtBetween_22 : decode m_X4_broughtBetween.2.1 22 = .ok (.imul, 1) := by decide +kernel
theorem dX4_broughtBetween_23 : decode m_X4_broughtBetween.2.1 23 = .ok (.aload_n 0, 1) := by decide +kernel
theorem dX4_broughtBetween_24 : decode m_X4_broughtBetween.2.1 24 = .ok (.getfield 37, 3) := by decide +kernel
theorem dX4_broughtBetween_27 : decode m_X4_broughtBetween.2.1 27 = .ok (.idiv, 1) := by decide +kernel
theorem dX4_broughtBetween_28 : decode m_X4_broughtBetween.2.1 28 = .ok (.isub, 1) := by decide +kernel
theorem dX4_broughtBetween_29 : decode m_X4_broughtBetween.2.1 29 = .ok (.ireturn, 1) := by decide +kernel
theorem dX5_init_0 : decode m_X5_init.2.1 0 = .ok (.aload_n 0, 1) := by decide +kernel
theorem dX5_init_1 : decode m_X5_init.2.1 1 = .ok (.invokespecial 3, 3) := by decide +kernel
theorem dX5_init_4 : decode m_X5_init.2.1 4 = .ok (.aload_n 0, 1) := by decide +kernel
theorem dX5_init_5 : decode m_X5_init.2.1 5 = .ok (.iconst (-1), 1) := by decide +kernel
theorem dX5_init_6 : decode m_X5_init.2.1 6 = .ok (.putfield 9, 3) := by decide +kernel
theorem dX5_init_9 : decode m_X5_init.2.1 9 = .ok (.aload_n 0, 1) := by decide +kernel
theorem dX5_init_10 : decode m_X5_init.2.1 10 = .ok (.iconst 0, 1) := by decide +kernel
theorem dX5_init_11 : decode m_X5_init.2.1 11 = .ok (.putfield 15, 3) := by decide +kernel
theorem dX5_init_14 : decode m_X5_init.2.1 14 = .ok (.aload_n 0, 1) := by decide +kernel
theorem dX5_init_15 : decode m_X5_init.2.1 15 = .ok (.bipush 24, 2) := by decide +kernel
theorem dX5_init_17 : decode m_X5_init.2.1 17 = .ok (.newarray .int, 2) := by decide +kernel
theorem dX5_init_19 : decode m_X5_init.2.1 19 = .ok (.putfield 18, 3) := by decide +kernel
theorem dX5_init_22 : decode m_X5_init.2.1 22 = .ok (.aload_n 0, 1) := by decide +kernel
theorem dX5_init_23 : decode m_X5_init.2.1 23 = .ok (.bipush 24, 2) := by decide +kernel
theorem dX5_init_25 : decode m_X5_init.2.1 25 = .ok (.newarray .boolean, 2) := by decide +kernel
theorem dX5_init_27 : decode m_X5_init.2.1 27 = .ok (.putfield 22, 3) := by decide +kernel
theorem dX5_init_30 : decode m_X5_init.2.1 30 = .ok (.return_, 1) := by decide +kernel
theorem dX5_become_0 : decode m_X5_become.2.1 0 = .ok (.aload_n 0, 1) := by decide +kernel
theorem dX5_become_1 : decode m_X5_become.2.1 1 = .ok (.aload_n 1, 1) := by decide +kernel
theorem dX5_become_2 : decode m_X5_become.2.1 2 = .ok (.getfield 9, 3) := by decide +kernel
theorem dX5_become_5 : decode m_X5_become.2.1 5 = .ok (.putfield 9, 3) := by decide +kernel
theorem dX5_become_8 : decode m_X5_become.2.1 8 = .ok (.aload_n 0, 1) := by decide +kernel
theorem dX5_become_9 : decode m_X5_become.2.1 9 = .ok (.aload_n 1, 1) := by decide +kernel
theorem dX5_become_10 : decode m_X5_become.2.1 10 = .ok (.getfield 15, 3) := by decide +kernel
theorem dX5_become_13 : decode m_X5_become.2.1 13 = .ok (.putfield 15, 3) := by decide +kernel
theorem dX5_become_16 : decode m_X5_become.2.1 16 = .ok (.aload_n 1, 1) := by decide +kernel
theorem dX5_become_17 : decode m_X5_become.2.1 17 = .ok (.getfield 18, 3) := by decide +kernel
theorem dX5_become_20 : decode m_X5_become.2.1 20 = .ok (.iconst 0, 1) := by decide +kernel
theorem dX5_become_21 : decode m_X5_become.2.1 21 = .ok (.aload_n 0, 1) := by decide +kernel
theorem dX5_become_22 : decode m_X5_become.2.1 22 = .ok (.getfield 18, 3) := by decide +kernel
theorem dX5_become_25 : decode m_X5_become.2.1 25 = .ok (.iconst 0, 1) := by decide +kernel
theorem dX5_become_26 : decode m_X5_become.2.1 26 = .ok (.bipush 24, 2) := by decide +kernel
theorem dX5_become_28 : decode m_X5_become.2.1 28 = .ok (.invokestatic 26, 3) := by decide +kernel
theorem dX5_become_31 : decode m_X5_become.2.1 31 = .ok (.aload_n 1, 1) := by decide +kernel
theorem dX5_become_32 : decode m_X5_become.2.1 32 = .ok (.getfield 22, 3) := by decide +kernel
theorem dX5_become_35 : decode m_X5_become.2.1 35 = .ok (.iconst 0, 1) := by decide +kernel
theorem dX5_become_36 : decode m_X5_become.2.1 36 = .ok (.aload_n 0, 1) := by decide +kernel
theorem dX5_become_37 : decode m_X5_become.2.1 37 = .ok (.getfield 22, 3) := by decide +kernel
theorem dX5_become_40 : decode m_X5_become.2.1 40 = .ok (.iconst 0, 1) := by decide +kernel
theorem dX5_become_41 : decode m_X5_become.2.1 41 = .ok (.bipush 24, 2) := by decide +kernel
theorem dX5_become_43 : decode m_X5_become.2.1 43 = .ok (.invokestatic 26, 3) := by decide +kernel
theorem dX5_become_46 : decode m_X5_become.2.1 46 = .ok (.return_, 1) := by decide +kernel
theorem dX5_makeNew_0 : decode m_X5_makeNew.2.1 0 = .ok (.aload_n 0, 1) := by decide +kernel
theorem dX5_makeNew_1 : decode m_X5_makeNew.2.1 1 = .ok (.iload_n 1, 1) := by decide +kernel
theorem dX5_makeNew_2 : decode m_X5_makeNew.2.1 2 = .ok (.putfield 9, 3) := by decide +kernel
theorem dX5_makeNew_5 : decode m_X5_makeNew.2.1 5 = .ok (.aload_n 0, 1) := by decide +kernel
theorem dX5_makeNew_6 : decode m_X5_makeNew.2.1 6 = .ok (.iload_n 2, 1) := by decide +kernel
theorem dX5_makeNew_7 : decode m_X5_makeNew.2.1 7 = .ok (.putfield 15, 3) := by decide +kernel
theorem dX5_makeNew_10 : decode m_X5_makeNew.2.1 10 = .ok (.iconst 0, 1) := by decide +kernel
theorem dX5_makeNew_11 : decode m_X5_makeNew.2.1 11 = .ok (.istore_n 3, 1) := by decide +kernel
theorem dX5_makeNew_12 : decode m_X5_makeNew.2.1 12 = .ok (.iload_n 3, 1) := by decide +kernel
theorem dX5_makeNew_13 : decode m_X5_makeNew.2.1 13 = .ok (.bipush 24, 2) := by decide +kernel
theorem dX5_makeNew_15 : decode m_X5_makeNew.2.1 15 = .ok (.if_icmp .ge 23, 3) := by decide +kernel
theorem dX5_makeNew_18 : decode m_X5_makeNew.2.1 18 = .ok (.aload_n 0, 1) := by decide +kernel
theorem dX5_makeNew_19 : decode m_X5_makeNew.2.1 19 = .ok (.getfield 18, 3) := by decide +kernel
theorem dX5_makeNew_22 : decode m_X5_makeNew.2.1 22 = .ok (.iload_n 3, 1) := by decide +kernel
theorem dX5_makeNew_23 : decode m_X5_makeNew.2.1 23 = .ok (.iconst 0, 1) := by decide +kernel
theorem dX5_makeNew_24 : decode m_X5_makeNew.2.1 24 = .ok (.iastore, 1) := by decide +kernel
theorem dX5_makeNew_25 : decode m_X5_makeNew.2.1 25 = .ok (.aload_n 0, 1) := by decide +kernel
theorem dX5_makeNew_26 : decode m_X5_makeNew.2.1 26 = .ok (.getfield 22, 3) := by decide +kernel
theorem dX5_makeNew_29 : decode m_X5_makeNew.2.1 29 = .ok (.iload_n 3, 1) := by decide +kernel
theorem dX5_makeNew_30 : decode m_X5_makeNew.2.1 30 = .ok (.iconst 0, 1) := by decide +kernel
theorem dX5_makeNew_31 : decode m_X5_makeNew.2.1 31 = .ok (.bastore, 1) := by decide +kernel
theorem dX5_makeNew_32 : decode m_X5_makeNew.2.1 32 = .ok (.iinc 3 1, 3) := by decide +kernel
theorem dX5_makeNew_35 : decode m_X5_makeNew.2.1 35 = .ok (.goto (-23), 3) := by decide +kernel
theorem dX5_makeNew_38 : decode m_X5_makeNew.2.1 38 = .ok (.return_, 1) := by decide +kernel
theorem dX5_has_0 : decode m_X5_has.2.1 0 = .ok (.iload_n 1, 1) := by decide +kernel
theorem dX5_has_1 : decode m_X5_has.2.1 1 = .ok (.ifCond .lt 15, 3) := by decide +kernel
theorem dX5_has_4 : decode m_X5_has.2.1 4 = .ok (.iload_n 1, 1) := by decide +kernel
theorem dX5_has_5 : decode m_X5_has.2.1 5 = .ok (.aload_n 0, 1) := by decide +kernel
theorem dX5_has_6 : decode m_X5_has.2.1 6 = .ok (.getfield 15, 3) := by decide +kernel
theorem dX5_has_9 : decode m_X5_has.2.1 9 = .ok (.if_icmp .ge 7, 3) := by decide +kernel
theorem dX5_has_12 : decode m_X5_has.2.1 12 = .ok (.iconst 1, 1) := by decide +kernel
theorem dX5_has_13 : decode m_X5_has.2.1 13 = .ok (.goto 4, 3) := by decide +kernel
theorem dX5_has_16 : decode m_X5_has.2.1 16 = .ok (.iconst 0, 1) := by decide +kernel
theorem dX5_has_17 : decode m_X5_has.2.1 17 = .ok (.ireturn, 1) := by decide +kernel
theorem dX5_hasRow_0 : decode m_X5_hasRow.2.1 0 = .ok (.iload_n 1, 1) := by decide +kernel
theorem dX5_hasRow_1 : decode m_X5_hasRow.2.1 1 = .ok (.ifCond .lt 29, 3) := by decide +kernel
theorem dX5_hasRow_4 : decode m_X5_hasRow.2.1 4 = .ok (.iload_n 1, 1) := by decide +kernel
theorem dX5_hasRow_5 : decode m_X5_hasRow.2.1 5 = .ok (.aload_n 0, 1) := by decide +kernel
theorem dX5_hasRow_6 : decode m_X5_hasRow.2.1 6 = .ok (.getfield 15, 3) := by decide +kernel
theorem dX5_hasRow_9 : decode m_X5_hasRow.2.1 9 = .ok (.if_icmp .gt 21, 3) := by decide +kernel
theorem dX5_hasRow_12 : decode m_X5_hasRow.2.1 12 = .ok (.iload_n 2, 1) := by decide +kernel
theorem dX5_hasRow_13 : decode m_X5_hasRow.2.1 13 = .ok (.ifCond .lt 17, 3) := by decide +kernel
theorem dX5_hasRow_16 : decode m_X5_hasRow.2.1 16 = .ok (.iload_n 2, 1) := by decide +kernel
theorem dX5_hasRow_17 : decode m_X5_hasRow.2.1 17 = .ok (.aload_n 0, 1) := by decide +kernel
theorem dX5_hasRow_18 : decode m_X5_hasRow.2.1 18 = .ok (.getfield 15, 3) := by decide +kernel
theorem dX5_hasRow_21 : decode m_X5_hasRow.2.1 21 = .ok (.iload_n 1, 1) := by decide +kernel
theorem dX5_hasRow_22 : decode m_X5_hasRow.2.1 22 = .ok (.isub, 1) := by decide +kernel
theorem dX5_hasRow_23 : decode m_X5_hasRow.2.1 23 = .ok (.if_icmp .gt 7, 3) := by decide +kernel
theorem dX5_hasRow_26 : decode m_X5_hasRow.2.1 26 = .ok (.iconst 1, 1) := by decide +kernel
theorem dX5_hasRow_27 : decode m_X5_hasRow.2.1 27 = .ok (.goto 4, 3) := by decide +kernel
theorem dX5_hasRow_30 : decode m_X5_hasRow.2.1 30 = .ok (.iconst 0, 1) := by decide +kernel
theorem dX5_hasRow_31 : decode m_X5_hasRow.2.1 31 = .ok (.ireturn, 1) := by decide +kernel
theorem dX5_put_0 : decode m_X5_put.2.1 0 = .ok (.aload_n 0, 1) := by decide +kernel
theorem dX5_put_1 : decode m_X5_put.2.1 1 = .ok (.getfield 18, 3) := by decide +kernel
theorem dX5_put_4 : decode m_X5_put.2.1 4 = .ok (.iload_n 1, 1) := by decide +kernel
theorem dX5_put_5 : decode m_X5_put.2.1 5 = .ok (.aload_n 0, 1) := by decide +kernel
theorem dX5_put_6 : decode m_X5_put.2.1 6 = .ok (.getfield 9, 3) := by decide +kernel
theorem dX5_put_9 : decode m_X5_put.2.1 9 = .ok (.ifCond .ne 8, 3) := by decide +kernel
theorem dX5_put_12 : decode m_X5_put.2.1 12 = .ok (.iload_n 2, 1) := by decide +kernel
theorem dX5_put_13 : decode m_X5_put.2.1 13 = .ok (.i2s, 1) := by decide +kernel
theorem dX5_put_14 : decode m_X5_put.2.1 14 = .ok (.goto 4, 3) := by decide +kernel
theorem dX5_put_17 : decode m_X5_put.2.1 17 = .ok (.iload_n 2, 1) := by decide +kernel
theorem dX5_put_18 : decode m_X5_put.2.1 18 = .ok (.iastore, 1) := by decide +kernel
theorem dX5_put_19 : decode m_X5_put.2.1 19 = .ok (.aload_n 0, 1) := by decide +kernel
theorem dX5_put_20 : decode m_X5_put.2.1 20 = .ok (.getfield 22, 3) := by decide +kernel
theorem dX5_put_23 : decode m_X5_put.2.1 23 = .ok (.iload_n 1, 1) := by decide +kernel
theorem dX5_put_24 : decode m_X5_put.2.1 24 = .ok (.iconst 0, 1) := by decide +kernel
theorem dX5_put_25 : decode m_X5_put.2.1 25 = .ok (.bastore, 1) := by decide +kernel
theorem dX5_put_26 : decode m_X5_put.2.1 26 = .ok (.return_, 1) := by decide +kernel
theorem dX5_lose_0 : decode m_X5_lose.2.1 0 = .ok (.aload_n 0, 1) := by decide +kernel
theorem dX5_lose_1 : decode m_X5_lose.2.1 1 = .ok (.getfield 18, 3) := by decide +kernel
theorem dX5_lose_4 : decode m_X5_lose.2.1 4 = .ok (.iload_n 1, 1) := by decide +kernel
theorem dX5_lose_5 : decode m_X5_lose.2.1 5 = .ok (.iconst 0, 1) := by decide +kernel
theorem dX5_lose_6 : decode m_X5_lose.2.1 6 = .ok (.iastore, 1) := by decide +kernel
theorem dX5_lose_7 : decode m_X5_lose.2.1 7 = .ok (.aload_n 0, 1) := by decide +kernel
theorem dX5_lose_8 : decode m_X5_lose.2.1 8 = .ok (.getfield 22, 3) := by decide +kernel
theorem dX5_lose_11 : decode m_X5_lose.2.1 11 = .ok (.iload_n 1, 1) := by decide +kernel
theorem dX5_lose_12 : decode m_X5_lose.2.1 12 = .ok (.iconst 1, 1) := by decide +kernel
theorem dX5_lose_13 : decode m_X5_lose.2.1 13 = .ok (.bastore, 1) := by decide +kernel
theorem dX5_lose_14 : decode m_X5_lose.2.1 14 = .ok (.return_, 1) := by decide +kernel
theorem dX5_knownAhead_0 : decode m_X5_knownAhead.2.1 0 = .ok (.iload_n 1, 1) := by decide +kernel
theorem dX5_knownAhead_1 : decode m_X5_knownAhead.2.1 1 = .ok (.iconst 1, 1) := by decide +kernel
theorem dX5_knownAhead_2 : decode m_X5_knownAhead.2.1 2 = .ok (.isub, 1) := by decide +kernel
theorem dX5_knownAhead_3 : decode m_X5_knownAhead.2.1 3 = .ok (.istore_n 2, 1) := by decide +kernel
theorem dX5_knownAhead_4 : decode m_X5_knownAhead.2.1 4 = .ok (.iload_n 2, 1) := by decide +kernel
theorem dX5_knownAhead_5 : decode m_X5_knownAhead.2.1 5 = .ok (.ifCond .lt 20, 3) := by decide +kernel
theorem dX5_knownAhead_8 : decode m_X5_knownAhead.2.1 8 = .ok (.aload_n 0, 1) := by decide +kernel
theorem dX5_knownAhead_9 : decode m_X5_knownAhead.2.1 9 = .ok (.getfield 22, 3) := by decide +kernel
theorem dX5_knownAhead_12 : decode m_X5_knownAhead.2.1 12 = .ok (.iload_n 2, 1) := by decide +kernel
theorem dX5_knownAhead_13 : decode m_X5_knownAhead.2.1 13 = .ok (.baload, 1) := by decide +kernel
theorem dX5_knownAhead_14 : decode m_X5_knownAhead.2.1 14 = .ok (.ifCond .ne 5, 3) := by decide +kernel
theorem dX5_knownAhead_17 : decode m_X5_knownAhead.2.1 17 = .ok (.iload_n 2, 1) := by decide +kernel
theorem dX5_knownAhead_18 : decode m_X5_knownAhead.2.1 18 = .ok (.ireturn, 1) := by decide +kernel
theorem dX5_knownAhead_19 : decode m_X5_knownAhead.2.1 19 = .ok (.iinc 2 (-1), 3) := by decide +kernel
theorem dX5_knownAhead_22 : decode m_X5_knownAhead.2.1 22 = .ok (.goto (-18), 3) := by decide +kernel
theorem dX5_knownAhead_25 : decode m_X5_knownAhead.2.1 25 = .ok (.iconst (-1), 1) := by decide +kernel
theorem dX5_knownAhead_26 : decode m_X5_knownAhead.2.1 26 = .ok (.ireturn, 1) := by decide +kernel
theorem dX5_hangs_0 : decode m_X5_hangs.2.1 0 = .ok (.iconst 0, 1) := by decide +kernel
theorem dX5_hangs_1 : decode m_X5_hangs.2.1 1 = .ok (.istore_n 1, 1) := by decide +kernel
theorem dX5_hangs_2 : decode m_X5_hangs.2.1 2 = .ok (.iconst 0, 1) := by decide +kernel
theorem dX5_hangs_3 : decode m_X5_hangs.2.1 3 = .ok (.istore_n 2, 1) := by decide +kernel
theorem dX5_hangs_4 : decode m_X5_hangs.2.1 4 = .ok (.iconst 0, 1) := by decide +kernel
theorem dX5_hangs_5 : decode m_X5_hangs.2.1 5 = .ok (.istore_n 3, 1) := by decide +kernel
theorem dX5_hangs_6 : decode m_X5_hangs.2.1 6 = .ok (.iload_n 3, 1) := by decide +kernel
theorem dX5_hangs_7 : decode m_X5_hangs.2.1 7 = .ok (.aload_n 0, 1) := by decide +kernel
theorem dX5_hangs_8 : decode m_X5_hangs.2.1 8 = .ok (.getfield 15, 3) := by decide +kernel
theorem dX5_hangs_11 : decode m_X5_hangs.2.1 11 = .ok (.if_icmp .ge 60, 3) := by decide +kernel
theorem dX5_hangs_14 : decode m_X5_hangs.2.1 14 = .ok (.aload_n 0, 1) := by decide +kernel
theorem dX5_hangs_15 : decode m_X5_hangs.2.1 15 = .ok (.iload_n 3, 1) := by decide +kernel
theorem dX5_hangs_16 : decode m_X5_hangs.2.1 16 = .ok (.invokevirtual 32, 3) := by decide +kernel
theorem dX5_hangs_19 : decode m_X5_hangs.2.1 19 = .ok (.istore 4, 2) := by decide +kernel
theorem dX5_hangs_21 : decode m_X5_hangs.2.1 21 = .ok (.aload_n 0, 1) := by decide +kernel
theorem dX5_hangs_22 : decode m_X5_hangs.2.1 22 = .ok (.getfield 22, 3) := by decide +kernel
theorem dX5_hangs_25 : decode m_X5_hangs.2.1 25 = .ok (.iload_n 3, 1) := by decide +kernel
theorem dX5_hangs_26 : decode m_X5_hangs.2.1 26 = .ok (.baload, 1) := by decide +kernel
theorem dX5_hangs_27 : decode m_X5_hangs.2.1 27 = .ok (.ifCond .ne 38, 3) := by decide +kernel
theorem dX5_hangs_30 : decode m_X5_hangs.2.1 30 = .ok (.iload 4, 2) := by decide +kernel
theorem dX5_hangs_32 : decode m_X5_hangs.2.1 32 = .ok (.ifCond .lt 33, 3) := by decide +kernel
theorem dX5_hangs_35 : decode m_X5_hangs.2.1 35 = .ok (.aload_n 0, 1) := by decide +kernel
theorem dX5_hangs_36 : decode m_X5_hangs.2.1 36 = .ok (.getfield 18, 3) := by decide +kernel
theorem dX5_hangs_39 : decode m_X5_hangs.2.1 39 = .ok (.iload_n 3, 1) := by decide +kernel
theorem dX5_hangs_40 : decode m_X5_hangs.2.1 40 = .ok (.iaload, 1) := by decide +kernel
theorem dX5_hangs_41 : decode m_X5_hangs.2.1 41 = .ok (.aload_n 0, 1) := by decide +kernel
theorem dX5_hangs_42 : decode m_X5_hangs.2.1 42 = .ok (.getfield 18, 3) := by decide +kernel
theorem dX5_hangs_45 : decode m_X5_hangs.2.1 45 = .ok (.iload 4, 2) := by decide +kernel
theorem dX5_hangs_47 : decode m_X5_hangs.2.1 47 = .ok (.iaload, 1) := by decide +kernel
theorem dX5_hangs_48 : decode m_X5_hangs.2.1 48 = .ok (.if_icmp .lt 9, 3) := by decide +kernel
theorem dX5_hangs_51 : decode m_X5_hangs.2.1 51 = .ok (.iload_n 2, 1) := by decide +kernel
theorem dX5_hangs_52 : decode m_X5_hangs.2.1 52 = .ok (.iconst 1, 1) := by decide +kernel
theorem dX5_hangs_53 : decode m_X5_hangs.2.1 53 = .ok (.iadd, 1) := by decide +kernel
theorem dX5_hangs_54 : decode m_X5_hangs.2.1 54 = .ok (.goto 4, 3) := by decide +kernel
theorem dX5_hangs_57 : decode m_X5_hangs.2.1 57 = .ok (.iconst 0, 1) := by decide +kernel
theorem dX5_hangs_58 : decode m_X5_hangs.2.1 58 = .ok (.istore_n 2, 1) := by decide +kernel
theorem dX5_hangs_59 : decode m_X5_hangs.2.1 59 = .ok (.iload_n 1, 1) := by decide +kernel
theorem dX5_hangs_60 : decode m_X5_hangs.2.1 60 = .ok (.iload_n 2, 1) := by decide +kernel
theorem dX5_hangs_61 : decode m_X5_hangs.2.1 61 = .ok (.invokestatic 36, 3) := by decide +kernel
theorem dX5_hangs_64 : decode m_X5_hangs.2.1 64 = .ok (.istore_n 1, 1) := by decide +kernel
theorem dX5_hangs_65 : decode m_X5_hangs.2.1 65 = .ok (.iinc 3 1, 3) := by decide +kernel
theorem dX5_hangs_68 : decode m_X5_hangs.2.1 68 = .ok (.goto (-62), 3) := by decide +kernel
theorem dX5_hangs_71 : decode m_X5_hangs.2.1 71 = .ok (.iload_n 1, 1) := by decide +kernel
theorem dX5_hangs_72 : decode m_X5_hangs.2.1 72 = .ok (.ireturn, 1) := by decide +kernel
theorem dX5_slips_0 : decode m_X5_slips.2.1 0 = .ok (.iconst 0, 1) := by decide +kernel
theorem dX5_slips_1 : decode m_X5_slips.2.1 1 = .ok (.istore_n 2, 1) := by decide +kernel
theorem dX5_slips_2 : decode m_X5_slips.2.1 2 = .ok (.iconst 0, 1) := by decide +kernel
theorem dX5_slips_3 : decode m_X5_slips.2.1 3 = .ok (.istore_n 3, 1) := by decide +kernel
theorem dX5_slips_4 : decode m_X5_slips.2.1 4 = .ok (.iload_n 3, 1) := by decide +kernel
theorem dX5_slips_5 : decode m_X5_slips.2.1 5 = .ok (.aload_n 0, 1) := by decide +kernel
theorem dX5_slips_6 : decode m_X5_slips.2.1 6 = .ok (.getfield 15, 3) := by decide +kernel
theorem dX5_slips_9 : decode m_X5_slips.2.1 9 = .ok (.if_icmp .ge 51, 3) := by decide +kernel
theorem dX5_slips_12 : decode m_X5_slips.2.1 12 = .ok (.aload_n 0, 1) := by decide +kernel
theorem dX5_slips_13 : decode m_X5_slips.2.1 13 = .ok (.iload_n 3, 1) := by decide +kernel
theorem dX5_slips_14 : decode m_X5_slips.2.1 14 = .ok (.invokevirtual 32, 3) := by decide +kernel
theorem dX5_slips_17 : decode m_X5_slips.2.1 17 = .ok (.istore 4, 2) := by decide +kernel
theorem dX5_slips_19 : decode m_X5_slips.2.1 19 = .ok (.aload_n 0, 1) := by decide +kernel
theorem dX5_slips_20 : decode m_X5_slips.2.1 20 = .ok (.getfield 22, 3) := by decide +kernel
theorem dX5_slips_23 : decode m_X5_slips.2.1 23 = .ok (.iload_n 3, 1) := by decide +kernel
theorem dX5_slips_24 : decode m_X5_slips.2.1 24 = .ok (.baload, 1) := by decide +kernel
theorem dX5_slips_25 : decode m_X5_slips.2.1 25 = .ok (.ifCond .ne 29, 3) := by decide +kernel
theorem dX5_slips_28 : decode m_X5_slips.2.1 28 = .ok (.iload 4, 2) := by decide +kernel
theorem dX5_slips_30 : decode m_X5_slips.2.1 30 = .ok (.ifCond .lt 24, 3) := by decide +kernel
theorem dX5_slips_33 : decode m_X5_slips.2.1 33 = .ok (.aload_n 0, 1) := by decide +kernel
theorem dX5_slips_34 : decode m_X5_slips.2.1 34 = .ok (.getfield 18, 3) := by decide +kernel
theorem dX5_slips_37 : decode m_X5_slips.2.1 37 = .ok (.iload 4, 2) := by decide +kernel
theorem dX5_slips_39 : decode m_X5_slips.2.1 39 = .ok (.iaload, 1) := by decide +kernel
theorem dX5_slips_40 : decode m_X5_slips.2.1 40 = .ok (.aload_n 0, 1) := by decide +kernel
theorem dX5_slips_41 : decode m_X5_slips.2.1 41 = .ok (.getfield 18, 3) := by decide +kernel
theorem dX5_slips_44 : decode m_X5_slips.2.1 44 = .ok (.iload_n 3, 1) := by decide +kernel
theorem dX5_slips_45 : decode m_X5_slips.2.1 45 = .ok (.iaload, 1) := by decide +kernel
theorem dX5_slips_46 : decode m_X5_slips.2.1 46 = .ok (.isub, 1) := by decide +kernel
theorem dX5_slips_47 : decode m_X5_slips.2.1 47 = .ok (.iload_n 1, 1) := by decide +kernel
theorem dX5_slips_48 : decode m_X5_slips.2.1 48 = .ok (.if_icmp .le 6, 3) := by decide +kernel
theorem dX5_slips_51 : decode m_X5_slips.2.1 51 = .ok (.iinc 2 1, 3) := by decide +kernel
theorem dX5_slips_54 : decode m_X5_slips.2.1 54 = .ok (.iinc 3 1, 3) := by decide +kernel
theorem dX5_slips_57 : decode m_X5_slips.2.1 57 = .ok (.goto (-53), 3) := by decide +kernel
theorem dX5_slips_60 : decode m_X5_slips.2.1 60 = .ok (.iload_n 2, 1) := by decide +kernel
theorem dX5_slips_61 : decode m_X5_slips.2.1 61 = .ok (.ireturn, 1) := by decide +kernel
theorem dX6_init_0 : decode m_X6_init.2.1 0 = .ok (.aload_n 0, 1) := by decide +kernel
theorem dX6_init_1 : decode m_X6_init.2.1 1 = .ok (.invokespecial 3, 3) := by decide +kernel
theorem dX6_init_4 : decode m_X6_init.2.1 4 = .ok (.aload_n 0, 1) := by decide +kernel
theorem dX6_init_5 : decode m_X6_init.2.1 5 = .ok (.iconst 0, 1) := by decide +kernel
theorem dX6_init_6 : decode m_X6_init.2.1 6 = .ok (.putfield 9, 3) := by decide +kernel
theorem dX6_init_9 : decode m_X6_init.2.1 9 = .ok (.aload_n 0, 1) := by decide +kernel
theorem dX6_init_10 : decode m_X6_init.2.1 10 = .ok (.new 15, 3) := by decide +kernel
theorem dX6_init_13 : decode m_X6_init.2.1 13 = .ok (.dup, 1) := by decide +kernel
theorem dX6_init_14 : decode m_X6_init.2.1 14 = .ok (.invokespecial 17, 3) := by decide +kernel
theorem dX6_init_17 : decode m_X6_init.2.1 17 = .ok (.putfield 18, 3) := by decide +kernel
theorem dX6_init_20 : decode m_X6_init.2.1 20 = .ok (.return_, 1) := by decide +kernel
theorem dX7_isOf_0 : decode m_X7_isOf.2.1 0 = .ok (.iload_n 0, 1) := by decide +kernel
theorem dX7_isOf_1 : decode m_X7_isOf.2.1 1 = .ok (.istore_n 2, 1) := by decide +kernel
theorem dX7_isOf_2 : decode m_X7_isOf.2.1 2 = .ok (.iconst 0, 1) := by decide +kernel
theorem dX7_isOf_3 : decode m_X7_isOf.2.1 3 = .ok (.istore_n 3, 1) := by decide +kernel
theorem dX7_isOf_4 : decode m_X7_isOf.2.1 4 = .ok (.iload_n 3, 1) := by decide +kernel
theorem dX7_isOf_5 : decode m_X7_isOf.2.1 5 = .ok (.bipush 6, 2) := by decide +kernel
theorem dX7_isOf_7 : decode m_X7_isOf.2.1 7 = .ok (.if_icmp .ge 32, 3) := by decide +kernel
theorem dX7_isOf_10 : decode m_X7_isOf.2.1 10 = .ok (.iload_n 2, 1) := by decide +kernel
theorem dX7_isOf_11 : decode m_X7_isOf.2.1 11 = .ok (.ifCond .lt 28, 3) := by decide +kernel
theorem dX7_isOf_14 : decode m_X7_isOf.2.1 14 = .ok (.iload_n 2, 1) := by decide +kernel
theorem dX7_isOf_15 : decode m_X7_isOf.2.1 15 = .ok (.bipush 6, 2) := by decide +kernel
theorem dX7_isOf_17 : decode m_X7_isOf.2.1 17 = .ok (.if_icmp .ge 22, 3) := by decide +kernel
theorem dX7_isOf_20 : decode m_X7_isOf.2.1 20 = .ok (.iload_n 2, 1) := by decide +kernel
theorem dX7_isOf_21 : decode m_X7_isOf.2.1 21 = .ok (.iload_n 1, 1) := by decide +kernel
theorem dX7_isOf_22 : decode m_X7_isOf.2.1 22 = .ok (.if_icmp .ne 5, 3) := by decide +kernel
theorem dX7_isOf_25 : decode m_X7_isOf.2.1 25 = .ok (.iconst 1, 1) := by decide +kernel
theorem dX7_isOf_26 : decode m_X7_isOf.2.1 26 = .ok (.ireturn, 1) := by decide +kernel
theorem dX7_isOf_27 : decode m_X7_isOf.2.1 27 = .ok (.getstatic 9, 3) := by decide +kernel
theorem dX7_isOf_30 : decode m_X7_isOf.2.1 30 = .ok (.iload_n 2, 1) := by decide +kernel
theorem dX7_isOf_31 : decode m_X7_isOf.2.1 31 = .ok (.iaload, 1) := by decide +kernel
theorem dX7_isOf_32 : decode m_X7_isOf.2.1 32 = .ok (.istore_n 2, 1) := by decide +kernel
theorem dX7_isOf_33 : decode m_X7_isOf.2.1 33 = .ok (.iinc 3 1, 3) := by decide +kernel
theorem dX7_isOf_36 : decode m_X7_isOf.2.1 36 = .ok (.goto (-32), 3) := by decide +kernel
theorem dX7_isOf_39 : decode m_X7_isOf.2.1 39 = .ok (.iconst 0, 1) := by decide +kernel
theorem dX7_isOf_40 : decode m_X7_isOf.2.1 40 = .ok (.ireturn, 1) := by decide +kernel
theorem dX7_amountOf_0 : decode m_X7_amountOf.2.1 0 = .ok (.iload_n 3, 1) := by decide +kernel
theorem dX7_amountOf_1 : decode m_X7_amountOf.2.1 1 = .ok (.tableswitch 47 0 2 #[27, 33, 40], 27) := by decide +kernel
theorem dX7_amountOf_28 : decode m_X7_amountOf.2.1 28 = .ok (.iload_n 0, 1) := by decide +kernel
theorem dX7_amountOf_29 : decode m_X7_amountOf.2.1 29 = .ok (.iload_n 2, 1) := by decide +kernel
theorem dX7_amountOf_30 : decode m_X7_amountOf.2.1 30 = .ok (.invokestatic 15, 3) := by decide +kernel
theorem dX7_amountOf_33 : decode m_X7_amountOf.2.1 33 = .ok (.ireturn, 1) := by decide +kernel
theorem dX7_amountOf_34 : decode m_X7_amountOf.2.1 34 = .ok (.iload_n 0, 1) := by decide +kernel
theorem dX7_amountOf_35 : decode m_X7_amountOf.2.1 35 = .ok (.iload_n 1, 1) := by decide +kernel
theorem dX7_amountOf_36 : decode m_X7_amountOf.2.1 36 = .ok (.iload_n 2, 1) := by decide +kernel
theorem dX7_amountOf_37 : decode m_X7_amountOf.2.1 37 = .ok (.invokestatic 19, 3) := by decide +kernel
theorem dX7_amountOf_40 : decode m_X7_amountOf.2.1 40 = .ok (.ireturn, 1) := by decide +kernel
theorem dX7_amountOf_41 : decode m_X7_amountOf.2.1 41 = .ok (.iload_n 0, 1) := by decide +kernel
theorem dX7_amountOf_42 : decode m_X7_amountOf.2.1 42 = .ok (.iload_n 1, 1) := by decide +kernel
theorem dX7_amountOf_43 : decode m_X7_amountOf.2.1 43 = .ok (.iload_n 2, 1) := by decide +kernel
theorem dX7_amountOf_44 : decode m_X7_amountOf.2.1 44 = .ok (.invokestatic 23, 3) := by decide +kernel
theorem dX7_amountOf_47 : decode m_X7_amountOf.2.1 47 = .ok (.ireturn, 1) := by decide +kernel
theorem dX7_amountOf_48 : decode m_X7_amountOf.2.1 48 = .ok (.iload_n 0, 1) := by decide +kernel
theorem dX7_amountOf_49 : decode m_X7_amountOf.2.1 49 = .ok (.iload_n 1, 1) := by decide +kernel
theorem dX7_amountOf_50 : decode m_X7_amountOf.2.1 50 = .ok (.iload_n 2, 1) := by decide +kernel
theorem dX7_amountOf_51 : decode m_X7_amountOf.2.1 51 = .ok (.invokestatic 26, 3) := by decide +kernel
theorem dX7_amountOf_54 : decode m_X7_amountOf.2.1 54 = .ok (.ireturn, 1) := by decide +kernel
theorem dX7_bulkOf_0 : decode m_X7_bulkOf.2.1 0 = .ok (.iload_n 0, 1) := by decide +kernel
theorem dX7_bulkOf_1 : decode m_X7_bulkOf.2.1 1 = .ok (.tableswitch 37 1 3 #[27, 33, 27], 27) := by decide +kernel
theorem dX7_bulkOf_28 : decode m_X7_bulkOf.2.1 28 = .ok (.iload_n 1, 1) := by decide +kernel
theorem dX7_bulkOf_29 : decode m_X7_bulkOf.2.1 29 = .ok (.iload_n 1, 1) := by decide +kernel
theorem dX7_bulkOf_30 : decode m_X7_bulkOf.2.1 30 = .ok (.iconst 4, 1) := by decide +kernel
theorem dX7_bulkOf_31 : decode m_X7_bulkOf.2.1 31 = .ok (.idiv, 1) := by decide +kernel
theorem dX7_bulkOf_32 : decode m_X7_bulkOf.2.1 32 = .ok (.isub, 1) := by decide +kernel
theorem dX7_bulkOf_33 : decode m_X7_bulkOf.2.1 33 = .ok (.ireturn, 1) := by decide +kernel
theorem dX7_bulkOf_34 : decode m_X7_bulkOf.2.1 34 = .ok (.iconst 2, 1) := by decide +kernel
theorem dX7_bulkOf_35 : decode m_X7_bulkOf.2.1 35 = .ok (.iload_n 1, 1) := by decide +kernel
theorem dX7_bulkOf_36 : decode m_X7_bulkOf.2.1 36 = .ok (.imul, 1) := by decide +kernel
theorem dX7_bulkOf_37 : decode m_X7_bulkOf.2.1 37 = .ok (.ireturn, 1) := by decide +kernel
theorem dX7_bulkOf_38 : decode m_X7_bulkOf.2.1 38 = .ok (.iload_n 1, 1) := by decide +kernel
theorem dX7_bulkOf_39 : decode m_X7_bulkOf.2.1 39 = .ok (.ireturn, 1) := by decide +kernel
theorem dX7_ironOf_0 : decode m_X7_ironOf.2.1 0 = .ok (.iload_n 0, 1) := by decide +kernel
theorem dX7_ironOf_1 : decode m_X7_ironOf.2.1 1 = .ok (.lookupswitch 63 #[(1, 27), (3, 34)], 27) := by decide +kernel
theorem dX7_ironOf_28 : decode m_X7_ironOf.2.1 28 = .ok (.iload_n 2, 1) := by decide +kernel
theorem dX7_ironOf_29 : decode m_X7_ironOf.2.1 29 = .ok (.iload_n 1, 1) := by decide +kernel
theorem dX7_ironOf_30 : decode m_X7_ironOf.2.1 30 = .ok (.imul, 1) := by decide +kernel
theorem dX7_ironOf_31 : decode m_X7_ironOf.2.1 31 = .ok (.bipush 100, 2) := by decide +kernel
theorem dX7_ironOf_33 : decode m_X7_ironOf.2.1 33 = .ok (.idiv, 1) := by decide +kernel
theorem dX7_ironOf_34 : decode m_X7_ironOf.2.1 34 = .ok (.ireturn, 1) := by decide +kernel
theorem dX7_ironOf_35 : decode m_X7_ironOf.2.1 35 = .ok (.iload_n 2, 1) := by decide +kernel
theorem dX7_ironOf_36 : decode m_X7_ironOf.2.1 36 = .ok (.iload_n 1, 1) := by decide +kernel
theorem dX7_ironOf_37 : decode m_X7_ironOf.2.1 37 = .ok (.imul, 1) := by decide +kernel
theorem dX7_ironOf_38 : decode m_X7_ironOf.2.1 38 = .ok (.bipush 100, 2) := by decide +kernel
theorem dX7_ironOf_40 : decode m_X7_ironOf.2.1 40 = .ok (.idiv, 1) := by decide +kernel
theorem dX7_ironOf_41 : decode m_X7_ironOf.2.1 41 = .ok (.iload_n 2, 1) := by decide +kernel
theorem dX7_ironOf_42 : decode m_X7_ironOf.2.1 42 = .ok (.bipush 20, 2) := by decide +kernel
theorem dX7_ironOf_44 : decode m_X7_ironOf.2.1 44 = .ok (.idiv, 1) := by decide +kernel
theorem dX7_ironOf_45 : decode m_X7_ironOf.2.1 45 = .ok (.if_icmp .ge 7, 3) := by decide +kernel
theorem dX7_ironOf_48 : decode m_X7_ironOf.2.1 48 = .ok (.iconst 0, 1) := by decide +kernel
theorem dX7_ironOf_49 : decode m_X7_ironOf.2.1 49 = .ok (.goto 14, 3) := by decide +kernel
theorem dX7_ironOf_52 : decode m_X7_ironOf.2.1 52 = .ok (.iload_n 2, 1) := by decide +kernel
theorem dX7_ironOf_53 : decode m_X7_ironOf.2.1 53 = .ok (.iload_n 1, 1) := by decide +kernel
theorem dX7_ironOf_54 : decode m_X7_ironOf.2.1 54 = .ok (.imul, 1) := by decide +kernel
theorem dX7_ironOf_55 : decode m_X7_ironOf.2.1 55 = .ok (.bipush 100, 2) := by decide +kernel
theorem dX7_ironOf_57 : decode m_X7_ironOf.2.1 57 = .ok (.idiv, 1) := by decide +kernel
theorem dX7_ironOf_58 : decode m_X7_ironOf.2.1 58 = .ok (.iload_n 2, 1) := by decide +kernel
theorem dX7_ironOf_59 : decode m_X7_ironOf.2.1 59 = .ok (.bipush 20, 2) := by decide +kernel
theorem dX7_ironOf_61 : decode m_X7_ironOf.2.1 61 = .ok (.idiv, 1) := by decide +kernel
theorem dX7_ironOf_62 : decode m_X7_ironOf.2.1 62 = .ok (.isub, 1) := by decide +kernel
theorem dX7_ironOf_63 : decode m_X7_ironOf.2.1 63 = .ok (.ireturn, 1) := by decide +kernel
theorem dX7_ironOf_64 : decode m_X7_ironOf.2.1 64 = .ok (.iconst 0, 1) := by decide +kernel
theorem dX7_ironOf_65 : decode m_X7_ironOf.2.1 65 = .ok (.ireturn, 1) := by decide +kernel
theorem dX7_acidOf_0 : decode m_X7_acidOf.2.1 0 = .ok (.iload_n 0, 1) := by decide +kernel
theorem dX7_acidOf_1 : decode m_X7_acidOf.2.1 1 = .ok (.tableswitch 53 1 5 #[35, 53, 35, 53, 51], 35) := by decide +kernel
theorem dX7_acidOf_36 : decode m_X7_acidOf.2.1 36 = .ok (.iload_n 2, 1) := by decide +kernel
theorem dX7_acidOf_37 : decode m_X7_acidOf.2.1 37 = .ok (.bipush 10, 2) := by decide +kernel
theorem dX7_acidOf_39 : decode m_X7_acidOf.2.1 39 = .ok (.idiv, 1) := by decide +kernel
theorem dX7_acidOf_40 : decode m_X7_acidOf.2.1 40 = .ok (.iload_n 2, 1) := by decide +kernel
theorem dX7_acidOf_41 : decode m_X7_acidOf.2.1 41 = .ok (.iload_n 0, 1) := by decide +kernel
theorem dX7_acidOf_42 : decode m_X7_acidOf.2.1 42 = .ok (.iload_n 1, 1) := by decide +kernel
theorem dX7_acidOf_43 : decode m_X7_acidOf.2.1 43 = .ok (.iload_n 2, 1) := by decide +kernel
theorem dX7_acidOf_44 : decode m_X7_acidOf.2.1 44 = .ok (.invokestatic 19, 3) := by decide +kernel
theorem dX7_acidOf_47 : decode m_X7_acidOf.2.1 47 = .ok (.isub, 1) := by decide +kernel
theorem dX7_acidOf_48 : decode m_X7_acidOf.2.1 48 = .ok (.iconst 4, 1) := by decide +kernel
theorem dX7_acidOf_49 : decode m_X7_acidOf.2.1 49 = .ok (.idiv, 1) := by decide +kernel
theorem dX7_acidOf_50 : decode m_X7_acidOf.2.1 50 = .ok (.iadd, 1) := by decide +kernel
theorem dX7_acidOf_51 : decode m_X7_acidOf.2.1 51 = .ok (.ireturn, 1) := by decide +kernel
theorem dX7_acidOf_52 : decode m_X7_acidOf.2.1 52 = .ok (.iconst 0, 1) := by decide +kernel
theorem dX7_acidOf_53 : decode m_X7_acidOf.2.1 53 = .ok (.ireturn, 1) := by decide +kernel
theorem dX7_acidOf_54 : decode m_X7_acidOf.2.1 54 = .ok (.iload_n 2, 1) := by decide +kernel
theorem dX7_acidOf_55 : decode m_X7_acidOf.2.1 55 = .ok (.bipush 10, 2) := by decide +kernel
theorem dX7_acidOf_57 : decode m_X7_acidOf.2.1 57 = .ok (.idiv, 1) := by decide +kernel
theorem dX7_acidOf_58 : decode m_X7_acidOf.2.1 58 = .ok (.ireturn, 1) := by decide +kernel
theorem dX7_limeOf_0 : decode m_X7_limeOf.2.1 0 = .ok (.iload_n 0, 1) := by decide +kernel
theorem dX7_limeOf_1 : decode m_X7_limeOf.2.1 1 = .ok (.lookupswitch 39 #[(3, 27), (5, 32)], 27) := by decide +kernel
theorem dX7_limeOf_28 : decode m_X7_limeOf.2.1 28 = .ok (.iload_n 2, 1) := by decide +kernel
theorem dX7_limeOf_29 : decode m_X7_limeOf.2.1 29 = .ok (.bipush 8, 2) := by decide +kernel
theorem dX7_limeOf_31 : decode m_X7_limeOf.2.1 31 = .ok (.idiv, 1) := by decide +kernel
theorem dX7_limeOf_32 : decode m_X7_limeOf.2.1 32 = .ok (.ireturn, 1) := by decide +kernel
theorem dX7_limeOf_33 : decode m_X7_limeOf.2.1 33 = .ok (.iload_n 2, 1) := by decide +kernel
theorem dX7_limeOf_34 : decode m_X7_limeOf.2.1 34 = .ok (.iload_n 1, 1) := by decide +kernel
theorem dX7_limeOf_35 : decode m_X7_limeOf.2.1 35 = .ok (.imul, 1) := by decide +kernel
theorem dX7_limeOf_36 : decode m_X7_limeOf.2.1 36 = .ok (.bipush 100, 2) := by decide +kernel
theorem dX7_limeOf_38 : decode m_X7_limeOf.2.1 38 = .ok (.idiv, 1) := by decide +kernel
theorem dX7_limeOf_39 : decode m_X7_limeOf.2.1 39 = .ok (.ireturn, 1) := by decide +kernel
theorem dX7_limeOf_40 : decode m_X7_limeOf.2.1 40 = .ok (.iconst 0, 1) := by decide +kernel
theorem dX7_limeOf_41 : decode m_X7_limeOf.2.1 41 = .ok (.ireturn, 1) := by decide +kernel
theorem dX7_holdsOf_0 : decode m_X7_holdsOf.2.1 0 = .ok (.iload_n 0, 1) := by decide +kernel
theorem dX7_holdsOf_1 : decode m_X7_holdsOf.2.1 1 = .ok (.tableswitch 37 1 4 #[31, 33, 33, 35], 31) := by decide +kernel
theorem dX7_holdsOf_32 : decode m_X7_holdsOf.2.1 32 = .ok (.iconst 3, 1) := by decide +kernel
theorem dX7_holdsOf_33 : decode m_X7_holdsOf.2.1 33 = .ok (.ireturn, 1) := by decide +kernel
theorem dX7_holdsOf_34 : decode m_X7_holdsOf.2.1 34 = .ok (.iconst 1, 1) := by decide +kernel
theorem dX7_holdsOf_35 : decode m_X7_holdsOf.2.1 35 = .ok (.ireturn, 1) := by decide +kernel
theorem dX7_holdsOf_36 : decode m_X7_holdsOf.2.1 36 = .ok (.iconst 5, 1) := by decide +kernel
theorem dX7_holdsOf_37 : decode m_X7_holdsOf.2.1 37 = .ok (.ireturn, 1) := by decide +kernel
theorem dX7_holdsOf_38 : decode m_X7_holdsOf.2.1 38 = .ok (.iconst 2, 1) := by decide +kernel
theorem dX7_holdsOf_39 : decode m_X7_holdsOf.2.1 39 = .ok (.ireturn, 1) := by decide +kernel
theorem dX8_init_0 : decode m_X8_init.2.1 0 = .ok (.aload_n 0, 1) := by decide +kernel
theorem dX8_init_1 : decode m_X8_init.2.1 1 = .ok (.invokespecial 3, 3) := by decide +kernel
theorem dX8_init_4 : decode m_X8_init.2.1 4 = .ok (.aload_n 0, 1) := by decide +kernel
theorem dX8_init_5 : decode m_X8_init.2.1 5 = .ok (.bipush 96, 2) := by decide +kernel
theorem dX8_init_7 : decode m_X8_init.2.1 7 = .ok (.newarray .int, 2) := by decide +kernel
theorem dX8_init_9 : decode m_X8_init.2.1 9 = .ok (.putfield 9, 3) := by decide +kernel
theorem dX8_init_12 : decode m_X8_init.2.1 12 = .ok (.aload_n 0, 1) := by decide +kernel
theorem dX8_init_13 : decode m_X8_init.2.1 13 = .ok (.iconst 0, 1) := by decide +kernel
theorem dX8_init_14 : decode m_X8_init.2.1 14 = .ok (.putfield 15, 3) := by decide +kernel
theorem dX8_init_17 : decode m_X8_init.2.1 17 = .ok (.aload_n 0, 1) := by decide +kernel
theorem dX8_init_18 : decode m_X8_init.2.1 18 = .ok (.bipush 96, 2) := by decide +kernel
theorem dX8_init_20 : decode m_X8_init.2.1 20 = .ok (.newarray .int, 2) := by decide +kernel
theorem dX8_init_22 : decode m_X8_init.2.1 22 = .ok (.putfield 19, 3) := by decide +kernel
theorem dX8_init_25 : decode m_X8_init.2.1 25 = .ok (.aload_n 0, 1) := by decide +kernel
theorem dX8_init_26 : decode m_X8_init.2.1 26 = .ok (.bipush 96, 2) := by decide +kernel
theorem dX8_init_28 : decode m_X8_init.2.1 28 = .ok (.newarray .int, 2) := by decide +kernel
theorem dX8_init_30 : decode m_X8_init.2.1 30 = .ok (.putfield 22, 3) := by decide +kernel
theorem dX8_init_33 : decode m_X8_init.2.1 33 = .ok (.return_, 1) := by decide +kernel
theorem dX8_addNumber_0 : decode m_X8_addNumber.2.1 0 = .ok (.bipush 24, 2) := by decide +kernel
theorem dX8_addNumber_2 : decode m_X8_addNumber.2.1 2 = .ok (.istore_n 2, 1) := by decide +kernel
theorem dX8_addNumber_3 : decode m_X8_addNumber.2.1 3 = .ok (.iload_n 2, 1) := by decide +kernel
theorem dX8_addNumber_4 : decode m_X8_addNumber.2.1 4 = .ok (.ifCond .lt 44, 3) := by decide +kernel
theorem dX8_addNumber_7 : decode m_X8_addNumber.2.1 7 = .ok (.aload_n 0, 1) := by decide +kernel
theorem dX8_addNumber_8 : decode m_X8_addNumber.2.1 8 = .ok (.getfield 15, 3) := by decide +kernel
theorem dX8_addNumber_11 : decode m_X8_addNumber.2.1 11 = .ok (.bipush 96, 2) := by decide +kernel
theorem dX8_addNumber_13 : decode m_X8_addNumber.2.1 13 = .ok (.if_icmp .ge 35, 3) := by decide +kernel
theorem dX8_addNumber_16 : decode m_X8_addNumber.2.1 16 = .ok (.aload_n 0, 1) := by decide +kernel
theorem dX8_addNumber_17 : decode m_X8_addNumber.2.1 17 = .ok (.getfield 9, 3) := by decide +kernel
theorem dX8_addNumber_20 : decode m_X8_addNumber.2.1 20 = .ok (.aload_n 0, 1) := by decide +kernel
theorem dX8_addNumber_21 : decode m_X8_addNumber.2.1 21 = .ok (.getfield 15, 3) := by decide +kernel
theorem dX8_addNumber_24 : decode m_X8_addNumber.2.1 24 = .ok (.iload_n 1, 1) := by decide +kernel
theorem dX8_addNumber_25 : decode m_X8_addNumber.2.1 25 = .ok (.iload_n 2, 1) := by decide +kernel
theorem dX8_addNumber_26 : decode m_X8_addNumber.2.1 26 = .ok (.iushr, 1) := by decide +kernel
theorem dX8_addNumber_27 : decode m_X8_addNumber.2.1 27 = .ok (.sipush 255, 3) := by decide +kernel
theorem dX8_addNumber_30 : decode m_X8_addNumber.2.1 30 = .ok (.iand, 1) := by decide +kernel
theorem dX8_addNumber_31 : decode m_X8_addNumber.2.1 31 = .ok (.iastore, 1) := by decide +kernel
theorem dX8_addNumber_32 : decode m_X8_addNumber.2.1 32 = .ok (.aload_n 0, 1) := by decide +kernel
theorem dX8_addNumber_33 : decode m_X8_addNumber.2.1 33 = .ok (.dup, 1) := by decide +kernel
theorem dX8_addNumber_34 : decode m_X8_addNumber.2.1 34 = .ok (.getfield 15, 3) := by decide +kernel
theorem dX8_addNumber_37 : decode m_X8_addNumber.2.1 37 = .ok (.iconst 1, 1) := by decide +kernel
theorem dX8_addNumber_38 : decode m_X8_addNumber.2.1 38 = .ok (.iadd, 1) := by decide +kernel
theorem dX8_addNumber_39 : decode m_X8_addNumber.2.1 39 = .ok (.putfield 15, 3) := by decide +kernel
theorem dX8_addNumber_42 : decode m_X8_addNumber.2.1 42 = .ok (.iinc 2 (-8), 3) := by decide +kernel
theorem dX8_addNumber_45 : decode m_X8_addNumber.2.1 45 = .ok (.goto (-42), 3) := by decide +kernel
theorem dX8_addNumber_48 : decode m_X8_addNumber.2.1 48 = .ok (.return_, 1) := by decide +kernel
theorem dX8_readText_0 : decode m_X8_readText.2.1 0 = .ok (.aload_n 0, 1) := by decide +kernel
theorem dX8_readText_1 : decode m_X8_readText.2.1 1 = .ok (.invokevirtual 25, 3) := by decide +kernel
theorem dX8_readText_4 : decode m_X8_readText.2.1 4 = .ok (.aload_n 0, 1) := by decide +kernel
theorem dX8_readText_5 : decode m_X8_readText.2.1 5 = .ok (.invokevirtual 28, 3) := by decide +kernel
theorem dX8_readText_8 : decode m_X8_readText.2.1 8 = .ok (.ifCond .ne 8, 3) := by decide +kernel
theorem dX8_readText_11 : decode m_X8_readText.2.1 11 = .ok (.aload_n 0, 1) := by decide +kernel
theorem dX8_readText_12 : decode m_X8_readText.2.1 12 = .ok (.getfield 32, 3) := by decide +kernel
theorem dX8_readText_15 : decode m_X8_readText.2.1 15 = .ok (.ireturn, 1) := by decide +kernel
theorem dX8_readText_16 : decode m_X8_readText.2.1 16 = .ok (.aload_n 0, 1) := by decide +kernel
theorem dX8_readText_17 : decode m_X8_readText.2.1 17 = .ok (.invokevirtual 35, 3) := by decide +kernel
theorem dX8_readText_20 : decode m_X8_readText.2.1 20 = .ok (.iconst 0, 1) := by decide +kernel
theorem dX8_readText_21 : decode m_X8_readText.2.1 21 = .ok (.istore_n 1, 1) := by decide +kernel
theorem dX8_readText_22 : decode m_X8_readText.2.1 22 = .ok (.iload_n 1, 1) := by decide +kernel
theorem dX8_readText_23 : decode m_X8_readText.2.1 23 = .ok (.bipush 96, 2) := by decide +kernel
theorem dX8_readText_25 : decode m_X8_readText.2.1 25 = .ok (.if_icmp .ge 49, 3) := by decide +kernel
theorem dX8_readText_28 : decode m_X8_readText.2.1 28 = .ok (.aload_n 0, 1) := by decide +kernel
theorem dX8_readText_29 : decode m_X8_readText.2.1 29 = .ok (.getfield 38, 3) := by decide +kernel
theorem dX8_readText_32 : decode m_X8_readText.2.1 32 = .ok (.ifCond .eq 42, 3) := by decide +kernel
theorem dX8_readText_35 : decode m_X8_readText.2.1 35 = .ok (.aload_n 0, 1) := by decide +kernel
theorem dX8_readText_36 : decode m_X8_readText.2.1 36 = .ok (.getfield 41, 3) := by decide +kernel
theorem dX8_readText_39 : decode m_X8_readText.2.1 39 = .ok (.ifCond .eq 13, 3) := by decide +kernel
theorem dX8_readText_42 : decode m_X8_readText.2.1 42 = .ok (.aload_n 0, 1) := by decide +kernel
theorem dX8_readText_43 : decode m_X8_readText.2.1 43 = .ok (.invokevirtual 45, 3) := by decide +kernel
theorem dX8_readText_46 : decode m_X8_readText.2.1 46 = .ok (.ifCond .eq 13, 3) := by decide +kernel
theorem dX8_readText_49 : decode m_X8_readText.2.1 49 = .ok (.goto 15, 3) := by decide +kernel
theorem dX8_readText_52 : decode m_X8_readText.2.1 52 = .ok (.aload_n 0, 1) := by decide +kernel
theorem dX8_readText_53 : decode m_X8_readText.2.1 53 = .ok (.invokevirtual 48, 3) := by decide +kernel
theorem dX8_readText_56 : decode m_X8_readText.2.1 56 = .ok (.ifCond .ne 8, 3) := by decide +kernel
theorem dX8_readText_59 : decode m_X8_readText.2.1 59 = .ok (.aload_n 0, 1) := by decide +kernel
theorem dX8_readText_60 : decode m_X8_readText.2.1 60 = .ok (.getfield 32, 3) := by decide +kernel
theorem dX8_readText_63 : decode m_X8_readText.2.1 63 = .ok (.ireturn, 1) := by decide +kernel
theorem dX8_readText_64 : decode m_X8_readText.2.1 64 = .ok (.aload_n 0, 1) := by decide +kernel
theorem dX8_readText_65 : decode m_X8_readText.2.1 65 = .ok (.invokevirtual 35, 3) := by decide +kernel
theorem dX8_readText_68 : decode m_X8_readText.2.1 68 = .ok (.iinc 1 1, 3) := by decide +kernel
theorem dX8_readText_71 : decode m_X8_readText.2.1 71 = .ok (.goto (-49), 3) := by decide +kernel
theorem dX8_readText_74 : decode m_X8_readText.2.1 74 = .ok (.aload_n 0, 1) := by decide +kernel
theorem dX8_readText_75 : decode m_X8_readText.2.1 75 = .ok (.getfield 41, 3) := by decide +kernel
theorem dX8_readText_78 : decode m_X8_readText.2.1 78 = .ok (.ifCond .ne 10, 3) := by decide +kernel
theorem dX8_readText_81 : decode m_X8_readText.2.1 81 = .ok (.aload_n 0, 1) := by decide +kernel
theorem dX8_readText_82 : decode m_X8_readText.2.1 82 = .ok (.getfield 51, 3) := by decide +kernel
theorem dX8_readText_85 : decode m_X8_readText.2.1 85 = .ok (.ifCond .le 8, 3) := by decide +kernel
theorem dX8_readText_88 : decode m_X8_readText.2.1 88 = .ok (.aload_n 0, 1) := by decide +kernel
theorem dX8_readText_89 : decode m_X8_readText.2.1 89 = .ok (.getfield 32, 3) := by decide +kernel
theorem dX8_readText_92 : decode m_X8_readText.2.1 92 = .ok (.ireturn, 1) := by decide +kernel
theorem dX8_readText_93 : decode m_X8_readText.2.1 93 = .ok (.aload_n 0, 1) := by decide +kernel
theorem dX8_readText_94 : decode m_X8_readText.2.1 94 = .ok (.iconst 1, 1) := by decide +kernel
theorem dX8_readText_95 : decode m_X8_readText.2.1 95 = .ok (.iconst 1, 1) := by decide +kernel
theorem dX8_readText_96 : decode m_X8_readText.2.1 96 = .ok (.invokevirtual 54, 3) := by decide +kernel
theorem dX8_readText_99 : decode m_X8_readText.2.1 99 = .ok (.iconst (-1), 1) := by decide +kernel
theorem dX8_readText_100 : decode m_X8_readText.2.1 100 = .ok (.ireturn, 1) := by decide +kernel
theorem dX8_beginReading_0 : decode m_X8_beginReading.2.1 0 = .ok (.aload_n 0, 1) := by decide +kernel
theorem dX8_beginReading_1 : decode m_X8_beginReading.2.1 1 = .ok (.iconst 0, 1) := by decide +kernel
theorem dX8_beginReading_2 : decode m_X8_beginReading.2.1 2 = .ok (.putfield 58, 3) := by decide +kernel
theorem dX8_beginReading_5 : decode m_X8_beginReading.2.1 5 = .ok (.aload_n 0, 1) := by decide +kernel
theorem dX8_beginReading_6 : decode m_X8_beginReading.2.1 6 = .ok (.iconst 0, 1) := by decide +kernel
theorem dX8_beginReading_7 : decode m_X8_beginReading.2.1 7 = .ok (.putfield 38, 3) := by decide +kernel
theorem dX8_beginReading_10 : decode m_X8_beginReading.2.1 10 = .ok (.aload_n 0, 1) := by decide +kernel
theorem dX8_beginReading_11 : decode m_X8_beginReading.2.1 11 = .ok (.iconst 0, 1) := by decide +kernel
theorem dX8_beginReading_12 : decode m_X8_beginReading.2.1 12 = .ok (.putfield 61, 3) := by decide +kernel
theorem dX8_beginReading_15 : decode m_X8_beginReading.2.1 15 = .ok (.aload_n 0, 1) := by decide +kernel
theorem dX8_beginReading_16 : decode m_X8_beginReading.2.1 16 = .ok (.iconst 0, 1) := by decide +kernel
theorem dX8_beginReading_17 : decode m_X8_beginReading.2.1 17 = .ok (.putfield 64, 3) := by decide +kernel
theorem dX8_beginReading_20 : decode m_X8_beginReading.2.1 20 = .ok (.aload_n 0, 1) := by decide +kernel
theorem dX8_beginReading_21 : decode m_X8_beginReading.2.1 21 = .ok (.iconst 0, 1) := by decide +kernel
theorem dX8_beginReading_22 : decode m_X8_beginReading.2.1 22 = .ok (.putfield 67, 3) := by decide +kernel
theorem dX8_beginReading_25 : decode m_X8_beginReading.2.1 25 = .ok (.aload_n 0, 1) := by decide +kernel
theorem dX8_beginReading_26 : decode m_X8_beginReading.2.1 26 = .ok (.iconst 0, 1) := by decide +kernel
theorem dX8_beginReading_27 : decode m_X8_beginReading.2.1 27 = .ok (.putfield 51, 3) := by decide +kernel
theorem dX8_beginReading_30 : decode m_X8_beginReading.2.1 30 = .ok (.aload_n 0, 1) := by decide +kernel
theorem dX8_beginReading_31 : decode m_X8_beginReading.2.1 31 = .ok (.iconst 0, 1) := by decide +kernel
theorem dX8_beginReading_32 : decode m_X8_beginReading.2.1 32 = .ok (.putfield 70, 3) := by decide +kernel
theorem dX8_beginReading_35 : decode m_X8_beginReading.2.1 35 = .ok (.aload_n 0, 1) := by decide +kernel
theorem dX8_beginReading_36 : decode m_X8_beginReading.2.1 36 = .ok (.iconst 1, 1) := by decide +kernel
theorem dX8_beginReading_37 : decode m_X8_beginReading.2.1 37 = .ok (.putfield 41, 3) := by decide +kernel
theorem dX8_beginReading_40 : decode m_X8_beginReading.2.1 40 = .ok (.return_, 1) := by decide +kernel
theorem dX8_step_0 : decode m_X8_step.2.1 0 = .ok (.aload_n 0, 1) := by decide +kernel
theorem dX8_step_1 : decode m_X8_step.2.1 1 = .ok (.getfield 38, 3) := by decide +kernel
theorem dX8_step_4 : decode m_X8_step.2.1 4 = .ok (.iconst 1, 1) := by decide +kernel
theorem dX8_step_5 : decode m_X8_step.2.1 5 = .ok (.if_icmp .eq 11, 3) := by decide +kernel
theorem dX8_step_8 : decode m_X8_step.2.1 8 = .ok (.aload_n 0, 1) := by decide +kernel
theorem dX8_step_9 : decode m_X8_step.2.1 9 = .ok (.getfield 38, 3) := by decide +kernel
theorem dX8_step_12 : decode m_X8_step.2.1 12 = .ok (.iconst 2, 1) := by decide +kernel
theorem dX8_step_13 : decode m_X8_step.2.1 13 = .ok (.if_icmp .ne 7, 3) := by decide +kernel
theorem dX8_step_16 : decode m_X8_step.2.1 16 = .ok (.iconst 1, 1) := by decide +kernel
theorem dX8_step_17 : decode m_X8_step.2.1 17 = .ok (.goto 4, 3) := by decide +kernel
theorem dX8_step_20 : decode m_X8_step.2.1 20 = .ok (.iconst 0, 1) := by decide +kernel
theorem dX8_step_21 : decode m_X8_step.2.1 21 = .ok (.istore_n 1, 1) := by decide +kernel
theorem dX8_step_22 : decode m_X8_step.2.1 22 = .ok (.aload_n 0, 1) := by decide +kernel
theorem dX8_step_23 : decode m_X8_step.2.1 23 = .ok (.aload_n 0, 1) := by decide +kernel
theorem dX8_step_24 : decode m_X8_step.2.1 24 = .ok (.getfield 58, 3) := by decide +kernel
theorem dX8_step_27 : decode m_X8_step.2.1 27 = .ok (.putfield 32, 3) := by decide +kernel
theorem dX8_step_30 : decode m_X8_step.2.1 30 = .ok (.aload_n 0, 1) := by decide +kernel
theorem dX8_step_31 : decode m_X8_step.2.1 31 = .ok (.getfield 32, 3) := by decide +kernel
theorem dX8_step_34 : decode m_X8_step.2.1 34 = .ok (.aload_n 0, 1) := by decide +kernel
theorem dX8_step_35 : decode m_X8_step.2.1 35 = .ok (.getfield 15, 3) := by decide +kernel
theorem dX8_step_38 : decode m_X8_step.2.1 38 = .ok (.if_icmp .ge 30, 3) := by decide +kernel
theorem dX8_step_41 : decode m_X8_step.2.1 41 = .ok (.aload_n 0, 1) := by decide +kernel
theorem dX8_step_42 : decode m_X8_step.2.1 42 = .ok (.getfield 9, 3) := by decide +kernel
theorem dX8_step_45 : decode m_X8_step.2.1 45 = .ok (.aload_n 0, 1) := by decide +kernel
theorem dX8_step_46 : decode m_X8_step.2.1 46 = .ok (.getfield 32, 3) := by decide +kernel
theorem dX8_step_49 : decode m_X8_step.2.1 49 = .ok (.iaload, 1) := by decide +kernel
theorem dX8_step_50 : decode m_X8_step.2.1 50 = .ok (.bipush 32, 2) := by decide +kernel
theorem dX8_step_52 : decode m_X8_step.2.1 52 = .ok (.if_icmp .ne 16, 3) := by decide +kernel
theorem dX8_step_55 : decode m_X8_step.2.1 55 = .ok (.aload_n 0, 1) := by decide +kernel
theorem dX8_step_56 : decode m_X8_step.2.1 56 = .ok (.dup, 1) := by decide +kernel
theorem dX8_step_57 : decode m_X8_step.2.1 57 = .ok (.getfield 32, 3) := by decide +kernel
theorem dX8_step_60 : decode m_X8_step.2.1 60 = .ok (.iconst 1, 1) := by decide +kernel
theorem dX8_step_61 : decode m_X8_step.2.1 61 = .ok (.iadd, 1) := by decide +kernel
theorem dX8_step_62 : decode m_X8_step.2.1 62 = .ok (.putfield 32, 3) := by decide +kernel
theorem dX8_step_65 : decode m_X8_step.2.1 65 = .ok (.goto (-35), 3) := by decide +kernel
theorem dX8_step_68 : decode m_X8_step.2.1 68 = .ok (.aload_n 0, 1) := by decide +kernel
theorem dX8_step_69 : decode m_X8_step.2.1 69 = .ok (.iload_n 1, 1) := by decide +kernel
theorem dX8_step_70 : decode m_X8_step.2.1 70 = .ok (.ifCond .eq 18, 3) := by decide +kernel
theorem dX8_step_73 : decode m_X8_step.2.1 73 = .ok (.aload_n 0, 1) := by decide +kernel
theorem dX8_step_74 : decode m_X8_step.2.1 74 = .ok (.getfield 32, 3) := by decide +kernel
theorem dX8_step_77 : decode m_X8_step.2.1 77 = .ok (.aload_n 0, 1) := by decide +kernel
theorem dX8_step_78 : decode m_X8_step.2.1 78 = .ok (.getfield 58, 3) := by decide +kernel
theorem dX8_step_81 : decode m_X8_step.2.1 81 = .ok (.if_icmp .ne 7, 3) := by decide +kernel
theorem dX8_step_84 : decode m_X8_step.2.1 84 = .ok (.iconst 1, 1) := by decide +kernel
theorem dX8_step_85 : decode m_X8_step.2.1 85 = .ok (.goto 4, 3) := by decide +kernel
theorem dX8_step_88 : decode m_X8_step.2.1 88 = .ok (.iconst 0, 1) := by decide +kernel
theorem dX8_step_89 : decode m_X8_step.2.1 89 = .ok (.putfield 73, 3) := by decide +kernel
theorem dX8_step_92 : decode m_X8_step.2.1 92 = .ok (.aload_n 0, 1) := by decide +kernel
theorem dX8_step_93 : decode m_X8_step.2.1 93 = .ok (.aload_n 0, 1) := by decide +kernel
theorem dX8_step_94 : decode m_X8_step.2.1 94 = .ok (.getfield 32, 3) := by decide +kernel
theorem dX8_step_97 : decode m_X8_step.2.1 97 = .ok (.putfield 58, 3) := by decide +kernel
theorem dX8_step_100 : decode m_X8_step.2.1 100 = .ok (.aload_n 0, 1) := by decide +kernel
theorem dX8_step_101 : decode m_X8_step.2.1 101 = .ok (.aload_n 0, 1) := by decide +kernel
theorem dX8_step_102 : decode m_X8_step.2.1 102 = .ok (.aload_n 0, 1) := by decide +kernel
theorem dX8_step_103 : decode m_X8_step.2.1 103 = .ok (.getfield 32, 3) := by decide +kernel
theorem dX8_step_106 : decode m_X8_step.2.1 106 = .ok (.invokevirtual 76, 3) := by decide +kernel
theorem dX8_step_109 : decode m_X8_step.2.1 109 = .ok (.putfield 38, 3) := by decide +kernel
theorem dX8_step_112 : decode m_X8_step.2.1 112 = .ok (.aload_n 0, 1) := by decide +kernel
theorem dX8_step_113 : decode m_X8_step.2.1 113 = .ok (.getfield 38, 3) := by decide +kernel
theorem dX8_step_116 : decode m_X8_step.2.1 116 = .ok (.ifCond .ne 4, 3) := by decide +kernel
theorem dX8_step_119 : decode m_X8_step.2.1 119 = .ok (.return_, 1) := by decide +kernel
theorem dX8_step_120 : decode m_X8_step.2.1 120 = .ok (.aload_n 0, 1) := by decide +kernel
theorem dX8_step_121 : decode m_X8_step.2.1 121 = .ok (.dup, 1) := by decide +kernel
theorem dX8_step_122 : decode m_X8_step.2.1 122 = .ok (.getfield 58, 3) := by decide +kernel
theorem dX8_step_125 : decode m_X8_step.2.1 125 = .ok (.iconst 1, 1) := by decide +kernel
theorem dX8_step_126 : decode m_X8_step.2.1 126 = .ok (.iadd, 1) := by decide +kernel
theorem dX8_step_127 : decode m_X8_step.2.1 127 = .ok (.putfield 58, 3) := by decide +kernel
theorem dX8_step_130 : decode m_X8_step.2.1 130 = .ok (.aload_n 0, 1) := by decide +kernel
theorem dX8_step_131 : decode m_X8_step.2.1 131 = .ok (.getfield 38, 3) := by decide +kernel
theorem dX8_step_134 : decode m_X8_step.2.1 134 = .ok (.iconst 3, 1) := by decide +kernel
theorem dX8_step_135 : decode m_X8_step.2.1 135 = .ok (.if_icmp .eq 42, 3) := by decide +kernel
theorem dX8_step_138 : decode m_X8_step.2.1 138 = .ok (.aload_n 0, 1) := by decide +kernel
theorem dX8_step_139 : decode m_X8_step.2.1 139 = .ok (.getfield 58, 3) := by decide +kernel
theorem dX8_step_142 : decode m_X8_step.2.1 142 = .ok (.aload_n 0, 1) := by decide +kernel
theorem dX8_step_143 : decode m_X8_step.2.1 143 = .ok (.getfield 15, 3) := by decide +kernel
theorem dX8_step_146 : decode m_X8_step.2.1 146 = .ok (.if_icmp .ge 31, 3) := by decide +kernel
theorem dX8_step_149 : decode m_X8_step.2.1 149 = .ok (.aload_n 0, 1) := by decide +kernel
theorem dX8_step_150 : decode m_X8_step.2.1 150 = .ok (.aload_n 0, 1) := by decide +kernel
theorem dX8_step_151 : decode m_X8_step.2.1 151 = .ok (.getfield 58, 3) := by decide +kernel
theorem dX8_step_154 : decode m_X8_step.2.1 154 = .ok (.invokevirtual 76, 3) := by decide +kernel
theorem dX8_step_157 : decode m_X8_step.2.1 157 = .ok (.aload_n 0, 1) := by decide +kernel
theorem dX8_step_158 : decode m_X8_step.2.1 158 = .ok (.getfield 38, 3) := by decide +kernel
theorem dX8_step_161 : decode m_X8_step.2.1 161 = .ok (.if_icmp .ne 16, 3) := by decide +kernel
theorem dX8_step_164 : decode m_X8_step.2.1 164 = .ok (.aload_n 0, 1) := by decide +kernel
theorem dX8_step_165 : decode m_X8_step.2.1 165 = .ok (.dup, 1) := by decide +kernel
theorem dX8_step_166 : decode m_X8_step.2.1 166 = .ok (.getfield 58, 3) := by decide +kernel
theorem dX8_step_169 : decode m_X8_step.2.1 169 = .ok (.iconst 1, 1) := by decide +kernel
theorem dX8_step_170 : decode m_X8_step.2.1 170 = .ok (.iadd, 1) := by decide +kernel
theorem dX8_step_171 : decode m_X8_step.2.1 171 = .ok (.putfield 58, 3) := by decide +kernel
theorem dX8_step_174 : decode m_X8_step.2.1 174 = .ok (.goto (-44), 3) := by decide +kernel
theorem dX8_step_177 : decode m_X8_step.2.1 177 = .ok (.return_, 1) := by decide +kernel
theorem dX8_sortAt_0 : decode m_X8_sortAt.2.1 0 = .ok (.iload_n 1, 1) := by decide +kernel
theorem dX8_sortAt_1 : decode m_X8_sortAt.2.1 1 = .ok (.aload_n 0, 1) := by decide +kernel
theorem dX8_sortAt_2 : decode m_X8_sortAt.2.1 2 = .ok (.getfield 15, 3) := by decide +kernel
theorem dX8_sortAt_5 : decode m_X8_sortAt.2.1 5 = .ok (.if_icmp .lt 5, 3) := by decide +kernel
theorem dX8_sortAt_8 : decode m_X8_sortAt.2.1 8 = .ok (.iconst 0, 1) := by decide +kernel
theorem dX8_sortAt_9 : decode m_X8_sortAt.2.1 9 = .ok (.ireturn, 1) := by decide +kernel
theorem dX8_sortAt_10 : decode m_X8_sortAt.2.1 10 = .ok (.aload_n 0, 1) := by decide +kernel
theorem dX8_sortAt_11 : decode m_X8_sortAt.2.1 11 = .ok (.getfield 9, 3) := by decide +kernel
theorem dX8_sortAt_14 : decode m_X8_sortAt.2.1 14 = .ok (.iload_n 1, 1) := by decide +kernel
theorem dX8_sortAt_15 : decode m_X8_sortAt.2.1 15 = .ok (.iaload, 1) := by decide +kernel
theorem dX8_sortAt_16 : decode m_X8_sortAt.2.1 16 = .ok (.istore_n 2, 1) := by decide +kernel
theorem dX8_sortAt_17 : decode m_X8_sortAt.2.1 17 = .ok (.iload_n 2, 1) := by decide +kernel
theorem dX8_sortAt_18 : decode m_X8_sortAt.2.1 18 = .ok (.bipush 97, 2) := by decide +kernel
theorem dX8_sortAt_20 : decode m_X8_sortAt.2.1 20 = .ok (.if_icmp .lt 11, 3) := by decide +kernel
theorem dX8_sortAt_23 : decode m_X8_sortAt.2.1 23 = .ok (.iload_n 2, 1) := by decide +kernel
theorem dX8_sortAt_24 : decode m_X8_sortAt.2.1 24 = .ok (.bipush 122, 2) := by decide +kernel
theorem dX8_sortAt_26 : decode m_X8_sortAt.2.1 26 = .ok (.if_icmp .gt 5, 3) := by decide +kernel
theorem dX8_sortAt_29 : decode m_X8_sortAt.2.1 29 = .ok (.iconst 1, 1) := by decide +kernel
theorem dX8_sortAt_30 : decode m_X8_sortAt.2.1 30 = .ok (.ireturn, 1) := by decide +kernel
theorem dX8_sortAt_31 : decode m_X8_sortAt.2.1 31 = .ok (.iload_n 2, 1) := by decide +kernel
theorem dX8_sortAt_32 : decode m_X8_sortAt.2.1 32 = .ok (.bipush 48, 2) := by decide +kernel
theorem dX8_sortAt_34 : decode m_X8_sortAt.2.1 34 = .ok (.if_icmp .lt 13, 3) := by decide +kernel
theorem dX8_sortAt_37 : decode m_X8_sortAt.2.1 37 = .ok (.iload_n 2, 1) := by decide +kernel
theorem dX8_sortAt_38 : decode m_X8_sortAt.2.1 38 = .ok (.bipush 57, 2) := by decide +kernel
theorem dX8_sortAt_40 : decode m_X8_sortAt.2.1 40 = .ok (.if_icmp .gt 7, 3) := by decide +kernel
theorem dX8_sortAt_43 : decode m_X8_sortAt.2.1 43 = .ok (.iconst 2, 1) := by decide +kernel
theorem dX8_sortAt_44 : decode m_X8_sortAt.2.1 44 = .ok (.goto 4, 3) := by decide +kernel
theorem dX8_sortAt_47 : decode m_X8_sortAt.2.1 47 = .ok (.iconst 3, 1) := by decide +kernel
theorem dX8_sortAt_48 : decode m_X8_sortAt.2.1 48 = .ok (.ireturn, 1) := by decide +kernel
theorem dX8_takesHead_0 : decode m_X8_takesHead.2.1 0 = .ok (.aload_n 0, 1) := by decide +kernel
theorem dX8_takesHead_1 : decode m_X8_takesHead.2.1 1 = .ok (.invokevirtual 35, 3) := by decide +kernel
theorem dX8_takesHead_4 : decode m_X8_takesHead.2.1 4 = .ok (.aload_n 0, 1) := by decide +kernel
theorem dX8_takesHead_5 : decode m_X8_takesHead.2.1 5 = .ok (.aload_n 0, 1) := by decide +kernel
theorem dX8_takesHead_6 : decode m_X8_takesHead.2.1 6 = .ok (.invokevirtual 80, 3) := by decide +kernel
theorem dX8_takesHead_9 : decode m_X8_takesHead.2.1 9 = .ok (.putfield 84, 3) := by decide +kernel
theorem dX8_takesHead_12 : decode m_X8_takesHead.2.1 12 = .ok (.aload_n 0, 1) := by decide +kernel
theorem dX8_takesHead_13 : decode m_X8_takesHead.2.1 13 = .ok (.ldc 87, 2) := by decide +kernel
theorem dX8_takesHead_15 : decode m_X8_takesHead.2.1 15 = .ok (.putfield 88, 3) := by decide +kernel
theorem dX8_takesHead_18 : decode m_X8_takesHead.2.1 18 = .ok (.aload_n 0, 1) := by decide +kernel
theorem dX8_takesHead_19 : decode m_X8_takesHead.2.1 19 = .ok (.getfield 84, 3) := by decide +kernel
theorem dX8_takesHead_22 : decode m_X8_takesHead.2.1 22 = .ok (.ifCond .eq 16, 3) := by decide +kernel
theorem dX8_takesHead_25 : decode m_X8_takesHead.2.1 25 = .ok (.aload_n 0, 1) := by decide +kernel
theorem dX8_takesHead_26 : decode m_X8_takesHead.2.1 26 = .ok (.getfield 84, 3) := by decide +kernel
theorem dX8_takesHead_29 : decode m_X8_takesHead.2.1 29 = .ok (.ifCond .lt 7, 3) := by decide +kernel
theorem dX8_takesHead_32 : decode m_X8_takesHead.2.1 32 = .ok (.iconst 1, 1) := by decide +kernel
theorem dX8_takesHead_33 : decode m_X8_takesHead.2.1 33 = .ok (.goto 4, 3) := by decide +kernel
theorem dX8_takesHead_36 : decode m_X8_takesHead.2.1 36 = .ok (.iconst 0, 1) := by decide +kernel
theorem dX8_takesHead_37 : decode m_X8_takesHead.2.1 37 = .ok (.ireturn, 1) := by decide +kernel
theorem dX8_takesHead_38 : decode m_X8_takesHead.2.1 38 = .ok (.aload_n 0, 1) := by decide +kernel
theorem dX8_takesHead_39 : decode m_X8_takesHead.2.1 39 = .ok (.invokevirtual 35, 3) := by decide +kernel
theorem dX8_takesHead_42 : decode m_X8_takesHead.2.1 42 = .ok (.aload_n 0, 1) := by decide +kernel
theorem dX8_takesHead_43 : decode m_X8_takesHead.2.1 43 = .ok (.getfield 38, 3) := by decide +kernel
theorem dX8_takesHead_46 : decode m_X8_takesHead.2.1 46 = .ok (.iconst 2, 1) := by decide +kernel
theorem dX8_takesHead_47 : decode m_X8_takesHead.2.1 47 = .ok (.if_icmp .ne 10, 3) := by decide +kernel
theorem dX8_takesHead_50 : decode m_X8_takesHead.2.1 50 = .ok (.aload_n 0, 1) := by decide +kernel
theorem dX8_takesHead_51 : decode m_X8_takesHead.2.1 51 = .ok (.getfield 73, 3) := by decide +kernel
theorem dX8_takesHead_54 : decode m_X8_takesHead.2.1 54 = .ok (.ifCond .eq 5, 3) := by decide +kernel
theorem dX8_takesHead_57 : decode m_X8_takesHead.2.1 57 = .ok (.iconst 0, 1) := by decide +kernel
theorem dX8_takesHead_58 : decode m_X8_takesHead.2.1 58 = .ok (.ireturn, 1) := by decide +kernel
theorem dX8_takesHead_59 : decode m_X8_takesHead.2.1 59 = .ok (.aload_n 0, 1) := by decide +kernel
theorem dX8_takesHead_60 : decode m_X8_takesHead.2.1 60 = .ok (.aload_n 0, 1) := by decide +kernel
theorem dX8_takesHead_61 : decode m_X8_takesHead.2.1 61 = .ok (.invokevirtual 91, 3) := by decide +kernel
theorem dX8_takesHead_64 : decode m_X8_takesHead.2.1 64 = .ok (.putfield 88, 3) := by decide +kernel
theorem dX8_takesHead_67 : decode m_X8_takesHead.2.1 67 = .ok (.aload_n 0, 1) := by decide +kernel
theorem dX8_takesHead_68 : decode m_X8_takesHead.2.1 68 = .ok (.getfield 88, 3) := by decide +kernel
theorem dX8_takesHead_71 : decode m_X8_takesHead.2.1 71 = .ok (.ifCond .lt 16, 3) := by decide +kernel
theorem dX8_takesHead_74 : decode m_X8_takesHead.2.1 74 = .ok (.aload_n 0, 1) := by decide +kernel
theorem dX8_takesHead_75 : decode m_X8_takesHead.2.1 75 = .ok (.getfield 88, 3) := by decide +kernel
theorem dX8_takesHead_78 : decode m_X8_takesHead.2.1 78 = .ok (.bipush 6, 2) := by decide +kernel
theorem dX8_takesHead_80 : decode m_X8_takesHead.2.1 80 = .ok (.if_icmp .ge 7, 3) := by decide +kernel
theorem dX8_takesHead_83 : decode m_X8_takesHead.2.1 83 = .ok (.iconst 1, 1) := by decide +kernel
theorem dX8_takesHead_84 : decode m_X8_takesHead.2.1 84 = .ok (.goto 4, 3) := by decide +kernel
theorem dX8_takesHead_87 : decode m_X8_takesHead.2.1 87 = .ok (.iconst 0, 1) := by decide +kernel
theorem dX8_takesHead_88 : decode m_X8_takesHead.2.1 88 = .ok (.ireturn, 1) := by decide +kernel
theorem dX8_keyThere_0 : decode m_X8_keyThere.2.1 0 = .ok (.aload_n 0, 1) := by decide +kernel
theorem dX8_keyThere_1 : decode m_X8_keyThere.2.1 1 = .ok (.ldc 94, 2) := by decide +kernel
theorem dX8_keyThere_3 : decode m_X8_keyThere.2.1 3 = .ok (.invokevirtual 96, 3) := by decide +kernel
theorem dX8_keyThere_6 : decode m_X8_keyThere.2.1 6 = .ok (.ifCond .eq 5, 3) := by decide +kernel
theorem dX8_keyThere_9 : decode m_X8_keyThere.2.1 9 = .ok (.iconst 0, 1) := by decide +kernel
theorem dX8_keyThere_10 : decode m_X8_keyThere.2.1 10 = .ok (.ireturn, 1) := by decide +kernel
theorem dX8_keyThere_11 : decode m_X8_keyThere.2.1 11 = .ok (.aload_n 0, 1) := by decide +kernel
theorem dX8_keyThere_12 : decode m_X8_keyThere.2.1 12 = .ok (.ldc 100, 2) := by decide +kernel
theorem dX8_keyThere_14 : decode m_X8_keyThere.2.1 14 = .ok (.invokevirtual 96, 3) := by decide +kernel
theorem dX8_keyThere_17 : decode m_X8_keyThere.2.1 17 = .ok (.ifCond .eq 5, 3) := by decide +kernel
theorem dX8_keyThere_20 : decode m_X8_keyThere.2.1 20 = .ok (.iconst 1, 1) := by decide +kernel
theorem dX8_keyThere_21 : decode m_X8_keyThere.2.1 21 = .ok (.ireturn, 1) := by decide +kernel
theorem dX8_keyThere_22 : decode m_X8_keyThere.2.1 22 = .ok (.aload_n 0, 1) := by decide +kernel
theorem dX8_keyThere_23 : decode m_X8_keyThere.2.1 23 = .ok (.ldc 102, 2) := by decide +kernel
theorem dX8_keyThere_25 : decode m_X8_keyThere.2.1 25 = .ok (.invokevirtual 96, 3) := by decide +kernel
theorem dX8_keyThere_28 : decode m_X8_keyThere.2.1 28 = .ok (.ifCond .eq 7, 3) := by decide +kernel
theorem dX8_keyThere_31 : decode m_X8_keyThere.2.1 31 = .ok (.iconst 2, 1) := by decide +kernel
theorem dX8_keyThere_32 : decode m_X8_keyThere.2.1 32 = .ok (.goto 4, 3) := by decide +kernel
theorem dX8_keyThere_35 : decode m_X8_keyThere.2.1 35 = .ok (.iconst (-1), 1) := by decide +kernel
theorem dX8_keyThere_36 : decode m_X8_keyThere.2.1 36 = .ok (.ireturn, 1) := by decide +kernel
theorem dX8_isThere_0 : decode m_X8_isThere.2.1 0 = .ok (.aload_n 0, 1) := by decide +kernel
theorem dX8_isThere_1 : decode m_X8_isThere.2.1 1 = .ok (.getfield 58, 3) := by decide +kernel
theorem dX8_isThere_4 : decode m_X8_isThere.2.1 4 = .ok (.aload_n 0, 1) := by decide +kernel
theorem dX8_isThere_5 : decode m_X8_isThere.2.1 5 = .ok (.getfield 32, 3) := by decide +kernel
theorem dX8_isThere_8 : decode m_X8_isThere.2.1 8 = .ok (.isub, 1) := by decide +kernel
theorem dX8_isThere_9 : decode m_X8_isThere.2.1 9 = .ok (.aload_n 1, 1) := by decide +kernel
theorem dX8_isThere_10 : decode m_X8_isThere.2.1 10 = .ok (.invokevirtual 104, 3) := by decide +kernel
theorem dX8_isThere_13 : decode m_X8_isThere.2.1 13 = .ok (.if_icmp .eq 5, 3) := by decide +kernel
theorem dX8_isThere_16 : decode m_X8_isThere.2.1 16 = .ok (.iconst 0, 1) := by decide +kernel
theorem dX8_isThere_17 : decode m_X8_isThere.2.1 17 = .ok (.ireturn, 1) := by decide +kernel
theorem dX8_isThere_18 : decode m_X8_isThere.2.1 18 = .ok (.iconst 0, 1) := by decide +kernel
theorem dX8_isThere_19 : decode m_X8_isThere.2.1 19 = .ok (.istore_n 2, 1) := by decide +kernel
theorem dX8_isThere_20 : decode m_X8_isThere.2.1 20 = .ok (.iload_n 2, 1) := by decide +kernel
theorem dX8_isThere_21 : decode m_X8_isThere.2.1 21 = .ok (.aload_n 1, 1) := by decide +kernel
theorem dX8_isThere_22 : decode m_X8_isThere.2.1 22 = .ok (.invokevirtual 104, 3) := by decide +kernel
theorem dX8_isThere_25 : decode m_X8_isThere.2.1 25 = .ok (.if_icmp .ge 30, 3) := by decide +kernel
theorem dX8_isThere_28 : decode m_X8_isThere.2.1 28 = .ok (.aload_n 0, 1) := by decide +kernel
theorem dX8_isThere_29 : decode m_X8_isThere.2.1 29 = .ok (.getfield 9, 3) := by decide +kernel
theorem dX8_isThere_32 : decode m_X8_isThere.2.1 32 = .ok (.aload_n 0, 1) := by decide +kernel
theorem dX8_isThere_33 : decode m_X8_isThere.2.1 33 = .ok (.getfield 32, 3) := by decide +kernel
theorem dX8_isThere_36 : decode m_X8_isThere.2.1 36 = .ok (.iload_n 2, 1) := by decide +kernel
theorem dX8_isThere_37 : decode m_X8_isThere.2.1 37 = .ok (.iadd, 1) := by decide +kernel
theorem dX8_isThere_38 : decode m_X8_isThere.2.1 38 = .ok (.iaload, 1) := by decide +kernel
theorem dX8_isThere_39 : decode m_X8_isThere.2.1 39 = .ok (.aload_n 1, 1) := by decide +kernel
theorem dX8_isThere_40 : decode m_X8_isThere.2.1 40 = .ok (.iload_n 2, 1) := by decide +kernel
theorem dX8_isThere_41 : decode m_X8_isThere.2.1 41 = .ok (.invokevirtual 108, 3) := by decide +kernel
theorem dX8_isThere_44 : decode m_X8_isThere.2.1 44 = .ok (.if_icmp .eq 5, 3) := by decide +kernel
theorem dX8_isThere_47 : decode m_X8_isThere.2.1 47 = .ok (.iconst 0, 1) := by decide +kernel
theorem dX8_isThere_48 : decode m_X8_isThere.2.1 48 = .ok (.ireturn, 1) := by decide +kernel
theorem dX8_isThere_49 : decode m_X8_isThere.2.1 49 = .ok (.iinc 2 1, 3) := by decide +kernel
theorem dX8_isThere_52 : decode m_X8_isThere.2.1 52 = .ok (.goto (-32), 3) := by decide +kernel
theorem dX8_isThere_55 : decode m_X8_isThere.2.1 55 = .ok (.iconst 1, 1) := by decide +kernel
theorem dX8_isThere_56 : decode m_X8_isThere.2.1 56 = .ok (.ireturn, 1) := by decide +kernel
theorem dX8_numberThere_0 : decode m_X8_numberThere.2.1 0 = .ok (.aload_n 0, 1) := by decide +kernel
theorem dX8_numberThere_1 : decode m_X8_numberThere.2.1 1 = .ok (.getfield 58, 3) := by decide +kernel
theorem dX8_numberThere_4 : decode m_X8_numberThere.2.1 4 = .ok (.aload_n 0, 1) := by decide +kernel
theorem dX8_numberThere_5 : decode m_X8_numberThere.2.1 5 = .ok (.getfield 32, 3) := by decide +kernel
theorem dX8_numberThere_8 : decode m_X8_numberThere.2.1 8 = .ok (.isub, 1) := by decide +kernel
theorem dX8_numberThere_9 : decode m_X8_numberThere.2.1 9 = .ok (.iconst 4, 1) := by decide +kernel
theorem dX8_numberThere_10 : decode m_X8_numberThere.2.1 10 = .ok (.if_icmp .le 5, 3) := by decide +kernel
theorem dX8_numberThere_13 : decode m_X8_numberThere.2.1 13 = .ok (.iconst (-1), 1) := by decide +kernel
theorem dX8_numberThere_14 : decode m_X8_numberThere.2.1 14 = .ok (.ireturn, 1) := by decide +kernel
theorem dX8_numberThere_15 : decode m_X8_numberThere.2.1 15 = .ok (.iconst 0, 1) := by decide +kernel
theorem dX8_numberThere_16 : decode m_X8_numberThere.2.1 16 = .ok (.istore_n 1, 1) := by decide +kernel
theorem dX8_numberThere_17 : decode m_X8_numberThere.2.1 17 = .ok (.aload_n 0, 1) := by decide +kernel
theorem dX8_numberThere_18 : decode m_X8_numberThere.2.1 18 = .ok (.getfield 32, 3) := by decide +kernel
theorem dX8_numberThere_21 : decode m_X8_numberThere.2.1 21 = .ok (.istore_n 2, 1) := by decide +kernel
theorem dX8_numberThere_22 : decode m_X8_numberThere.2.1 22 = .ok (.iload_n 2, 1) := by decide +kernel
theorem dX8_numberThere_23 : decode m_X8_numberThere.2.1 23 = .ok (.aload_n 0, 1) := by decide +kernel
theorem dX8_numberThere_24 : decode m_X8_numberThere.2.1 24 = .ok (.getfield 58, 3) := by decide +kernel
theorem dX8_numberThere_27 : decode m_X8_numberThere.2.1 27 = .ok (.if_icmp .ge 24, 3) := by decide +kernel
theorem dX8_numberThere_30 : decode m_X8_numberThere.2.1 30 = .ok (.iload_n 1, 1) := by decide +kernel
theorem dX8_numberThere_31 : decode m_X8_numberThere.2.1 31 = .ok (.bipush 10, 2) := by decide +kernel
theorem dX8_numberThere_33 : decode m_X8_numberThere.2.1 33 = .ok (.imul, 1) := by decide +kernel
theorem dX8_numberThere_34 : decode m_X8_numberThere.2.1 34 = .ok (.aload_n 0, 1) := by decide +kernel
theorem dX8_numberThere_35 : decode m_X8_numberThere.2.1 35 = .ok (.getfield 9, 3) := by decide +kernel
theorem dX8_numberThere_38 : decode m_X8_numberThere.2.1 38 = .ok (.iload_n 2, 1) := by decide +kernel
theorem dX8_numberThere_39 : decode m_X8_numberThere.2.1 39 = .ok (.iaload, 1) := by decide +kernel
theorem dX8_numberThere_40 : decode m_X8_numberThere.2.1 40 = .ok (.iadd, 1) := by decide +kernel
theorem dX8_numberThere_41 : decode m_X8_numberThere.2.1 41 = .ok (.bipush 48, 2) := by decide +kernel
theorem dX8_numberThere_43 : decode m_X8_numberThere.2.1 43 = .ok (.isub, 1) := by decide +kernel
theorem dX8_numberThere_44 : decode m_X8_numberThere.2.1 44 = .ok (.istore_n 1, 1) := by decide +kernel
theorem dX8_numberThere_45 : decode m_X8_numberThere.2.1 45 = .ok (.iinc 2 1, 3) := by decide +kernel
theorem dX8_numberThere_48 : decode m_X8_numberThere.2.1 48 = .ok (.goto (-26), 3) := by decide +kernel
theorem dX8_numberThere_51 : decode m_X8_numberThere.2.1 51 = .ok (.iload_n 1, 1) := by decide +kernel
theorem dX8_numberThere_52 : decode m_X8_numberThere.2.1 52 = .ok (.ireturn, 1) := by decide +kernel
theorem dX8_takesPiece_0 : decode m_X8_takesPiece.2.1 0 = .ok (.aload_n 0, 1) := by decide +kernel
theorem dX8_takesPiece_1 : decode m_X8_takesPiece.2.1 1 = .ok (.getfield 38, 3) := by decide +kernel
theorem dX8_takesPiece_4 : decode m_X8_takesPiece.2.1 4 = .ok (.iconst 3, 1) := by decide +kernel
theorem dX8_takesPiece_5 : decode m_X8_takesPiece.2.1 5 = .ok (.if_icmp .ne 8, 3) := by decide +kernel
theorem dX8_takesPiece_8 : decode m_X8_takesPiece.2.1 8 = .ok (.aload_n 0, 1) := by decide +kernel
theorem dX8_takesPiece_9 : decode m_X8_takesPiece.2.1 9 = .ok (.invokevirtual 112, 3) := by decide +kernel
theorem dX8_takesPiece_12 : decode m_X8_takesPiece.2.1 12 = .ok (.ireturn, 1) := by decide +kernel
theorem dX8_takesPiece_13 : decode m_X8_takesPiece.2.1 13 = .ok (.aload_n 0, 1) := by decide +kernel
theorem dX8_takesPiece_14 : decode m_X8_takesPiece.2.1 14 = .ok (.getfield 73, 3) := by decide +kernel
theorem dX8_takesPiece_17 : decode m_X8_takesPiece.2.1 17 = .ok (.ifCond .eq 5, 3) := by decide +kernel
theorem dX8_takesPiece_20 : decode m_X8_takesPiece.2.1 20 = .ok (.iconst 0, 1) := by decide +kernel
theorem dX8_takesPiece_21 : decode m_X8_takesPiece.2.1 21 = .ok (.ireturn, 1) := by decide +kernel
theorem dX8_takesPiece_22 : decode m_X8_takesPiece.2.1 22 = .ok (.aload_n 0, 1) := by decide +kernel
theorem dX8_takesPiece_23 : decode m_X8_takesPiece.2.1 23 = .ok (.getfield 38, 3) := by decide +kernel
theorem dX8_takesPiece_26 : decode m_X8_takesPiece.2.1 26 = .ok (.iconst 2, 1) := by decide +kernel
theorem dX8_takesPiece_27 : decode m_X8_takesPiece.2.1 27 = .ok (.if_icmp .ne 10, 3) := by decide +kernel
theorem dX8_takesPiece_30 : decode m_X8_takesPiece.2.1 30 = .ok (.aload_n 0, 1) := by decide +kernel
theorem dX8_takesPiece_31 : decode m_X8_takesPiece.2.1 31 = .ok (.invokevirtual 91, 3) := by decide +kernel
theorem dX8_takesPiece_34 : decode m_X8_takesPiece.2.1 34 = .ok (.goto 7, 3) := by decide +kernel
theorem dX8_takesPiece_37 : decode m_X8_takesPiece.2.1 37 = .ok (.aload_n 0, 1) := by decide +kernel
theorem dX8_takesPiece_38 : decode m_X8_takesPiece.2.1 38 = .ok (.invokevirtual 115, 3) := by decide +kernel
theorem dX8_takesPiece_41 : decode m_X8_takesPiece.2.1 41 = .ok (.istore_n 1, 1) := by decide +kernel
theorem dX8_takesPiece_42 : decode m_X8_takesPiece.2.1 42 = .ok (.iload_n 1, 1) := by decide +kernel
theorem dX8_takesPiece_43 : decode m_X8_takesPiece.2.1 43 = .ok (.ifCond .ge 5, 3) := by decide +kernel
theorem dX8_takesPiece_46 : decode m_X8_takesPiece.2.1 46 = .ok (.iconst 0, 1) := by decide +kernel
theorem dX8_takesPiece_47 : decode m_X8_takesPiece.2.1 47 = .ok (.ireturn, 1) := by decide +kernel
theorem dX8_takesPiece_48 : decode m_X8_takesPiece.2.1 48 = .ok (.aload_n 0, 1) := by decide +kernel
theorem dX8_takesPiece_49 : decode m_X8_takesPiece.2.1 49 = .ok (.iload_n 1, 1) := by decide +kernel
theorem dX8_takesPiece_50 : decode m_X8_takesPiece.2.1 50 = .ok (.invokevirtual 118, 3) := by decide +kernel
theorem dX8_takesPiece_53 : decode m_X8_takesPiece.2.1 53 = .ok (.aload_n 0, 1) := by decide +kernel
theorem dX8_takesPiece_54 : decode m_X8_takesPiece.2.1 54 = .ok (.dup, 1) := by decide +kernel
theorem dX8_takesPiece_55 : decode m_X8_takesPiece.2.1 55 = .ok (.getfield 61, 3) := by decide +kernel
theorem dX8_takesPiece_58 : decode m_X8_takesPiece.2.1 58 = .ok (.iconst 1, 1) := by decide +kernel
theorem dX8_takesPiece_59 : decode m_X8_takesPiece.2.1 59 = .ok (.iadd, 1) := by decide +kernel
theorem dX8_takesPiece_60 : decode m_X8_takesPiece.2.1 60 = .ok (.putfield 61, 3) := by decide +kernel
theorem dX8_takesPiece_63 : decode m_X8_takesPiece.2.1 63 = .ok (.aload_n 0, 1) := by decide +kernel
theorem dX8_takesPiece_64 : decode m_X8_takesPiece.2.1 64 = .ok (.invokevirtual 122, 3) := by decide +kernel
theorem dX8_takesPiece_67 : decode m_X8_takesPiece.2.1 67 = .ok (.iconst 1, 1) := by decide +kernel
theorem dX8_takesPiece_68 : decode m_X8_takesPiece.2.1 68 = .ok (.ireturn, 1) := by decide +kernel
theorem dX8_nameThere_0 : decode m_X8_nameThere.2.1 0 = .ok (.aload_n 0, 1) := by decide +kernel
theorem dX8_nameThere_1 : decode m_X8_nameThere.2.1 1 = .ok (.getfield 58, 3) := by decide +kernel
theorem dX8_nameThere_4 : decode m_X8_nameThere.2.1 4 = .ok (.aload_n 0, 1) := by decide +kernel
theorem dX8_nameThere_5 : decode m_X8_nameThere.2.1 5 = .ok (.getfield 32, 3) := by decide +kernel
theorem dX8_nameThere_8 : decode m_X8_nameThere.2.1 8 = .ok (.isub, 1) := by decide +kernel
theorem dX8_nameThere_9 : decode m_X8_nameThere.2.1 9 = .ok (.iconst 1, 1) := by decide +kernel
theorem dX8_nameThere_10 : decode m_X8_nameThere.2.1 10 = .ok (.if_icmp .eq 5, 3) := by decide +kernel
theorem dX8_nameThere_13 : decode m_X8_nameThere.2.1 13 = .ok (.iconst (-1), 1) := by decide +kernel
theorem dX8_nameThere_14 : decode m_X8_nameThere.2.1 14 = .ok (.ireturn, 1) := by decide +kernel
theorem dX8_nameThere_15 : decode m_X8_nameThere.2.1 15 = .ok (.aload_n 0, 1) := by decide +kernel
theorem dX8_nameThere_16 : decode m_X8_nameThere.2.1 16 = .ok (.getfield 84, 3) := by decide +kernel
theorem dX8_nameThere_19 : decode m_X8_nameThere.2.1 19 = .ok (.ifCond .ne 8, 3) := by decide +kernel
theorem dX8_nameThere_22 : decode m_X8_nameThere.2.1 22 = .ok (.ldc 125, 2) := by decide +kernel
theorem dX8_nameThere_24 : decode m_X8_nameThere.2.1 24 = .ok (.goto 18, 3) := by decide +kernel
theorem dX8_nameThere_27 : decode m_X8_nameThere.2.1 27 = .ok (.aload_n 0, 1) := by decide +kernel
theorem dX8_nameThere_28 : decode m_X8_nameThere.2.1 28 = .ok (.getfield 84, 3) := by decide +kernel
theorem dX8_nameThere_31 : decode m_X8_nameThere.2.1 31 = .ok (.iconst 1, 1) := by decide +kernel
theorem dX8_nameThere_32 : decode m_X8_nameThere.2.1 32 = .ok (.if_icmp .ne 8, 3) := by decide +kernel
theorem dX8_nameThere_35 : decode m_X8_nameThere.2.1 35 = .ok (.ldc 127, 2) := by decide +kernel
theorem dX8_nameThere_37 : decode m_X8_nameThere.2.1 37 = .ok (.goto 5, 3) := by decide +kernel
theorem dX8_nameThere_40 : decode m_X8_nameThere.2.1 40 = .ok (.ldc 129, 2) := by decide +kernel
theorem dX8_nameThere_42 : decode m_X8_nameThere.2.1 42 = .ok (.astore_n 1, 1) := by decide +kernel
theorem dX8_nameThere_43 : decode m_X8_nameThere.2.1 43 = .ok (.aload_n 0, 1) := by decide +kernel
theorem dX8_nameThere_44 : decode m_X8_nameThere.2.1 44 = .ok (.getfield 9, 3) := by decide +kernel
theorem dX8_nameThere_47 : decode m_X8_nameThere.2.1 47 = .ok (.aload_n 0, 1) := by decide +kernel
theorem dX8_nameThere_48 : decode m_X8_nameThere.2.1 48 = .ok (.getfield 32, 3) := by decide +kernel
theorem dX8_nameThere_51 : decode m_X8_nameThere.2.1 51 = .ok (.iaload, 1) := by decide +kernel
theorem dX8_nameThere_52 : decode m_X8_nameThere.2.1 52 = .ok (.istore_n 2, 1) := by decide +kernel
theorem dX8_nameThere_53 : decode m_X8_nameThere.2.1 53 = .ok (.aload_n 1, 1) := by decide +kernel
theorem dX8_nameThere_54 : decode m_X8_nameThere.2.1 54 = .ok (.iload_n 2, 1) := by decide +kernel
theorem dX8_nameThere_55 : decode m_X8_nameThere.2.1 55 = .ok (.i2c, 1) := by decide +kernel
theorem dX8_nameThere_56 : decode m_X8_nameThere.2.1 56 = .ok (.invokevirtual 131, 3) := by decide +kernel
theorem dX8_nameThere_59 : decode m_X8_nameThere.2.1 59 = .ok (.ifCond .ge 7, 3) := by decide +kernel
theorem dX8_nameThere_62 : decode m_X8_nameThere.2.1 62 = .ok (.iconst (-1), 1) := by decide +kernel
theorem dX8_nameThere_63 : decode m_X8_nameThere.2.1 63 = .ok (.goto 11, 3) := by decide +kernel
theorem dX8_nameThere_66 : decode m_X8_nameThere.2.1 66 = .ok (.sipush 10000, 3) := by decide +kernel
theorem dX8_nameThere_69 : decode m_X8_nameThere.2.1 69 = .ok (.iload_n 2, 1) := by decide +kernel
theorem dX8_nameThere_70 : decode m_X8_nameThere.2.1 70 = .ok (.iadd, 1) := by decide +kernel
theorem dX8_nameThere_71 : decode m_X8_nameThere.2.1 71 = .ok (.bipush 97, 2) := by decide +kernel
theorem dX8_nameThere_73 : decode m_X8_nameThere.2.1 73 = .ok (.isub, 1) := by decide +kernel
theorem dX8_nameThere_74 : decode m_X8_nameThere.2.1 74 = .ok (.ireturn, 1) := by decide +kernel
theorem dX8_takesOpening_0 : decode m_X8_takesOpening.2.1 0 = .ok (.aload_n 0, 1) := by decide +kernel
theorem dX8_takesOpening_1 : decode m_X8_takesOpening.2.1 1 = .ok (.getfield 9, 3) := by decide +kernel
theorem dX8_takesOpening_4 : decode m_X8_takesOpening.2.1 4 = .ok (.aload_n 0, 1) := by decide +kernel
theorem dX8_takesOpening_5 : decode m_X8_takesOpening.2.1 5 = .ok (.getfield 32, 3) := by decide +kernel
theorem dX8_takesOpening_8 : decode m_X8_takesOpening.2.1 8 = .ok (.iaload, 1) := by decide +kernel
theorem dX8_takesOpening_9 : decode m_X8_takesOpening.2.1 9 = .ok (.istore_n 1, 1) := by decide +kernel
theorem dX8_takesOpening_10 : decode m_X8_takesOpening.2.1 10 = .ok (.iload_n 1, 1) := by decide +kernel
theorem dX8_takesOpening_11 : decode m_X8_takesOpening.2.1 11 = .ok (.bipush 40, 2) := by decide +kernel
theorem dX8_takesOpening_13 : decode m_X8_takesOpening.2.1 13 = .ok (.if_icmp .ne 25, 3) := by decide +kernel
theorem dX8_takesOpening_16 : decode m_X8_takesOpening.2.1 16 = .ok (.aload_n 0, 1) := by decide +kernel
theorem dX8_takesOpening_17 : decode m_X8_takesOpening.2.1 17 = .ok (.getfield 51, 3) := by decide +kernel
theorem dX8_takesOpening_20 : decode m_X8_takesOpening.2.1 20 = .ok (.bipush 8, 2) := by decide +kernel
theorem dX8_takesOpening_22 : decode m_X8_takesOpening.2.1 22 = .ok (.if_icmp .ge 16, 3) := by decide +kernel
theorem dX8_takesOpening_25 : decode m_X8_takesOpening.2.1 25 = .ok (.aload_n 0, 1) := by decide +kernel
theorem dX8_takesOpening_26 : decode m_X8_takesOpening.2.1 26 = .ok (.dup, 1) := by decide +kernel
theorem dX8_takesOpening_27 : decode m_X8_takesOpening.2.1 27 = .ok (.getfield 51, 3) := by decide +kernel
theorem dX8_takesOpening_30 : decode m_X8_takesOpening.2.1 30 = .ok (.iconst 1, 1) := by decide +kernel
theorem dX8_takesOpening_31 : decode m_X8_takesOpening.2.1 31 = .ok (.iadd, 1) := by decide +kernel
theorem dX8_takesOpening_32 : decode m_X8_takesOpening.2.1 32 = .ok (.putfield 51, 3) := by decide +kernel
theorem dX8_takesOpening_35 : decode m_X8_takesOpening.2.1 35 = .ok (.goto 33, 3) := by decide +kernel
theorem dX8_takesOpening_38 : decode m_X8_takesOpening.2.1 38 = .ok (.iload_n 1, 1) := by decide +kernel
theorem dX8_takesOpening_39 : decode m_X8_takesOpening.2.1 39 = .ok (.bipush 33, 2) := by decide +kernel
theorem dX8_takesOpening_41 : decode m_X8_takesOpening.2.1 41 = .ok (.if_icmp .ne 25, 3) := by decide +kernel
theorem dX8_takesOpening_44 : decode m_X8_takesOpening.2.1 44 = .ok (.aload_n 0, 1) := by decide +kernel
theorem dX8_takesOpening_45 : decode m_X8_takesOpening.2.1 45 = .ok (.getfield 70, 3) := by decide +kernel
theorem dX8_takesOpening_48 : decode m_X8_takesOpening.2.1 48 = .ok (.bipush 8, 2) := by decide +kernel
theorem dX8_takesOpening_50 : decode m_X8_takesOpening.2.1 50 = .ok (.if_icmp .ge 16, 3) := by decide +kernel
theorem dX8_takesOpening_53 : decode m_X8_takesOpening.2.1 53 = .ok (.aload_n 0, 1) := by decide +kernel
theorem dX8_takesOpening_54 : decode m_X8_takesOpening.2.1 54 = .ok (.dup, 1) := by decide +kernel
theorem dX8_takesOpening_55 : decode m_X8_takesOpening.2.1 55 = .ok (.getfield 70, 3) := by decide +kernel
theorem dX8_takesOpening_58 : decode m_X8_takesOpening.2.1 58 = .ok (.iconst 1, 1) := by decide +kernel
theorem dX8_takesOpening_59 : decode m_X8_takesOpening.2.1 59 = .ok (.iadd, 1) := by decide +kernel
theorem dX8_takesOpening_60 : decode m_X8_takesOpening.2.1 60 = .ok (.putfield 70, 3) := by decide +kernel
theorem dX8_takesOpening_63 : decode m_X8_takesOpening.2.1 63 = .ok (.goto 5, 3) := by decide +kernel
theorem dX8_takesOpening_66 : decode m_X8_takesOpening.2.1 66 = .ok (.iconst 0, 1) := by decide +kernel
theorem dX8_takesOpening_67 : decode m_X8_takesOpening.2.1 67 = .ok (.ireturn, 1) := by decide +kernel
theorem dX8_takesOpening_68 : decode m_X8_takesOpening.2.1 68 = .ok (.aload_n 0, 1) := by decide +kernel
theorem dX8_takesOpening_69 : decode m_X8_takesOpening.2.1 69 = .ok (.iload_n 1, 1) := by decide +kernel
theorem dX8_takesOpening_70 : decode m_X8_takesOpening.2.1 70 = .ok (.invokevirtual 136, 3) := by decide +kernel
theorem dX8_takesOpening_73 : decode m_X8_takesOpening.2.1 73 = .ok (.iconst 1, 1) := by decide +kernel
theorem dX8_takesOpening_74 : decode m_X8_takesOpening.2.1 74 = .ok (.ireturn, 1) := by decide +kernel
theorem dX8_takesSign_0 : decode m_X8_takesSign.2.1 0 = .ok (.aload_n 0, 1) := by decide +kernel
theorem dX8_takesSign_1 : decode m_X8_takesSign.2.1 1 = .ok (.getfield 38, 3) := by decide +kernel
theorem dX8_takesSign_4 : decode m_X8_takesSign.2.1 4 = .ok (.iconst 3, 1) := by decide +kernel
theorem dX8_takesSign_5 : decode m_X8_takesSign.2.1 5 = .ok (.if_icmp .eq 5, 3) := by decide +kernel
theorem dX8_takesSign_8 : decode m_X8_takesSign.2.1 8 = .ok (.iconst 0, 1) := by decide +kernel
theorem dX8_takesSign_9 : decode m_X8_takesSign.2.1 9 = .ok (.ireturn, 1) := by decide +kernel
theorem dX8_takesSign_10 : decode m_X8_takesSign.2.1 10 = .ok (.aload_n 0, 1) := by decide +kernel
theorem dX8_takesSign_11 : decode m_X8_takesSign.2.1 11 = .ok (.getfield 9, 3) := by decide +kernel
theorem dX8_takesSign_14 : decode m_X8_takesSign.2.1 14 = .ok (.aload_n 0, 1) := by decide +kernel
theorem dX8_takesSign_15 : decode m_X8_takesSign.2.1 15 = .ok (.getfield 32, 3) := by decide +kernel
theorem dX8_takesSign_18 : decode m_X8_takesSign.2.1 18 = .ok (.iaload, 1) := by decide +kernel
theorem dX8_takesSign_19 : decode m_X8_takesSign.2.1 19 = .ok (.istore_n 1, 1) := by decide +kernel
theorem dX8_takesSign_20 : decode m_X8_takesSign.2.1 20 = .ok (.iload_n 1, 1) := by decide +kernel
theorem dX8_takesSign_21 : decode m_X8_takesSign.2.1 21 = .ok (.bipush 41, 2) := by decide +kernel
theorem dX8_takesSign_23 : decode m_X8_takesSign.2.1 23 = .ok (.if_icmp .ne 8, 3) := by decide +kernel
theorem dX8_takesSign_26 : decode m_X8_takesSign.2.1 26 = .ok (.aload_n 0, 1) := by decide +kernel
theorem dX8_takesSign_27 : decode m_X8_takesSign.2.1 27 = .ok (.invokevirtual 139, 3) := by decide +kernel
theorem dX8_takesSign_30 : decode m_X8_takesSign.2.1 30 = .ok (.ireturn, 1) := by decide +kernel
theorem dX8_takesSign_31 : decode m_X8_takesSign.2.1 31 = .ok (.iload_n 1, 1) := by decide +kernel
theorem dX8_takesSign_32 : decode m_X8_takesSign.2.1 32 = .ok (.invokestatic 142, 3) := by decide +kernel
theorem dX8_takesSign_35 : decode m_X8_takesSign.2.1 35 = .ok (.istore_n 2, 1) := by decide +kernel
theorem dX8_takesSign_36 : decode m_X8_takesSign.2.1 36 = .ok (.iload_n 2, 1) := by decide +kernel
theorem dX8_takesSign_37 : decode m_X8_takesSign.2.1 37 = .ok (.ifCond .ne 5, 3) := by decide +kernel
theorem dX8_takesSign_40 : decode m_X8_takesSign.2.1 40 = .ok (.iconst 0, 1) := by decide +kernel
theorem dX8_takesSign_41 : decode m_X8_takesSign.2.1 41 = .ok (.ireturn, 1) := by decide +kernel
theorem dX8_takesSign_42 : decode m_X8_takesSign.2.1 42 = .ok (.aload_n 0, 1) := by decide +kernel
theorem dX8_takesSign_43 : decode m_X8_takesSign.2.1 43 = .ok (.iload_n 2, 1) := by decide +kernel
theorem dX8_takesSign_44 : decode m_X8_takesSign.2.1 44 = .ok (.iload_n 2, 1) := by decide +kernel
theorem dX8_takesSign_45 : decode m_X8_takesSign.2.1 45 = .ok (.iconst 3, 1) := by decide +kernel
theorem dX8_takesSign_46 : decode m_X8_takesSign.2.1 46 = .ok (.if_icmp .eq 7, 3) := by decide +kernel
theorem dX8_takesSign_49 : decode m_X8_takesSign.2.1 49 = .ok (.iconst 1, 1) := by decide +kernel
theorem dX8_takesSign_50 : decode m_X8_takesSign.2.1 50 = .ok (.goto 4, 3) := by decide +kernel
theorem dX8_takesSign_53 : decode m_X8_takesSign.2.1 53 = .ok (.iconst 0, 1) := by decide +kernel
theorem dX8_takesSign_54 : decode m_X8_takesSign.2.1 54 = .ok (.invokevirtual 54, 3) := by decide +kernel
theorem dX8_takesSign_57 : decode m_X8_takesSign.2.1 57 = .ok (.iload_n 2, 1) := by decide +kernel
theorem dX8_takesSign_58 : decode m_X8_takesSign.2.1 58 = .ok (.iconst 3, 1) := by decide +kernel
theorem dX8_takesSign_59 : decode m_X8_takesSign.2.1 59 = .ok (.if_icmp .ne 13, 3) := by decide +kernel
theorem dX8_takesSign_62 : decode m_X8_takesSign.2.1 62 = .ok (.aload_n 0, 1) := by decide +kernel
theorem dX8_takesSign_63 : decode m_X8_takesSign.2.1 63 = .ok (.invokevirtual 145, 3) := by decide +kernel
theorem dX8_takesSign_66 : decode m_X8_takesSign.2.1 66 = .ok (.iconst 3, 1) := by decide +kernel
theorem dX8_takesSign_67 : decode m_X8_takesSign.2.1 67 = .ok (.if_icmp .ne 5, 3) := by decide +kernel
theorem dX8_takesSign_70 : decode m_X8_takesSign.2.1 70 = .ok (.iconst 0, 1) := by decide +kernel
theorem dX8_takesSign_71 : decode m_X8_takesSign.2.1 71 = .ok (.ireturn, 1) := by decide +kernel
theorem dX8_takesSign_72 : decode m_X8_takesSign.2.1 72 = .ok (.aload_n 0, 1) := by decide +kernel
theorem dX8_takesSign_73 : decode m_X8_takesSign.2.1 73 = .ok (.iload_n 1, 1) := by decide +kernel
theorem dX8_takesSign_74 : decode m_X8_takesSign.2.1 74 = .ok (.invokevirtual 136, 3) := by decide +kernel
theorem dX8_takesSign_77 : decode m_X8_takesSign.2.1 77 = .ok (.aload_n 0, 1) := by decide +kernel
theorem dX8_takesSign_78 : decode m_X8_takesSign.2.1 78 = .ok (.iconst 1, 1) := by decide +kernel
theorem dX8_takesSign_79 : decode m_X8_takesSign.2.1 79 = .ok (.putfield 41, 3) := by decide +kernel
theorem dX8_takesSign_82 : decode m_X8_takesSign.2.1 82 = .ok (.iconst 1, 1) := by decide +kernel
theorem dX8_takesSign_83 : decode m_X8_takesSign.2.1 83 = .ok (.ireturn, 1) := by decide +kernel
theorem dX8_takesClosing_0 : decode m_X8_takesClosing.2.1 0 = .ok (.aload_n 0, 1) := by decide +kernel
theorem dX8_takesClosing_1 : decode m_X8_takesClosing.2.1 1 = .ok (.getfield 51, 3) := by decide +kernel
theorem dX8_takesClosing_4 : decode m_X8_takesClosing.2.1 4 = .ok (.ifCond .ne 5, 3) := by decide +kernel
theorem dX8_takesClosing_7 : decode m_X8_takesClosing.2.1 7 = .ok (.iconst 0, 1) := by decide +kernel
theorem dX8_takesClosing_8 : decode m_X8_takesClosing.2.1 8 = .ok (.ireturn, 1) := by decide +kernel
theorem dX8_takesClosing_9 : decode m_X8_takesClosing.2.1 9 = .ok (.aload_n 0, 1) := by decide +kernel
theorem dX8_takesClosing_10 : decode m_X8_takesClosing.2.1 10 = .ok (.iconst 1, 1) := by decide +kernel
theorem dX8_takesClosing_11 : decode m_X8_takesClosing.2.1 11 = .ok (.iconst 1, 1) := by decide +kernel
theorem dX8_takesClosing_12 : decode m_X8_takesClosing.2.1 12 = .ok (.invokevirtual 54, 3) := by decide +kernel
theorem dX8_takesClosing_15 : decode m_X8_takesClosing.2.1 15 = .ok (.aload_n 0, 1) := by decide +kernel
theorem dX8_takesClosing_16 : decode m_X8_takesClosing.2.1 16 = .ok (.getfield 67, 3) := by decide +kernel
theorem dX8_takesClosing_19 : decode m_X8_takesClosing.2.1 19 = .ok (.ifCond .le 13, 3) := by decide +kernel
theorem dX8_takesClosing_22 : decode m_X8_takesClosing.2.1 22 = .ok (.aload_n 0, 1) := by decide +kernel
theorem dX8_takesClosing_23 : decode m_X8_takesClosing.2.1 23 = .ok (.dup, 1) := by decide +kernel
theorem dX8_takesClosing_24 : decode m_X8_takesClosing.2.1 24 = .ok (.getfield 67, 3) := by decide +kernel
theorem dX8_takesClosing_27 : decode m_X8_takesClosing.2.1 27 = .ok (.iconst 1, 1) := by decide +kernel
theorem dX8_takesClosing_28 : decode m_X8_takesClosing.2.1 28 = .ok (.isub, 1) := by decide +kernel
theorem dX8_takesClosing_29 : decode m_X8_takesClosing.2.1 29 = .ok (.putfield 67, 3) := by decide +kernel
theorem dX8_takesClosing_32 : decode m_X8_takesClosing.2.1 32 = .ok (.aload_n 0, 1) := by decide +kernel
theorem dX8_takesClosing_33 : decode m_X8_takesClosing.2.1 33 = .ok (.dup, 1) := by decide +kernel
theorem dX8_takesClosing_34 : decode m_X8_takesClosing.2.1 34 = .ok (.getfield 51, 3) := by decide +kernel
theorem dX8_takesClosing_37 : decode m_X8_takesClosing.2.1 37 = .ok (.iconst 1, 1) := by decide +kernel
theorem dX8_takesClosing_38 : decode m_X8_takesClosing.2.1 38 = .ok (.isub, 1) := by decide +kernel
theorem dX8_takesClosing_39 : decode m_X8_takesClosing.2.1 39 = .ok (.putfield 51, 3) := by decide +kernel
theorem dX8_takesClosing_42 : decode m_X8_takesClosing.2.1 42 = .ok (.aload_n 0, 1) := by decide +kernel
theorem dX8_takesClosing_43 : decode m_X8_takesClosing.2.1 43 = .ok (.invokevirtual 122, 3) := by decide +kernel
theorem dX8_takesClosing_46 : decode m_X8_takesClosing.2.1 46 = .ok (.iconst 1, 1) := by decide +kernel
theorem dX8_takesClosing_47 : decode m_X8_takesClosing.2.1 47 = .ok (.ireturn, 1) := by decide +kernel
theorem dX8_endPiece_0 : decode m_X8_endPiece.2.1 0 = .ok (.aload_n 0, 1) := by decide +kernel
theorem dX8_endPiece_1 : decode m_X8_endPiece.2.1 1 = .ok (.iconst 0, 1) := by decide +kernel
theorem dX8_endPiece_2 : decode m_X8_endPiece.2.1 2 = .ok (.putfield 41, 3) := by decide +kernel
theorem dX8_endPiece_5 : decode m_X8_endPiece.2.1 5 = .ok (.aload_n 0, 1) := by decide +kernel
theorem dX8_endPiece_6 : decode m_X8_endPiece.2.1 6 = .ok (.getfield 67, 3) := by decide +kernel
theorem dX8_endPiece_9 : decode m_X8_endPiece.2.1 9 = .ok (.ifCond .le 48, 3) := by decide +kernel
theorem dX8_endPiece_12 : decode m_X8_endPiece.2.1 12 = .ok (.aload_n 0, 1) := by decide +kernel
theorem dX8_endPiece_13 : decode m_X8_endPiece.2.1 13 = .ok (.getfield 22, 3) := by decide +kernel
theorem dX8_endPiece_16 : decode m_X8_endPiece.2.1 16 = .ok (.aload_n 0, 1) := by decide +kernel
theorem dX8_endPiece_17 : decode m_X8_endPiece.2.1 17 = .ok (.getfield 67, 3) := by decide +kernel
theorem dX8_endPiece_20 : decode m_X8_endPiece.2.1 20 = .ok (.iconst 1, 1) := by decide +kernel
theorem dX8_endPiece_21 : decode m_X8_endPiece.2.1 21 = .ok (.isub, 1) := by decide +kernel
theorem dX8_endPiece_22 : decode m_X8_endPiece.2.1 22 = .ok (.iaload, 1) := by decide +kernel
theorem dX8_endPiece_23 : decode m_X8_endPiece.2.1 23 = .ok (.bipush 33, 2) := by decide +kernel
theorem dX8_endPiece_25 : decode m_X8_endPiece.2.1 25 = .ok (.if_icmp .ne 32, 3) := by decide +kernel
theorem dX8_endPiece_28 : decode m_X8_endPiece.2.1 28 = .ok (.aload_n 0, 1) := by decide +kernel
theorem dX8_endPiece_29 : decode m_X8_endPiece.2.1 29 = .ok (.dup, 1) := by decide +kernel
theorem dX8_endPiece_30 : decode m_X8_endPiece.2.1 30 = .ok (.getfield 67, 3) := by decide +kernel
theorem dX8_endPiece_33 : decode m_X8_endPiece.2.1 33 = .ok (.iconst 1, 1) := by decide +kernel
theorem dX8_endPiece_34 : decode m_X8_endPiece.2.1 34 = .ok (.isub, 1) := by decide +kernel
theorem dX8_endPiece_35 : decode m_X8_endPiece.2.1 35 = .ok (.putfield 67, 3) := by decide +kernel
theorem dX8_endPiece_38 : decode m_X8_endPiece.2.1 38 = .ok (.aload_n 0, 1) := by decide +kernel
theorem dX8_endPiece_39 : decode m_X8_endPiece.2.1 39 = .ok (.dup, 1) := by decide +kernel
theorem dX8_endPiece_40 : decode m_X8_endPiece.2.1 40 = .ok (.getfield 70, 3) := by decide +kernel
theorem dX8_endPiece_43 : decode m_X8_endPiece.2.1 43 = .ok (.iconst 1, 1) := by decide +kernel
theorem dX8_endPiece_44 : decode m_X8_endPiece.2.1 44 = .ok (.isub, 1) := by decide +kernel
theorem dX8_endPiece_45 : decode m_X8_endPiece.2.1 45 = .ok (.putfield 70, 3) := by decide +kernel
theorem dX8_endPiece_48 : decode m_X8_endPiece.2.1 48 = .ok (.aload_n 0, 1) := by decide +kernel
theorem dX8_endPiece_49 : decode m_X8_endPiece.2.1 49 = .ok (.bipush (-33), 2) := by decide +kernel
theorem dX8_endPiece_51 : decode m_X8_endPiece.2.1 51 = .ok (.invokevirtual 118, 3) := by decide +kernel
theorem dX8_endPiece_54 : decode m_X8_endPiece.2.1 54 = .ok (.goto (-49), 3) := by decide +kernel
theorem dX8_endPiece_57 : decode m_X8_endPiece.2.1 57 = .ok (.return_, 1) := by decide +kernel
theorem dX8_writeHeldFrom_0 : decode m_X8_writeHeldFrom.2.1 0 = .ok (.aload_n 0, 1) := by decide +kernel
theorem dX8_writeHeldFrom_1 : decode m_X8_writeHeldFrom.2.1 1 = .ok (.getfield 67, 3) := by decide +kernel
theorem dX8_writeHeldFrom_4 : decode m_X8_writeHeldFrom.2.1 4 = .ok (.ifCond .le 50, 3) := by decide +kernel
theorem dX8_writeHeldFrom_7 : decode m_X8_writeHeldFrom.2.1 7 = .ok (.aload_n 0, 1) := by decide +kernel
theorem dX8_writeHeldFrom_8 : decode m_X8_writeHeldFrom.2.1 8 = .ok (.invokevirtual 145, 3) := by decide +kernel
theorem dX8_writeHeldFrom_11 : decode m_X8_writeHeldFrom.2.1 11 = .ok (.iload_n 1, 1) := by decide +kernel
theorem dX8_writeHeldFrom_12 : decode m_X8_writeHeldFrom.2.1 12 = .ok (.if_icmp .gt 15, 3) := by decide +kernel
theorem dX8_writeHeldFrom_15 : decode m_X8_writeHeldFrom.2.1 15 = .ok (.iload_n 2, 1) := by decide +kernel
theorem dX8_writeHeldFrom_16 : decode m_X8_writeHeldFrom.2.1 16 = .ok (.ifCond .eq 38, 3) := by decide +kernel
theorem dX8_writeHeldFrom_19 : decode m_X8_writeHeldFrom.2.1 19 = .ok (.aload_n 0, 1) := by decide +kernel
theorem dX8_writeHeldFrom_20 : decode m_X8_writeHeldFrom.2.1 20 = .ok (.invokevirtual 145, 3) := by decide +kernel
theorem dX8_writeHeldFrom_23 : decode m_X8_writeHeldFrom.2.1 23 = .ok (.iload_n 1, 1) := by decide +kernel
theorem dX8_writeHeldFrom_24 : decode m_X8_writeHeldFrom.2.1 24 = .ok (.if_icmp .ne 30, 3) := by decide +kernel
theorem dX8_writeHeldFrom_27 : decode m_X8_writeHeldFrom.2.1 27 = .ok (.aload_n 0, 1) := by decide +kernel
theorem dX8_writeHeldFrom_28 : decode m_X8_writeHeldFrom.2.1 28 = .ok (.dup, 1) := by decide +kernel
theorem dX8_writeHeldFrom_29 : decode m_X8_writeHeldFrom.2.1 29 = .ok (.getfield 67, 3) := by decide +kernel
theorem dX8_writeHeldFrom_32 : decode m_X8_writeHeldFrom.2.1 32 = .ok (.iconst 1, 1) := by decide +kernel
theorem dX8_writeHeldFrom_33 : decode m_X8_writeHeldFrom.2.1 33 = .ok (.isub, 1) := by decide +kernel
theorem dX8_writeHeldFrom_34 : decode m_X8_writeHeldFrom.2.1 34 = .ok (.putfield 67, 3) := by decide +kernel
theorem dX8_writeHeldFrom_37 : decode m_X8_writeHeldFrom.2.1 37 = .ok (.aload_n 0, 1) := by decide +kernel
theorem dX8_writeHeldFrom_38 : decode m_X8_writeHeldFrom.2.1 38 = .ok (.aload_n 0, 1) := by decide +kernel
theorem dX8_writeHeldFrom_39 : decode m_X8_writeHeldFrom.2.1 39 = .ok (.getfield 22, 3) := by decide +kernel
theorem dX8_writeHeldFrom_42 : decode m_X8_writeHeldFrom.2.1 42 = .ok (.aload_n 0, 1) := by decide +kernel
theorem dX8_writeHeldFrom_43 : decode m_X8_writeHeldFrom.2.1 43 = .ok (.getfield 67, 3) := by decide +kernel
theorem dX8_writeHeldFrom_46 : decode m_X8_writeHeldFrom.2.1 46 = .ok (.iaload, 1) := by decide +kernel
theorem dX8_writeHeldFrom_47 : decode m_X8_writeHeldFrom.2.1 47 = .ok (.ineg, 1) := by decide +kernel
theorem dX8_writeHeldFrom_48 : decode m_X8_writeHeldFrom.2.1 48 = .ok (.invokevirtual 118, 3) := by decide +kernel
theorem dX8_writeHeldFrom_51 : decode m_X8_writeHeldFrom.2.1 51 = .ok (.goto (-51), 3) := by decide +kernel
theorem dX8_writeHeldFrom_54 : decode m_X8_writeHeldFrom.2.1 54 = .ok (.return_, 1) := by decide +kernel
theorem dX8_heldRank_0 : decode m_X8_heldRank.2.1 0 = .ok (.aload_n 0, 1) := by decide +kernel
theorem dX8_heldRank_1 : decode m_X8_heldRank.2.1 1 = .ok (.getfield 67, 3) := by decide +kernel
theorem dX8_heldRank_4 : decode m_X8_heldRank.2.1 4 = .ok (.ifCond .le 20, 3) := by decide +kernel
theorem dX8_heldRank_7 : decode m_X8_heldRank.2.1 7 = .ok (.aload_n 0, 1) := by decide +kernel
theorem dX8_heldRank_8 : decode m_X8_heldRank.2.1 8 = .ok (.getfield 22, 3) := by decide +kernel
theorem dX8_heldRank_11 : decode m_X8_heldRank.2.1 11 = .ok (.aload_n 0, 1) := by decide +kernel
theorem dX8_heldRank_12 : decode m_X8_heldRank.2.1 12 = .ok (.getfield 67, 3) := by decide +kernel
theorem dX8_heldRank_15 : decode m_X8_heldRank.2.1 15 = .ok (.iconst 1, 1) := by decide +kernel
theorem dX8_heldRank_16 : decode m_X8_heldRank.2.1 16 = .ok (.isub, 1) := by decide +kernel
theorem dX8_heldRank_17 : decode m_X8_heldRank.2.1 17 = .ok (.iaload, 1) := by decide +kernel
theorem dX8_heldRank_18 : decode m_X8_heldRank.2.1 18 = .ok (.invokestatic 142, 3) := by decide +kernel
theorem dX8_heldRank_21 : decode m_X8_heldRank.2.1 21 = .ok (.goto 4, 3) := by decide +kernel
theorem dX8_heldRank_24 : decode m_X8_heldRank.2.1 24 = .ok (.iconst 0, 1) := by decide +kernel
theorem dX8_heldRank_25 : decode m_X8_heldRank.2.1 25 = .ok (.ireturn, 1) := by decide +kernel
theorem dX8_rankOf_0 : decode m_X8_rankOf.2.1 0 = .ok (.iload_n 0, 1) := by decide +kernel
theorem dX8_rankOf_1 : decode m_X8_rankOf.2.1 1 = .ok (.lookupswitch 93 #[(38, 85), (42, 91), (43, 89), (45, 89), (47, 91), (60, 87), (61, 87), (62, 87), (124, 83)], 83) := by decide +kernel
theorem dX8_rankOf_84 : decode m_X8_rankOf.2.1 84 = .ok (.iconst 1, 1) := by decide +kernel
theorem dX8_rankOf_85 : decode m_X8_rankOf.2.1 85 = .ok (.ireturn, 1) := by decide +kernel
theorem dX8_rankOf_86 : decode m_X8_rankOf.2.1 86 = .ok (.iconst 2, 1) := by decide +kernel
theorem dX8_rankOf_87 : decode m_X8_rankOf.2.1 87 = .ok (.ireturn, 1) := by decide +kernel
theorem dX8_rankOf_88 : decode m_X8_rankOf.2.1 88 = .ok (.iconst 3, 1) := by decide +kernel
theorem dX8_rankOf_89 : decode m_X8_rankOf.2.1 89 = .ok (.ireturn, 1) := by decide +kernel
theorem dX8_rankOf_90 : decode m_X8_rankOf.2.1 90 = .ok (.iconst 4, 1) := by decide +kernel
theorem dX8_rankOf_91 : decode m_X8_rankOf.2.1 91 = .ok (.ireturn, 1) := by decide +kernel
theorem dX8_rankOf_92 : decode m_X8_rankOf.2.1 92 = .ok (.iconst 5, 1) := by decide +kernel
theorem dX8_rankOf_93 : decode m_X8_rankOf.2.1 93 = .ok (.ireturn, 1) := by decide +kernel
theorem dX8_rankOf_94 : decode m_X8_rankOf.2.1 94 = .ok (.iconst 0, 1) := by decide +kernel
theorem dX8_rankOf_95 : decode m_X8_rankOf.2.1 95 = .ok (.ireturn, 1) := by decide +kernel
theorem dX8_hold_0 : decode m_X8_hold.2.1 0 = .ok (.aload_n 0, 1) := by decide +kernel
theorem dX8_hold_1 : decode m_X8_hold.2.1 1 = .ok (.getfield 67, 3) := by decide +kernel
theorem dX8_hold_4 : decode m_X8_hold.2.1 4 = .ok (.bipush 96, 2) := by decide +kernel
theorem dX8_hold_6 : decode m_X8_hold.2.1 6 = .ok (.if_icmp .ge 23, 3) := by decide +kernel
theorem dX8_hold_9 : decode m_X8_hold.2.1 9 = .ok (.aload_n 0, 1) := by decide +kernel
theorem dX8_hold_10 : decode m_X8_hold.2.1 10 = .ok (.getfield 22, 3) := by decide +kernel
theorem dX8_hold_13 : decode m_X8_hold.2.1 13 = .ok (.aload_n 0, 1) := by decide +kernel
theorem dX8_hold_14 : decode m_X8_hold.2.1 14 = .ok (.getfield 67, 3) := by decide +kernel
theorem dX8_hold_17 : decode m_X8_hold.2.1 17 = .ok (.iload_n 1, 1) := by decide +kernel
theorem dX8_hold_18 : decode m_X8_hold.2.1 18 = .ok (.iastore, 1) := by decide +kernel
theorem dX8_hold_19 : decode m_X8_hold.2.1 19 = .ok (.aload_n 0, 1) := by decide +kernel
theorem dX8_hold_20 : decode m_X8_hold.2.1 20 = .ok (.dup, 1) := by decide +kernel
theorem dX8_hold_21 : decode m_X8_hold.2.1 21 = .ok (.getfield 67, 3) := by decide +kernel
theorem dX8_hold_24 : decode m_X8_hold.2.1 24 = .ok (.iconst 1, 1) := by decide +kernel
theorem dX8_hold_25 : decode m_X8_hold.2.1 25 = .ok (.iadd, 1) := by decide +kernel
theorem dX8_hold_26 : decode m_X8_hold.2.1 26 = .ok (.putfield 67, 3) := by decide +kernel
theorem dX8_hold_29 : decode m_X8_hold.2.1 29 = .ok (.return_, 1) := by decide +kernel
theorem dX8_write_0 : decode m_X8_write.2.1 0 = .ok (.aload_n 0, 1) := by decide +kernel
theorem dX8_write_1 : decode m_X8_write.2.1 1 = .ok (.getfield 64, 3) := by decide +kernel
theorem dX8_write_4 : decode m_X8_write.2.1 4 = .ok (.bipush 96, 2) := by decide +kernel
theorem dX8_write_6 : decode m_X8_write.2.1 6 = .ok (.if_icmp .ge 23, 3) := by decide +kernel
theorem dX8_write_9 : decode m_X8_write.2.1 9 = .ok (.aload_n 0, 1) := by decide +kernel
theorem dX8_write_10 : decode m_X8_write.2.1 10 = .ok (.getfield 19, 3) := by decide +kernel
theorem dX8_write_13 : decode m_X8_write.2.1 13 = .ok (.aload_n 0, 1) := by decide +kernel
theorem dX8_write_14 : decode m_X8_write.2.1 14 = .ok (.getfield 64, 3) := by decide +kernel
theorem dX8_write_17 : decode m_X8_write.2.1 17 = .ok (.iload_n 1, 1) := by decide +kernel
theorem dX8_write_18 : decode m_X8_write.2.1 18 = .ok (.iastore, 1) := by decide +kernel
theorem dX8_write_19 : decode m_X8_write.2.1 19 = .ok (.aload_n 0, 1) := by decide +kernel
theorem dX8_write_20 : decode m_X8_write.2.1 20 = .ok (.dup, 1) := by decide +kernel
theorem dX8_write_21 : decode m_X8_write.2.1 21 = .ok (.getfield 64, 3) := by decide +kernel
theorem dX8_write_24 : decode m_X8_write.2.1 24 = .ok (.iconst 1, 1) := by decide +kernel
theorem dX8_write_25 : decode m_X8_write.2.1 25 = .ok (.iadd, 1) := by decide +kernel
theorem dX8_write_26 : decode m_X8_write.2.1 26 = .ok (.putfield 64, 3) := by decide +kernel
theorem dX8_write_29 : decode m_X8_write.2.1 29 = .ok (.return_, 1) := by decide +kernel
theorem dX9_init_0 : decode m_X9_init.2.1 0 = .ok (.aload_n 0, 1) := by decide +kernel
theorem dX9_init_1 : decode m_X9_init.2.1 1 = .ok (.invokespecial 3, 3) := by decide +kernel
theorem dX9_init_4 : decode m_X9_init.2.1 4 = .ok (.aload_n 0, 1) := by decide +kernel
theorem dX9_init_5 : decode m_X9_init.2.1 5 = .ok (.bipush 12, 2) := by decide +kernel
theorem dX9_init_7 : decode m_X9_init.2.1 7 = .ok (.newarray .int, 2) := by decide +kernel
theorem dX9_init_9 : decode m_X9_init.2.1 9 = .ok (.putfield 9, 3) := by decide +kernel
theorem dX9_init_12 : decode m_X9_init.2.1 12 = .ok (.aload_n 0, 1) := by decide +kernel
theorem dX9_init_13 : decode m_X9_init.2.1 13 = .ok (.bipush 12, 2) := by decide +kernel
theorem dX9_init_15 : decode m_X9_init.2.1 15 = .ok (.newarray .int, 2) := by decide +kernel
theorem dX9_init_17 : decode m_X9_init.2.1 17 = .ok (.putfield 15, 3) := by decide +kernel
theorem dX9_init_20 : decode m_X9_init.2.1 20 = .ok (.aload_n 0, 1) := by decide +kernel
theorem dX9_init_21 : decode m_X9_init.2.1 21 = .ok (.bipush 12, 2) := by decide +kernel
theorem dX9_init_23 : decode m_X9_init.2.1 23 = .ok (.newarray .int, 2) := by decide +kernel
theorem dX9_init_25 : decode m_X9_init.2.1 25 = .ok (.putfield 18, 3) := by decide +kernel
theorem dX9_init_28 : decode m_X9_init.2.1 28 = .ok (.aload_n 0, 1) := by decide +kernel
theorem dX9_init_29 : decode m_X9_init.2.1 29 = .ok (.bipush 12, 2) := by decide +kernel
theorem dX9_init_31 : decode m_X9_init.2.1 31 = .ok (.bipush 96, 2) := by decide +kernel
theorem dX9_init_33 : decode m_X9_init.2.1 33 = .ok (.multianewarray 21 2, 4) := by decide +kernel
theorem dX9_init_37 : decode m_X9_init.2.1 37 = .ok (.putfield 23, 3) := by decide +kernel
theorem dX9_init_40 : decode m_X9_init.2.1 40 = .ok (.aload_n 0, 1) := by decide +kernel
theorem dX9_init_41 : decode m_X9_init.2.1 41 = .ok (.bipush 12, 2) := by decide +kernel
theorem dX9_init_43 : decode m_X9_init.2.1 43 = .ok (.newarray .int, 2) := by decide +kernel
theorem dX9_init_45 : decode m_X9_init.2.1 45 = .ok (.putfield 26, 3) := by decide +kernel
theorem dX9_init_48 : decode m_X9_init.2.1 48 = .ok (.aload_n 0, 1) := by decide +kernel
theorem dX9_init_49 : decode m_X9_init.2.1 49 = .ok (.iconst 0, 1) := by decide +kernel
theorem dX9_init_50 : decode m_X9_init.2.1 50 = .ok (.putfield 29, 3) := by decide +kernel
theorem dX9_init_53 : decode m_X9_init.2.1 53 = .ok (.aload_n 0, 1) := by decide +kernel
theorem dX9_init_54 : decode m_X9_init.2.1 54 = .ok (.bipush 26, 2) := by decide +kernel
theorem dX9_init_56 : decode m_X9_init.2.1 56 = .ok (.newarray .int, 2) := by decide +kernel
theorem dX9_init_58 : decode m_X9_init.2.1 58 = .ok (.putfield 33, 3) := by decide +kernel
theorem dX9_init_61 : decode m_X9_init.2.1 61 = .ok (.aload_n 0, 1) := by decide +kernel
theorem dX9_init_62 : decode m_X9_init.2.1 62 = .ok (.bipush 96, 2) := by decide +kernel
theorem dX9_init_64 : decode m_X9_init.2.1 64 = .ok (.newarray .int, 2) := by decide +kernel
theorem dX9_init_66 : decode m_X9_init.2.1 66 = .ok (.putfield 36, 3) := by decide +kernel
theorem dX9_init_69 : decode m_X9_init.2.1 69 = .ok (.return_, 1) := by decide +kernel
theorem dX9_become_0 : decode m_X9_become.2.1 0 = .ok (.aload_n 0, 1) := by decide +kernel
theorem dX9_become_1 : decode m_X9_become.2.1 1 = .ok (.aload_n 1, 1) := by decide +kernel
theorem dX9_become_2 : decode m_X9_become.2.1 2 = .ok (.getfield 29, 3) := by decide +kernel
theorem dX9_become_5 : decode m_X9_become.2.1 5 = .ok (.putfield 29, 3) := by decide +kernel
theorem dX9_become_8 : decode m_X9_become.2.1 8 = .ok (.aload_n 1, 1) := by decide +kernel
theorem dX9_become_9 : decode m_X9_become.2.1 9 = .ok (.getfield 9, 3) := by decide +kernel
theorem dX9_become_12 : decode m_X9_become.2.1 12 = .ok (.iconst 0, 1) := by decide +kernel
theorem dX9_become_13 : decode m_X9_become.2.1 13 = .ok (.aload_n 0, 1) := by decide +kernel
theorem dX9_become_14 : decode m_X9_become.2.1 14 = .ok (.getfield 9, 3) := by decide +kernel
theorem dX9_become_17 : decode m_X9_become.2.1 17 = .ok (.iconst 0, 1) := by decide +kernel
theorem dX9_become_18 : decode m_X9_become.2.1 18 = .ok (.aload_n 0, 1) := by decide +kernel
theorem dX9_become_19 : decode m_X9_become.2.1 19 = .ok (.getfield 29, 3) := by decide +kernel
theorem dX9_become_22 : decode m_X9_become.2.1 22 = .ok (.invokestatic 39, 3) := by decide +kernel
theorem dX9_become_25 : decode m_X9_become.2.1 25 = .ok (.aload_n 1, 1) := by decide +kernel
theorem dX9_become_26 : decode m_X9_become.2.1 26 = .ok (.getfield 15, 3) := by decide +kernel
theorem dX9_become_29 : decode m_X9_become.2.1 29 = .ok (.iconst 0, 1) := by decide +kernel
theorem dX9_become_30 : decode m_X9_become.2.1 30 = .ok (.aload_n 0, 1) := by decide +kernel
theorem dX9_become_31 : decode m_X9_become.2.1 31 = .ok (.getfield 15, 3) := by decide +kernel
theorem dX9_become_34 : decode m_X9_become.2.1 34 = .ok (.iconst 0, 1) := by decide +kernel
theorem dX9_become_35 : decode m_X9_become.2.1 35 = .ok (.aload_n 0, 1) := by decide +kernel
theorem dX9_become_36 : decode m_X9_become.2.1 36 = .ok (.getfield 29, 3) := by decide +kernel
theorem dX9_become_39 : decode m_X9_become.2.1 39 = .ok (.invokestatic 39, 3) := by decide +kernel
theorem dX9_become_42 : decode m_X9_become.2.1 42 = .ok (.aload_n 1, 1) := by decide +kernel
theorem dX9_become_43 : decode m_X9_become.2.1 43 = .ok (.getfield 18, 3) := by decide +kernel
theorem dX9_become_46 : decode m_X9_become.2.1 46 = .ok (.iconst 0, 1) := by decide +kernel
theorem dX9_become_47 : decode m_X9_become.2.1 47 = .ok (.aload_n 0, 1) := by decide +kernel
theorem dX9_become_48 : decode m_X9_become.2.1 48 = .ok (.getfield 18, 3) := by decide +kernel
theorem dX9_become_51 : decode m_X9_become.2.1 51 = .ok (.iconst 0, 1) := by decide +kernel
theorem dX9_become_52 : decode m_X9_become.2.1 52 = .ok (.aload_n 0, 1) := by decide +kernel
theorem dX9_become_53 : decode m_X9_become.2.1 53 = .ok (.getfield 29, 3) := by decide +kernel
theorem dX9_become_56 : decode m_X9_become.2.1 56 = .ok (.invokestatic 39, 3) := by decide +kernel
theorem dX9_become_59 : decode m_X9_become.2.1 59 = .ok (.aload_n 1, 1) := by decide +kernel
theorem dX9_become_60 : decode m_X9_become.2.1 60 = .ok (.getfield 26, 3) := by decide +kernel
theorem dX9_become_63 : decode m_X9_become.2.1 63 = .ok (.iconst 0, 1) := by decide +kernel
theorem dX9_become_64 : decode m_X9_become.2.1 64 = .ok (.aload_n 0, 1) := by decide +kernel
theorem dX9_become_65 : decode m_X9_become.2.1 65 = .ok (.getfield 26, 3) := by decide +kernel
theorem dX9_become_68 : decode m_X9_become.2.1 68 = .ok (.iconst 0, 1) := by decide +kernel
theorem dX9_become_69 : decode m_X9_become.2.1 69 = .ok (.aload_n 0, 1) := by decide +kernel
theorem dX9_become_70 : decode m_X9_become.2.1 70 = .ok (.getfield 29, 3) := by decide +kernel
theorem dX9_become_73 : decode m_X9_become.2.1 73 = .ok (.invokestatic 39, 3) := by decide +kernel
theorem dX9_become_76 : decode m_X9_become.2.1 76 = .ok (.iconst 0, 1) := by decide +kernel
theorem dX9_become_77 : decode m_X9_become.2.1 77 = .ok (.istore_n 2, 1) := by decide +kernel
theorem dX9_become_78 : decode m_X9_become.2.1 78 = .ok (.iload_n 2, 1) := by decide +kernel
theorem dX9_become_79 : decode m_X9_become.2.1 79 = .ok (.aload_n 0, 1) := by decide +kernel
theorem dX9_become_80 : decode m_X9_become.2.1 80 = .ok (.getfield 29, 3) := by decide +kernel
theorem dX9_become_83 : decode m_X9_become.2.1 83 = .ok (.if_icmp .ge 32, 3) := by decide +kernel
theorem dX9_become_86 : decode m_X9_become.2.1 86 = .ok (.aload_n 1, 1) := by decide +kernel
theorem dX9_become_87 : decode m_X9_become.2.1 87 = .ok (.getfield 23, 3) := by decide +kernel
theorem dX9_become_90 : decode m_X9_become.2.1 90 = .ok (.iload_n 2, 1) := by decide +kernel
theorem dX9_become_91 : decode m_X9_become.2.1 91 = .ok (.aaload, 1) := by decide +kernel
theorem dX9_become_92 : decode m_X9_become.2.1 92 = .ok (.iconst 0, 1) := by decide +kernel
theorem dX9_become_93 : decode m_X9_become.2.1 93 = .ok (.aload_n 0, 1) := by decide +kernel
theorem dX9_become_94 : decode m_X9_become.2.1 94 = .ok (.getfield 23, 3) := by decide +kernel
theorem dX9_become_97 : decode m_X9_become.2.1 97 = .ok (.iload_n 2, 1) := by decide +kernel
theorem dX9_become_98 : decode m_X9_become.2.1 98 = .ok (.aaload, 1) := by decide +kernel
theorem dX9_become_99 : decode m_X9_become.2.1 99 = .ok (.iconst 0, 1) := by decide +kernel
theorem dX9_become_100 : decode m_X9_become.2.1 100 = .ok (.aload_n 0, 1) := by decide +kernel
theorem dX9_become_101 : decode m_X9_become.2.1 101 = .ok (.getfield 26, 3) := by decide +kernel
theorem dX9_become_104 : decode m_X9_become.2.1 104 = .ok (.iload_n 2, 1) := by decide +kernel
theorem dX9_become_105 : decode m_X9_become.2.1 105 = .ok (.iaload, 1) := by decide +kernel
theorem dX9_become_106 : decode m_X9_become.2.1 106 = .ok (.invokestatic 39, 3) := by decide +kernel
theorem dX9_become_109 : decode m_X9_become.2.1 109 = .ok (.iinc 2 1, 3) := by decide +kernel
theorem dX9_become_112 : decode m_X9_become.2.1 112 = .ok (.goto (-34), 3) := by decide +kernel
theorem dX9_become_115 : decode m_X9_become.2.1 115 = .ok (.return_, 1) := by decide +kernel
theorem dX9_has_0 : decode m_X9_has.2.1 0 = .ok (.iload_n 1, 1) := by decide +kernel
theorem dX9_has_1 : decode m_X9_has.2.1 1 = .ok (.ifCond .lt 15, 3) := by decide +kernel
theorem dX9_has_4 : decode m_X9_has.2.1 4 = .ok (.iload_n 1, 1) := by decide +kernel
theorem dX9_has_5 : decode m_X9_has.2.1 5 = .ok (.aload_n 0, 1) := by decide +kernel
theorem dX9_has_6 : decode m_X9_has.2.1 6 = .ok (.getfield 29, 3) := by decide +kernel
theorem dX9_has_9 : decode m_X9_has.2.1 9 = .ok (.if_icmp .ge 7, 3) := by decide +kernel
theorem dX9_has_12 : decode m_X9_has.2.1 12 = .ok (.iconst 1, 1) := by decide +kernel
theorem dX9_has_13 : decode m_X9_has.2.1 13 = .ok (.goto 4, 3) := by decide +kernel
theorem dX9_has_16 : decode m_X9_has.2.1 16 = .ok (.iconst 0, 1) := by decide +kernel
theorem dX9_has_17 : decode m_X9_has.2.1 17 = .ok (.ireturn, 1) := by decide +kernel
theorem dX9_add_0 : decode m_X9_add.2.1 0 = .ok (.aload_n 0, 1) := by decide +kernel
theorem dX9_add_1 : decode m_X9_add.2.1 1 = .ok (.getfield 29, 3) := by decide +kernel
theorem dX9_add_4 : decode m_X9_add.2.1 4 = .ok (.bipush 12, 2) := by decide +kernel
theorem dX9_add_6 : decode m_X9_add.2.1 6 = .ok (.if_icmp .lt 6, 3) := by decide +kernel
theorem dX9_add_9 : decode m_X9_add.2.1 9 = .ok (.ldc 45, 2) := by decide +kernel
theorem dX9_add_11 : decode m_X9_add.2.1 11 = .ok (.ireturn, 1) := by decide +kernel
theorem dX9_add_12 : decode m_X9_add.2.1 12 = .ok (.aload_n 0, 1) := by decide +kernel
theorem dX9_add_13 : decode m_X9_add.2.1 13 = .ok (.getfield 29, 3) := by decide +kernel
theorem dX9_add_16 : decode m_X9_add.2.1 16 = .ok (.istore_n 2, 1) := by decide +kernel
theorem dX9_add_17 : decode m_X9_add.2.1 17 = .ok (.aload_n 0, 1) := by decide +kernel
theorem dX9_add_18 : decode m_X9_add.2.1 18 = .ok (.getfield 9, 3) := by decide +kernel
theorem dX9_add_21 : decode m_X9_add.2.1 21 = .ok (.iload_n 2, 1) := by decide +kernel
theorem dX9_add_22 : decode m_X9_add.2.1 22 = .ok (.aload_n 1, 1) := by decide +kernel
theorem dX9_add_23 : decode m_X9_add.2.1 23 = .ok (.getfield 46, 3) := by decide +kernel
theorem dX9_add_26 : decode m_X9_add.2.1 26 = .ok (.iastore, 1) := by decide +kernel
theorem dX9_add_27 : decode m_X9_add.2.1 27 = .ok (.aload_n 0, 1) := by decide +kernel
theorem dX9_add_28 : decode m_X9_add.2.1 28 = .ok (.getfield 15, 3) := by decide +kernel
theorem dX9_add_31 : decode m_X9_add.2.1 31 = .ok (.iload_n 2, 1) := by decide +kernel
theorem dX9_add_32 : decode m_X9_add.2.1 32 = .ok (.aload_n 1, 1) := by decide +kernel
theorem dX9_add_33 : decode m_X9_add.2.1 33 = .ok (.getfield 50, 3) := by decide +kernel
theorem dX9_add_36 : decode m_X9_add.2.1 36 = .ok (.iastore, 1) := by decide +kernel
theorem dX9_add_37 : decode m_X9_add.2.1 37 = .ok (.aload_n 0, 1) := by decide +kernel
theorem dX9_add_38 : decode m_X9_add.2.1 38 = .ok (.getfield 18, 3) := by decide +kernel
theorem dX9_add_41 : decode m_X9_add.2.1 41 = .ok (.iload_n 2, 1) := by decide +kernel
theorem dX9_add_42 : decode m_X9_add.2.1 42 = .ok (.aload_n 1, 1) := by decide +kernel
theorem dX9_add_43 : decode m_X9_add.2.1 43 = .ok (.getfield 52, 3) := by decide +kernel
theorem dX9_add_46 : decode m_X9_add.2.1 46 = .ok (.iastore, 1) := by decide +kernel
theorem dX9_add_47 : decode m_X9_add.2.1 47 = .ok (.aload_n 0, 1) := by decide +kernel
theorem dX9_add_48 : decode m_X9_add.2.1 48 = .ok (.getfield 26, 3) := by decide +kernel
theorem dX9_add_51 : decode m_X9_add.2.1 51 = .ok (.iload_n 2, 1) := by decide +kernel
theorem dX9_add_52 : decode m_X9_add.2.1 52 = .ok (.aload_n 1, 1) := by decide +kernel
theorem dX9_add_53 : decode m_X9_add.2.1 53 = .ok (.getfield 54, 3) := by decide +kernel
theorem dX9_add_56 : decode m_X9_add.2.1 56 = .ok (.iastore, 1) := by decide +kernel
theorem dX9_add_57 : decode m_X9_add.2.1 57 = .ok (.aload_n 1, 1) := by decide +kernel
theorem dX9_add_58 : decode m_X9_add.2.1 58 = .ok (.getfield 56, 3) := by decide +kernel
theorem dX9_add_61 : decode m_X9_add.2.1 61 = .ok (.iconst 0, 1) := by decide +kernel
theorem dX9_add_62 : decode m_X9_add.2.1 62 = .ok (.aload_n 0, 1) := by decide +kernel
theorem dX9_add_63 : decode m_X9_add.2.1 63 = .ok (.getfield 23, 3) := by decide +kernel
theorem dX9_add_66 : decode m_X9_add.2.1 66 = .ok (.iload_n 2, 1) := by decide +kernel
theorem dX9_add_67 : decode m_X9_add.2.1 67 = .ok (.aaload, 1) := by decide +kernel
theorem dX9_add_68 : decode m_X9_add.2.1 68 = .ok (.iconst 0, 1) := by decide +kernel
theorem dX9_add_69 : decode m_X9_add.2.1 69 = .ok (.aload_n 1, 1) := by decide +kernel
theorem dX9_add_70 : decode m_X9_add.2.1 70 = .ok (.getfield 54, 3) := by decide +kernel
theorem dX9_add_73 : decode m_X9_add.2.1 73 = .ok (.invokestatic 39, 3) := by decide +kernel
theorem dX9_add_76 : decode m_X9_add.2.1 76 = .ok (.aload_n 0, 1) := by decide +kernel
theorem dX9_add_77 : decode m_X9_add.2.1 77 = .ok (.dup, 1) := by decide +kernel
theorem dX9_add_78 : decode m_X9_add.2.1 78 = .ok (.getfield 29, 3) := by decide +kernel
theorem dX9_add_81 : decode m_X9_add.2.1 81 = .ok (.iconst 1, 1) := by decide +kernel
theorem dX9_add_82 : decode m_X9_add.2.1 82 = .ok (.iadd, 1) := by decide +kernel
theorem dX9_add_83 : decode m_X9_add.2.1 83 = .ok (.putfield 29, 3) := by decide +kernel
theorem dX9_add_86 : decode m_X9_add.2.1 86 = .ok (.iload_n 2, 1) := by decide +kernel
theorem dX9_add_87 : decode m_X9_add.2.1 87 = .ok (.ireturn, 1) := by decide +kernel
theorem dX9_lastOf_0 : decode m_X9_lastOf.2.1 0 = .ok (.aload_n 0, 1) := by decide +kernel
theorem dX9_lastOf_1 : decode m_X9_lastOf.2.1 1 = .ok (.getfield 29, 3) := by decide +kernel
theorem dX9_lastOf_4 : decode m_X9_lastOf.2.1 4 = .ok (.iconst 1, 1) := by decide +kernel
theorem dX9_lastOf_5 : decode m_X9_lastOf.2.1 5 = .ok (.isub, 1) := by decide +kernel
theorem dX9_lastOf_6 : decode m_X9_lastOf.2.1 6 = .ok (.istore_n 3, 1) := by decide +kernel
theorem dX9_lastOf_7 : decode m_X9_lastOf.2.1 7 = .ok (.iload_n 3, 1) := by decide +kernel
theorem dX9_lastOf_8 : decode m_X9_lastOf.2.1 8 = .ok (.ifCond .lt 35, 3) := by decide +kernel
theorem dX9_lastOf_11 : decode m_X9_lastOf.2.1 11 = .ok (.aload_n 0, 1) := by decide +kernel
theorem dX9_lastOf_12 : decode m_X9_lastOf.2.1 12 = .ok (.getfield 9, 3) := by decide +kernel
theorem dX9_lastOf_15 : decode m_X9_lastOf.2.1 15 = .ok (.iload_n 3, 1) := by decide +kernel
theorem dX9_lastOf_16 : decode m_X9_lastOf.2.1 16 = .ok (.iaload, 1) := by decide +kernel
theorem dX9_lastOf_17 : decode m_X9_lastOf.2.1 17 = .ok (.iload_n 1, 1) := by decide +kernel
theorem dX9_lastOf_18 : decode m_X9_lastOf.2.1 18 = .ok (.if_icmp .ne 19, 3) := by decide +kernel
theorem dX9_lastOf_21 : decode m_X9_lastOf.2.1 21 = .ok (.iload_n 1, 1) := by decide +kernel
theorem dX9_lastOf_22 : decode m_X9_lastOf.2.1 22 = .ok (.ifCond .ne 13, 3) := by decide +kernel
theorem dX9_lastOf_25 : decode m_X9_lastOf.2.1 25 = .ok (.aload_n 0, 1) := by decide +kernel
theorem dX9_lastOf_26 : decode m_X9_lastOf.2.1 26 = .ok (.getfield 15, 3) := by decide +kernel
theorem dX9_lastOf_29 : decode m_X9_lastOf.2.1 29 = .ok (.iload_n 3, 1) := by decide +kernel
theorem dX9_lastOf_30 : decode m_X9_lastOf.2.1 30 = .ok (.iaload, 1) := by decide +kernel
theorem dX9_lastOf_31 : decode m_X9_lastOf.2.1 31 = .ok (.iload_n 2, 1) := by decide +kernel
theorem dX9_lastOf_32 : decode m_X9_lastOf.2.1 32 = .ok (.if_icmp .ne 5, 3) := by decide +kernel
theorem dX9_lastOf_35 : decode m_X9_lastOf.2.1 35 = .ok (.iload_n 3, 1) := by decide +kernel
theorem dX9_lastOf_36 : decode m_X9_lastOf.2.1 36 = .ok (.ireturn, 1) := by decide +kernel
theorem dX9_lastOf_37 : decode m_X9_lastOf.2.1 37 = .ok (.iinc 3 (-1), 3) := by decide +kernel
theorem dX9_lastOf_40 : decode m_X9_lastOf.2.1 40 = .ok (.goto (-33), 3) := by decide +kernel
theorem dX9_lastOf_43 : decode m_X9_lastOf.2.1 43 = .ok (.iconst (-1), 1) := by decide +kernel
theorem dX9_lastOf_44 : decode m_X9_lastOf.2.1 44 = .ok (.ireturn, 1) := by decide +kernel
theorem dX9_name_0 : decode m_X9_name.2.1 0 = .ok (.iload_n 1, 1) := by decide +kernel
theorem dX9_name_1 : decode m_X9_name.2.1 1 = .ok (.bipush 97, 2) := by decide +kernel
theorem dX9_name_3 : decode m_X9_name.2.1 3 = .ok (.if_icmp .lt 19, 3) := by decide +kernel
theorem dX9_name_6 : decode m_X9_name.2.1 6 = .ok (.iload_n 1, 1) := by decide +kernel
theorem dX9_name_7 : decode m_X9_name.2.1 7 = .ok (.bipush 122, 2) := by decide +kernel
theorem dX9_name_9 : decode m_X9_name.2.1 9 = .ok (.if_icmp .gt 13, 3) := by decide +kernel
theorem dX9_name_12 : decode m_X9_name.2.1 12 = .ok (.aload_n 0, 1) := by decide +kernel
theorem dX9_name_13 : decode m_X9_name.2.1 13 = .ok (.getfield 33, 3) := by decide +kernel
theorem dX9_name_16 : decode m_X9_name.2.1 16 = .ok (.iload_n 1, 1) := by decide +kernel
theorem dX9_name_17 : decode m_X9_name.2.1 17 = .ok (.bipush 97, 2) := by decide +kernel
theorem dX9_name_19 : decode m_X9_name.2.1 19 = .ok (.isub, 1) := by decide +kernel
theorem dX9_name_20 : decode m_X9_name.2.1 20 = .ok (.iload_n 2, 1) := by decide +kernel
theorem dX9_name_21 : decode m_X9_name.2.1 21 = .ok (.iastore, 1) := by decide +kernel
theorem dX9_name_22 : decode m_X9_name.2.1 22 = .ok (.return_, 1) := by decide +kernel
theorem dX9_worth_0 : decode m_X9_worth.2.1 0 = .ok (.iconst 0, 1) := by decide +kernel
theorem dX9_worth_1 : decode m_X9_worth.2.1 1 = .ok (.istore_n 2, 1) := by decide +kernel
theorem dX9_worth_2 : decode m_X9_worth.2.1 2 = .ok (.iconst 0, 1) := by decide +kernel
theorem dX9_worth_3 : decode m_X9_worth.2.1 3 = .ok (.istore_n 3, 1) := by decide +kernel
theorem dX9_worth_4 : decode m_X9_worth.2.1 4 = .ok (.iload_n 3, 1) := by decide +kernel
theorem dX9_worth_5 : decode m_X9_worth.2.1 5 = .ok (.aload_n 0, 1) := by decide +kernel
theorem dX9_worth_6 : decode m_X9_worth.2.1 6 = .ok (.getfield 26, 3) := by decide +kernel
theorem dX9_worth_9 : decode m_X9_worth.2.1 9 = .ok (.iload_n 1, 1) := by decide +kernel
theorem dX9_worth_10 : decode m_X9_worth.2.1 10 = .ok (.iaload, 1) := by decide +kernel
theorem dX9_worth_11 : decode m_X9_worth.2.1 11 = .ok (.if_icmp .ge 140, 3) := by decide +kernel
theorem dX9_worth_14 : decode m_X9_worth.2.1 14 = .ok (.aload_n 0, 1) := by decide +kernel
theorem dX9_worth_15 : decode m_X9_worth.2.1 15 = .ok (.getfield 23, 3) := by decide +kernel
theorem dX9_worth_18 : decode m_X9_worth.2.1 18 = .ok (.iload_n 1, 1) := by decide +kernel
theorem dX9_worth_19 : decode m_X9_worth.2.1 19 = .ok (.aaload, 1) := by decide +kernel
theorem dX9_worth_20 : decode m_X9_worth.2.1 20 = .ok (.iload_n 3, 1) := by decide +kernel
theorem dX9_worth_21 : decode m_X9_worth.2.1 21 = .ok (.iaload, 1) := by decide +kernel
theorem dX9_worth_22 : decode m_X9_worth.2.1 22 = .ok (.istore 4, 2) := by decide +kernel
theorem dX9_worth_24 : decode m_X9_worth.2.1 24 = .ok (.iload 4, 2) := by decide +kernel
theorem dX9_worth_26 : decode m_X9_worth.2.1 26 = .ok (.ifCond .lt 44, 3) := by decide +kernel
theorem dX9_worth_29 : decode m_X9_worth.2.1 29 = .ok (.iload_n 2, 1) := by decide +kernel
theorem dX9_worth_30 : decode m_X9_worth.2.1 30 = .ok (.bipush 96, 2) := by decide +kernel
theorem dX9_worth_32 : decode m_X9_worth.2.1 32 = .ok (.if_icmp .ge 113, 3) := by decide +kernel
theorem dX9_worth_35 : decode m_X9_worth.2.1 35 = .ok (.aload_n 0, 1) := by decide +kernel
theorem dX9_worth_36 : decode m_X9_worth.2.1 36 = .ok (.getfield 36, 3) := by decide +kernel
theorem dX9_worth_39 : decode m_X9_worth.2.1 39 = .ok (.iload_n 2, 1) := by decide +kernel
theorem dX9_worth_40 : decode m_X9_worth.2.1 40 = .ok (.iload 4, 2) := by decide +kernel
theorem dX9_worth_42 : decode m_X9_worth.2.1 42 = .ok (.sipush 10000, 3) := by decide +kernel
theorem dX9_worth_45 : decode m_X9_worth.2.1 45 = .ok (.if_icmp .ge 8, 3) := by decide +kernel
theorem dX9_worth_48 : decode m_X9_worth.2.1 48 = .ok (.iload 4, 2) := by decide +kernel
theorem dX9_worth_50 : decode m_X9_worth.2.1 50 = .ok (.goto 13, 3) := by decide +kernel
theorem dX9_worth_53 : decode m_X9_worth.2.1 53 = .ok (.aload_n 0, 1) := by decide +kernel
theorem dX9_worth_54 : decode m_X9_worth.2.1 54 = .ok (.iload 4, 2) := by decide +kernel
theorem dX9_worth_56 : decode m_X9_worth.2.1 56 = .ok (.sipush 10000, 3) := by decide +kernel
theorem dX9_worth_59 : decode m_X9_worth.2.1 59 = .ok (.isub, 1) := by decide +kernel
theorem dX9_worth_60 : decode m_X9_worth.2.1 60 = .ok (.invokevirtual 58, 3) := by decide +kernel
theorem dX9_worth_63 : decode m_X9_worth.2.1 63 = .ok (.iastore, 1) := by decide +kernel
theorem dX9_worth_64 : decode m_X9_worth.2.1 64 = .ok (.iinc 2 1, 3) := by decide +kernel
theorem dX9_worth_67 : decode m_X9_worth.2.1 67 = .ok (.goto 78, 3) := by decide +kernel
theorem dX9_worth_70 : decode m_X9_worth.2.1 70 = .ok (.iload 4, 2) := by decide +kernel
theorem dX9_worth_72 : decode m_X9_worth.2.1 72 = .ok (.bipush (-33), 2) := by decide +kernel
theorem dX9_worth_74 : decode m_X9_worth.2.1 74 = .ok (.if_icmp .ne 35, 3) := by decide +kernel
theorem dX9_worth_77 : decode m_X9_worth.2.1 77 = .ok (.iload_n 2, 1) := by decide +kernel
theorem dX9_worth_78 : decode m_X9_worth.2.1 78 = .ok (.iconst 1, 1) := by decide +kernel
theorem dX9_worth_79 : decode m_X9_worth.2.1 79 = .ok (.if_icmp .lt 66, 3) := by decide +kernel
theorem dX9_worth_82 : decode m_X9_worth.2.1 82 = .ok (.aload_n 0, 1) := by decide +kernel
theorem dX9_worth_83 : decode m_X9_worth.2.1 83 = .ok (.getfield 36, 3) := by decide +kernel
theorem dX9_worth_86 : decode m_X9_worth.2.1 86 = .ok (.iload_n 2, 1) := by decide +kernel
theorem dX9_worth_87 : decode m_X9_worth.2.1 87 = .ok (.iconst 1, 1) := by decide +kernel
theorem dX9_worth_88 : decode m_X9_worth.2.1 88 = .ok (.isub, 1) := by decide +kernel
theorem dX9_worth_89 : decode m_X9_worth.2.1 89 = .ok (.aload_n 0, 1) := by decide +kernel
theorem dX9_worth_90 : decode m_X9_worth.2.1 90 = .ok (.getfield 36, 3) := by decide +kernel
theorem dX9_worth_93 : decode m_X9_worth.2.1 93 = .ok (.iload_n 2, 1) := by decide +kernel
theorem dX9_worth_94 : decode m_X9_worth.2.1 94 = .ok (.iconst 1, 1) := by decide +kernel
theorem dX9_worth_95 : decode m_X9_worth.2.1 95 = .ok (.isub, 1) := by decide +kernel
theorem dX9_worth_96 : decode m_X9_worth.2.1 96 = .ok (.iaload, 1) := by decide +kernel
theorem dX9_worth_97 : decode m_X9_worth.2.1 97 = .ok (.ifCond .ne 7, 3) := by decide +kernel
theorem dX9_worth_100 : decode m_X9_worth.2.1 100 = .ok (.iconst 1, 1) := by decide +kernel
theorem dX9_worth_101 : decode m_X9_worth.2.1 101 = .ok (.goto 4, 3) := by decide +kernel
theorem dX9_worth_104 : decode m_X9_worth.2.1 104 = .ok (.iconst 0, 1) := by decide +kernel
theorem dX9_worth_105 : decode m_X9_worth.2.1 105 = .ok (.iastore, 1) := by decide +kernel
theorem dX9_worth_106 : decode m_X9_worth.2.1 106 = .ok (.goto 39, 3) := by decide +kernel
theorem dX9_worth_109 : decode m_X9_worth.2.1 109 = .ok (.iload_n 2, 1) := by decide +kernel
theorem dX9_worth_110 : decode m_X9_worth.2.1 110 = .ok (.iconst 2, 1) := by decide +kernel
theorem dX9_worth_111 : decode m_X9_worth.2.1 111 = .ok (.if_icmp .lt 34, 3) := by decide +kernel
theorem dX9_worth_114 : decode m_X9_worth.2.1 114 = .ok (.iinc 2 (-1), 3) := by decide +kernel
theorem dX9_worth_117 : decode m_X9_worth.2.1 117 = .ok (.aload_n 0, 1) := by decide +kernel
theorem dX9_worth_118 : decode m_X9_worth.2.1 118 = .ok (.getfield 36, 3) := by decide +kernel
theorem dX9_worth_121 : decode m_X9_worth.2.1 121 = .ok (.iload_n 2, 1) := by decide +kernel
theorem dX9_worth_122 : decode m_X9_worth.2.1 122 = .ok (.iconst 1, 1) := by decide +kernel
theorem dX9_worth_123 : decode m_X9_worth.2.1 123 = .ok (.isub, 1) := by decide +kernel
theorem dX9_worth_124 : decode m_X9_worth.2.1 124 = .ok (.iload 4, 2) := by decide +kernel
theorem dX9_worth_126 : decode m_X9_worth.2.1 126 = .ok (.ineg, 1) := by decide +kernel
theorem dX9_worth_127 : decode m_X9_worth.2.1 127 = .ok (.aload_n 0, 1) := by decide +kernel
theorem dX9_worth_128 : decode m_X9_worth.2.1 128 = .ok (.getfield 36, 3) := by decide +kernel
theorem dX9_worth_131 : decode m_X9_worth.2.1 131 = .ok (.iload_n 2, 1) := by decide +kernel
theorem dX9_worth_132 : decode m_X9_worth.2.1 132 = .ok (.iconst 1, 1) := by decide +kernel
theorem dX9_worth_133 : decode m_X9_worth.2.1 133 = .ok (.isub, 1) := by decide +kernel
theorem dX9_worth_134 : decode m_X9_worth.2.1 134 = .ok (.iaload, 1) := by decide +kernel
theorem dX9_worth_135 : decode m_X9_worth.2.1 135 = .ok (.aload_n 0, 1) := by decide +kernel
theorem dX9_worth_136 : decode m_X9_worth.2.1 136 = .ok (.getfield 36, 3) := by decide +kernel
theorem dX9_worth_139 : decode m_X9_worth.2.1 139 = .ok (.iload_n 2, 1) := by decide +kernel
theorem dX9_worth_140 : decode m_X9_worth.2.1 140 = .ok (.iaload, 1) := by decide +kernel
theorem dX9_worth_141 : decode m_X9_worth.2.1 141 = .ok (.invokestatic 62, 3) := by decide +kernel
theorem dX9_worth_144 : decode m_X9_worth.2.1 144 = .ok (.iastore, 1) := by decide +kernel
theorem dX9_worth_145 : decode m_X9_worth.2.1 145 = .ok (.iinc 3 1, 3) := by decide +kernel
theorem dX9_worth_148 : decode m_X9_worth.2.1 148 = .ok (.goto (-144), 3) := by decide +kernel
theorem dX9_worth_151 : decode m_X9_worth.2.1 151 = .ok (.aload_n 0, 1) := by decide +kernel
theorem dX9_worth_152 : decode m_X9_worth.2.1 152 = .ok (.getfield 36, 3) := by decide +kernel
theorem dX9_worth_155 : decode m_X9_worth.2.1 155 = .ok (.iconst 0, 1) := by decide +kernel
theorem dX9_worth_156 : decode m_X9_worth.2.1 156 = .ok (.iaload, 1) := by decide +kernel
theorem dX9_worth_157 : decode m_X9_worth.2.1 157 = .ok (.ireturn, 1) := by decide +kernel
theorem dX9_valueOf_0 : decode m_X9_valueOf.2.1 0 = .ok (.iload_n 1, 1) := by decide +kernel
theorem dX9_valueOf_1 : decode m_X9_valueOf.2.1 1 = .ok (.ifCond .lt 18, 3) := by decide +kernel
theorem dX9_valueOf_4 : decode m_X9_valueOf.2.1 4 = .ok (.iload_n 1, 1) := by decide +kernel
theorem dX9_valueOf_5 : decode m_X9_valueOf.2.1 5 = .ok (.bipush 26, 2) := by decide +kernel
theorem dX9_valueOf_7 : decode m_X9_valueOf.2.1 7 = .ok (.if_icmp .ge 12, 3) := by decide +kernel
theorem dX9_valueOf_10 : decode m_X9_valueOf.2.1 10 = .ok (.aload_n 0, 1) := by decide +kernel
theorem dX9_valueOf_11 : decode m_X9_valueOf.2.1 11 = .ok (.getfield 33, 3) := by decide +kernel
theorem dX9_valueOf_14 : decode m_X9_valueOf.2.1 14 = .ok (.iload_n 1, 1) := by decide +kernel
theorem dX9_valueOf_15 : decode m_X9_valueOf.2.1 15 = .ok (.iaload, 1) := by decide +kernel
theorem dX9_valueOf_16 : decode m_X9_valueOf.2.1 16 = .ok (.goto 4, 3) := by decide +kernel
theorem dX9_valueOf_19 : decode m_X9_valueOf.2.1 19 = .ok (.iconst 0, 1) := by decide +kernel
theorem dX9_valueOf_20 : decode m_X9_valueOf.2.1 20 = .ok (.ireturn, 1) := by decide +kernel
theorem dX9_joined_0 : decode m_X9_joined.2.1 0 = .ok (.iload_n 0, 1) := by decide +kernel
theorem dX9_joined_1 : decode m_X9_joined.2.1 1 = .ok (.lookupswitch 148 #[(38, 89), (42, 144), (43, 136), (45, 140), (60, 103), (61, 114), (62, 125), (124, 75)], 75) := by decide +kernel
theorem dX9_joined_76 : decode m_X9_joined.2.1 76 = .ok (.iload_n 1, 1) := by decide +kernel
theorem dX9_joined_77 : decode m_X9_joined.2.1 77 = .ok (.ifCond .ne 7, 3) := by decide +kernel
theorem dX9_joined_80 : decode m_X9_joined.2.1 80 = .ok (.iload_n 2, 1) := by decide +kernel
theorem dX9_joined_81 : decode m_X9_joined.2.1 81 = .ok (.ifCond .eq 7, 3) := by decide +kernel
theorem dX9_joined_84 : decode m_X9_joined.2.1 84 = .ok (.iconst 1, 1) := by decide +kernel
theorem dX9_joined_85 : decode m_X9_joined.2.1 85 = .ok (.goto 4, 3) := by decide +kernel
theorem dX9_joined_88 : decode m_X9_joined.2.1 88 = .ok (.iconst 0, 1) := by decide +kernel
theorem dX9_joined_89 : decode m_X9_joined.2.1 89 = .ok (.ireturn, 1) := by decide +kernel
theorem dX9_joined_90 : decode m_X9_joined.2.1 90 = .ok (.iload_n 1, 1) := by decide +kernel
theorem dX9_joined_91 : decode m_X9_joined.2.1 91 = .ok (.ifCond .eq 11, 3) := by decide +kernel
theorem dX9_joined_94 : decode m_X9_joined.2.1 94 = .ok (.iload_n 2, 1) := by decide +kernel
theorem dX9_joined_95 : decode m_X9_joined.2.1 95 = .ok (.ifCond .eq 7, 3) := by decide +kernel
theorem dX9_joined_98 : decode m_X9_joined.2.1 98 = .ok (.iconst 1, 1) := by decide +kernel
theorem dX9_joined_99 : decode m_X9_joined.2.1 99 = .ok (.goto 4, 3) := by decide +kernel
theorem dX9_joined_102 : decode m_X9_joined.2.1 102 = .ok (.iconst 0, 1) := by decide +kernel
theorem dX9_joined_103 : decode m_X9_joined.2.1 103 = .ok (.ireturn, 1) := by decide +kernel
theorem dX9_joined_104 : decode m_X9_joined.2.1 104 = .ok (.iload_n 1, 1) := by decide +kernel
theorem dX9_joined_105 : decode m_X9_joined.2.1 105 = .ok (.iload_n 2, 1) := by decide +kernel
theorem dX9_joined_106 : decode m_X9_joined.2.1 106 = .ok (.if_icmp .ge 7, 3) := by decide +kernel
theorem dX9_joined_109 : decode m_X9_joined.2.1 109 = .ok (.iconst 1, 1) := by decide +kernel
theorem dX9_joined_110 : decode m_X9_joined.2.1 110 = .ok (.goto 4, 3) := by decide +kernel
theorem dX9_joined_113 : decode m_X9_joined.2.1 113 = .ok (.iconst 0, 1) := by decide +kernel
theorem dX9_joined_114 : decode m_X9_joined.2.1 114 = .ok (.ireturn, 1) := by decide +kernel
theorem dX9_joined_115 : decode m_X9_joined.2.1 115 = .ok (.iload_n 1, 1) := by decide +kernel
theorem dX9_joined_116 : decode m_X9_joined.2.1 116 = .ok (.iload_n 2, 1) := by decide +kernel
theorem dX9_joined_117 : decode m_X9_joined.2.1 117 = .ok (.if_icmp .ne 7, 3) := by decide +kernel
theorem dX9_joined_120 : decode m_X9_joined.2.1 120 = .ok (.iconst 1, 1) := by decide +kernel
theorem dX9_joined_121 : decode m_X9_joined.2.1 121 = .ok (.goto 4, 3) := by decide +kernel
theorem dX9_joined_124 : decode m_X9_joined.2.1 124 = .ok (.iconst 0, 1) := by decide +kernel
theorem dX9_joined_125 : decode m_X9_joined.2.1 125 = .ok (.ireturn, 1) := by decide +kernel
theorem dX9_joined_126 : decode m_X9_joined.2.1 126 = .ok (.iload_n 1, 1) := by decide +kernel
theorem dX9_joined_127 : decode m_X9_joined.2.1 127 = .ok (.iload_n 2, 1) := by decide +kernel
theorem dX9_joined_128 : decode m_X9_joined.2.1 128 = .ok (.if_icmp .le 7, 3) := by decide +kernel
theorem dX9_joined_131 : decode m_X9_joined.2.1 131 = .ok (.iconst 1, 1) := by decide +kernel
theorem dX9_joined_132 : decode m_X9_joined.2.1 132 = .ok (.goto 4, 3) := by decide +kernel
theorem dX9_joined_135 : decode m_X9_joined.2.1 135 = .ok (.iconst 0, 1) := by decide +kernel
theorem dX9_joined_136 : decode m_X9_joined.2.1 136 = .ok (.ireturn, 1) := by decide +kernel
theorem dX9_joined_137 : decode m_X9_joined.2.1 137 = .ok (.iload_n 1, 1) := by decide +kernel
theorem dX9_joined_138 : decode m_X9_joined.2.1 138 = .ok (.iload_n 2, 1) := by decide +kernel
theorem dX9_joined_139 : decode m_X9_joined.2.1 139 = .ok (.iadd, 1) := by decide +kernel
theorem dX9_joined_140 : decode m_X9_joined.2.1 140 = .ok (.ireturn, 1) := by decide +kernel
theorem dX9_joined_141 : decode m_X9_joined.2.1 141 = .ok (.iload_n 1, 1) := by decide +kernel
theorem dX9_joined_142 : decode m_X9_joined.2.1 142 = .ok (.iload_n 2, 1) := by decide +kernel
theorem dX9_joined_143 : decode m_X9_joined.2.1 143 = .ok (.isub, 1) := by decide +kernel
theorem dX9_joined_144 : decode m_X9_joined.2.1 144 = .ok (.ireturn, 1) := by decide +kernel
theorem dX9_joined_145 : decode m_X9_joined.2.1 145 = .ok (.iload_n 1, 1) := by decide +kernel
theorem dX9_joined_146 : decode m_X9_joined.2.1 146 = .ok (.iload_n 2, 1) := by decide +kernel
theorem dX9_joined_147 : decode m_X9_joined.2.1 147 = .ok (.imul, 1) := by decide +kernel
theorem dX9_joined_148 : decode m_X9_joined.2.1 148 = .ok (.ireturn, 1) := by decide +kernel
theorem dX9_joined_149 : decode m_X9_joined.2.1 149 = .ok (.iload_n 2, 1) := by decide +kernel
theorem dX9_joined_150 : decode m_X9_joined.2.1 150 = .ok (.ifCond .ne 7, 3) := by decide +kernel
theorem dX9_joined_153 : decode m_X9_joined.2.1 153 = .ok (.iconst 0, 1) := by decide +kernel
theorem dX9_joined_154 : decode m_X9_joined.2.1 154 = .ok (.goto 6, 3) := by decide +kernel
theorem dX9_joined_157 : decode m_X9_joined.2.1 157 = .ok (.iload_n 1, 1) := by decide +kernel
theorem dX9_joined_158 : decode m_X9_joined.2.1 158 = .ok (.iload_n 2, 1) := by decide +kernel
theorem dX9_joined_159 : decode m_X9_joined.2.1 159 = .ok (.idiv, 1) := by decide +kernel
theorem dX9_joined_160 : decode m_X9_joined.2.1 160 = .ok (.ireturn, 1) := by decide +kernel
theorem dX10_init_0 : decode m_X10_init.2.1 0 = .ok (.aload_n 0, 1) := by decide +kernel
theorem dX10_init_1 : decode m_X10_init.2.1 1 = .ok (.invokespecial 1, 3) := by decide +kernel
theorem dX10_init_4 : decode m_X10_init.2.1 4 = .ok (.aload_n 0, 1) := by decide +kernel
theorem dX10_init_5 : decode m_X10_init.2.1 5 = .ok (.new 7, 3) := by decide +kernel
theorem dX10_init_8 : decode m_X10_init.2.1 8 = .ok (.dup, 1) := by decide +kernel
theorem dX10_init_9 : decode m_X10_init.2.1 9 = .ok (.invokespecial 9, 3) := by decide +kernel
theorem dX10_init_12 : decode m_X10_init.2.1 12 = .ok (.putfield 10, 3) := by decide +kernel
theorem dX10_init_15 : decode m_X10_init.2.1 15 = .ok (.aload_n 0, 1) := by decide +kernel
theorem dX10_init_16 : decode m_X10_init.2.1 16 = .ok (.new 7, 3) := by decide +kernel
theorem dX10_init_19 : decode m_X10_init.2.1 19 = .ok (.dup, 1) := by decide +kernel
theorem dX10_init_20 : decode m_X10_init.2.1 20 = .ok (.invokespecial 9, 3) := by decide +kernel
theorem dX10_init_23 : decode m_X10_init.2.1 23 = .ok (.putfield 16, 3) := by decide +kernel
theorem dX10_init_26 : decode m_X10_init.2.1 26 = .ok (.aload_n 0, 1) := by decide +kernel
theorem dX10_init_27 : decode m_X10_init.2.1 27 = .ok (.iconst 0, 1) := by decide +kernel
theorem dX10_init_28 : decode m_X10_init.2.1 28 = .ok (.putfield 19, 3) := by decide +kernel
theorem dX10_init_31 : decode m_X10_init.2.1 31 = .ok (.aload_n 0, 1) := by decide +kernel
theorem dX10_init_32 : decode m_X10_init.2.1 32 = .ok (.new 23, 3) := by decide +kernel
theorem dX10_init_35 : decode m_X10_init.2.1 35 = .ok (.dup, 1) := by decide +kernel
theorem dX10_init_36 : decode m_X10_init.2.1 36 = .ok (.invokespecial 25, 3) := by decide +kernel
theorem dX10_init_39 : decode m_X10_init.2.1 39 = .ok (.putfield 26, 3) := by decide +kernel
theorem dX10_init_42 : decode m_X10_init.2.1 42 = .ok (.aload_n 0, 1) := by decide +kernel
theorem dX10_init_43 : decode m_X10_init.2.1 43 = .ok (.new 30, 3) := by decide +kernel
theorem dX10_init_46 : decode m_X10_init.2.1 46 = .ok (.dup, 1) := by decide +kernel
theorem dX10_init_47 : decode m_X10_init.2.1 47 = .ok (.invokespecial 32, 3) := by decide +kernel
theorem dX10_init_50 : decode m_X10_init.2.1 50 = .ok (.putfield 33, 3) := by decide +kernel
theorem dX10_init_53 : decode m_X10_init.2.1 53 = .ok (.aload_n 0, 1) := by decide +kernel
theorem dX10_init_54 : decode m_X10_init.2.1 54 = .ok (.iconst 4, 1) := by decide +kernel
theorem dX10_init_55 : decode m_X10_init.2.1 55 = .ok (.anewarray 37, 3) := by decide +kernel
theorem dX10_init_58 : decode m_X10_init.2.1 58 = .ok (.putfield 39, 3) := by decide +kernel
theorem dX10_init_61 : decode m_X10_init.2.1 61 = .ok (.iconst 0, 1) := by decide +kernel
theorem dX10_init_62 : decode m_X10_init.2.1 62 = .ok (.istore_n 1, 1) := by decide +kernel
theorem dX10_init_63 : decode m_X10_init.2.1 63 = .ok (.iload_n 1, 1) := by decide +kernel
theorem dX10_init_64 : decode m_X10_init.2.1 64 = .ok (.iconst 4, 1) := by decide +kernel
theorem dX10_init_65 : decode m_X10_init.2.1 65 = .ok (.if_icmp .ge 22, 3) := by decide +kernel
theorem dX10_init_68 : decode m_X10_init.2.1 68 = .ok (.aload_n 0, 1) := by decide +kernel
theorem dX10_init_69 : decode m_X10_init.2.1 69 = .ok (.getfield 39, 3) := by decide +kernel
theorem dX10_init_72 : decode m_X10_init.2.1 72 = .ok (.iload_n 1, 1) := by decide +kernel
theorem dX10_init_73 : decode m_X10_init.2.1 73 = .ok (.new 37, 3) := by decide +kernel
theorem dX10_init_76 : decode m_X10_init.2.1 76 = .ok (.dup, 1) := by decide +kernel
theorem dX10_init_77 : decode m_X10_init.2.1 77 = .ok (.invokespecial 43, 3) := by decide +kernel
theorem dX10_init_80 : decode m_X10_init.2.1 80 = .ok (.aastore, 1) := by decide +kernel
theorem dX10_init_81 : decode m_X10_init.2.1 81 = .ok (.iinc 1 1, 3) := by decide +kernel
theorem dX10_init_84 : decode m_X10_init.2.1 84 = .ok (.goto (-21), 3) := by decide +kernel
theorem dX10_init_87 : decode m_X10_init.2.1 87 = .ok (.aload_n 0, 1) := by decide +kernel
theorem dX10_init_88 : decode m_X10_init.2.1 88 = .ok (.iconst 5, 1) := by decide +kernel
theorem dX10_init_89 : decode m_X10_init.2.1 89 = .ok (.anewarray 44, 3) := by decide +kernel
theorem dX10_init_92 : decode m_X10_init.2.1 92 = .ok (.putfield 46, 3) := by decide +kernel
theorem dX10_init_95 : decode m_X10_init.2.1 95 = .ok (.iconst 0, 1) := by decide +kernel
theorem dX10_init_96 : decode m_X10_init.2.1 96 = .ok (.istore_n 1, 1) := by decide +kernel
theorem dX10_init_97 : decode m_X10_init.2.1 97 = .ok (.iload_n 1, 1) := by decide +kernel
theorem dX10_init_98 : decode m_X10_init.2.1 98 = .ok (.iconst 5, 1) := by decide +kernel
theorem dX10_init_99 : decode m_X10_init.2.1 99 = .ok (.if_icmp .ge 22, 3) := by decide +kernel
theorem dX10_init_102 : decode m_X10_init.2.1 102 = .ok (.aload_n 0, 1) := by decide +kernel
theorem dX10_init_103 : decode m_X10_init.2.1 103 = .ok (.getfield 46, 3) := by decide +kernel
theorem dX10_init_106 : decode m_X10_init.2.1 106 = .ok (.iload_n 1, 1) := by decide +kernel
theorem dX10_init_107 : decode m_X10_init.2.1 107 = .ok (.new 44, 3) := by decide +kernel
theorem dX10_init_110 : decode m_X10_init.2.1 110 = .ok (.dup, 1) := by decide +kernel
theorem dX10_init_111 : decode m_X10_init.2.1 111 = .ok (.invokespecial 50, 3) := by decide +kernel
theorem dX10_init_114 : decode m_X10_init.2.1 114 = .ok (.aastore, 1) := by decide +kernel
theorem dX10_init_115 : decode m_X10_init.2.1 115 = .ok (.iinc 1 1, 3) := by decide +kernel
theorem dX10_init_118 : decode m_X10_init.2.1 118 = .ok (.goto (-21), 3) := by decide +kernel
theorem dX10_init_121 : decode m_X10_init.2.1 121 = .ok (.aload_n 0, 1) := by decide +kernel
theorem dX10_init_122 : decode m_X10_init.2.1 122 = .ok (.bipush 60, 2) := by decide +kernel
theorem dX10_init_124 : decode m_X10_init.2.1 124 = .ok (.newarray .int, 2) := by decide +kernel
theorem dX10_init_126 : decode m_X10_init.2.1 126 = .ok (.putfield 51, 3) := by decide +kernel
theorem dX10_init_129 : decode m_X10_init.2.1 129 = .ok (.aload_n 0, 1) := by decide +kernel
theorem dX10_init_130 : decode m_X10_init.2.1 130 = .ok (.iconst 0, 1) := by decide +kernel
theorem dX10_init_131 : decode m_X10_init.2.1 131 = .ok (.putfield 55, 3) := by decide +kernel
theorem dX10_init_134 : decode m_X10_init.2.1 134 = .ok (.return_, 1) := by decide +kernel
theorem dX10_bin_0 : decode m_X10_bin.2.1 0 = .ok (.iload_n 1, 1) := by decide +kernel
theorem dX10_bin_1 : decode m_X10_bin.2.1 1 = .ok (.invokestatic 59, 3) := by decide +kernel
theorem dX10_bin_4 : decode m_X10_bin.2.1 4 = .ok (.ifCond .eq 25, 3) := by decide +kernel
theorem dX10_bin_7 : decode m_X10_bin.2.1 7 = .ok (.iload_n 2, 1) := by decide +kernel
theorem dX10_bin_8 : decode m_X10_bin.2.1 8 = .ok (.iconst 0, 1) := by decide +kernel
theorem dX10_bin_9 : decode m_X10_bin.2.1 9 = .ok (.sipush 9999, 3) := by decide +kernel
theorem dX10_bin_12 : decode m_X10_bin.2.1 12 = .ok (.invokestatic 63, 3) := by decide +kernel
theorem dX10_bin_15 : decode m_X10_bin.2.1 15 = .ok (.ifCond .eq 14, 3) := by decide +kernel
theorem dX10_bin_18 : decode m_X10_bin.2.1 18 = .ok (.iload_n 3, 1) := by decide +kernel
theorem dX10_bin_19 : decode m_X10_bin.2.1 19 = .ok (.iconst 0, 1) := by decide +kernel
theorem dX10_bin_20 : decode m_X10_bin.2.1 20 = .ok (.sipush 9999, 3) := by decide +kernel
theorem dX10_bin_23 : decode m_X10_bin.2.1 23 = .ok (.invokestatic 63, 3) := by decide +kernel
theorem dX10_bin_26 : decode m_X10_bin.2.1 26 = .ok (.ifCond .ne 6, 3) := by decide +kernel
theorem dX10_bin_29 : decode m_X10_bin.2.1 29 = .ok (.ldc 67, 2) := by decide +kernel
theorem dX10_bin_31 : decode m_X10_bin.2.1 31 = .ok (.ireturn, 1) := by decide +kernel
theorem dX10_bin_32 : decode m_X10_bin.2.1 32 = .ok (.aload_n 0, 1) := by decide +kernel
theorem dX10_bin_33 : decode m_X10_bin.2.1 33 = .ok (.getfield 10, 3) := by decide +kernel
theorem dX10_bin_36 : decode m_X10_bin.2.1 36 = .ok (.getfield 68, 3) := by decide +kernel
theorem dX10_bin_39 : decode m_X10_bin.2.1 39 = .ok (.iload_n 1, 1) := by decide +kernel
theorem dX10_bin_40 : decode m_X10_bin.2.1 40 = .ok (.iload_n 2, 1) := by decide +kernel
theorem dX10_bin_41 : decode m_X10_bin.2.1 41 = .ok (.iload_n 3, 1) := by decide +kernel
theorem dX10_bin_42 : decode m_X10_bin.2.1 42 = .ok (.invokevirtual 72, 3) := by decide +kernel
theorem dX10_bin_45 : decode m_X10_bin.2.1 45 = .ok (.ireturn, 1) := by decide +kernel
theorem dX10_told_0 : decode m_X10_told.2.1 0 = .ok (.aload_n 0, 1) := by decide +kernel
theorem dX10_told_1 : decode m_X10_told.2.1 1 = .ok (.getfield 10, 3) := by decide +kernel
theorem dX10_told_4 : decode m_X10_told.2.1 4 = .ok (.getfield 68, 3) := by decide +kernel
theorem dX10_told_7 : decode m_X10_told.2.1 7 = .ok (.iload_n 1, 1) := by decide +kernel
theorem dX10_told_8 : decode m_X10_told.2.1 8 = .ok (.invokevirtual 78, 3) := by decide +kernel
theorem dX10_told_11 : decode m_X10_told.2.1 11 = .ok (.ifCond .ne 6, 3) := by decide +kernel
theorem dX10_told_14 : decode m_X10_told.2.1 14 = .ok (.ldc 67, 2) := by decide +kernel
theorem dX10_told_16 : decode m_X10_told.2.1 16 = .ok (.ireturn, 1) := by decide +kernel
theorem dX10_told_17 : decode m_X10_told.2.1 17 = .ok (.aload_n 0, 1) := by decide +kernel
theorem dX10_told_18 : decode m_X10_told.2.1 18 = .ok (.getfield 10, 3) := by decide +kernel
theorem dX10_told_21 : decode m_X10_told.2.1 21 = .ok (.getfield 68, 3) := by decide +kernel
theorem dX10_told_24 : decode m_X10_told.2.1 24 = .ok (.astore_n 3, 1) := by decide +kernel
theorem dX10_told_25 : decode m_X10_told.2.1 25 = .ok (.iload_n 2, 1) := by decide +kernel
theorem dX10_told_26 : decode m_X10_told.2.1 26 = .ok (.tableswitch 83 0 5 #[38, 45, 52, 59, 66, 73], 38) := by decide +kernel
theorem dX10_told_64 : decode m_X10_told.2.1 64 = .ok (.aload_n 3, 1) := by decide +kernel
theorem dX10_told_65 : decode m_X10_told.2.1 65 = .ok (.getfield 81, 3) := by decide +kernel
theorem dX10_told_68 : decode m_X10_told.2.1 68 = .ok (.iload_n 1, 1) := by decide +kernel
theorem dX10_told_69 : decode m_X10_told.2.1 69 = .ok (.iaload, 1) := by decide +kernel
theorem dX10_told_70 : decode m_X10_told.2.1 70 = .ok (.ireturn, 1) := by decide +kernel
theorem dX10_told_71 : decode m_X10_told.2.1 71 = .ok (.aload_n 3, 1) := by decide +kernel
theorem dX10_told_72 : decode m_X10_told.2.1 72 = .ok (.getfield 84, 3) := by decide +kernel
theorem dX10_told_75 : decode m_X10_told.2.1 75 = .ok (.iload_n 1, 1) := by decide +kernel
theorem dX10_told_76 : decode m_X10_told.2.1 76 = .ok (.iaload, 1) := by decide +kernel
theorem dX10_told_77 : decode m_X10_told.2.1 77 = .ok (.ireturn, 1) := by decide +kernel
theorem dX10_told_78 : decode m_X10_told.2.1 78 = .ok (.aload_n 3, 1) := by decide +kernel
theorem dX10_told_79 : decode m_X10_told.2.1 79 = .ok (.getfield 87, 3) := by decide +kernel
theorem dX10_told_82 : decode m_X10_told.2.1 82 = .ok (.iload_n 1, 1) := by decide +kernel
theorem dX10_told_83 : decode m_X10_told.2.1 83 = .ok (.iaload, 1) := by decide +kernel
theorem dX10_told_84 : decode m_X10_told.2.1 84 = .ok (.ireturn, 1) := by decide +kernel
theorem dX10_told_85 : decode m_X10_told.2.1 85 = .ok (.aload_n 3, 1) := by decide +kernel
theorem dX10_told_86 : decode m_X10_told.2.1 86 = .ok (.getfield 90, 3) := by decide +kernel
theorem dX10_told_89 : decode m_X10_told.2.1 89 = .ok (.iload_n 1, 1) := by decide +kernel
theorem dX10_told_90 : decode m_X10_told.2.1 90 = .ok (.iaload, 1) := by decide +kernel
theorem dX10_told_91 : decode m_X10_told.2.1 91 = .ok (.ireturn, 1) := by decide +kernel
theorem dX10_told_92 : decode m_X10_told.2.1 92 = .ok (.aload_n 3, 1) := by decide +kernel
theorem dX10_told_93 : decode m_X10_told.2.1 93 = .ok (.getfield 93, 3) := by decide +kernel
theorem dX10_told_96 : decode m_X10_told.2.1 96 = .ok (.iload_n 1, 1) := by decide +kernel
theorem dX10_told_97 : decode m_X10_told.2.1 97 = .ok (.iaload, 1) := by decide +kernel
theorem dX10_told_98 : decode m_X10_told.2.1 98 = .ok (.ireturn, 1) := by decide +kernel
theorem dX10_told_99 : decode m_X10_told.2.1 99 = .ok (.aload_n 3, 1) := by decide +kernel
theorem dX10_told_100 : decode m_X10_told.2.1 100 = .ok (.getfield 81, 3) := by decide +kernel
theorem dX10_told_103 : decode m_X10_told.2.1 103 = .ok (.iload_n 1, 1) := by decide +kernel
theorem dX10_told_104 : decode m_X10_told.2.1 104 = .ok (.iaload, 1) := by decide +kernel
theorem dX10_told_105 : decode m_X10_told.2.1 105 = .ok (.invokestatic 96, 3) := by decide +kernel
theorem dX10_told_108 : decode m_X10_told.2.1 108 = .ok (.ireturn, 1) := by decide +kernel
theorem dX10_told_109 : decode m_X10_told.2.1 109 = .ok (.ldc 67, 2) := by decide +kernel
theorem dX10_told_111 : decode m_X10_told.2.1 111 = .ok (.ireturn, 1) := by decide +kernel
theorem dX10_of_0 : decode m_X10_of.2.1 0 = .ok (.aload_n 0, 1) := by decide +kernel
theorem dX10_of_1 : decode m_X10_of.2.1 1 = .ok (.getfield 10, 3) := by decide +kernel
theorem dX10_of_4 : decode m_X10_of.2.1 4 = .ok (.getfield 68, 3) := by decide +kernel
theorem dX10_of_7 : decode m_X10_of.2.1 7 = .ok (.iload_n 1, 1) := by decide +kernel
theorem dX10_of_8 : decode m_X10_of.2.1 8 = .ok (.invokevirtual 78, 3) := by decide +kernel
theorem dX10_of_11 : decode m_X10_of.2.1 11 = .ok (.ifCond .eq 23, 3) := by decide +kernel
theorem dX10_of_14 : decode m_X10_of.2.1 14 = .ok (.iload_n 2, 1) := by decide +kernel
theorem dX10_of_15 : decode m_X10_of.2.1 15 = .ok (.iconst 0, 1) := by decide +kernel
theorem dX10_of_16 : decode m_X10_of.2.1 16 = .ok (.sipush 999, 3) := by decide +kernel
theorem dX10_of_19 : decode m_X10_of.2.1 19 = .ok (.invokestatic 63, 3) := by decide +kernel
theorem dX10_of_22 : decode m_X10_of.2.1 22 = .ok (.ifCond .eq 12, 3) := by decide +kernel
theorem dX10_of_25 : decode m_X10_of.2.1 25 = .ok (.iload_n 3, 1) := by decide +kernel
theorem dX10_of_26 : decode m_X10_of.2.1 26 = .ok (.iconst 0, 1) := by decide +kernel
theorem dX10_of_27 : decode m_X10_of.2.1 27 = .ok (.iconst 3, 1) := by decide +kernel
theorem dX10_of_28 : decode m_X10_of.2.1 28 = .ok (.invokestatic 63, 3) := by decide +kernel
theorem dX10_of_31 : decode m_X10_of.2.1 31 = .ok (.ifCond .ne 6, 3) := by decide +kernel
theorem dX10_of_34 : decode m_X10_of.2.1 34 = .ok (.ldc 67, 2) := by decide +kernel
theorem dX10_of_36 : decode m_X10_of.2.1 36 = .ok (.ireturn, 1) := by decide +kernel
theorem dX10_of_37 : decode m_X10_of.2.1 37 = .ok (.aload_n 0, 1) := by decide +kernel
theorem dX10_of_38 : decode m_X10_of.2.1 38 = .ok (.getfield 10, 3) := by decide +kernel
theorem dX10_of_41 : decode m_X10_of.2.1 41 = .ok (.getfield 68, 3) := by decide +kernel
theorem dX10_of_44 : decode m_X10_of.2.1 44 = .ok (.getfield 81, 3) := by decide +kernel
theorem dX10_of_47 : decode m_X10_of.2.1 47 = .ok (.iload_n 1, 1) := by decide +kernel
theorem dX10_of_48 : decode m_X10_of.2.1 48 = .ok (.iaload, 1) := by decide +kernel
theorem dX10_of_49 : decode m_X10_of.2.1 49 = .ok (.aload_n 0, 1) := by decide +kernel
theorem dX10_of_50 : decode m_X10_of.2.1 50 = .ok (.getfield 10, 3) := by decide +kernel
theorem dX10_of_53 : decode m_X10_of.2.1 53 = .ok (.getfield 68, 3) := by decide +kernel
theorem dX10_of_56 : decode m_X10_of.2.1 56 = .ok (.getfield 84, 3) := by decide +kernel
theorem dX10_of_59 : decode m_X10_of.2.1 59 = .ok (.iload_n 1, 1) := by decide +kernel
theorem dX10_of_60 : decode m_X10_of.2.1 60 = .ok (.iaload, 1) := by decide +kernel
theorem dX10_of_61 : decode m_X10_of.2.1 61 = .ok (.iload_n 2, 1) := by decide +kernel
theorem dX10_of_62 : decode m_X10_of.2.1 62 = .ok (.iload_n 3, 1) := by decide +kernel
theorem dX10_of_63 : decode m_X10_of.2.1 63 = .ok (.invokestatic 102, 3) := by decide +kernel
theorem dX10_of_66 : decode m_X10_of.2.1 66 = .ok (.ireturn, 1) := by decide +kernel
theorem dX10_as_0 : decode m_X10_as.2.1 0 = .ok (.aload_n 0, 1) := by decide +kernel
theorem dX10_as_1 : decode m_X10_as.2.1 1 = .ok (.getfield 10, 3) := by decide +kernel
theorem dX10_as_4 : decode m_X10_as.2.1 4 = .ok (.getfield 68, 3) := by decide +kernel
theorem dX10_as_7 : decode m_X10_as.2.1 7 = .ok (.iload_n 1, 1) := by decide +kernel
theorem dX10_as_8 : decode m_X10_as.2.1 8 = .ok (.invokevirtual 78, 3) := by decide +kernel
theorem dX10_as_11 : decode m_X10_as.2.1 11 = .ok (.ifCond .eq 10, 3) := by decide +kernel
theorem dX10_as_14 : decode m_X10_as.2.1 14 = .ok (.iload_n 2, 1) := by decide +kernel
theorem dX10_as_15 : decode m_X10_as.2.1 15 = .ok (.invokestatic 59, 3) := by decide +kernel
theorem dX10_as_18 : decode m_X10_as.2.1 18 = .ok (.ifCond .ne 6, 3) := by decide +kernel
theorem dX10_as_21 : decode m_X10_as.2.1 21 = .ok (.ldc 67, 2) := by decide +kernel
theorem dX10_as_23 : decode m_X10_as.2.1 23 = .ok (.ireturn, 1) := by decide +kernel
theorem dX10_as_24 : decode m_X10_as.2.1 24 = .ok (.aload_n 0, 1) := by decide +kernel
theorem dX10_as_25 : decode m_X10_as.2.1 25 = .ok (.getfield 10, 3) := by decide +kernel
theorem dX10_as_28 : decode m_X10_as.2.1 28 = .ok (.getfield 68, 3) := by decide +kernel
theorem dX10_as_31 : decode m_X10_as.2.1 31 = .ok (.getfield 81, 3) := by decide +kernel
theorem dX10_as_34 : decode m_X10_as.2.1 34 = .ok (.iload_n 1, 1) := by decide +kernel
theorem dX10_as_35 : decode m_X10_as.2.1 35 = .ok (.iaload, 1) := by decide +kernel
theorem dX10_as_36 : decode m_X10_as.2.1 36 = .ok (.iload_n 2, 1) := by decide +kernel
theorem dX10_as_37 : decode m_X10_as.2.1 37 = .ok (.invokestatic 106, 3) := by decide +kernel
theorem dX10_as_40 : decode m_X10_as.2.1 40 = .ok (.ifCond .eq 18, 3) := by decide +kernel
theorem dX10_as_43 : decode m_X10_as.2.1 43 = .ok (.aload_n 0, 1) := by decide +kernel
theorem dX10_as_44 : decode m_X10_as.2.1 44 = .ok (.getfield 10, 3) := by decide +kernel
theorem dX10_as_47 : decode m_X10_as.2.1 47 = .ok (.getfield 68, 3) := by decide +kernel
theorem dX10_as_50 : decode m_X10_as.2.1 50 = .ok (.getfield 90, 3) := by decide +kernel
theorem dX10_as_53 : decode m_X10_as.2.1 53 = .ok (.iload_n 1, 1) := by decide +kernel
theorem dX10_as_54 : decode m_X10_as.2.1 54 = .ok (.iaload, 1) := by decide +kernel
theorem dX10_as_55 : decode m_X10_as.2.1 55 = .ok (.goto 5, 3) := by decide +kernel
theorem dX10_as_58 : decode m_X10_as.2.1 58 = .ok (.ldc 110, 2) := by decide +kernel
theorem dX10_as_60 : decode m_X10_as.2.1 60 = .ok (.ireturn, 1) := by decide +kernel
theorem dX10_fill_0 : decode m_X10_fill.2.1 0 = .ok (.aload_n 0, 1) := by decide +kernel
theorem dX10_fill_1 : decode m_X10_fill.2.1 1 = .ok (.getfield 10, 3) := by decide +kernel
theorem dX10_fill_4 : decode m_X10_fill.2.1 4 = .ok (.getfield 68, 3) := by decide +kernel
theorem dX10_fill_7 : decode m_X10_fill.2.1 7 = .ok (.iload_n 1, 1) := by decide +kernel
theorem dX10_fill_8 : decode m_X10_fill.2.1 8 = .ok (.invokevirtual 78, 3) := by decide +kernel
theorem dX10_fill_11 : decode m_X10_fill.2.1 11 = .ok (.ifCond .eq 14, 3) := by decide +kernel
theorem dX10_fill_14 : decode m_X10_fill.2.1 14 = .ok (.iload_n 2, 1) := by decide +kernel
theorem dX10_fill_15 : decode m_X10_fill.2.1 15 = .ok (.iconst 1, 1) := by decide +kernel
theorem dX10_fill_16 : decode m_X10_fill.2.1 16 = .ok (.sipush 9999, 3) := by decide +kernel
theorem dX10_fill_19 : decode m_X10_fill.2.1 19 = .ok (.invokestatic 63, 3) := by decide +kernel
theorem dX10_fill_22 : decode m_X10_fill.2.1 22 = .ok (.ifCond .ne 6, 3) := by decide +kernel
theorem dX10_fill_25 : decode m_X10_fill.2.1 25 = .ok (.ldc 67, 2) := by decide +kernel
theorem dX10_fill_27 : decode m_X10_fill.2.1 27 = .ok (.ireturn, 1) := by decide +kernel
theorem dX10_fill_28 : decode m_X10_fill.2.1 28 = .ok (.aload_n 0, 1) := by decide +kernel
theorem dX10_fill_29 : decode m_X10_fill.2.1 29 = .ok (.getfield 10, 3) := by decide +kernel
theorem dX10_fill_32 : decode m_X10_fill.2.1 32 = .ok (.getfield 68, 3) := by decide +kernel
theorem dX10_fill_35 : decode m_X10_fill.2.1 35 = .ok (.getfield 90, 3) := by decide +kernel
theorem dX10_fill_38 : decode m_X10_fill.2.1 38 = .ok (.iload_n 1, 1) := by decide +kernel
theorem dX10_fill_39 : decode m_X10_fill.2.1 39 = .ok (.iaload, 1) := by decide +kernel
theorem dX10_fill_40 : decode m_X10_fill.2.1 40 = .ok (.iload_n 2, 1) := by decide +kernel
theorem dX10_fill_41 : decode m_X10_fill.2.1 41 = .ok (.iadd, 1) := by decide +kernel
theorem dX10_fill_42 : decode m_X10_fill.2.1 42 = .ok (.sipush 9999, 3) := by decide +kernel
theorem dX10_fill_45 : decode m_X10_fill.2.1 45 = .ok (.if_icmp .le 6, 3) := by decide +kernel
theorem dX10_fill_48 : decode m_X10_fill.2.1 48 = .ok (.ldc 111, 2) := by decide +kernel
theorem dX10_fill_50 : decode m_X10_fill.2.1 50 = .ok (.ireturn, 1) := by decide +kernel
theorem dX10_fill_51 : decode m_X10_fill.2.1 51 = .ok (.aload_n 0, 1) := by decide +kernel
theorem dX10_fill_52 : decode m_X10_fill.2.1 52 = .ok (.getfield 10, 3) := by decide +kernel
theorem dX10_fill_55 : decode m_X10_fill.2.1 55 = .ok (.getfield 68, 3) := by decide +kernel
theorem dX10_fill_58 : decode m_X10_fill.2.1 58 = .ok (.getfield 90, 3) := by decide +kernel
theorem dX10_fill_61 : decode m_X10_fill.2.1 61 = .ok (.iload_n 1, 1) := by decide +kernel
theorem dX10_fill_62 : decode m_X10_fill.2.1 62 = .ok (.dup2, 1) := by decide +kernel
theorem dX10_fill_63 : decode m_X10_fill.2.1 63 = .ok (.iaload, 1) := by decide +kernel
theorem dX10_fill_64 : decode m_X10_fill.2.1 64 = .ok (.iload_n 2, 1) := by decide +kernel
theorem dX10_fill_65 : decode m_X10_fill.2.1 65 = .ok (.iadd, 1) := by decide +kernel
theorem dX10_fill_66 : decode m_X10_fill.2.1 66 = .ok (.iastore, 1) := by decide +kernel
theorem dX10_fill_67 : decode m_X10_fill.2.1 67 = .ok (.aload_n 0, 1) := by decide +kernel
theorem dX10_fill_68 : decode m_X10_fill.2.1 68 = .ok (.getfield 10, 3) := by decide +kernel
theorem dX10_fill_71 : decode m_X10_fill.2.1 71 = .ok (.getfield 68, 3) := by decide +kernel
theorem dX10_fill_74 : decode m_X10_fill.2.1 74 = .ok (.getfield 90, 3) := by decide +kernel
theorem dX10_fill_77 : decode m_X10_fill.2.1 77 = .ok (.iload_n 1, 1) := by decide +kernel
theorem dX10_fill_78 : decode m_X10_fill.2.1 78 = .ok (.iaload, 1) := by decide +kernel
theorem dX10_fill_79 : decode m_X10_fill.2.1 79 = .ok (.ireturn, 1) := by decide +kernel
theorem dX10_turns_0 : decode m_X10_turns.2.1 0 = .ok (.aload_n 0, 1) := by decide +kernel
theorem dX10_turns_1 : decode m_X10_turns.2.1 1 = .ok (.getfield 10, 3) := by decide +kernel
theorem dX10_turns_4 : decode m_X10_turns.2.1 4 = .ok (.getfield 68, 3) := by decide +kernel
theorem dX10_turns_7 : decode m_X10_turns.2.1 7 = .ok (.iload_n 1, 1) := by decide +kernel
theorem dX10_turns_8 : decode m_X10_turns.2.1 8 = .ok (.invokevirtual 78, 3) := by decide +kernel
theorem dX10_turns_11 : decode m_X10_turns.2.1 11 = .ok (.ifCond .eq 13, 3) := by decide +kernel
theorem dX10_turns_14 : decode m_X10_turns.2.1 14 = .ok (.iload_n 2, 1) := by decide +kernel
theorem dX10_turns_15 : decode m_X10_turns.2.1 15 = .ok (.iconst 1, 1) := by decide +kernel
theorem dX10_turns_16 : decode m_X10_turns.2.1 16 = .ok (.ldc 112, 2) := by decide +kernel
theorem dX10_turns_18 : decode m_X10_turns.2.1 18 = .ok (.invokestatic 63, 3) := by decide +kernel
theorem dX10_turns_21 : decode m_X10_turns.2.1 21 = .ok (.ifCond .ne 6, 3) := by decide +kernel
theorem dX10_turns_24 : decode m_X10_turns.2.1 24 = .ok (.ldc 67, 2) := by decide +kernel
theorem dX10_turns_26 : decode m_X10_turns.2.1 26 = .ok (.ireturn, 1) := by decide +kernel
theorem dX10_turns_27 : decode m_X10_turns.2.1 27 = .ok (.aload_n 0, 1) := by decide +kernel
theorem dX10_turns_28 : decode m_X10_turns.2.1 28 = .ok (.getfield 10, 3) := by decide +kernel
theorem dX10_turns_31 : decode m_X10_turns.2.1 31 = .ok (.getfield 68, 3) := by decide +kernel
theorem dX10_turns_34 : decode m_X10_turns.2.1 34 = .ok (.getfield 93, 3) := by decide +kernel
theorem dX10_turns_37 : decode m_X10_turns.2.1 37 = .ok (.iload_n 1, 1) := by decide +kernel
theorem dX10_turns_38 : decode m_X10_turns.2.1 38 = .ok (.iaload, 1) := by decide +kernel
theorem dX10_turns_39 : decode m_X10_turns.2.1 39 = .ok (.istore_n 3, 1) := by decide +kernel
theorem dX10_turns_40 : decode m_X10_turns.2.1 40 = .ok (.aload_n 0, 1) := by decide +kernel
theorem dX10_turns_41 : decode m_X10_turns.2.1 41 = .ok (.getfield 10, 3) := by decide +kernel
theorem dX10_turns_44 : decode m_X10_turns.2.1 44 = .ok (.getfield 68, 3) := by decide +kernel
theorem dX10_turns_47 : decode m_X10_turns.2.1 47 = .ok (.getfield 93, 3) := by decide +kernel
theorem dX10_turns_50 : decode m_X10_turns.2.1 50 = .ok (.iload_n 1, 1) := by decide +kernel
theorem dX10_turns_51 : decode m_X10_turns.2.1 51 = .ok (.iload_n 2, 1) := by decide +kernel
theorem dX10_turns_52 : decode m_X10_turns.2.1 52 = .ok (.iastore, 1) := by decide +kernel
theorem dX10_turns_53 : decode m_X10_turns.2.1 53 = .ok (.iload_n 3, 1) := by decide +kernel
theorem dX10_turns_54 : decode m_X10_turns.2.1 54 = .ok (.ireturn, 1) := by decide +kernel
theorem dX10_rule_0 : decode m_X10_rule.2.1 0 = .ok (.iload_n 1, 1) := by decide +kernel
theorem dX10_rule_1 : decode m_X10_rule.2.1 1 = .ok (.iconst 0, 1) := by decide +kernel
theorem dX10_rule_2 : decode m_X10_rule.2.1 2 = .ok (.iconst 2, 1) := by decide +kernel
theorem dX10_rule_3 : decode m_X10_rule.2.1 3 = .ok (.invokestatic 63, 3) := by decide +kernel
theorem dX10_rule_6 : decode m_X10_rule.2.1 6 = .ok (.ifCond .eq 23, 3) := by decide +kernel
theorem dX10_rule_9 : decode m_X10_rule.2.1 9 = .ok (.iload_n 2, 1) := by decide +kernel
theorem dX10_rule_10 : decode m_X10_rule.2.1 10 = .ok (.iload_n 1, 1) := by decide +kernel
theorem dX10_rule_11 : decode m_X10_rule.2.1 11 = .ok (.iconst 1, 1) := by decide +kernel
theorem dX10_rule_12 : decode m_X10_rule.2.1 12 = .ok (.if_icmp .ne 7, 3) := by decide +kernel
theorem dX10_rule_15 : decode m_X10_rule.2.1 15 = .ok (.iconst 0, 1) := by decide +kernel
theorem dX10_rule_16 : decode m_X10_rule.2.1 16 = .ok (.goto 4, 3) := by decide +kernel
theorem dX10_rule_19 : decode m_X10_rule.2.1 19 = .ok (.iconst 1, 1) := by decide +kernel
theorem dX10_rule_20 : decode m_X10_rule.2.1 20 = .ok (.sipush 999, 3) := by decide +kernel
theorem dX10_rule_23 : decode m_X10_rule.2.1 23 = .ok (.invokestatic 63, 3) := by decide +kernel
theorem dX10_rule_26 : decode m_X10_rule.2.1 26 = .ok (.ifCond .ne 6, 3) := by decide +kernel
theorem dX10_rule_29 : decode m_X10_rule.2.1 29 = .ok (.ldc 67, 2) := by decide +kernel
theorem dX10_rule_31 : decode m_X10_rule.2.1 31 = .ok (.ireturn, 1) := by decide +kernel
theorem dX10_rule_32 : decode m_X10_rule.2.1 32 = .ok (.aload_n 0, 1) := by decide +kernel
theorem dX10_rule_33 : decode m_X10_rule.2.1 33 = .ok (.getfield 10, 3) := by decide +kernel
theorem dX10_rule_36 : decode m_X10_rule.2.1 36 = .ok (.getfield 113, 3) := by decide +kernel
theorem dX10_rule_39 : decode m_X10_rule.2.1 39 = .ok (.iload_n 1, 1) := by decide +kernel
theorem dX10_rule_40 : decode m_X10_rule.2.1 40 = .ok (.iaload, 1) := by decide +kernel
theorem dX10_rule_41 : decode m_X10_rule.2.1 41 = .ok (.istore_n 3, 1) := by decide +kernel
theorem dX10_rule_42 : decode m_X10_rule.2.1 42 = .ok (.aload_n 0, 1) := by decide +kernel
theorem dX10_rule_43 : decode m_X10_rule.2.1 43 = .ok (.getfield 10, 3) := by decide +kernel
theorem dX10_rule_46 : decode m_X10_rule.2.1 46 = .ok (.getfield 113, 3) := by decide +kernel
theorem dX10_rule_49 : decode m_X10_rule.2.1 49 = .ok (.iload_n 1, 1) := by decide +kernel
theorem dX10_rule_50 : decode m_X10_rule.2.1 50 = .ok (.iload_n 2, 1) := by decide +kernel
theorem dX10_rule_51 : decode m_X10_rule.2.1 51 = .ok (.iastore, 1) := by decide +kernel
theorem dX10_rule_52 : decode m_X10_rule.2.1 52 = .ok (.iload_n 3, 1) := by decide +kernel
theorem dX10_rule_53 : decode m_X10_rule.2.1 53 = .ok (.ireturn, 1) := by decide +kernel
theorem dX10_empty_0 : decode m_X10_empty.2.1 0 = .ok (.aload_n 0, 1) := by decide +kernel
theorem dX10_empty_1 : decode m_X10_empty.2.1 1 = .ok (.getfield 10, 3) := by decide +kernel
theorem dX10_empty_4 : decode m_X10_empty.2.1 4 = .ok (.getfield 68, 3) := by decide +kernel
theorem dX10_empty_7 : decode m_X10_empty.2.1 7 = .ok (.iload_n 1, 1) := by decide +kernel
theorem dX10_empty_8 : decode m_X10_empty.2.1 8 = .ok (.invokevirtual 78, 3) := by decide +kernel
theorem dX10_empty_11 : decode m_X10_empty.2.1 11 = .ok (.ifCond .eq 14, 3) := by decide +kernel
theorem dX10_empty_14 : decode m_X10_empty.2.1 14 = .ok (.iload_n 2, 1) := by decide +kernel
theorem dX10_empty_15 : decode m_X10_empty.2.1 15 = .ok (.iconst 1, 1) := by decide +kernel
theorem dX10_empty_16 : decode m_X10_empty.2.1 16 = .ok (.sipush 999, 3) := by decide +kernel
theorem dX10_empty_19 : decode m_X10_empty.2.1 19 = .ok (.invokestatic 63, 3) := by decide +kernel
theorem dX10_empty_22 : decode m_X10_empty.2.1 22 = .ok (.ifCond .ne 6, 3) := by decide +kernel
theorem dX10_empty_25 : decode m_X10_empty.2.1 25 = .ok (.ldc 67, 2) := by decide +kernel
theorem dX10_empty_27 : decode m_X10_empty.2.1 27 = .ok (.ireturn, 1) := by decide +kernel
theorem dX10_empty_28 : decode m_X10_empty.2.1 28 = .ok (.aload_n 0, 1) := by decide +kernel
theorem dX10_empty_29 : decode m_X10_empty.2.1 29 = .ok (.getfield 10, 3) := by decide +kernel
theorem dX10_empty_32 : decode m_X10_empty.2.1 32 = .ok (.getfield 68, 3) := by decide +kernel
theorem dX10_empty_35 : decode m_X10_empty.2.1 35 = .ok (.getfield 90, 3) := by decide +kernel
theorem dX10_empty_38 : decode m_X10_empty.2.1 38 = .ok (.iload_n 1, 1) := by decide +kernel
theorem dX10_empty_39 : decode m_X10_empty.2.1 39 = .ok (.iaload, 1) := by decide +kernel
theorem dX10_empty_40 : decode m_X10_empty.2.1 40 = .ok (.iload_n 2, 1) := by decide +kernel
theorem dX10_empty_41 : decode m_X10_empty.2.1 41 = .ok (.idiv, 1) := by decide +kernel
theorem dX10_empty_42 : decode m_X10_empty.2.1 42 = .ok (.ireturn, 1) := by decide +kernel
theorem dX10_charge_0 : decode m_X10_charge.2.1 0 = .ok (.aload_n 0, 1) := by decide +kernel
theorem dX10_charge_1 : decode m_X10_charge.2.1 1 = .ok (.getfield 10, 3) := by decide +kernel
theorem dX10_charge_4 : decode m_X10_charge.2.1 4 = .ok (.getfield 68, 3) := by decide +kernel
theorem dX10_charge_7 : decode m_X10_charge.2.1 7 = .ok (.iload_n 1, 1) := by decide +kernel
theorem dX10_charge_8 : decode m_X10_charge.2.1 8 = .ok (.invokevirtual 78, 3) := by decide +kernel
theorem dX10_charge_11 : decode m_X10_charge.2.1 11 = .ok (.ifCond .eq 14, 3) := by decide +kernel
theorem dX10_charge_14 : decode m_X10_charge.2.1 14 = .ok (.iload_n 2, 1) := by decide +kernel
theorem dX10_charge_15 : decode m_X10_charge.2.1 15 = .ok (.iconst 1, 1) := by decide +kernel
theorem dX10_charge_16 : decode m_X10_charge.2.1 16 = .ok (.sipush 999, 3) := by decide +kernel
theorem dX10_charge_19 : decode m_X10_charge.2.1 19 = .ok (.invokestatic 63, 3) := by decide +kernel
theorem dX10_charge_22 : decode m_X10_charge.2.1 22 = .ok (.ifCond .ne 6, 3) := by decide +kernel
theorem dX10_charge_25 : decode m_X10_charge.2.1 25 = .ok (.ldc 67, 2) := by decide +kernel
theorem dX10_charge_27 : decode m_X10_charge.2.1 27 = .ok (.ireturn, 1) := by decide +kernel
theorem dX10_charge_28 : decode m_X10_charge.2.1 28 = .ok (.aload_n 0, 1) := by decide +kernel
theorem dX10_charge_29 : decode m_X10_charge.2.1 29 = .ok (.getfield 10, 3) := by decide +kernel
theorem dX10_charge_32 : decode m_X10_charge.2.1 32 = .ok (.getfield 68, 3) := by decide +kernel
theorem dX10_charge_35 : decode m_X10_charge.2.1 35 = .ok (.getfield 90, 3) := by decide +kernel
theorem dX10_charge_38 : decode m_X10_charge.2.1 38 = .ok (.iload_n 1, 1) := by decide +kernel
theorem dX10_charge_39 : decode m_X10_charge.2.1 39 = .ok (.iaload, 1) := by decide +kernel
theorem dX10_charge_40 : decode m_X10_charge.2.1 40 = .ok (.iload_n 2, 1) := by decide +kernel
theorem dX10_charge_41 : decode m_X10_charge.2.1 41 = .ok (.if_icmp .ge 6, 3) := by decide +kernel
theorem dX10_charge_44 : decode m_X10_charge.2.1 44 = .ok (.ldc 116, 2) := by decide +kernel
theorem dX10_charge_46 : decode m_X10_charge.2.1 46 = .ok (.ireturn, 1) := by decide +kernel
theorem dX10_charge_47 : decode m_X10_charge.2.1 47 = .ok (.aload_n 0, 1) := by decide +kernel
theorem dX10_charge_48 : decode m_X10_charge.2.1 48 = .ok (.getfield 10, 3) := by decide +kernel
theorem dX10_charge_51 : decode m_X10_charge.2.1 51 = .ok (.getfield 117, 3) := by decide +kernel
theorem dX10_charge_54 : decode m_X10_charge.2.1 54 = .ok (.invokevirtual 120, 3) := by decide +kernel
theorem dX10_charge_57 : decode m_X10_charge.2.1 57 = .ok (.ifCond .ne 6, 3) := by decide +kernel
theorem dX10_charge_60 : decode m_X10_charge.2.1 60 = .ok (.ldc 111, 2) := by decide +kernel
theorem dX10_charge_62 : decode m_X10_charge.2.1 62 = .ok (.ireturn, 1) := by decide +kernel
theorem dX10_charge_63 : decode m_X10_charge.2.1 63 = .ok (.aload_n 0, 1) := by decide +kernel
theorem dX10_charge_64 : decode m_X10_charge.2.1 64 = .ok (.getfield 10, 3) := by decide +kernel
theorem dX10_charge_67 : decode m_X10_charge.2.1 67 = .ok (.iload_n 1, 1) := by decide +kernel
theorem dX10_charge_68 : decode m_X10_charge.2.1 68 = .ok (.iload_n 2, 1) := by decide +kernel
theorem dX10_charge_69 : decode m_X10_charge.2.1 69 = .ok (.invokevirtual 124, 3) := by decide +kernel
theorem dX10_charge_72 : decode m_X10_charge.2.1 72 = .ok (.aload_n 0, 1) := by decide +kernel
theorem dX10_charge_73 : decode m_X10_charge.2.1 73 = .ok (.getfield 10, 3) := by decide +kernel
theorem dX10_charge_76 : decode m_X10_charge.2.1 76 = .ok (.getfield 117, 3) := by decide +kernel
theorem dX10_charge_79 : decode m_X10_charge.2.1 79 = .ok (.getfield 128, 3) := by decide +kernel
theorem dX10_charge_82 : decode m_X10_charge.2.1 82 = .ok (.ireturn, 1) := by decide +kernel
theorem dX10_layer_0 : decode m_X10_layer.2.1 0 = .ok (.aload_n 0, 1) := by decide +kernel
theorem dX10_layer_1 : decode m_X10_layer.2.1 1 = .ok (.getfield 10, 3) := by decide +kernel
theorem dX10_layer_4 : decode m_X10_layer.2.1 4 = .ok (.getfield 117, 3) := by decide +kernel
theorem dX10_layer_7 : decode m_X10_layer.2.1 7 = .ok (.iload_n 1, 1) := by decide +kernel
theorem dX10_layer_8 : decode m_X10_layer.2.1 8 = .ok (.invokevirtual 131, 3) := by decide +kernel
theorem dX10_layer_11 : decode m_X10_layer.2.1 11 = .ok (.ifCond .ne 6, 3) := by decide +kernel
theorem dX10_layer_14 : decode m_X10_layer.2.1 14 = .ok (.ldc 67, 2) := by decide +kernel
theorem dX10_layer_16 : decode m_X10_layer.2.1 16 = .ok (.ireturn, 1) := by decide +kernel
theorem dX10_layer_17 : decode m_X10_layer.2.1 17 = .ok (.aload_n 0, 1) := by decide +kernel
theorem dX10_layer_18 : decode m_X10_layer.2.1 18 = .ok (.getfield 10, 3) := by decide +kernel
theorem dX10_layer_21 : decode m_X10_layer.2.1 21 = .ok (.getfield 117, 3) := by decide +kernel
theorem dX10_layer_24 : decode m_X10_layer.2.1 24 = .ok (.getfield 132, 3) := by decide +kernel
theorem dX10_layer_27 : decode m_X10_layer.2.1 27 = .ok (.iload_n 1, 1) := by decide +kernel
theorem dX10_layer_28 : decode m_X10_layer.2.1 28 = .ok (.aaload, 1) := by decide +kernel
theorem dX10_layer_29 : decode m_X10_layer.2.1 29 = .ok (.astore_n 3, 1) := by decide +kernel
theorem dX10_layer_30 : decode m_X10_layer.2.1 30 = .ok (.iload_n 2, 1) := by decide +kernel
theorem dX10_layer_31 : decode m_X10_layer.2.1 31 = .ok (.tableswitch 49 0 3 #[29, 34, 39, 44], 29) := by decide +kernel
theorem dX10_layer_60 : decode m_X10_layer.2.1 60 = .ok (.aload_n 3, 1) := by decide +kernel
theorem dX10_layer_61 : decode m_X10_layer.2.1 61 = .ok (.getfield 136, 3) := by decide +kernel
theorem dX10_layer_64 : decode m_X10_layer.2.1 64 = .ok (.ireturn, 1) := by decide +kernel
theorem dX10_layer_65 : decode m_X10_layer.2.1 65 = .ok (.aload_n 3, 1) := by decide +kernel
theorem dX10_layer_66 : decode m_X10_layer.2.1 66 = .ok (.getfield 141, 3) := by decide +kernel
theorem dX10_layer_69 : decode m_X10_layer.2.1 69 = .ok (.ireturn, 1) := by decide +kernel
theorem dX10_layer_70 : decode m_X10_layer.2.1 70 = .ok (.aload_n 3, 1) := by decide +kernel
theorem dX10_layer_71 : decode m_X10_layer.2.1 71 = .ok (.getfield 144, 3) := by decide +kernel
theorem dX10_layer_74 : decode m_X10_layer.2.1 74 = .ok (.ireturn, 1) := by decide +kernel
theorem dX10_layer_75 : decode m_X10_layer.2.1 75 = .ok (.aload_n 3, 1) := by decide +kernel
theorem dX10_layer_76 : decode m_X10_layer.2.1 76 = .ok (.getfield 146, 3) := by decide +kernel
theorem dX10_layer_79 : decode m_X10_layer.2.1 79 = .ok (.ireturn, 1) := by decide +kernel
theorem dX10_layer_80 : decode m_X10_layer.2.1 80 = .ok (.iload_n 2, 1) := by decide +kernel
theorem dX10_layer_81 : decode m_X10_layer.2.1 81 = .ok (.iconst 4, 1) := by decide +kernel
theorem dX10_layer_82 : decode m_X10_layer.2.1 82 = .ok (.bipush 8, 2) := by decide +kernel
theorem dX10_layer_84 : decode m_X10_layer.2.1 84 = .ok (.invokestatic 63, 3) := by decide +kernel
theorem dX10_layer_87 : decode m_X10_layer.2.1 87 = .ok (.ifCond .eq 14, 3) := by decide +kernel
theorem dX10_layer_90 : decode m_X10_layer.2.1 90 = .ok (.aload_n 3, 1) := by decide +kernel
theorem dX10_layer_91 : decode m_X10_layer.2.1 91 = .ok (.getfield 149, 3) := by decide +kernel
theorem dX10_layer_94 : decode m_X10_layer.2.1 94 = .ok (.iload_n 2, 1) := by decide +kernel
theorem dX10_layer_95 : decode m_X10_layer.2.1 95 = .ok (.iconst 4, 1) := by decide +kernel
theorem dX10_layer_96 : decode m_X10_layer.2.1 96 = .ok (.isub, 1) := by decide +kernel
theorem dX10_layer_97 : decode m_X10_layer.2.1 97 = .ok (.iaload, 1) := by decide +kernel
theorem dX10_layer_98 : decode m_X10_layer.2.1 98 = .ok (.goto 5, 3) := by decide +kernel
theorem dX10_layer_101 : decode m_X10_layer.2.1 101 = .ok (.ldc 67, 2) := by decide +kernel
theorem dX10_layer_103 : decode m_X10_layer.2.1 103 = .ok (.ireturn, 1) := by decide +kernel
theorem dX10_ring_0 : decode m_X10_ring.2.1 0 = .ok (.iload_n 1, 1) := by decide +kernel
theorem dX10_ring_1 : decode m_X10_ring.2.1 1 = .ok (.iconst 0, 1) := by decide +kernel
theorem dX10_ring_2 : decode m_X10_ring.2.1 2 = .ok (.iconst 4, 1) := by decide +kernel
theorem dX10_ring_3 : decode m_X10_ring.2.1 3 = .ok (.invokestatic 63, 3) := by decide +kernel
theorem dX10_ring_6 : decode m_X10_ring.2.1 6 = .ok (.ifCond .ne 6, 3) := by decide +kernel
theorem dX10_ring_9 : decode m_X10_ring.2.1 9 = .ok (.ldc 67, 2) := by decide +kernel
theorem dX10_ring_11 : decode m_X10_ring.2.1 11 = .ok (.ireturn, 1) := by decide +kernel
theorem dX10_ring_12 : decode m_X10_ring.2.1 12 = .ok (.aload_n 0, 1) := by decide +kernel
theorem dX10_ring_13 : decode m_X10_ring.2.1 13 = .ok (.getfield 10, 3) := by decide +kernel
theorem dX10_ring_16 : decode m_X10_ring.2.1 16 = .ok (.getfield 117, 3) := by decide +kernel
theorem dX10_ring_19 : decode m_X10_ring.2.1 19 = .ok (.astore_n 3, 1) := by decide +kernel
theorem dX10_ring_20 : decode m_X10_ring.2.1 20 = .ok (.iload_n 2, 1) := by decide +kernel
theorem dX10_ring_21 : decode m_X10_ring.2.1 21 = .ok (.tableswitch 80 0 3 #[31, 37, 43, 62], 31) := by decide +kernel
theorem dX10_ring_52 : decode m_X10_ring.2.1 52 = .ok (.aload_n 3, 1) := by decide +kernel
theorem dX10_ring_53 : decode m_X10_ring.2.1 53 = .ok (.iload_n 1, 1) := by decide +kernel
theorem dX10_ring_54 : decode m_X10_ring.2.1 54 = .ok (.invokevirtual 152, 3) := by decide +kernel
theorem dX10_ring_57 : decode m_X10_ring.2.1 57 = .ok (.ireturn, 1) := by decide +kernel
theorem dX10_ring_58 : decode m_X10_ring.2.1 58 = .ok (.aload_n 3, 1) := by decide +kernel
theorem dX10_ring_59 : decode m_X10_ring.2.1 59 = .ok (.iload_n 1, 1) := by decide +kernel
theorem dX10_ring_60 : decode m_X10_ring.2.1 60 = .ok (.invokevirtual 155, 3) := by decide +kernel
theorem dX10_ring_63 : decode m_X10_ring.2.1 63 = .ok (.ireturn, 1) := by decide +kernel
theorem dX10_ring_64 : decode m_X10_ring.2.1 64 = .ok (.aload_n 3, 1) := by decide +kernel
theorem dX10_ring_65 : decode m_X10_ring.2.1 65 = .ok (.aload_n 0, 1) := by decide +kernel
theorem dX10_ring_66 : decode m_X10_ring.2.1 66 = .ok (.getfield 10, 3) := by decide +kernel
theorem dX10_ring_69 : decode m_X10_ring.2.1 69 = .ok (.aload_n 3, 1) := by decide +kernel
theorem dX10_ring_70 : decode m_X10_ring.2.1 70 = .ok (.invokevirtual 158, 3) := by decide +kernel
theorem dX10_ring_73 : decode m_X10_ring.2.1 73 = .ok (.invokevirtual 162, 3) := by decide +kernel
theorem dX10_ring_76 : decode m_X10_ring.2.1 76 = .ok (.aload_n 3, 1) := by decide +kernel
theorem dX10_ring_77 : decode m_X10_ring.2.1 77 = .ok (.getfield 166, 3) := by decide +kernel
theorem dX10_ring_80 : decode m_X10_ring.2.1 80 = .ok (.iload_n 1, 1) := by decide +kernel
theorem dX10_ring_81 : decode m_X10_ring.2.1 81 = .ok (.iaload, 1) := by decide +kernel
theorem dX10_ring_82 : decode m_X10_ring.2.1 82 = .ok (.ireturn, 1) := by decide +kernel
theorem dX10_ring_83 : decode m_X10_ring.2.1 83 = .ok (.aload_n 3, 1) := by decide +kernel
theorem dX10_ring_84 : decode m_X10_ring.2.1 84 = .ok (.aload_n 0, 1) := by decide +kernel
theorem dX10_ring_85 : decode m_X10_ring.2.1 85 = .ok (.getfield 10, 3) := by decide +kernel
theorem dX10_ring_88 : decode m_X10_ring.2.1 88 = .ok (.aload_n 3, 1) := by decide +kernel
theorem dX10_ring_89 : decode m_X10_ring.2.1 89 = .ok (.invokevirtual 158, 3) := by decide +kernel
theorem dX10_ring_92 : decode m_X10_ring.2.1 92 = .ok (.invokevirtual 162, 3) := by decide +kernel
theorem dX10_ring_95 : decode m_X10_ring.2.1 95 = .ok (.aload_n 3, 1) := by decide +kernel
theorem dX10_ring_96 : decode m_X10_ring.2.1 96 = .ok (.iload_n 1, 1) := by decide +kernel
theorem dX10_ring_97 : decode m_X10_ring.2.1 97 = .ok (.invokevirtual 169, 3) := by decide +kernel
theorem dX10_ring_100 : decode m_X10_ring.2.1 100 = .ok (.ireturn, 1) := by decide +kernel
theorem dX10_ring_101 : decode m_X10_ring.2.1 101 = .ok (.ldc 67, 2) := by decide +kernel
theorem dX10_ring_103 : decode m_X10_ring.2.1 103 = .ok (.ireturn, 1) := by decide +kernel
theorem dX10_run_0 : decode m_X10_run.2.1 0 = .ok (.iload_n 1, 1) := by decide +kernel
theorem dX10_run_1 : decode m_X10_run.2.1 1 = .ok (.iconst 1, 1) := by decide +kernel
theorem dX10_run_2 : decode m_X10_run.2.1 2 = .ok (.bipush 60, 2) := by decide +kernel
theorem dX10_run_4 : decode m_X10_run.2.1 4 = .ok (.invokestatic 63, 3) := by decide +kernel
theorem dX10_run_7 : decode m_X10_run.2.1 7 = .ok (.ifCond .ne 6, 3) := by decide +kernel
theorem dX10_run_10 : decode m_X10_run.2.1 10 = .ok (.ldc 67, 2) := by decide +kernel
theorem dX10_run_12 : decode m_X10_run.2.1 12 = .ok (.ireturn, 1) := by decide +kernel
theorem dX10_run_13 : decode m_X10_run.2.1 13 = .ok (.aload_n 0, 1) := by decide +kernel
theorem dX10_run_14 : decode m_X10_run.2.1 14 = .ok (.getfield 10, 3) := by decide +kernel
theorem dX10_run_17 : decode m_X10_run.2.1 17 = .ok (.getfield 117, 3) := by decide +kernel
theorem dX10_run_20 : decode m_X10_run.2.1 20 = .ok (.getfield 172, 3) := by decide +kernel
theorem dX10_run_23 : decode m_X10_run.2.1 23 = .ok (.iload_n 1, 1) := by decide +kernel
theorem dX10_run_24 : decode m_X10_run.2.1 24 = .ok (.iadd, 1) := by decide +kernel
theorem dX10_run_25 : decode m_X10_run.2.1 25 = .ok (.sipush 999, 3) := by decide +kernel
theorem dX10_run_28 : decode m_X10_run.2.1 28 = .ok (.if_icmp .le 6, 3) := by decide +kernel
theorem dX10_run_31 : decode m_X10_run.2.1 31 = .ok (.ldc 111, 2) := by decide +kernel
theorem dX10_run_33 : decode m_X10_run.2.1 33 = .ok (.ireturn, 1) := by decide +kernel
theorem dX10_run_34 : decode m_X10_run.2.1 34 = .ok (.iconst 0, 1) := by decide +kernel
theorem dX10_run_35 : decode m_X10_run.2.1 35 = .ok (.istore_n 2, 1) := by decide +kernel
theorem dX10_run_36 : decode m_X10_run.2.1 36 = .ok (.iload_n 2, 1) := by decide +kernel
theorem dX10_run_37 : decode m_X10_run.2.1 37 = .ok (.iload_n 1, 1) := by decide +kernel
theorem dX10_run_38 : decode m_X10_run.2.1 38 = .ok (.if_icmp .ge 23, 3) := by decide +kernel
theorem dX10_run_41 : decode m_X10_run.2.1 41 = .ok (.aload_n 0, 1) := by decide +kernel
theorem dX10_run_42 : decode m_X10_run.2.1 42 = .ok (.getfield 10, 3) := by decide +kernel
theorem dX10_run_45 : decode m_X10_run.2.1 45 = .ok (.aload_n 0, 1) := by decide +kernel
theorem dX10_run_46 : decode m_X10_run.2.1 46 = .ok (.getfield 10, 3) := by decide +kernel
theorem dX10_run_49 : decode m_X10_run.2.1 49 = .ok (.getfield 117, 3) := by decide +kernel
theorem dX10_run_52 : decode m_X10_run.2.1 52 = .ok (.invokevirtual 173, 3) := by decide +kernel
theorem dX10_run_55 : decode m_X10_run.2.1 55 = .ok (.iinc 2 1, 3) := by decide +kernel
theorem dX10_run_58 : decode m_X10_run.2.1 58 = .ok (.goto (-22), 3) := by decide +kernel
theorem dX10_run_61 : decode m_X10_run.2.1 61 = .ok (.aload_n 0, 1) := by decide +kernel
theorem dX10_run_62 : decode m_X10_run.2.1 62 = .ok (.getfield 10, 3) := by decide +kernel
theorem dX10_run_65 : decode m_X10_run.2.1 65 = .ok (.getfield 117, 3) := by decide +kernel
theorem dX10_run_68 : decode m_X10_run.2.1 68 = .ok (.getfield 172, 3) := by decide +kernel
theorem dX10_run_71 : decode m_X10_run.2.1 71 = .ok (.ireturn, 1) := by decide +kernel
theorem dX10_round_0 : decode m_X10_round.2.1 0 = .ok (.aload_n 0, 1) := by decide +kernel
theorem dX10_round_1 : decode m_X10_round.2.1 1 = .ok (.getfield 10, 3) := by decide +kernel
theorem dX10_round_4 : decode m_X10_round.2.1 4 = .ok (.invokevirtual 177, 3) := by decide +kernel
theorem dX10_round_7 : decode m_X10_round.2.1 7 = .ok (.ireturn, 1) := by decide +kernel
theorem dX10_hearth_0 : decode m_X10_hearth.2.1 0 = .ok (.iload_n 1, 1) := by decide +kernel
theorem dX10_hearth_1 : decode m_X10_hearth.2.1 1 = .ok (.tableswitch 75 0 3 #[31, 42, 53, 64], 31) := by decide +kernel
theorem dX10_hearth_32 : decode m_X10_hearth.2.1 32 = .ok (.aload_n 0, 1) := by decide +kernel
theorem dX10_hearth_33 : decode m_X10_hearth.2.1 33 = .ok (.getfield 10, 3) := by decide +kernel
theorem dX10_hearth_36 : decode m_X10_hearth.2.1 36 = .ok (.getfield 117, 3) := by decide +kernel
theorem dX10_hearth_39 : decode m_X10_hearth.2.1 39 = .ok (.getfield 181, 3) := by decide +kernel
theorem dX10_hearth_42 : decode m_X10_hearth.2.1 42 = .ok (.ireturn, 1) := by decide +kernel
theorem dX10_hearth_43 : decode m_X10_hearth.2.1 43 = .ok (.aload_n 0, 1) := by decide +kernel
theorem dX10_hearth_44 : decode m_X10_hearth.2.1 44 = .ok (.getfield 10, 3) := by decide +kernel
theorem dX10_hearth_47 : decode m_X10_hearth.2.1 47 = .ok (.getfield 117, 3) := by decide +kernel
theorem dX10_hearth_50 : decode m_X10_hearth.2.1 50 = .ok (.getfield 184, 3) := by decide +kernel
theorem dX10_hearth_53 : decode m_X10_hearth.2.1 53 = .ok (.ireturn, 1) := by decide +kernel
theorem dX10_hearth_54 : decode m_X10_hearth.2.1 54 = .ok (.aload_n 0, 1) := by decide +kernel
theorem dX10_hearth_55 : decode m_X10_hearth.2.1 55 = .ok (.getfield 10, 3) := by decide +kernel
theorem dX10_hearth_58 : decode m_X10_hearth.2.1 58 = .ok (.getfield 117, 3) := by decide +kernel
theorem dX10_hearth_61 : decode m_X10_hearth.2.1 61 = .ok (.getfield 187, 3) := by decide +kernel
theorem dX10_hearth_64 : decode m_X10_hearth.2.1 64 = .ok (.ireturn, 1) := by decide +kernel
theorem dX10_hearth_65 : decode m_X10_hearth.2.1 65 = .ok (.aload_n 0, 1) := by decide +kernel
theorem dX10_hearth_66 : decode m_X10_hearth.2.1 66 = .ok (.getfield 10, 3) := by decide +kernel
theorem dX10_hearth_69 : decode m_X10_hearth.2.1 69 = .ok (.getfield 117, 3) := by decide +kernel
theorem dX10_hearth_72 : decode m_X10_hearth.2.1 72 = .ok (.invokevirtual 190, 3) := by decide +kernel
theorem dX10_hearth_75 : decode m_X10_hearth.2.1 75 = .ok (.ireturn, 1) := by decide +kernel
theorem dX10_hearth_76 : decode m_X10_hearth.2.1 76 = .ok (.ldc 67, 2) := by decide +kernel
theorem dX10_hearth_78 : decode m_X10_hearth.2.1 78 = .ok (.ireturn, 1) := by decide +kernel
theorem dX10_cast_0 : decode m_X10_cast.2.1 0 = .ok (.iload_n 1, 1) := by decide +kernel
theorem dX10_cast_1 : decode m_X10_cast.2.1 1 = .ok (.iconst 1, 1) := by decide +kernel
theorem dX10_cast_2 : decode m_X10_cast.2.1 2 = .ok (.sipush 9999, 3) := by decide +kernel
theorem dX10_cast_5 : decode m_X10_cast.2.1 5 = .ok (.invokestatic 63, 3) := by decide +kernel
theorem dX10_cast_8 : decode m_X10_cast.2.1 8 = .ok (.ifCond .ne 6, 3) := by decide +kernel
theorem dX10_cast_11 : decode m_X10_cast.2.1 11 = .ok (.ldc 67, 2) := by decide +kernel
theorem dX10_cast_13 : decode m_X10_cast.2.1 13 = .ok (.ireturn, 1) := by decide +kernel
theorem dX10_cast_14 : decode m_X10_cast.2.1 14 = .ok (.aload_n 0, 1) := by decide +kernel
theorem dX10_cast_15 : decode m_X10_cast.2.1 15 = .ok (.getfield 10, 3) := by decide +kernel
theorem dX10_cast_18 : decode m_X10_cast.2.1 18 = .ok (.getfield 117, 3) := by decide +kernel
theorem dX10_cast_21 : decode m_X10_cast.2.1 21 = .ok (.getfield 181, 3) := by decide +kernel
theorem dX10_cast_24 : decode m_X10_cast.2.1 24 = .ok (.iload_n 1, 1) := by decide +kernel
theorem dX10_cast_25 : decode m_X10_cast.2.1 25 = .ok (.if_icmp .ge 6, 3) := by decide +kernel
theorem dX10_cast_28 : decode m_X10_cast.2.1 28 = .ok (.ldc 116, 2) := by decide +kernel
theorem dX10_cast_30 : decode m_X10_cast.2.1 30 = .ok (.ireturn, 1) := by decide +kernel
theorem dX10_cast_31 : decode m_X10_cast.2.1 31 = .ok (.aload_n 0, 1) := by decide +kernel
theorem dX10_cast_32 : decode m_X10_cast.2.1 32 = .ok (.getfield 10, 3) := by decide +kernel
theorem dX10_cast_35 : decode m_X10_cast.2.1 35 = .ok (.getfield 117, 3) := by decide +kernel
theorem dX10_cast_38 : decode m_X10_cast.2.1 38 = .ok (.iload_n 1, 1) := by decide +kernel
theorem dX10_cast_39 : decode m_X10_cast.2.1 39 = .ok (.invokevirtual 193, 3) := by decide +kernel
theorem dX10_cast_42 : decode m_X10_cast.2.1 42 = .ok (.aload_n 0, 1) := by decide +kernel
theorem dX10_cast_43 : decode m_X10_cast.2.1 43 = .ok (.getfield 10, 3) := by decide +kernel
theorem dX10_cast_46 : decode m_X10_cast.2.1 46 = .ok (.getfield 117, 3) := by decide +kernel
theorem dX10_cast_49 : decode m_X10_cast.2.1 49 = .ok (.getfield 181, 3) := by decide +kernel
theorem dX10_cast_52 : decode m_X10_cast.2.1 52 = .ok (.ireturn, 1) := by decide +kernel
theorem dX10_down_0 : decode m_X10_down.2.1 0 = .ok (.aload_n 0, 1) := by decide +kernel
theorem dX10_down_1 : decode m_X10_down.2.1 1 = .ok (.getfield 10, 3) := by decide +kernel
theorem dX10_down_4 : decode m_X10_down.2.1 4 = .ok (.getfield 117, 3) := by decide +kernel
theorem dX10_down_7 : decode m_X10_down.2.1 7 = .ok (.iload_n 1, 1) := by decide +kernel
theorem dX10_down_8 : decode m_X10_down.2.1 8 = .ok (.invokevirtual 131, 3) := by decide +kernel
theorem dX10_down_11 : decode m_X10_down.2.1 11 = .ok (.ifCond .ne 6, 3) := by decide +kernel
theorem dX10_down_14 : decode m_X10_down.2.1 14 = .ok (.ldc 67, 2) := by decide +kernel
theorem dX10_down_16 : decode m_X10_down.2.1 16 = .ok (.ireturn, 1) := by decide +kernel
theorem dX10_down_17 : decode m_X10_down.2.1 17 = .ok (.aload_n 0, 1) := by decide +kernel
theorem dX10_down_18 : decode m_X10_down.2.1 18 = .ok (.getfield 26, 3) := by decide +kernel
theorem dX10_down_21 : decode m_X10_down.2.1 21 = .ok (.aload_n 0, 1) := by decide +kernel
theorem dX10_down_22 : decode m_X10_down.2.1 22 = .ok (.getfield 10, 3) := by decide +kernel
theorem dX10_down_25 : decode m_X10_down.2.1 25 = .ok (.getfield 117, 3) := by decide +kernel
theorem dX10_down_28 : decode m_X10_down.2.1 28 = .ok (.invokevirtual 196, 3) := by decide +kernel
theorem dX10_down_31 : decode m_X10_down.2.1 31 = .ok (.aload_n 0, 1) := by decide +kernel
theorem dX10_down_32 : decode m_X10_down.2.1 32 = .ok (.getfield 26, 3) := by decide +kernel
theorem dX10_down_35 : decode m_X10_down.2.1 35 = .ok (.getfield 132, 3) := by decide +kernel
theorem dX10_down_38 : decode m_X10_down.2.1 38 = .ok (.iload_n 1, 1) := by decide +kernel
theorem dX10_down_39 : decode m_X10_down.2.1 39 = .ok (.aaload, 1) := by decide +kernel
theorem dX10_down_40 : decode m_X10_down.2.1 40 = .ok (.astore_n 2, 1) := by decide +kernel
theorem dX10_down_41 : decode m_X10_down.2.1 41 = .ok (.iconst 0, 1) := by decide +kernel
theorem dX10_down_42 : decode m_X10_down.2.1 42 = .ok (.istore_n 3, 1) := by decide +kernel
theorem dX10_down_43 : decode m_X10_down.2.1 43 = .ok (.iload_n 3, 1) := by decide +kernel
theorem dX10_down_44 : decode m_X10_down.2.1 44 = .ok (.bipush 60, 2) := by decide +kernel
theorem dX10_down_46 : decode m_X10_down.2.1 46 = .ok (.if_icmp .ge 39, 3) := by decide +kernel
theorem dX10_down_49 : decode m_X10_down.2.1 49 = .ok (.aload_n 0, 1) := by decide +kernel
theorem dX10_down_50 : decode m_X10_down.2.1 50 = .ok (.getfield 26, 3) := by decide +kernel
theorem dX10_down_53 : decode m_X10_down.2.1 53 = .ok (.getfield 172, 3) := by decide +kernel
theorem dX10_down_56 : decode m_X10_down.2.1 56 = .ok (.istore 4, 2) := by decide +kernel
theorem dX10_down_58 : decode m_X10_down.2.1 58 = .ok (.aload_n 0, 1) := by decide +kernel
theorem dX10_down_59 : decode m_X10_down.2.1 59 = .ok (.getfield 10, 3) := by decide +kernel
theorem dX10_down_62 : decode m_X10_down.2.1 62 = .ok (.aload_n 0, 1) := by decide +kernel
theorem dX10_down_63 : decode m_X10_down.2.1 63 = .ok (.getfield 26, 3) := by decide +kernel
theorem dX10_down_66 : decode m_X10_down.2.1 66 = .ok (.invokevirtual 173, 3) := by decide +kernel
theorem dX10_down_69 : decode m_X10_down.2.1 69 = .ok (.aload_n 2, 1) := by decide +kernel
theorem dX10_down_70 : decode m_X10_down.2.1 70 = .ok (.getfield 146, 3) := by decide +kernel
theorem dX10_down_73 : decode m_X10_down.2.1 73 = .ok (.ifCond .ne 6, 3) := by decide +kernel
theorem dX10_down_76 : decode m_X10_down.2.1 76 = .ok (.iload 4, 2) := by decide +kernel
theorem dX10_down_78 : decode m_X10_down.2.1 78 = .ok (.ireturn, 1) := by decide +kernel
theorem dX10_down_79 : decode m_X10_down.2.1 79 = .ok (.iinc 3 1, 3) := by decide +kernel
theorem dX10_down_82 : decode m_X10_down.2.1 82 = .ok (.goto (-39), 3) := by decide +kernel
theorem dX10_down_85 : decode m_X10_down.2.1 85 = .ok (.ldc 199, 2) := by decide +kernel
theorem dX10_down_87 : decode m_X10_down.2.1 87 = .ok (.ireturn, 1) := by decide +kernel
theorem dX10_feed_0 : decode m_X10_feed.2.1 0 = .ok (.aload_n 0, 1) := by decide +kernel
theorem dX10_feed_1 : decode m_X10_feed.2.1 1 = .ok (.getfield 33, 3) := by decide +kernel
theorem dX10_feed_4 : decode m_X10_feed.2.1 4 = .ok (.getfield 200, 3) := by decide +kernel
theorem dX10_feed_7 : decode m_X10_feed.2.1 7 = .ok (.bipush 12, 2) := by decide +kernel
theorem dX10_feed_9 : decode m_X10_feed.2.1 9 = .ok (.iadd, 1) := by decide +kernel
theorem dX10_feed_10 : decode m_X10_feed.2.1 10 = .ok (.bipush 96, 2) := by decide +kernel
theorem dX10_feed_12 : decode m_X10_feed.2.1 12 = .ok (.if_icmp .le 6, 3) := by decide +kernel
theorem dX10_feed_15 : decode m_X10_feed.2.1 15 = .ok (.ldc 111, 2) := by decide +kernel
theorem dX10_feed_17 : decode m_X10_feed.2.1 17 = .ok (.ireturn, 1) := by decide +kernel
theorem dX10_feed_18 : decode m_X10_feed.2.1 18 = .ok (.aload_n 0, 1) := by decide +kernel
theorem dX10_feed_19 : decode m_X10_feed.2.1 19 = .ok (.getfield 33, 3) := by decide +kernel
theorem dX10_feed_22 : decode m_X10_feed.2.1 22 = .ok (.iload_n 1, 1) := by decide +kernel
theorem dX10_feed_23 : decode m_X10_feed.2.1 23 = .ok (.invokevirtual 203, 3) := by decide +kernel
theorem dX10_feed_26 : decode m_X10_feed.2.1 26 = .ok (.aload_n 0, 1) := by decide +kernel
theorem dX10_feed_27 : decode m_X10_feed.2.1 27 = .ok (.getfield 33, 3) := by decide +kernel
theorem dX10_feed_30 : decode m_X10_feed.2.1 30 = .ok (.iload_n 2, 1) := by decide +kernel
theorem dX10_feed_31 : decode m_X10_feed.2.1 31 = .ok (.invokevirtual 203, 3) := by decide +kernel
theorem dX10_feed_34 : decode m_X10_feed.2.1 34 = .ok (.aload_n 0, 1) := by decide +kernel
theorem dX10_feed_35 : decode m_X10_feed.2.1 35 = .ok (.getfield 33, 3) := by decide +kernel
theorem dX10_feed_38 : decode m_X10_feed.2.1 38 = .ok (.iload_n 3, 1) := by decide +kernel
theorem dX10_feed_39 : decode m_X10_feed.2.1 39 = .ok (.invokevirtual 203, 3) := by decide +kernel
theorem dX10_feed_42 : decode m_X10_feed.2.1 42 = .ok (.aload_n 0, 1) := by decide +kernel
theorem dX10_feed_43 : decode m_X10_feed.2.1 43 = .ok (.getfield 33, 3) := by decide +kernel
theorem dX10_feed_46 : decode m_X10_feed.2.1 46 = .ok (.getfield 200, 3) := by decide +kernel
theorem dX10_feed_49 : decode m_X10_feed.2.1 49 = .ok (.ireturn, 1) := by decide +kernel
theorem dX10_trim_0 : decode m_X10_trim.2.1 0 = .ok (.iload_n 1, 1) := by decide +kernel
theorem dX10_trim_1 : decode m_X10_trim.2.1 1 = .ok (.iconst 0, 1) := by decide +kernel
theorem dX10_trim_2 : decode m_X10_trim.2.1 2 = .ok (.aload_n 0, 1) := by decide +kernel
theorem dX10_trim_3 : decode m_X10_trim.2.1 3 = .ok (.getfield 33, 3) := by decide +kernel
theorem dX10_trim_6 : decode m_X10_trim.2.1 6 = .ok (.getfield 200, 3) := by decide +kernel
theorem dX10_trim_9 : decode m_X10_trim.2.1 9 = .ok (.invokestatic 63, 3) := by decide +kernel
theorem dX10_trim_12 : decode m_X10_trim.2.1 12 = .ok (.ifCond .ne 6, 3) := by decide +kernel
theorem dX10_trim_15 : decode m_X10_trim.2.1 15 = .ok (.ldc 67, 2) := by decide +kernel
theorem dX10_trim_17 : decode m_X10_trim.2.1 17 = .ok (.ireturn, 1) := by decide +kernel
theorem dX10_trim_18 : decode m_X10_trim.2.1 18 = .ok (.aload_n 0, 1) := by decide +kernel
theorem dX10_trim_19 : decode m_X10_trim.2.1 19 = .ok (.getfield 33, 3) := by decide +kernel
theorem dX10_trim_22 : decode m_X10_trim.2.1 22 = .ok (.iload_n 1, 1) := by decide +kernel
theorem dX10_trim_23 : decode m_X10_trim.2.1 23 = .ok (.putfield 200, 3) := by decide +kernel
theorem dX10_trim_26 : decode m_X10_trim.2.1 26 = .ok (.iload_n 1, 1) := by decide +kernel
theorem dX10_trim_27 : decode m_X10_trim.2.1 27 = .ok (.ireturn, 1) := by decide +kernel
theorem dX10_text_0 : decode m_X10_text.2.1 0 = .ok (.aload_n 0, 1) := by decide +kernel
theorem dX10_text_1 : decode m_X10_text.2.1 1 = .ok (.getfield 33, 3) := by decide +kernel
theorem dX10_text_4 : decode m_X10_text.2.1 4 = .ok (.invokevirtual 206, 3) := by decide +kernel
theorem dX10_text_7 : decode m_X10_text.2.1 7 = .ok (.istore_n 1, 1) := by decide +kernel
theorem dX10_text_8 : decode m_X10_text.2.1 8 = .ok (.aload_n 0, 1) := by decide +kernel
theorem dX10_text_9 : decode m_X10_text.2.1 9 = .ok (.getfield 33, 3) := by decide +kernel
theorem dX10_text_12 : decode m_X10_text.2.1 12 = .ok (.iconst 0, 1) := by decide +kernel
theorem dX10_text_13 : decode m_X10_text.2.1 13 = .ok (.putfield 200, 3) := by decide +kernel
theorem dX10_text_16 : decode m_X10_text.2.1 16 = .ok (.iload_n 1, 1) := by decide +kernel
theorem dX10_text_17 : decode m_X10_text.2.1 17 = .ok (.ifCond .lt 8, 3) := by decide +kernel
theorem dX10_text_20 : decode m_X10_text.2.1 20 = .ok (.bipush (-100), 2) := by decide +kernel
theorem dX10_text_22 : decode m_X10_text.2.1 22 = .ok (.iload_n 1, 1) := by decide +kernel
theorem dX10_text_23 : decode m_X10_text.2.1 23 = .ok (.isub, 1) := by decide +kernel
theorem dX10_text_24 : decode m_X10_text.2.1 24 = .ok (.ireturn, 1) := by decide +kernel
theorem dX10_text_25 : decode m_X10_text.2.1 25 = .ok (.aload_n 0, 1) := by decide +kernel
theorem dX10_text_26 : decode m_X10_text.2.1 26 = .ok (.getfield 10, 3) := by decide +kernel
theorem dX10_text_29 : decode m_X10_text.2.1 29 = .ok (.getfield 209, 3) := by decide +kernel
theorem dX10_text_32 : decode m_X10_text.2.1 32 = .ok (.aload_n 0, 1) := by decide +kernel
theorem dX10_text_33 : decode m_X10_text.2.1 33 = .ok (.getfield 33, 3) := by decide +kernel
theorem dX10_text_36 : decode m_X10_text.2.1 36 = .ok (.invokevirtual 213, 3) := by decide +kernel
theorem dX10_text_39 : decode m_X10_text.2.1 39 = .ok (.ireturn, 1) := by decide +kernel
theorem dX10_textTold_0 : decode m_X10_textTold.2.1 0 = .ok (.aload_n 0, 1) := by decide +kernel
theorem dX10_textTold_1 : decode m_X10_textTold.2.1 1 = .ok (.getfield 10, 3) := by decide +kernel
theorem dX10_textTold_4 : decode m_X10_textTold.2.1 4 = .ok (.getfield 209, 3) := by decide +kernel
theorem dX10_textTold_7 : decode m_X10_textTold.2.1 7 = .ok (.iload_n 1, 1) := by decide +kernel
theorem dX10_textTold_8 : decode m_X10_textTold.2.1 8 = .ok (.invokevirtual 218, 3) := by decide +kernel
theorem dX10_textTold_11 : decode m_X10_textTold.2.1 11 = .ok (.ifCond .ne 6, 3) := by decide +kernel
theorem dX10_textTold_14 : decode m_X10_textTold.2.1 14 = .ok (.ldc 67, 2) := by decide +kernel
theorem dX10_textTold_16 : decode m_X10_textTold.2.1 16 = .ok (.ireturn, 1) := by decide +kernel
theorem dX10_textTold_17 : decode m_X10_textTold.2.1 17 = .ok (.iload_n 2, 1) := by decide +kernel
theorem dX10_textTold_18 : decode m_X10_textTold.2.1 18 = .ok (.tableswitch 65 0 2 #[26, 39, 52], 26) := by decide +kernel
theorem dX10_textTold_44 : decode m_X10_textTold.2.1 44 = .ok (.aload_n 0, 1) := by decide +kernel
theorem dX10_textTold_45 : decode m_X10_textTold.2.1 45 = .ok (.getfield 10, 3) := by decide +kernel
theorem dX10_textTold_48 : decode m_X10_textTold.2.1 48 = .ok (.getfield 209, 3) := by decide +kernel
theorem dX10_textTold_51 : decode m_X10_textTold.2.1 51 = .ok (.getfield 219, 3) := by decide +kernel
theorem dX10_textTold_54 : decode m_X10_textTold.2.1 54 = .ok (.iload_n 1, 1) := by decide +kernel
theorem dX10_textTold_55 : decode m_X10_textTold.2.1 55 = .ok (.iaload, 1) := by decide +kernel
theorem dX10_textTold_56 : decode m_X10_textTold.2.1 56 = .ok (.ireturn, 1) := by decide +kernel
theorem dX10_textTold_57 : decode m_X10_textTold.2.1 57 = .ok (.aload_n 0, 1) := by decide +kernel
theorem dX10_textTold_58 : decode m_X10_textTold.2.1 58 = .ok (.getfield 10, 3) := by decide +kernel
theorem dX10_textTold_61 : decode m_X10_textTold.2.1 61 = .ok (.getfield 209, 3) := by decide +kernel
theorem dX10_textTold_64 : decode m_X10_textTold.2.1 64 = .ok (.getfield 222, 3) := by decide +kernel
theorem dX10_textTold_67 : decode m_X10_textTold.2.1 67 = .ok (.iload_n 1, 1) := by decide +kernel
theorem dX10_textTold_68 : decode m_X10_textTold.2.1 68 = .ok (.iaload, 1) := by decide +kernel
theorem dX10_textTold_69 : decode m_X10_textTold.2.1 69 = .ok (.ireturn, 1) := by decide +kernel
theorem dX10_textTold_70 : decode m_X10_textTold.2.1 70 = .ok (.aload_n 0, 1) := by decide +kernel
theorem dX10_textTold_71 : decode m_X10_textTold.2.1 71 = .ok (.getfield 10, 3) := by decide +kernel
theorem dX10_textTold_74 : decode m_X10_textTold.2.1 74 = .ok (.getfield 209, 3) := by decide +kernel
theorem dX10_textTold_77 : decode m_X10_textTold.2.1 77 = .ok (.getfield 224, 3) := by decide +kernel
theorem dX10_textTold_80 : decode m_X10_textTold.2.1 80 = .ok (.iload_n 1, 1) := by decide +kernel
theorem dX10_textTold_81 : decode m_X10_textTold.2.1 81 = .ok (.iaload, 1) := by decide +kernel
theorem dX10_textTold_82 : decode m_X10_textTold.2.1 82 = .ok (.ireturn, 1) := by decide +kernel
theorem dX10_textTold_83 : decode m_X10_textTold.2.1 83 = .ok (.ldc 67, 2) := by decide +kernel
theorem dX10_textTold_85 : decode m_X10_textTold.2.1 85 = .ok (.ireturn, 1) := by decide +kernel
theorem dX10_why_0 : decode m_X10_why.2.1 0 = .ok (.iload_n 1, 1) := by decide +kernel
theorem dX10_why_1 : decode m_X10_why.2.1 1 = .ok (.iconst 0, 1) := by decide +kernel
theorem dX10_why_2 : decode m_X10_why.2.1 2 = .ok (.iconst 2, 1) := by decide +kernel
theorem dX10_why_3 : decode m_X10_why.2.1 3 = .ok (.invokestatic 63, 3) := by decide +kernel
theorem dX10_why_6 : decode m_X10_why.2.1 6 = .ok (.ifCond .eq 16, 3) := by decide +kernel
theorem dX10_why_9 : decode m_X10_why.2.1 9 = .ok (.iload_n 1, 1) := by decide +kernel
theorem dX10_why_10 : decode m_X10_why.2.1 10 = .ok (.ifCond .ne 15, 3) := by decide +kernel
theorem dX10_why_13 : decode m_X10_why.2.1 13 = .ok (.iload_n 2, 1) := by decide +kernel
theorem dX10_why_14 : decode m_X10_why.2.1 14 = .ok (.iconst 0, 1) := by decide +kernel
theorem dX10_why_15 : decode m_X10_why.2.1 15 = .ok (.iconst 5, 1) := by decide +kernel
theorem dX10_why_16 : decode m_X10_why.2.1 16 = .ok (.invokestatic 63, 3) := by decide +kernel
theorem dX10_why_19 : decode m_X10_why.2.1 19 = .ok (.ifCond .ne 6, 3) := by decide +kernel
theorem dX10_why_22 : decode m_X10_why.2.1 22 = .ok (.ldc 67, 2) := by decide +kernel
theorem dX10_why_24 : decode m_X10_why.2.1 24 = .ok (.ireturn, 1) := by decide +kernel
theorem dX10_why_25 : decode m_X10_why.2.1 25 = .ok (.aload_n 0, 1) := by decide +kernel
theorem dX10_why_26 : decode m_X10_why.2.1 26 = .ok (.getfield 10, 3) := by decide +kernel
theorem dX10_why_29 : decode m_X10_why.2.1 29 = .ok (.getfield 209, 3) := by decide +kernel
theorem dX10_why_32 : decode m_X10_why.2.1 32 = .ok (.iload_n 1, 1) := by decide +kernel
theorem dX10_why_33 : decode m_X10_why.2.1 33 = .ok (.iload_n 2, 1) := by decide +kernel
theorem dX10_why_34 : decode m_X10_why.2.1 34 = .ok (.invokevirtual 227, 3) := by decide +kernel
theorem dX10_why_37 : decode m_X10_why.2.1 37 = .ok (.istore_n 3, 1) := by decide +kernel
theorem dX10_why_38 : decode m_X10_why.2.1 38 = .ok (.iload_n 3, 1) := by decide +kernel
theorem dX10_why_39 : decode m_X10_why.2.1 39 = .ok (.ifCond .ge 8, 3) := by decide +kernel
theorem dX10_why_42 : decode m_X10_why.2.1 42 = .ok (.ldc 199, 2) := by decide +kernel
theorem dX10_why_44 : decode m_X10_why.2.1 44 = .ok (.goto 4, 3) := by decide +kernel
theorem dX10_why_47 : decode m_X10_why.2.1 47 = .ok (.iload_n 3, 1) := by decide +kernel
theorem dX10_why_48 : decode m_X10_why.2.1 48 = .ok (.ireturn, 1) := by decide +kernel
theorem dX10_choose_0 : decode m_X10_choose.2.1 0 = .ok (.aload_n 0, 1) := by decide +kernel
theorem dX10_choose_1 : decode m_X10_choose.2.1 1 = .ok (.getfield 10, 3) := by decide +kernel
theorem dX10_choose_4 : decode m_X10_choose.2.1 4 = .ok (.getfield 68, 3) := by decide +kernel
theorem dX10_choose_7 : decode m_X10_choose.2.1 7 = .ok (.iload_n 1, 1) := by decide +kernel
theorem dX10_choose_8 : decode m_X10_choose.2.1 8 = .ok (.invokevirtual 78, 3) := by decide +kernel
theorem dX10_choose_11 : decode m_X10_choose.2.1 11 = .ok (.ifCond .ne 6, 3) := by decide +kernel
theorem dX10_choose_14 : decode m_X10_choose.2.1 14 = .ok (.ldc 67, 2) := by decide +kernel
theorem dX10_choose_16 : decode m_X10_choose.2.1 16 = .ok (.ireturn, 1) := by decide +kernel
theorem dX10_choose_17 : decode m_X10_choose.2.1 17 = .ok (.aload_n 0, 1) := by decide +kernel
theorem dX10_choose_18 : decode m_X10_choose.2.1 18 = .ok (.getfield 10, 3) := by decide +kernel
theorem dX10_choose_21 : decode m_X10_choose.2.1 21 = .ok (.getfield 68, 3) := by decide +kernel
theorem dX10_choose_24 : decode m_X10_choose.2.1 24 = .ok (.iload_n 1, 1) := by decide +kernel
theorem dX10_choose_25 : decode m_X10_choose.2.1 25 = .ok (.invokevirtual 231, 3) := by decide +kernel
theorem dX10_choose_28 : decode m_X10_choose.2.1 28 = .ok (.ifCond .eq 6, 3) := by decide +kernel
theorem dX10_choose_31 : decode m_X10_choose.2.1 31 = .ok (.ldc 116, 2) := by decide +kernel
theorem dX10_choose_33 : decode m_X10_choose.2.1 33 = .ok (.ireturn, 1) := by decide +kernel
theorem dX10_choose_34 : decode m_X10_choose.2.1 34 = .ok (.aload_n 0, 1) := by decide +kernel
theorem dX10_choose_35 : decode m_X10_choose.2.1 35 = .ok (.getfield 10, 3) := by decide +kernel
theorem dX10_choose_38 : decode m_X10_choose.2.1 38 = .ok (.getfield 68, 3) := by decide +kernel
theorem dX10_choose_41 : decode m_X10_choose.2.1 41 = .ok (.iload_n 1, 1) := by decide +kernel
theorem dX10_choose_42 : decode m_X10_choose.2.1 42 = .ok (.invokevirtual 234, 3) := by decide +kernel
theorem dX10_choose_45 : decode m_X10_choose.2.1 45 = .ok (.ireturn, 1) := by decide +kernel
theorem dX10_clear_0 : decode m_X10_clear.2.1 0 = .ok (.aload_n 0, 1) := by decide +kernel
theorem dX10_clear_1 : decode m_X10_clear.2.1 1 = .ok (.getfield 10, 3) := by decide +kernel
theorem dX10_clear_4 : decode m_X10_clear.2.1 4 = .ok (.getfield 68, 3) := by decide +kernel
theorem dX10_clear_7 : decode m_X10_clear.2.1 7 = .ok (.getfield 237, 3) := by decide +kernel
theorem dX10_clear_10 : decode m_X10_clear.2.1 10 = .ok (.istore_n 1, 1) := by decide +kernel
theorem dX10_clear_11 : decode m_X10_clear.2.1 11 = .ok (.aload_n 0, 1) := by decide +kernel
theorem dX10_clear_12 : decode m_X10_clear.2.1 12 = .ok (.getfield 10, 3) := by decide +kernel
theorem dX10_clear_15 : decode m_X10_clear.2.1 15 = .ok (.getfield 68, 3) := by decide +kernel
theorem dX10_clear_18 : decode m_X10_clear.2.1 18 = .ok (.iconst 0, 1) := by decide +kernel
theorem dX10_clear_19 : decode m_X10_clear.2.1 19 = .ok (.putfield 237, 3) := by decide +kernel
theorem dX10_clear_22 : decode m_X10_clear.2.1 22 = .ok (.iload_n 1, 1) := by decide +kernel
theorem dX10_clear_23 : decode m_X10_clear.2.1 23 = .ok (.ireturn, 1) := by decide +kernel
theorem dX10_burden_0 : decode m_X10_burden.2.1 0 = .ok (.iload_n 1, 1) := by decide +kernel
theorem dX10_burden_1 : decode m_X10_burden.2.1 1 = .ok (.iconst 0, 1) := by decide +kernel
theorem dX10_burden_2 : decode m_X10_burden.2.1 2 = .ok (.sipush 9999, 3) := by decide +kernel
theorem dX10_burden_5 : decode m_X10_burden.2.1 5 = .ok (.invokestatic 63, 3) := by decide +kernel
theorem dX10_burden_8 : decode m_X10_burden.2.1 8 = .ok (.ifCond .eq 26, 3) := by decide +kernel
theorem dX10_burden_11 : decode m_X10_burden.2.1 11 = .ok (.iload_n 2, 1) := by decide +kernel
theorem dX10_burden_12 : decode m_X10_burden.2.1 12 = .ok (.iconst 0, 1) := by decide +kernel
theorem dX10_burden_13 : decode m_X10_burden.2.1 13 = .ok (.ldc 240, 2) := by decide +kernel
theorem dX10_burden_15 : decode m_X10_burden.2.1 15 = .ok (.invokestatic 63, 3) := by decide +kernel
theorem dX10_burden_18 : decode m_X10_burden.2.1 18 = .ok (.ifCond .eq 16, 3) := by decide +kernel
theorem dX10_burden_21 : decode m_X10_burden.2.1 21 = .ok (.iload_n 2, 1) := by decide +kernel
theorem dX10_burden_22 : decode m_X10_burden.2.1 22 = .ok (.sipush 1000, 3) := by decide +kernel
theorem dX10_burden_25 : decode m_X10_burden.2.1 25 = .ok (.idiv, 1) := by decide +kernel
theorem dX10_burden_26 : decode m_X10_burden.2.1 26 = .ok (.iload_n 2, 1) := by decide +kernel
theorem dX10_burden_27 : decode m_X10_burden.2.1 27 = .ok (.sipush 1000, 3) := by decide +kernel
theorem dX10_burden_30 : decode m_X10_burden.2.1 30 = .ok (.irem, 1) := by decide +kernel
theorem dX10_burden_31 : decode m_X10_burden.2.1 31 = .ok (.if_icmp .le 6, 3) := by decide +kernel
theorem dX10_burden_34 : decode m_X10_burden.2.1 34 = .ok (.ldc 67, 2) := by decide +kernel
theorem dX10_burden_36 : decode m_X10_burden.2.1 36 = .ok (.ireturn, 1) := by decide +kernel
theorem dX10_burden_37 : decode m_X10_burden.2.1 37 = .ok (.iload_n 3, 1) := by decide +kernel
theorem dX10_burden_38 : decode m_X10_burden.2.1 38 = .ok (.iconst (-1), 1) := by decide +kernel
theorem dX10_burden_39 : decode m_X10_burden.2.1 39 = .ok (.aload_n 0, 1) := by decide +kernel
theorem dX10_burden_40 : decode m_X10_burden.2.1 40 = .ok (.getfield 10, 3) := by decide +kernel
theorem dX10_burden_43 : decode m_X10_burden.2.1 43 = .ok (.getfield 68, 3) := by decide +kernel
theorem dX10_burden_46 : decode m_X10_burden.2.1 46 = .ok (.getfield 237, 3) := by decide +kernel
theorem dX10_burden_49 : decode m_X10_burden.2.1 49 = .ok (.iconst 1, 1) := by decide +kernel
theorem dX10_burden_50 : decode m_X10_burden.2.1 50 = .ok (.isub, 1) := by decide +kernel
theorem dX10_burden_51 : decode m_X10_burden.2.1 51 = .ok (.invokestatic 63, 3) := by decide +kernel
theorem dX10_burden_54 : decode m_X10_burden.2.1 54 = .ok (.ifCond .ne 6, 3) := by decide +kernel
theorem dX10_burden_57 : decode m_X10_burden.2.1 57 = .ok (.ldc 67, 2) := by decide +kernel
theorem dX10_burden_59 : decode m_X10_burden.2.1 59 = .ok (.ireturn, 1) := by decide +kernel
theorem dX10_burden_60 : decode m_X10_burden.2.1 60 = .ok (.aload_n 0, 1) := by decide +kernel
theorem dX10_burden_61 : decode m_X10_burden.2.1 61 = .ok (.getfield 10, 3) := by decide +kernel
theorem dX10_burden_64 : decode m_X10_burden.2.1 64 = .ok (.getfield 68, 3) := by decide +kernel
theorem dX10_burden_67 : decode m_X10_burden.2.1 67 = .ok (.iload_n 1, 1) := by decide +kernel
theorem dX10_burden_68 : decode m_X10_burden.2.1 68 = .ok (.iload_n 2, 1) := by decide +kernel
theorem dX10_burden_69 : decode m_X10_burden.2.1 69 = .ok (.sipush 1000, 3) := by decide +kernel
theorem dX10_burden_72 : decode m_X10_burden.2.1 72 = .ok (.idiv, 1) := by decide +kernel
theorem dX10_burden_73 : decode m_X10_burden.2.1 73 = .ok (.iload_n 2, 1) := by decide +kernel
theorem dX10_burden_74 : decode m_X10_burden.2.1 74 = .ok (.sipush 1000, 3) := by decide +kernel
theorem dX10_burden_77 : decode m_X10_burden.2.1 77 = .ok (.irem, 1) := by decide +kernel
theorem dX10_burden_78 : decode m_X10_burden.2.1 78 = .ok (.invokevirtual 241, 3) := by decide +kernel
theorem dX10_burden_81 : decode m_X10_burden.2.1 81 = .ok (.istore 4, 2) := by decide +kernel
theorem dX10_burden_83 : decode m_X10_burden.2.1 83 = .ok (.iload 4, 2) := by decide +kernel
theorem dX10_burden_85 : decode m_X10_burden.2.1 85 = .ok (.ifCond .ge 6, 3) := by decide +kernel
theorem dX10_burden_88 : decode m_X10_burden.2.1 88 = .ok (.ldc 199, 2) := by decide +kernel
theorem dX10_burden_90 : decode m_X10_burden.2.1 90 = .ok (.ireturn, 1) := by decide +kernel
theorem dX10_burden_91 : decode m_X10_burden.2.1 91 = .ok (.iload_n 3, 1) := by decide +kernel
theorem dX10_burden_92 : decode m_X10_burden.2.1 92 = .ok (.ifCond .ge 18, 3) := by decide +kernel
theorem dX10_burden_95 : decode m_X10_burden.2.1 95 = .ok (.aload_n 0, 1) := by decide +kernel
theorem dX10_burden_96 : decode m_X10_burden.2.1 96 = .ok (.getfield 10, 3) := by decide +kernel
theorem dX10_burden_99 : decode m_X10_burden.2.1 99 = .ok (.getfield 68, 3) := by decide +kernel
theorem dX10_burden_102 : decode m_X10_burden.2.1 102 = .ok (.iload 4, 2) := by decide +kernel
theorem dX10_burden_104 : decode m_X10_burden.2.1 104 = .ok (.invokevirtual 244, 3) := by decide +kernel
theorem dX10_burden_107 : decode m_X10_burden.2.1 107 = .ok (.goto 16, 3) := by decide +kernel
theorem dX10_burden_110 : decode m_X10_burden.2.1 110 = .ok (.aload_n 0, 1) := by decide +kernel
theorem dX10_burden_111 : decode m_X10_burden.2.1 111 = .ok (.getfield 10, 3) := by decide +kernel
theorem dX10_burden_114 : decode m_X10_burden.2.1 114 = .ok (.getfield 68, 3) := by decide +kernel
theorem dX10_burden_117 : decode m_X10_burden.2.1 117 = .ok (.iload 4, 2) := by decide +kernel
theorem dX10_burden_119 : decode m_X10_burden.2.1 119 = .ok (.iload_n 3, 1) := by decide +kernel
theorem dX10_burden_120 : decode m_X10_burden.2.1 120 = .ok (.invokevirtual 247, 3) := by decide +kernel
theorem dX10_burden_123 : decode m_X10_burden.2.1 123 = .ok (.ireturn, 1) := by decide +kernel
theorem dX10_ladle_0 : decode m_X10_ladle.2.1 0 = .ok (.iload_n 1, 1) := by decide +kernel
theorem dX10_ladle_1 : decode m_X10_ladle.2.1 1 = .ok (.iconst 1, 1) := by decide +kernel
theorem dX10_ladle_2 : decode m_X10_ladle.2.1 2 = .ok (.sipush 999, 3) := by decide +kernel
theorem dX10_ladle_5 : decode m_X10_ladle.2.1 5 = .ok (.invokestatic 63, 3) := by decide +kernel
theorem dX10_ladle_8 : decode m_X10_ladle.2.1 8 = .ok (.ifCond .ne 6, 3) := by decide +kernel
theorem dX10_ladle_11 : decode m_X10_ladle.2.1 11 = .ok (.ldc 67, 2) := by decide +kernel
theorem dX10_ladle_13 : decode m_X10_ladle.2.1 13 = .ok (.ireturn, 1) := by decide +kernel
theorem dX10_ladle_14 : decode m_X10_ladle.2.1 14 = .ok (.aload_n 0, 1) := by decide +kernel
theorem dX10_ladle_15 : decode m_X10_ladle.2.1 15 = .ok (.getfield 10, 3) := by decide +kernel
theorem dX10_ladle_18 : decode m_X10_ladle.2.1 18 = .ok (.getfield 250, 3) := by decide +kernel
theorem dX10_ladle_21 : decode m_X10_ladle.2.1 21 = .ok (.iload_n 1, 1) := by decide +kernel
theorem dX10_ladle_22 : decode m_X10_ladle.2.1 22 = .ok (.invokevirtual 254, 3) := by decide +kernel
theorem dX10_ladle_25 : decode m_X10_ladle.2.1 25 = .ok (.ireturn, 1) := by decide +kernel
theorem dX10_backAt_0 : decode m_X10_backAt.2.1 0 = .ok (.aload_n 0, 1) := by decide +kernel
theorem dX10_backAt_1 : decode m_X10_backAt.2.1 1 = .ok (.getfield 10, 3) := by decide +kernel
theorem dX10_backAt_4 : decode m_X10_backAt.2.1 4 = .ok (.getfield 250, 3) := by decide +kernel
theorem dX10_backAt_7 : decode m_X10_backAt.2.1 7 = .ok (.iload_n 1, 1) := by decide +kernel
theorem dX10_backAt_8 : decode m_X10_backAt.2.1 8 = .ok (.invokevirtual 258, 3) := by decide +kernel
theorem dX10_backAt_11 : decode m_X10_backAt.2.1 11 = .ok (.ifCond .ne 6, 3) := by decide +kernel
theorem dX10_backAt_14 : decode m_X10_backAt.2.1 14 = .ok (.ldc 67, 2) := by decide +kernel
theorem dX10_backAt_16 : decode m_X10_backAt.2.1 16 = .ok (.ireturn, 1) := by decide +kernel
theorem dX10_backAt_17 : decode m_X10_backAt.2.1 17 = .ok (.aload_n 0, 1) := by decide +kernel
theorem dX10_backAt_18 : decode m_X10_backAt.2.1 18 = .ok (.getfield 10, 3) := by decide +kernel
theorem dX10_backAt_21 : decode m_X10_backAt.2.1 21 = .ok (.getfield 250, 3) := by decide +kernel
theorem dX10_backAt_24 : decode m_X10_backAt.2.1 24 = .ok (.getfield 259, 3) := by decide +kernel
theorem dX10_backAt_27 : decode m_X10_backAt.2.1 27 = .ok (.iload_n 1, 1) := by decide +kernel
theorem dX10_backAt_28 : decode m_X10_backAt.2.1 28 = .ok (.iaload, 1) := by decide +kernel
theorem dX10_backAt_29 : decode m_X10_backAt.2.1 29 = .ok (.ldc 112, 2) := by decide +kernel
theorem dX10_backAt_31 : decode m_X10_backAt.2.1 31 = .ok (.invokestatic 262, 3) := by decide +kernel
theorem dX10_backAt_34 : decode m_X10_backAt.2.1 34 = .ok (.ireturn, 1) := by decide +kernel
theorem dX10_pour_0 : decode m_X10_pour.2.1 0 = .ok (.iload_n 1, 1) := by decide +kernel
theorem dX10_pour_1 : decode m_X10_pour.2.1 1 = .ok (.iconst 1, 1) := by decide +kernel
theorem dX10_pour_2 : decode m_X10_pour.2.1 2 = .ok (.sipush 9999, 3) := by decide +kernel
theorem dX10_pour_5 : decode m_X10_pour.2.1 5 = .ok (.invokestatic 63, 3) := by decide +kernel
theorem dX10_pour_8 : decode m_X10_pour.2.1 8 = .ok (.ifCond .eq 14, 3) := by decide +kernel
theorem dX10_pour_11 : decode m_X10_pour.2.1 11 = .ok (.iload_n 2, 1) := by decide +kernel
theorem dX10_pour_12 : decode m_X10_pour.2.1 12 = .ok (.iconst 0, 1) := by decide +kernel
theorem dX10_pour_13 : decode m_X10_pour.2.1 13 = .ok (.sipush 9999, 3) := by decide +kernel
theorem dX10_pour_16 : decode m_X10_pour.2.1 16 = .ok (.invokestatic 63, 3) := by decide +kernel
theorem dX10_pour_19 : decode m_X10_pour.2.1 19 = .ok (.ifCond .ne 6, 3) := by decide +kernel
theorem dX10_pour_22 : decode m_X10_pour.2.1 22 = .ok (.ldc 67, 2) := by decide +kernel
theorem dX10_pour_24 : decode m_X10_pour.2.1 24 = .ok (.ireturn, 1) := by decide +kernel
theorem dX10_pour_25 : decode m_X10_pour.2.1 25 = .ok (.aload_n 0, 1) := by decide +kernel
theorem dX10_pour_26 : decode m_X10_pour.2.1 26 = .ok (.getfield 10, 3) := by decide +kernel
theorem dX10_pour_29 : decode m_X10_pour.2.1 29 = .ok (.getfield 250, 3) := by decide +kernel
theorem dX10_pour_32 : decode m_X10_pour.2.1 32 = .ok (.getfield 267, 3) := by decide +kernel
theorem dX10_pour_35 : decode m_X10_pour.2.1 35 = .ok (.ifCond .eq 17, 3) := by decide +kernel
theorem dX10_pour_38 : decode m_X10_pour.2.1 38 = .ok (.aload_n 0, 1) := by decide +kernel
theorem dX10_pour_39 : decode m_X10_pour.2.1 39 = .ok (.getfield 10, 3) := by decide +kernel
theorem dX10_pour_42 : decode m_X10_pour.2.1 42 = .ok (.getfield 117, 3) := by decide +kernel
theorem dX10_pour_45 : decode m_X10_pour.2.1 45 = .ok (.getfield 181, 3) := by decide +kernel
theorem dX10_pour_48 : decode m_X10_pour.2.1 48 = .ok (.iload_n 1, 1) := by decide +kernel
theorem dX10_pour_49 : decode m_X10_pour.2.1 49 = .ok (.if_icmp .ge 6, 3) := by decide +kernel
theorem dX10_pour_52 : decode m_X10_pour.2.1 52 = .ok (.ldc 116, 2) := by decide +kernel
theorem dX10_pour_54 : decode m_X10_pour.2.1 54 = .ok (.ireturn, 1) := by decide +kernel
theorem dX10_pour_55 : decode m_X10_pour.2.1 55 = .ok (.aload_n 0, 1) := by decide +kernel
theorem dX10_pour_56 : decode m_X10_pour.2.1 56 = .ok (.getfield 10, 3) := by decide +kernel
theorem dX10_pour_59 : decode m_X10_pour.2.1 59 = .ok (.iload_n 1, 1) := by decide +kernel
theorem dX10_pour_60 : decode m_X10_pour.2.1 60 = .ok (.iload_n 2, 1) := by decide +kernel
theorem dX10_pour_61 : decode m_X10_pour.2.1 61 = .ok (.invokevirtual 268, 3) := by decide +kernel
theorem dX10_pour_64 : decode m_X10_pour.2.1 64 = .ok (.ireturn, 1) := by decide +kernel
theorem dX10_sheet_0 : decode m_X10_sheet.2.1 0 = .ok (.iload_n 1, 1) := by decide +kernel
theorem dX10_sheet_1 : decode m_X10_sheet.2.1 1 = .ok (.invokestatic 271, 3) := by decide +kernel
theorem dX10_sheet_4 : decode m_X10_sheet.2.1 4 = .ok (.ifCond .eq 12, 3) := by decide +kernel
theorem dX10_sheet_7 : decode m_X10_sheet.2.1 7 = .ok (.iload_n 2, 1) := by decide +kernel
theorem dX10_sheet_8 : decode m_X10_sheet.2.1 8 = .ok (.iconst (-1), 1) := by decide +kernel
theorem dX10_sheet_9 : decode m_X10_sheet.2.1 9 = .ok (.iconst 1, 1) := by decide +kernel
theorem dX10_sheet_10 : decode m_X10_sheet.2.1 10 = .ok (.invokestatic 63, 3) := by decide +kernel
theorem dX10_sheet_13 : decode m_X10_sheet.2.1 13 = .ok (.ifCond .ne 6, 3) := by decide +kernel
theorem dX10_sheet_16 : decode m_X10_sheet.2.1 16 = .ok (.ldc 67, 2) := by decide +kernel
theorem dX10_sheet_18 : decode m_X10_sheet.2.1 18 = .ok (.ireturn, 1) := by decide +kernel
theorem dX10_sheet_19 : decode m_X10_sheet.2.1 19 = .ok (.iload_n 2, 1) := by decide +kernel
theorem dX10_sheet_20 : decode m_X10_sheet.2.1 20 = .ok (.iconst (-1), 1) := by decide +kernel
theorem dX10_sheet_21 : decode m_X10_sheet.2.1 21 = .ok (.if_icmp .ne 16, 3) := by decide +kernel
theorem dX10_sheet_24 : decode m_X10_sheet.2.1 24 = .ok (.aload_n 0, 1) := by decide +kernel
theorem dX10_sheet_25 : decode m_X10_sheet.2.1 25 = .ok (.getfield 39, 3) := by decide +kernel
theorem dX10_sheet_28 : decode m_X10_sheet.2.1 28 = .ok (.iload_n 1, 1) := by decide +kernel
theorem dX10_sheet_29 : decode m_X10_sheet.2.1 29 = .ok (.aaload, 1) := by decide +kernel
theorem dX10_sheet_30 : decode m_X10_sheet.2.1 30 = .ok (.iconst (-1), 1) := by decide +kernel
theorem dX10_sheet_31 : decode m_X10_sheet.2.1 31 = .ok (.iconst 0, 1) := by decide +kernel
theorem dX10_sheet_32 : decode m_X10_sheet.2.1 32 = .ok (.invokevirtual 274, 3) := by decide +kernel
theorem dX10_sheet_35 : decode m_X10_sheet.2.1 35 = .ok (.iconst 0, 1) := by decide +kernel
theorem dX10_sheet_36 : decode m_X10_sheet.2.1 36 = .ok (.ireturn, 1) := by decide +kernel
theorem dX10_sheet_37 : decode m_X10_sheet.2.1 37 = .ok (.iload_n 3, 1) := by decide +kernel
theorem dX10_sheet_38 : decode m_X10_sheet.2.1 38 = .ok (.bipush 24, 2) := by decide +kernel
theorem dX10_sheet_40 : decode m_X10_sheet.2.1 40 = .ok (.if_icmp .le 6, 3) := by decide +kernel
theorem dX10_sheet_43 : decode m_X10_sheet.2.1 43 = .ok (.ldc 67, 2) := by decide +kernel
theorem dX10_sheet_45 : decode m_X10_sheet.2.1 45 = .ok (.ireturn, 1) := by decide +kernel
theorem dX10_sheet_46 : decode m_X10_sheet.2.1 46 = .ok (.iload_n 3, 1) := by decide +kernel
theorem dX10_sheet_47 : decode m_X10_sheet.2.1 47 = .ok (.ifCond .ge 7, 3) := by decide +kernel
theorem dX10_sheet_50 : decode m_X10_sheet.2.1 50 = .ok (.ldc_w 277, 3) := by decide +kernel
theorem dX10_sheet_53 : decode m_X10_sheet.2.1 53 = .ok (.ireturn, 1) := by decide +kernel
theorem dX10_sheet_54 : decode m_X10_sheet.2.1 54 = .ok (.aload_n 0, 1) := by decide +kernel
theorem dX10_sheet_55 : decode m_X10_sheet.2.1 55 = .ok (.getfield 39, 3) := by decide +kernel
theorem dX10_sheet_58 : decode m_X10_sheet.2.1 58 = .ok (.iload_n 1, 1) := by decide +kernel
theorem dX10_sheet_59 : decode m_X10_sheet.2.1 59 = .ok (.aaload, 1) := by decide +kernel
theorem dX10_sheet_60 : decode m_X10_sheet.2.1 60 = .ok (.iload_n 2, 1) := by decide +kernel
theorem dX10_sheet_61 : decode m_X10_sheet.2.1 61 = .ok (.iload_n 3, 1) := by decide +kernel
theorem dX10_sheet_62 : decode m_X10_sheet.2.1 62 = .ok (.invokevirtual 274, 3) := by decide +kernel
theorem dX10_sheet_65 : decode m_X10_sheet.2.1 65 = .ok (.iload_n 3, 1) := by decide +kernel
theorem dX10_sheet_66 : decode m_X10_sheet.2.1 66 = .ok (.ireturn, 1) := by decide +kernel
theorem dX10_mark_0 : decode m_X10_mark.2.1 0 = .ok (.iload_n 1, 1) := by decide +kernel
theorem dX10_mark_1 : decode m_X10_mark.2.1 1 = .ok (.invokestatic 271, 3) := by decide +kernel
theorem dX10_mark_4 : decode m_X10_mark.2.1 4 = .ok (.ifCond .ne 6, 3) := by decide +kernel
theorem dX10_mark_7 : decode m_X10_mark.2.1 7 = .ok (.ldc 67, 2) := by decide +kernel
theorem dX10_mark_9 : decode m_X10_mark.2.1 9 = .ok (.ireturn, 1) := by decide +kernel
theorem dX10_mark_10 : decode m_X10_mark.2.1 10 = .ok (.aload_n 0, 1) := by decide +kernel
theorem dX10_mark_11 : decode m_X10_mark.2.1 11 = .ok (.getfield 39, 3) := by decide +kernel
theorem dX10_mark_14 : decode m_X10_mark.2.1 14 = .ok (.iload_n 1, 1) := by decide +kernel
theorem dX10_mark_15 : decode m_X10_mark.2.1 15 = .ok (.aaload, 1) := by decide +kernel
theorem dX10_mark_16 : decode m_X10_mark.2.1 16 = .ok (.astore 4, 2) := by decide +kernel
theorem dX10_mark_18 : decode m_X10_mark.2.1 18 = .ok (.aload 4, 2) := by decide +kernel
theorem dX10_mark_20 : decode m_X10_mark.2.1 20 = .ok (.getfield 278, 3) := by decide +kernel
theorem dX10_mark_23 : decode m_X10_mark.2.1 23 = .ok (.iconst (-1), 1) := by decide +kernel
theorem dX10_mark_24 : decode m_X10_mark.2.1 24 = .ok (.if_icmp .ne 7, 3) := by decide +kernel
theorem dX10_mark_27 : decode m_X10_mark.2.1 27 = .ok (.ldc_w 281, 3) := by decide +kernel
theorem dX10_mark_30 : decode m_X10_mark.2.1 30 = .ok (.ireturn, 1) := by decide +kernel
theorem dX10_mark_31 : decode m_X10_mark.2.1 31 = .ok (.aload 4, 2) := by decide +kernel
theorem dX10_mark_33 : decode m_X10_mark.2.1 33 = .ok (.iload_n 2, 1) := by decide +kernel
theorem dX10_mark_34 : decode m_X10_mark.2.1 34 = .ok (.invokevirtual 282, 3) := by decide +kernel
theorem dX10_mark_37 : decode m_X10_mark.2.1 37 = .ok (.ifCond .ne 7, 3) := by decide +kernel
theorem dX10_mark_40 : decode m_X10_mark.2.1 40 = .ok (.ldc_w 283, 3) := by decide +kernel
theorem dX10_mark_43 : decode m_X10_mark.2.1 43 = .ok (.ireturn, 1) := by decide +kernel
theorem dX10_mark_44 : decode m_X10_mark.2.1 44 = .ok (.iload_n 3, 1) := by decide +kernel
theorem dX10_mark_45 : decode m_X10_mark.2.1 45 = .ok (.ldc 199, 2) := by decide +kernel
theorem dX10_mark_47 : decode m_X10_mark.2.1 47 = .ok (.if_icmp .ne 22, 3) := by decide +kernel
theorem dX10_mark_50 : decode m_X10_mark.2.1 50 = .ok (.aload 4, 2) := by decide +kernel
theorem dX10_mark_52 : decode m_X10_mark.2.1 52 = .ok (.getfield 278, 3) := by decide +kernel
theorem dX10_mark_55 : decode m_X10_mark.2.1 55 = .ok (.ifCond .ne 6, 3) := by decide +kernel
theorem dX10_mark_58 : decode m_X10_mark.2.1 58 = .ok (.ldc 110, 2) := by decide +kernel
theorem dX10_mark_60 : decode m_X10_mark.2.1 60 = .ok (.ireturn, 1) := by decide +kernel
theorem dX10_mark_61 : decode m_X10_mark.2.1 61 = .ok (.aload 4, 2) := by decide +kernel
theorem dX10_mark_63 : decode m_X10_mark.2.1 63 = .ok (.iload_n 2, 1) := by decide +kernel
theorem dX10_mark_64 : decode m_X10_mark.2.1 64 = .ok (.invokevirtual 284, 3) := by decide +kernel
theorem dX10_mark_67 : decode m_X10_mark.2.1 67 = .ok (.iconst 1, 1) := by decide +kernel
theorem dX10_mark_68 : decode m_X10_mark.2.1 68 = .ok (.ireturn, 1) := by decide +kernel
theorem dX10_mark_69 : decode m_X10_mark.2.1 69 = .ok (.aload 4, 2) := by decide +kernel
theorem dX10_mark_71 : decode m_X10_mark.2.1 71 = .ok (.getfield 278, 3) := by decide +kernel
theorem dX10_mark_74 : decode m_X10_mark.2.1 74 = .ok (.iconst 1, 1) := by decide +kernel
theorem dX10_mark_75 : decode m_X10_mark.2.1 75 = .ok (.if_icmp .ne 18, 3) := by decide +kernel
theorem dX10_mark_78 : decode m_X10_mark.2.1 78 = .ok (.iload_n 3, 1) := by decide +kernel
theorem dX10_mark_79 : decode m_X10_mark.2.1 79 = .ok (.ldc_w 287, 3) := by decide +kernel
theorem dX10_mark_82 : decode m_X10_mark.2.1 82 = .ok (.ldc 112, 2) := by decide +kernel
theorem dX10_mark_84 : decode m_X10_mark.2.1 84 = .ok (.invokestatic 63, 3) := by decide +kernel
theorem dX10_mark_87 : decode m_X10_mark.2.1 87 = .ok (.ifCond .ne 6, 3) := by decide +kernel
theorem dX10_mark_90 : decode m_X10_mark.2.1 90 = .ok (.ldc 67, 2) := by decide +kernel
theorem dX10_mark_92 : decode m_X10_mark.2.1 92 = .ok (.ireturn, 1) := by decide +kernel
theorem dX10_mark_93 : decode m_X10_mark.2.1 93 = .ok (.aload 4, 2) := by decide +kernel
theorem dX10_mark_95 : decode m_X10_mark.2.1 95 = .ok (.iload_n 2, 1) := by decide +kernel
theorem dX10_mark_96 : decode m_X10_mark.2.1 96 = .ok (.iload_n 3, 1) := by decide +kernel
theorem dX10_mark_97 : decode m_X10_mark.2.1 97 = .ok (.invokevirtual 288, 3) := by decide +kernel
theorem dX10_mark_100 : decode m_X10_mark.2.1 100 = .ok (.iconst 1, 1) := by decide +kernel
theorem dX10_mark_101 : decode m_X10_mark.2.1 101 = .ok (.ireturn, 1) := by decide +kernel
theorem dX10_sound_0 : decode m_X10_sound.2.1 0 = .ok (.iload_n 1, 1) := by decide +kernel
theorem dX10_sound_1 : decode m_X10_sound.2.1 1 = .ok (.invokestatic 271, 3) := by decide +kernel
theorem dX10_sound_4 : decode m_X10_sound.2.1 4 = .ok (.ifCond .eq 28, 3) := by decide +kernel
theorem dX10_sound_7 : decode m_X10_sound.2.1 7 = .ok (.iload_n 2, 1) := by decide +kernel
theorem dX10_sound_8 : decode m_X10_sound.2.1 8 = .ok (.iconst 0, 1) := by decide +kernel
theorem dX10_sound_9 : decode m_X10_sound.2.1 9 = .ok (.iconst 1, 1) := by decide +kernel
theorem dX10_sound_10 : decode m_X10_sound.2.1 10 = .ok (.invokestatic 63, 3) := by decide +kernel
theorem dX10_sound_13 : decode m_X10_sound.2.1 13 = .ok (.ifCond .eq 19, 3) := by decide +kernel
theorem dX10_sound_16 : decode m_X10_sound.2.1 16 = .ok (.iload_n 2, 1) := by decide +kernel
theorem dX10_sound_17 : decode m_X10_sound.2.1 17 = .ok (.iconst 1, 1) := by decide +kernel
theorem dX10_sound_18 : decode m_X10_sound.2.1 18 = .ok (.if_icmp .ne 17, 3) := by decide +kernel
theorem dX10_sound_21 : decode m_X10_sound.2.1 21 = .ok (.iload_n 3, 1) := by decide +kernel
theorem dX10_sound_22 : decode m_X10_sound.2.1 22 = .ok (.iconst 0, 1) := by decide +kernel
theorem dX10_sound_23 : decode m_X10_sound.2.1 23 = .ok (.sipush 9999, 3) := by decide +kernel
theorem dX10_sound_26 : decode m_X10_sound.2.1 26 = .ok (.invokestatic 63, 3) := by decide +kernel
theorem dX10_sound_29 : decode m_X10_sound.2.1 29 = .ok (.ifCond .ne 6, 3) := by decide +kernel
theorem dX10_sound_32 : decode m_X10_sound.2.1 32 = .ok (.ldc 67, 2) := by decide +kernel
theorem dX10_sound_34 : decode m_X10_sound.2.1 34 = .ok (.ireturn, 1) := by decide +kernel
theorem dX10_sound_35 : decode m_X10_sound.2.1 35 = .ok (.aload_n 0, 1) := by decide +kernel
theorem dX10_sound_36 : decode m_X10_sound.2.1 36 = .ok (.getfield 39, 3) := by decide +kernel
theorem dX10_sound_39 : decode m_X10_sound.2.1 39 = .ok (.iload_n 1, 1) := by decide +kernel
theorem dX10_sound_40 : decode m_X10_sound.2.1 40 = .ok (.aaload, 1) := by decide +kernel
theorem dX10_sound_41 : decode m_X10_sound.2.1 41 = .ok (.getfield 278, 3) := by decide +kernel
theorem dX10_sound_44 : decode m_X10_sound.2.1 44 = .ok (.iconst (-1), 1) := by decide +kernel
theorem dX10_sound_45 : decode m_X10_sound.2.1 45 = .ok (.if_icmp .ne 7, 3) := by decide +kernel
theorem dX10_sound_48 : decode m_X10_sound.2.1 48 = .ok (.ldc_w 281, 3) := by decide +kernel
theorem dX10_sound_51 : decode m_X10_sound.2.1 51 = .ok (.ireturn, 1) := by decide +kernel
theorem dX10_sound_52 : decode m_X10_sound.2.1 52 = .ok (.iload_n 2, 1) := by decide +kernel
theorem dX10_sound_53 : decode m_X10_sound.2.1 53 = .ok (.ifCond .ne 15, 3) := by decide +kernel
theorem dX10_sound_56 : decode m_X10_sound.2.1 56 = .ok (.aload_n 0, 1) := by decide +kernel
theorem dX10_sound_57 : decode m_X10_sound.2.1 57 = .ok (.getfield 39, 3) := by decide +kernel
theorem dX10_sound_60 : decode m_X10_sound.2.1 60 = .ok (.iload_n 1, 1) := by decide +kernel
theorem dX10_sound_61 : decode m_X10_sound.2.1 61 = .ok (.aaload, 1) := by decide +kernel
theorem dX10_sound_62 : decode m_X10_sound.2.1 62 = .ok (.invokevirtual 291, 3) := by decide +kernel
theorem dX10_sound_65 : decode m_X10_sound.2.1 65 = .ok (.goto 13, 3) := by decide +kernel
theorem dX10_sound_68 : decode m_X10_sound.2.1 68 = .ok (.aload_n 0, 1) := by decide +kernel
theorem dX10_sound_69 : decode m_X10_sound.2.1 69 = .ok (.getfield 39, 3) := by decide +kernel
theorem dX10_sound_72 : decode m_X10_sound.2.1 72 = .ok (.iload_n 1, 1) := by decide +kernel
theorem dX10_sound_73 : decode m_X10_sound.2.1 73 = .ok (.aaload, 1) := by decide +kernel
theorem dX10_sound_74 : decode m_X10_sound.2.1 74 = .ok (.iload_n 3, 1) := by decide +kernel
theorem dX10_sound_75 : decode m_X10_sound.2.1 75 = .ok (.invokevirtual 294, 3) := by decide +kernel
theorem dX10_sound_78 : decode m_X10_sound.2.1 78 = .ok (.ireturn, 1) := by decide +kernel
theorem dX10_tops_0 : decode m_X10_tops.2.1 0 = .ok (.iload_n 1, 1) := by decide +kernel
theorem dX10_tops_1 : decode m_X10_tops.2.1 1 = .ok (.invokestatic 271, 3) := by decide +kernel
theorem dX10_tops_4 : decode m_X10_tops.2.1 4 = .ok (.ifCond .ne 6, 3) := by decide +kernel
theorem dX10_tops_7 : decode m_X10_tops.2.1 7 = .ok (.ldc 67, 2) := by decide +kernel
theorem dX10_tops_9 : decode m_X10_tops.2.1 9 = .ok (.ireturn, 1) := by decide +kernel
theorem dX10_tops_10 : decode m_X10_tops.2.1 10 = .ok (.aload_n 0, 1) := by decide +kernel
theorem dX10_tops_11 : decode m_X10_tops.2.1 11 = .ok (.getfield 39, 3) := by decide +kernel
theorem dX10_tops_14 : decode m_X10_tops.2.1 14 = .ok (.iload_n 1, 1) := by decide +kernel
theorem dX10_tops_15 : decode m_X10_tops.2.1 15 = .ok (.aaload, 1) := by decide +kernel
theorem dX10_tops_16 : decode m_X10_tops.2.1 16 = .ok (.astore_n 3, 1) := by decide +kernel
theorem dX10_tops_17 : decode m_X10_tops.2.1 17 = .ok (.aload_n 3, 1) := by decide +kernel
theorem dX10_tops_18 : decode m_X10_tops.2.1 18 = .ok (.getfield 278, 3) := by decide +kernel
theorem dX10_tops_21 : decode m_X10_tops.2.1 21 = .ok (.iconst (-1), 1) := by decide +kernel
theorem dX10_tops_22 : decode m_X10_tops.2.1 22 = .ok (.if_icmp .ne 7, 3) := by decide +kernel
theorem dX10_tops_25 : decode m_X10_tops.2.1 25 = .ok (.ldc_w 281, 3) := by decide +kernel
theorem dX10_tops_28 : decode m_X10_tops.2.1 28 = .ok (.ireturn, 1) := by decide +kernel
theorem dX10_tops_29 : decode m_X10_tops.2.1 29 = .ok (.aload_n 3, 1) := by decide +kernel
theorem dX10_tops_30 : decode m_X10_tops.2.1 30 = .ok (.iload_n 2, 1) := by decide +kernel
theorem dX10_tops_31 : decode m_X10_tops.2.1 31 = .ok (.invokevirtual 282, 3) := by decide +kernel
theorem dX10_tops_34 : decode m_X10_tops.2.1 34 = .ok (.ifCond .ne 7, 3) := by decide +kernel
theorem dX10_tops_37 : decode m_X10_tops.2.1 37 = .ok (.ldc_w 283, 3) := by decide +kernel
theorem dX10_tops_40 : decode m_X10_tops.2.1 40 = .ok (.ireturn, 1) := by decide +kernel
theorem dX10_tops_41 : decode m_X10_tops.2.1 41 = .ok (.iconst 5, 1) := by decide +kernel
theorem dX10_tops_42 : decode m_X10_tops.2.1 42 = .ok (.aload_n 3, 1) := by decide +kernel
theorem dX10_tops_43 : decode m_X10_tops.2.1 43 = .ok (.getfield 297, 3) := by decide +kernel
theorem dX10_tops_46 : decode m_X10_tops.2.1 46 = .ok (.iload_n 2, 1) := by decide +kernel
theorem dX10_tops_47 : decode m_X10_tops.2.1 47 = .ok (.isub, 1) := by decide +kernel
theorem dX10_tops_48 : decode m_X10_tops.2.1 48 = .ok (.invokestatic 262, 3) := by decide +kernel
theorem dX10_tops_51 : decode m_X10_tops.2.1 51 = .ok (.istore 4, 2) := by decide +kernel
theorem dX10_tops_53 : decode m_X10_tops.2.1 53 = .ok (.iconst 0, 1) := by decide +kernel
theorem dX10_tops_54 : decode m_X10_tops.2.1 54 = .ok (.istore 5, 2) := by decide +kernel
theorem dX10_tops_56 : decode m_X10_tops.2.1 56 = .ok (.iload 5, 2) := by decide +kernel
theorem dX10_tops_58 : decode m_X10_tops.2.1 58 = .ok (.iload 4, 2) := by decide +kernel
theorem dX10_tops_60 : decode m_X10_tops.2.1 60 = .ok (.if_icmp .ge 29, 3) := by decide +kernel
theorem dX10_tops_63 : decode m_X10_tops.2.1 63 = .ok (.aload_n 3, 1) := by decide +kernel
theorem dX10_tops_64 : decode m_X10_tops.2.1 64 = .ok (.iload_n 2, 1) := by decide +kernel
theorem dX10_tops_65 : decode m_X10_tops.2.1 65 = .ok (.iload 5, 2) := by decide +kernel
theorem dX10_tops_67 : decode m_X10_tops.2.1 67 = .ok (.iadd, 1) := by decide +kernel
theorem dX10_tops_68 : decode m_X10_tops.2.1 68 = .ok (.aload_n 0, 1) := by decide +kernel
theorem dX10_tops_69 : decode m_X10_tops.2.1 69 = .ok (.getfield 10, 3) := by decide +kernel
theorem dX10_tops_72 : decode m_X10_tops.2.1 72 = .ok (.getfield 117, 3) := by decide +kernel
theorem dX10_tops_75 : decode m_X10_tops.2.1 75 = .ok (.iload 5, 2) := by decide +kernel
theorem dX10_tops_77 : decode m_X10_tops.2.1 77 = .ok (.invokevirtual 152, 3) := by decide +kernel
theorem dX10_tops_80 : decode m_X10_tops.2.1 80 = .ok (.invokevirtual 288, 3) := by decide +kernel
theorem dX10_tops_83 : decode m_X10_tops.2.1 83 = .ok (.iinc 5 1, 3) := by decide +kernel
theorem dX10_tops_86 : decode m_X10_tops.2.1 86 = .ok (.goto (-30), 3) := by decide +kernel
theorem dX10_tops_89 : decode m_X10_tops.2.1 89 = .ok (.iload 4, 2) := by decide +kernel
theorem dX10_tops_91 : decode m_X10_tops.2.1 91 = .ok (.ireturn, 1) := by decide +kernel
theorem dX10_copy_0 : decode m_X10_copy.2.1 0 = .ok (.iload_n 1, 1) := by decide +kernel
theorem dX10_copy_1 : decode m_X10_copy.2.1 1 = .ok (.invokestatic 271, 3) := by decide +kernel
theorem dX10_copy_4 : decode m_X10_copy.2.1 4 = .ok (.ifCond .eq 10, 3) := by decide +kernel
theorem dX10_copy_7 : decode m_X10_copy.2.1 7 = .ok (.iload_n 3, 1) := by decide +kernel
theorem dX10_copy_8 : decode m_X10_copy.2.1 8 = .ok (.invokestatic 271, 3) := by decide +kernel
theorem dX10_copy_11 : decode m_X10_copy.2.1 11 = .ok (.ifCond .ne 6, 3) := by decide +kernel
theorem dX10_copy_14 : decode m_X10_copy.2.1 14 = .ok (.ldc 67, 2) := by decide +kernel
theorem dX10_copy_16 : decode m_X10_copy.2.1 16 = .ok (.ireturn, 1) := by decide +kernel
theorem dX10_copy_17 : decode m_X10_copy.2.1 17 = .ok (.aload_n 0, 1) := by decide +kernel
theorem dX10_copy_18 : decode m_X10_copy.2.1 18 = .ok (.getfield 39, 3) := by decide +kernel
theorem dX10_copy_21 : decode m_X10_copy.2.1 21 = .ok (.iload_n 1, 1) := by decide +kernel
theorem dX10_copy_22 : decode m_X10_copy.2.1 22 = .ok (.aaload, 1) := by decide +kernel
theorem dX10_copy_23 : decode m_X10_copy.2.1 23 = .ok (.astore 6, 2) := by decide +kernel
theorem dX10_copy_25 : decode m_X10_copy.2.1 25 = .ok (.aload_n 0, 1) := by decide +kernel
theorem dX10_copy_26 : decode m_X10_copy.2.1 26 = .ok (.getfield 39, 3) := by decide +kernel
theorem dX10_copy_29 : decode m_X10_copy.2.1 29 = .ok (.iload_n 3, 1) := by decide +kernel
theorem dX10_copy_30 : decode m_X10_copy.2.1 30 = .ok (.aaload, 1) := by decide +kernel
theorem dX10_copy_31 : decode m_X10_copy.2.1 31 = .ok (.astore 7, 2) := by decide +kernel
theorem dX10_copy_33 : decode m_X10_copy.2.1 33 = .ok (.aload 6, 2) := by decide +kernel
theorem dX10_copy_35 : decode m_X10_copy.2.1 35 = .ok (.getfield 278, 3) := by decide +kernel
theorem dX10_copy_38 : decode m_X10_copy.2.1 38 = .ok (.iconst (-1), 1) := by decide +kernel
theorem dX10_copy_39 : decode m_X10_copy.2.1 39 = .ok (.if_icmp .eq 12, 3) := by decide +kernel
theorem dX10_copy_42 : decode m_X10_copy.2.1 42 = .ok (.aload 7, 2) := by decide +kernel
theorem dX10_copy_44 : decode m_X10_copy.2.1 44 = .ok (.getfield 278, 3) := by decide +kernel
theorem dX10_copy_47 : decode m_X10_copy.2.1 47 = .ok (.iconst (-1), 1) := by decide +kernel
theorem dX10_copy_48 : decode m_X10_copy.2.1 48 = .ok (.if_icmp .ne 7, 3) := by decide +kernel
theorem dX10_copy_51 : decode m_X10_copy.2.1 51 = .ok (.ldc_w 281, 3) := by decide +kernel
theorem dX10_copy_54 : decode m_X10_copy.2.1 54 = .ok (.ireturn, 1) := by decide +kernel
theorem dX10_copy_55 : decode m_X10_copy.2.1 55 = .ok (.aload 6, 2) := by decide +kernel
theorem dX10_copy_57 : decode m_X10_copy.2.1 57 = .ok (.getfield 278, 3) := by decide +kernel
theorem dX10_copy_60 : decode m_X10_copy.2.1 60 = .ok (.aload 7, 2) := by decide +kernel
theorem dX10_copy_62 : decode m_X10_copy.2.1 62 = .ok (.getfield 278, 3) := by decide +kernel
theorem dX10_copy_65 : decode m_X10_copy.2.1 65 = .ok (.if_icmp .eq 6, 3) := by decide +kernel
theorem dX10_copy_68 : decode m_X10_copy.2.1 68 = .ok (.ldc 110, 2) := by decide +kernel
theorem dX10_copy_70 : decode m_X10_copy.2.1 70 = .ok (.ireturn, 1) := by decide +kernel
theorem dX10_copy_71 : decode m_X10_copy.2.1 71 = .ok (.aload 6, 2) := by decide +kernel
theorem dX10_copy_73 : decode m_X10_copy.2.1 73 = .ok (.iload_n 2, 1) := by decide +kernel
theorem dX10_copy_74 : decode m_X10_copy.2.1 74 = .ok (.iload 5, 2) := by decide +kernel
theorem dX10_copy_76 : decode m_X10_copy.2.1 76 = .ok (.invokevirtual 298, 3) := by decide +kernel
theorem dX10_copy_79 : decode m_X10_copy.2.1 79 = .ok (.ifCond .eq 15, 3) := by decide +kernel
theorem dX10_copy_82 : decode m_X10_copy.2.1 82 = .ok (.aload 7, 2) := by decide +kernel
theorem dX10_copy_84 : decode m_X10_copy.2.1 84 = .ok (.iload 4, 2) := by decide +kernel
theorem dX10_copy_86 : decode m_X10_copy.2.1 86 = .ok (.iload 5, 2) := by decide +kernel
theorem dX10_copy_88 : decode m_X10_copy.2.1 88 = .ok (.invokevirtual 298, 3) := by decide +kernel
theorem dX10_copy_91 : decode m_X10_copy.2.1 91 = .ok (.ifCond .ne 7, 3) := by decide +kernel
theorem dX10_copy_94 : decode m_X10_copy.2.1 94 = .ok (.ldc_w 283, 3) := by decide +kernel
theorem dX10_copy_97 : decode m_X10_copy.2.1 97 = .ok (.ireturn, 1) := by decide +kernel
theorem dX10_copy_98 : decode m_X10_copy.2.1 98 = .ok (.aload 6, 2) := by decide +kernel
theorem dX10_copy_100 : decode m_X10_copy.2.1 100 = .ok (.getfield 301, 3) := by decide +kernel
theorem dX10_copy_103 : decode m_X10_copy.2.1 103 = .ok (.iload_n 2, 1) := by decide +kernel
theorem dX10_copy_104 : decode m_X10_copy.2.1 104 = .ok (.aload 7, 2) := by decide +kernel
theorem dX10_copy_106 : decode m_X10_copy.2.1 106 = .ok (.getfield 301, 3) := by decide +kernel
theorem dX10_copy_109 : decode m_X10_copy.2.1 109 = .ok (.iload 4, 2) := by decide +kernel
theorem dX10_copy_111 : decode m_X10_copy.2.1 111 = .ok (.iload 5, 2) := by decide +kernel
theorem dX10_copy_113 : decode m_X10_copy.2.1 113 = .ok (.invokestatic 304, 3) := by decide +kernel
theorem dX10_copy_116 : decode m_X10_copy.2.1 116 = .ok (.aload 6, 2) := by decide +kernel
theorem dX10_copy_118 : decode m_X10_copy.2.1 118 = .ok (.getfield 310, 3) := by decide +kernel
theorem dX10_copy_121 : decode m_X10_copy.2.1 121 = .ok (.iload_n 2, 1) := by decide +kernel
theorem dX10_copy_122 : decode m_X10_copy.2.1 122 = .ok (.aload 7, 2) := by decide +kernel
theorem dX10_copy_124 : decode m_X10_copy.2.1 124 = .ok (.getfield 310, 3) := by decide +kernel
theorem dX10_copy_127 : decode m_X10_copy.2.1 127 = .ok (.iload 4, 2) := by decide +kernel
theorem dX10_copy_129 : decode m_X10_copy.2.1 129 = .ok (.iload 5, 2) := by decide +kernel
theorem dX10_copy_131 : decode m_X10_copy.2.1 131 = .ok (.invokestatic 304, 3) := by decide +kernel
theorem dX10_copy_134 : decode m_X10_copy.2.1 134 = .ok (.iload 5, 2) := by decide +kernel
theorem dX10_copy_136 : decode m_X10_copy.2.1 136 = .ok (.ireturn, 1) := by decide +kernel
theorem dX10_lay_0 : decode m_X10_lay.2.1 0 = .ok (.iload_n 1, 1) := by decide +kernel
theorem dX10_lay_1 : decode m_X10_lay.2.1 1 = .ok (.invokestatic 314, 3) := by decide +kernel
theorem dX10_lay_4 : decode m_X10_lay.2.1 4 = .ok (.ifCond .eq 12, 3) := by decide +kernel
theorem dX10_lay_7 : decode m_X10_lay.2.1 7 = .ok (.iload_n 2, 1) := by decide +kernel
theorem dX10_lay_8 : decode m_X10_lay.2.1 8 = .ok (.iconst 0, 1) := by decide +kernel
theorem dX10_lay_9 : decode m_X10_lay.2.1 9 = .ok (.iconst 3, 1) := by decide +kernel
theorem dX10_lay_10 : decode m_X10_lay.2.1 10 = .ok (.invokestatic 63, 3) := by decide +kernel
theorem dX10_lay_13 : decode m_X10_lay.2.1 13 = .ok (.ifCond .ne 6, 3) := by decide +kernel
theorem dX10_lay_16 : decode m_X10_lay.2.1 16 = .ok (.ldc 67, 2) := by decide +kernel
theorem dX10_lay_18 : decode m_X10_lay.2.1 18 = .ok (.ireturn, 1) := by decide +kernel
theorem dX10_lay_19 : decode m_X10_lay.2.1 19 = .ok (.iload_n 2, 1) := by decide +kernel
theorem dX10_lay_20 : decode m_X10_lay.2.1 20 = .ok (.iconst 1, 1) := by decide +kernel
theorem dX10_lay_21 : decode m_X10_lay.2.1 21 = .ok (.if_icmp .ne 17, 3) := by decide +kernel
theorem dX10_lay_24 : decode m_X10_lay.2.1 24 = .ok (.aload_n 0, 1) := by decide +kernel
theorem dX10_lay_25 : decode m_X10_lay.2.1 25 = .ok (.getfield 10, 3) := by decide +kernel
theorem dX10_lay_28 : decode m_X10_lay.2.1 28 = .ok (.getfield 68, 3) := by decide +kernel
theorem dX10_lay_31 : decode m_X10_lay.2.1 31 = .ok (.iload_n 3, 1) := by decide +kernel
theorem dX10_lay_32 : decode m_X10_lay.2.1 32 = .ok (.invokevirtual 78, 3) := by decide +kernel
theorem dX10_lay_35 : decode m_X10_lay.2.1 35 = .ok (.ifCond .eq 15, 3) := by decide +kernel
theorem dX10_lay_38 : decode m_X10_lay.2.1 38 = .ok (.iload_n 2, 1) := by decide +kernel
theorem dX10_lay_39 : decode m_X10_lay.2.1 39 = .ok (.iconst 2, 1) := by decide +kernel
theorem dX10_lay_40 : decode m_X10_lay.2.1 40 = .ok (.if_icmp .ne 13, 3) := by decide +kernel
theorem dX10_lay_43 : decode m_X10_lay.2.1 43 = .ok (.iload_n 3, 1) := by decide +kernel
theorem dX10_lay_44 : decode m_X10_lay.2.1 44 = .ok (.invokestatic 271, 3) := by decide +kernel
theorem dX10_lay_47 : decode m_X10_lay.2.1 47 = .ok (.ifCond .ne 6, 3) := by decide +kernel
theorem dX10_lay_50 : decode m_X10_lay.2.1 50 = .ok (.ldc 67, 2) := by decide +kernel
theorem dX10_lay_52 : decode m_X10_lay.2.1 52 = .ok (.ireturn, 1) := by decide +kernel
theorem dX10_lay_53 : decode m_X10_lay.2.1 53 = .ok (.iload_n 2, 1) := by decide +kernel
theorem dX10_lay_54 : decode m_X10_lay.2.1 54 = .ok (.iconst 2, 1) := by decide +kernel
theorem dX10_lay_55 : decode m_X10_lay.2.1 55 = .ok (.if_icmp .ne 20, 3) := by decide +kernel
theorem dX10_lay_58 : decode m_X10_lay.2.1 58 = .ok (.aload_n 0, 1) := by decide +kernel
theorem dX10_lay_59 : decode m_X10_lay.2.1 59 = .ok (.getfield 39, 3) := by decide +kernel
theorem dX10_lay_62 : decode m_X10_lay.2.1 62 = .ok (.iload_n 3, 1) := by decide +kernel
theorem dX10_lay_63 : decode m_X10_lay.2.1 63 = .ok (.aaload, 1) := by decide +kernel
theorem dX10_lay_64 : decode m_X10_lay.2.1 64 = .ok (.getfield 278, 3) := by decide +kernel
theorem dX10_lay_67 : decode m_X10_lay.2.1 67 = .ok (.iconst (-1), 1) := by decide +kernel
theorem dX10_lay_68 : decode m_X10_lay.2.1 68 = .ok (.if_icmp .ne 7, 3) := by decide +kernel
theorem dX10_lay_71 : decode m_X10_lay.2.1 71 = .ok (.ldc_w 281, 3) := by decide +kernel
theorem dX10_lay_74 : decode m_X10_lay.2.1 74 = .ok (.ireturn, 1) := by decide +kernel
theorem dX10_lay_75 : decode m_X10_lay.2.1 75 = .ok (.aload_n 0, 1) := by decide +kernel
theorem dX10_lay_76 : decode m_X10_lay.2.1 76 = .ok (.getfield 46, 3) := by decide +kernel
theorem dX10_lay_79 : decode m_X10_lay.2.1 79 = .ok (.iload_n 1, 1) := by decide +kernel
theorem dX10_lay_80 : decode m_X10_lay.2.1 80 = .ok (.aaload, 1) := by decide +kernel
theorem dX10_lay_81 : decode m_X10_lay.2.1 81 = .ok (.astore 4, 2) := by decide +kernel
theorem dX10_lay_83 : decode m_X10_lay.2.1 83 = .ok (.aload 4, 2) := by decide +kernel
theorem dX10_lay_85 : decode m_X10_lay.2.1 85 = .ok (.getfield 317, 3) := by decide +kernel
theorem dX10_lay_88 : decode m_X10_lay.2.1 88 = .ok (.istore 5, 2) := by decide +kernel
theorem dX10_lay_90 : decode m_X10_lay.2.1 90 = .ok (.aload 4, 2) := by decide +kernel
theorem dX10_lay_92 : decode m_X10_lay.2.1 92 = .ok (.iload_n 2, 1) := by decide +kernel
theorem dX10_lay_93 : decode m_X10_lay.2.1 93 = .ok (.putfield 317, 3) := by decide +kernel
theorem dX10_lay_96 : decode m_X10_lay.2.1 96 = .ok (.iload_n 2, 1) := by decide +kernel
theorem dX10_lay_97 : decode m_X10_lay.2.1 97 = .ok (.iconst 1, 1) := by decide +kernel
theorem dX10_lay_98 : decode m_X10_lay.2.1 98 = .ok (.if_icmp .ne 40, 3) := by decide +kernel
theorem dX10_lay_101 : decode m_X10_lay.2.1 101 = .ok (.aload 4, 2) := by decide +kernel
theorem dX10_lay_103 : decode m_X10_lay.2.1 103 = .ok (.aload_n 0, 1) := by decide +kernel
theorem dX10_lay_104 : decode m_X10_lay.2.1 104 = .ok (.getfield 10, 3) := by decide +kernel
theorem dX10_lay_107 : decode m_X10_lay.2.1 107 = .ok (.getfield 68, 3) := by decide +kernel
theorem dX10_lay_110 : decode m_X10_lay.2.1 110 = .ok (.getfield 81, 3) := by decide +kernel
theorem dX10_lay_113 : decode m_X10_lay.2.1 113 = .ok (.iload_n 3, 1) := by decide +kernel
theorem dX10_lay_114 : decode m_X10_lay.2.1 114 = .ok (.iaload, 1) := by decide +kernel
theorem dX10_lay_115 : decode m_X10_lay.2.1 115 = .ok (.putfield 320, 3) := by decide +kernel
theorem dX10_lay_118 : decode m_X10_lay.2.1 118 = .ok (.aload 4, 2) := by decide +kernel
theorem dX10_lay_120 : decode m_X10_lay.2.1 120 = .ok (.aload_n 0, 1) := by decide +kernel
theorem dX10_lay_121 : decode m_X10_lay.2.1 121 = .ok (.getfield 10, 3) := by decide +kernel
theorem dX10_lay_124 : decode m_X10_lay.2.1 124 = .ok (.getfield 68, 3) := by decide +kernel
theorem dX10_lay_127 : decode m_X10_lay.2.1 127 = .ok (.getfield 84, 3) := by decide +kernel
theorem dX10_lay_130 : decode m_X10_lay.2.1 130 = .ok (.iload_n 3, 1) := by decide +kernel
theorem dX10_lay_131 : decode m_X10_lay.2.1 131 = .ok (.iaload, 1) := by decide +kernel
theorem dX10_lay_132 : decode m_X10_lay.2.1 132 = .ok (.putfield 322, 3) := by decide +kernel
theorem dX10_lay_135 : decode m_X10_lay.2.1 135 = .ok (.goto 31, 3) := by decide +kernel
theorem dX10_lay_138 : decode m_X10_lay.2.1 138 = .ok (.iload_n 2, 1) := by decide +kernel
theorem dX10_lay_139 : decode m_X10_lay.2.1 139 = .ok (.iconst 2, 1) := by decide +kernel
theorem dX10_lay_140 : decode m_X10_lay.2.1 140 = .ok (.if_icmp .ne 20, 3) := by decide +kernel
theorem dX10_lay_143 : decode m_X10_lay.2.1 143 = .ok (.aload 4, 2) := by decide +kernel
theorem dX10_lay_145 : decode m_X10_lay.2.1 145 = .ok (.getfield 324, 3) := by decide +kernel
theorem dX10_lay_148 : decode m_X10_lay.2.1 148 = .ok (.aload_n 0, 1) := by decide +kernel
theorem dX10_lay_149 : decode m_X10_lay.2.1 149 = .ok (.getfield 39, 3) := by decide +kernel
theorem dX10_lay_152 : decode m_X10_lay.2.1 152 = .ok (.iload_n 3, 1) := by decide +kernel
theorem dX10_lay_153 : decode m_X10_lay.2.1 153 = .ok (.aaload, 1) := by decide +kernel
theorem dX10_lay_154 : decode m_X10_lay.2.1 154 = .ok (.invokevirtual 328, 3) := by decide +kernel
theorem dX10_lay_157 : decode m_X10_lay.2.1 157 = .ok (.goto 9, 3) := by decide +kernel
theorem dX10_lay_160 : decode m_X10_lay.2.1 160 = .ok (.aload 4, 2) := by decide +kernel
theorem dX10_lay_162 : decode m_X10_lay.2.1 162 = .ok (.iload_n 3, 1) := by decide +kernel
theorem dX10_lay_163 : decode m_X10_lay.2.1 163 = .ok (.putfield 331, 3) := by decide +kernel
theorem dX10_lay_166 : decode m_X10_lay.2.1 166 = .ok (.iload 5, 2) := by decide +kernel
theorem dX10_lay_168 : decode m_X10_lay.2.1 168 = .ok (.ireturn, 1) := by decide +kernel
theorem dX10_ask_0 : decode m_X10_ask.2.1 0 = .ok (.iload_n 1, 1) := by decide +kernel
theorem dX10_ask_1 : decode m_X10_ask.2.1 1 = .ok (.invokestatic 314, 3) := by decide +kernel
theorem dX10_ask_4 : decode m_X10_ask.2.1 4 = .ok (.ifCond .eq 10, 3) := by decide +kernel
theorem dX10_ask_7 : decode m_X10_ask.2.1 7 = .ok (.iload_n 2, 1) := by decide +kernel
theorem dX10_ask_8 : decode m_X10_ask.2.1 8 = .ok (.invokestatic 59, 3) := by decide +kernel
theorem dX10_ask_11 : decode m_X10_ask.2.1 11 = .ok (.ifCond .ne 6, 3) := by decide +kernel
theorem dX10_ask_14 : decode m_X10_ask.2.1 14 = .ok (.ldc 67, 2) := by decide +kernel
theorem dX10_ask_16 : decode m_X10_ask.2.1 16 = .ok (.ireturn, 1) := by decide +kernel
theorem dX10_ask_17 : decode m_X10_ask.2.1 17 = .ok (.aload_n 0, 1) := by decide +kernel
theorem dX10_ask_18 : decode m_X10_ask.2.1 18 = .ok (.getfield 46, 3) := by decide +kernel
theorem dX10_ask_21 : decode m_X10_ask.2.1 21 = .ok (.iload_n 1, 1) := by decide +kernel
theorem dX10_ask_22 : decode m_X10_ask.2.1 22 = .ok (.aaload, 1) := by decide +kernel
theorem dX10_ask_23 : decode m_X10_ask.2.1 23 = .ok (.astore_n 3, 1) := by decide +kernel
theorem dX10_ask_24 : decode m_X10_ask.2.1 24 = .ok (.aload_n 3, 1) := by decide +kernel
theorem dX10_ask_25 : decode m_X10_ask.2.1 25 = .ok (.getfield 317, 3) := by decide +kernel
theorem dX10_ask_28 : decode m_X10_ask.2.1 28 = .ok (.ifCond .ne 7, 3) := by decide +kernel
theorem dX10_ask_31 : decode m_X10_ask.2.1 31 = .ok (.ldc_w 281, 3) := by decide +kernel
theorem dX10_ask_34 : decode m_X10_ask.2.1 34 = .ok (.ireturn, 1) := by decide +kernel
theorem dX10_ask_35 : decode m_X10_ask.2.1 35 = .ok (.aload_n 3, 1) := by decide +kernel
theorem dX10_ask_36 : decode m_X10_ask.2.1 36 = .ok (.getfield 317, 3) := by decide +kernel
theorem dX10_ask_39 : decode m_X10_ask.2.1 39 = .ok (.iconst 1, 1) := by decide +kernel
theorem dX10_ask_40 : decode m_X10_ask.2.1 40 = .ok (.if_icmp .ne 14, 3) := by decide +kernel
theorem dX10_ask_43 : decode m_X10_ask.2.1 43 = .ok (.aload_n 3, 1) := by decide +kernel
theorem dX10_ask_44 : decode m_X10_ask.2.1 44 = .ok (.getfield 320, 3) := by decide +kernel
theorem dX10_ask_47 : decode m_X10_ask.2.1 47 = .ok (.iload_n 2, 1) := by decide +kernel
theorem dX10_ask_48 : decode m_X10_ask.2.1 48 = .ok (.invokestatic 106, 3) := by decide +kernel
theorem dX10_ask_51 : decode m_X10_ask.2.1 51 = .ok (.ifCond .ne 6, 3) := by decide +kernel
theorem dX10_ask_54 : decode m_X10_ask.2.1 54 = .ok (.ldc 110, 2) := by decide +kernel
theorem dX10_ask_56 : decode m_X10_ask.2.1 56 = .ok (.ireturn, 1) := by decide +kernel
theorem dX10_ask_57 : decode m_X10_ask.2.1 57 = .ok (.aload_n 3, 1) := by decide +kernel
theorem dX10_ask_58 : decode m_X10_ask.2.1 58 = .ok (.getfield 320, 3) := by decide +kernel
theorem dX10_ask_61 : decode m_X10_ask.2.1 61 = .ok (.aload_n 3, 1) := by decide +kernel
theorem dX10_ask_62 : decode m_X10_ask.2.1 62 = .ok (.getfield 322, 3) := by decide +kernel
theorem dX10_ask_65 : decode m_X10_ask.2.1 65 = .ok (.bipush 100, 2) := by decide +kernel
theorem dX10_ask_67 : decode m_X10_ask.2.1 67 = .ok (.invokestatic 334, 3) := by decide +kernel
theorem dX10_ask_70 : decode m_X10_ask.2.1 70 = .ok (.ireturn, 1) := by decide +kernel
theorem dX10_item_0 : decode m_X10_item.2.1 0 = .ok (.iload_n 1, 1) := by decide +kernel
theorem dX10_item_1 : decode m_X10_item.2.1 1 = .ok (.invokestatic 314, 3) := by decide +kernel
theorem dX10_item_4 : decode m_X10_item.2.1 4 = .ok (.ifCond .ne 6, 3) := by decide +kernel
theorem dX10_item_7 : decode m_X10_item.2.1 7 = .ok (.ldc 67, 2) := by decide +kernel
theorem dX10_item_9 : decode m_X10_item.2.1 9 = .ok (.ireturn, 1) := by decide +kernel
theorem dX10_item_10 : decode m_X10_item.2.1 10 = .ok (.aload_n 0, 1) := by decide +kernel
theorem dX10_item_11 : decode m_X10_item.2.1 11 = .ok (.getfield 46, 3) := by decide +kernel
theorem dX10_item_14 : decode m_X10_item.2.1 14 = .ok (.iload_n 1, 1) := by decide +kernel
theorem dX10_item_15 : decode m_X10_item.2.1 15 = .ok (.aaload, 1) := by decide +kernel
theorem dX10_item_16 : decode m_X10_item.2.1 16 = .ok (.astore_n 3, 1) := by decide +kernel
theorem dX10_item_17 : decode m_X10_item.2.1 17 = .ok (.aload_n 3, 1) := by decide +kernel
theorem dX10_item_18 : decode m_X10_item.2.1 18 = .ok (.getfield 317, 3) := by decide +kernel
theorem dX10_item_21 : decode m_X10_item.2.1 21 = .ok (.ifCond .ne 7, 3) := by decide +kernel
theorem dX10_item_24 : decode m_X10_item.2.1 24 = .ok (.ldc_w 281, 3) := by decide +kernel
theorem dX10_item_27 : decode m_X10_item.2.1 27 = .ok (.ireturn, 1) := by decide +kernel
theorem dX10_item_28 : decode m_X10_item.2.1 28 = .ok (.aload_n 3, 1) := by decide +kernel
theorem dX10_item_29 : decode m_X10_item.2.1 29 = .ok (.getfield 317, 3) := by decide +kernel
theorem dX10_item_32 : decode m_X10_item.2.1 32 = .ok (.iconst 2, 1) := by decide +kernel
theorem dX10_item_33 : decode m_X10_item.2.1 33 = .ok (.if_icmp .eq 6, 3) := by decide +kernel
theorem dX10_item_36 : decode m_X10_item.2.1 36 = .ok (.ldc 110, 2) := by decide +kernel
theorem dX10_item_38 : decode m_X10_item.2.1 38 = .ok (.ireturn, 1) := by decide +kernel
theorem dX10_item_39 : decode m_X10_item.2.1 39 = .ok (.aload_n 3, 1) := by decide +kernel
theorem dX10_item_40 : decode m_X10_item.2.1 40 = .ok (.getfield 324, 3) := by decide +kernel
theorem dX10_item_43 : decode m_X10_item.2.1 43 = .ok (.iload_n 2, 1) := by decide +kernel
theorem dX10_item_44 : decode m_X10_item.2.1 44 = .ok (.invokevirtual 282, 3) := by decide +kernel
theorem dX10_item_47 : decode m_X10_item.2.1 47 = .ok (.ifCond .ne 7, 3) := by decide +kernel
theorem dX10_item_50 : decode m_X10_item.2.1 50 = .ok (.ldc_w 283, 3) := by decide +kernel
theorem dX10_item_53 : decode m_X10_item.2.1 53 = .ok (.ireturn, 1) := by decide +kernel
theorem dX10_item_54 : decode m_X10_item.2.1 54 = .ok (.aload_n 3, 1) := by decide +kernel
theorem dX10_item_55 : decode m_X10_item.2.1 55 = .ok (.getfield 324, 3) := by decide +kernel
theorem dX10_item_58 : decode m_X10_item.2.1 58 = .ok (.getfield 310, 3) := by decide +kernel
theorem dX10_item_61 : decode m_X10_item.2.1 61 = .ok (.iload_n 2, 1) := by decide +kernel
theorem dX10_item_62 : decode m_X10_item.2.1 62 = .ok (.baload, 1) := by decide +kernel
theorem dX10_item_63 : decode m_X10_item.2.1 63 = .ok (.ifCond .eq 8, 3) := by decide +kernel
theorem dX10_item_66 : decode m_X10_item.2.1 66 = .ok (.ldc 110, 2) := by decide +kernel
theorem dX10_item_68 : decode m_X10_item.2.1 68 = .ok (.goto 12, 3) := by decide +kernel
theorem dX10_item_71 : decode m_X10_item.2.1 71 = .ok (.aload_n 3, 1) := by decide +kernel
theorem dX10_item_72 : decode m_X10_item.2.1 72 = .ok (.getfield 324, 3) := by decide +kernel
theorem dX10_item_75 : decode m_X10_item.2.1 75 = .ok (.getfield 301, 3) := by decide +kernel
theorem dX10_item_78 : decode m_X10_item.2.1 78 = .ok (.iload_n 2, 1) := by decide +kernel
theorem dX10_item_79 : decode m_X10_item.2.1 79 = .ok (.iaload, 1) := by decide +kernel
theorem dX10_item_80 : decode m_X10_item.2.1 80 = .ok (.ireturn, 1) := by decide +kernel
theorem dX10_rest_0 : decode m_X10_rest.2.1 0 = .ok (.iload_n 1, 1) := by decide +kernel
theorem dX10_rest_1 : decode m_X10_rest.2.1 1 = .ok (.invokestatic 314, 3) := by decide +kernel
theorem dX10_rest_4 : decode m_X10_rest.2.1 4 = .ok (.ifCond .ne 6, 3) := by decide +kernel
theorem dX10_rest_7 : decode m_X10_rest.2.1 7 = .ok (.ldc 67, 2) := by decide +kernel
theorem dX10_rest_9 : decode m_X10_rest.2.1 9 = .ok (.ireturn, 1) := by decide +kernel
theorem dX10_rest_10 : decode m_X10_rest.2.1 10 = .ok (.aload_n 0, 1) := by decide +kernel
theorem dX10_rest_11 : decode m_X10_rest.2.1 11 = .ok (.getfield 46, 3) := by decide +kernel
theorem dX10_rest_14 : decode m_X10_rest.2.1 14 = .ok (.iload_n 1, 1) := by decide +kernel
theorem dX10_rest_15 : decode m_X10_rest.2.1 15 = .ok (.aaload, 1) := by decide +kernel
theorem dX10_rest_16 : decode m_X10_rest.2.1 16 = .ok (.astore_n 3, 1) := by decide +kernel
theorem dX10_rest_17 : decode m_X10_rest.2.1 17 = .ok (.aload_n 3, 1) := by decide +kernel
theorem dX10_rest_18 : decode m_X10_rest.2.1 18 = .ok (.getfield 317, 3) := by decide +kernel
theorem dX10_rest_21 : decode m_X10_rest.2.1 21 = .ok (.ifCond .ne 7, 3) := by decide +kernel
theorem dX10_rest_24 : decode m_X10_rest.2.1 24 = .ok (.ldc_w 281, 3) := by decide +kernel
theorem dX10_rest_27 : decode m_X10_rest.2.1 27 = .ok (.ireturn, 1) := by decide +kernel
theorem dX10_rest_28 : decode m_X10_rest.2.1 28 = .ok (.aload_n 3, 1) := by decide +kernel
theorem dX10_rest_29 : decode m_X10_rest.2.1 29 = .ok (.getfield 317, 3) := by decide +kernel
theorem dX10_rest_32 : decode m_X10_rest.2.1 32 = .ok (.iconst 3, 1) := by decide +kernel
theorem dX10_rest_33 : decode m_X10_rest.2.1 33 = .ok (.if_icmp .eq 6, 3) := by decide +kernel
theorem dX10_rest_36 : decode m_X10_rest.2.1 36 = .ok (.ldc 110, 2) := by decide +kernel
theorem dX10_rest_38 : decode m_X10_rest.2.1 38 = .ok (.ireturn, 1) := by decide +kernel
theorem dX10_rest_39 : decode m_X10_rest.2.1 39 = .ok (.iload_n 2, 1) := by decide +kernel
theorem dX10_rest_40 : decode m_X10_rest.2.1 40 = .ok (.ifCond .ne 6, 3) := by decide +kernel
theorem dX10_rest_43 : decode m_X10_rest.2.1 43 = .ok (.ldc 116, 2) := by decide +kernel
theorem dX10_rest_45 : decode m_X10_rest.2.1 45 = .ok (.ireturn, 1) := by decide +kernel
theorem dX10_rest_46 : decode m_X10_rest.2.1 46 = .ok (.aload_n 3, 1) := by decide +kernel
theorem dX10_rest_47 : decode m_X10_rest.2.1 47 = .ok (.getfield 331, 3) := by decide +kernel
theorem dX10_rest_50 : decode m_X10_rest.2.1 50 = .ok (.iload_n 2, 1) := by decide +kernel
theorem dX10_rest_51 : decode m_X10_rest.2.1 51 = .ok (.irem, 1) := by decide +kernel
theorem dX10_rest_52 : decode m_X10_rest.2.1 52 = .ok (.ireturn, 1) := by decide +kernel
theorem dX10_tell_0 : decode m_X10_tell.2.1 0 = .ok (.aload_n 0, 1) := by decide +kernel
theorem dX10_tell_1 : decode m_X10_tell.2.1 1 = .ok (.getfield 55, 3) := by decide +kernel
theorem dX10_tell_4 : decode m_X10_tell.2.1 4 = .ok (.bipush 60, 2) := by decide +kernel
theorem dX10_tell_6 : decode m_X10_tell.2.1 6 = .ok (.if_icmp .lt 6, 3) := by decide +kernel
theorem dX10_tell_9 : decode m_X10_tell.2.1 9 = .ok (.ldc 111, 2) := by decide +kernel
theorem dX10_tell_11 : decode m_X10_tell.2.1 11 = .ok (.ireturn, 1) := by decide +kernel
theorem dX10_tell_12 : decode m_X10_tell.2.1 12 = .ok (.aload_n 0, 1) := by decide +kernel
theorem dX10_tell_13 : decode m_X10_tell.2.1 13 = .ok (.getfield 51, 3) := by decide +kernel
theorem dX10_tell_16 : decode m_X10_tell.2.1 16 = .ok (.aload_n 0, 1) := by decide +kernel
theorem dX10_tell_17 : decode m_X10_tell.2.1 17 = .ok (.getfield 55, 3) := by decide +kernel
theorem dX10_tell_20 : decode m_X10_tell.2.1 20 = .ok (.iload_n 1, 1) := by decide +kernel
theorem dX10_tell_21 : decode m_X10_tell.2.1 21 = .ok (.iastore, 1) := by decide +kernel
theorem dX10_tell_22 : decode m_X10_tell.2.1 22 = .ok (.aload_n 0, 1) := by decide +kernel
theorem dX10_tell_23 : decode m_X10_tell.2.1 23 = .ok (.dup, 1) := by decide +kernel
theorem dX10_tell_24 : decode m_X10_tell.2.1 24 = .ok (.getfield 55, 3) := by decide +kernel
theorem dX10_tell_27 : decode m_X10_tell.2.1 27 = .ok (.iconst 1, 1) := by decide +kernel
theorem dX10_tell_28 : decode m_X10_tell.2.1 28 = .ok (.iadd, 1) := by decide +kernel
theorem dX10_tell_29 : decode m_X10_tell.2.1 29 = .ok (.putfield 55, 3) := by decide +kernel
theorem dX10_tell_32 : decode m_X10_tell.2.1 32 = .ok (.aload_n 0, 1) := by decide +kernel
theorem dX10_tell_33 : decode m_X10_tell.2.1 33 = .ok (.getfield 55, 3) := by decide +kernel
theorem dX10_tell_36 : decode m_X10_tell.2.1 36 = .ok (.ireturn, 1) := by decide +kernel
theorem dX10_check_0 : decode m_X10_check.2.1 0 = .ok (.aload_n 0, 1) := by decide +kernel
theorem dX10_check_1 : decode m_X10_check.2.1 1 = .ok (.getfield 55, 3) := by decide +kernel
theorem dX10_check_4 : decode m_X10_check.2.1 4 = .ok (.istore_n 2, 1) := by decide +kernel
theorem dX10_check_5 : decode m_X10_check.2.1 5 = .ok (.aload_n 0, 1) := by decide +kernel
theorem dX10_check_6 : decode m_X10_check.2.1 6 = .ok (.iconst 0, 1) := by decide +kernel
theorem dX10_check_7 : decode m_X10_check.2.1 7 = .ok (.putfield 55, 3) := by decide +kernel
theorem dX10_check_10 : decode m_X10_check.2.1 10 = .ok (.iload_n 1, 1) := by decide +kernel
theorem dX10_check_11 : decode m_X10_check.2.1 11 = .ok (.iconst 1, 1) := by decide +kernel
theorem dX10_check_12 : decode m_X10_check.2.1 12 = .ok (.bipush 30, 2) := by decide +kernel
theorem dX10_check_14 : decode m_X10_check.2.1 14 = .ok (.invokestatic 63, 3) := by decide +kernel
theorem dX10_check_17 : decode m_X10_check.2.1 17 = .ok (.ifCond .ne 6, 3) := by decide +kernel
theorem dX10_check_20 : decode m_X10_check.2.1 20 = .ok (.ldc 67, 2) := by decide +kernel
theorem dX10_check_22 : decode m_X10_check.2.1 22 = .ok (.ireturn, 1) := by decide +kernel
theorem dX10_check_23 : decode m_X10_check.2.1 23 = .ok (.aload_n 0, 1) := by decide +kernel
theorem dX10_check_24 : decode m_X10_check.2.1 24 = .ok (.getfield 19, 3) := by decide +kernel
theorem dX10_check_27 : decode m_X10_check.2.1 27 = .ok (.ifCond .ne 6, 3) := by decide +kernel
theorem dX10_check_30 : decode m_X10_check.2.1 30 = .ok (.ldc 116, 2) := by decide +kernel
theorem dX10_check_32 : decode m_X10_check.2.1 32 = .ok (.ireturn, 1) := by decide +kernel
theorem dX10_check_33 : decode m_X10_check.2.1 33 = .ok (.aload_n 0, 1) := by decide +kernel
theorem dX10_check_34 : decode m_X10_check.2.1 34 = .ok (.getfield 26, 3) := by decide +kernel
theorem dX10_check_37 : decode m_X10_check.2.1 37 = .ok (.aload_n 0, 1) := by decide +kernel
theorem dX10_check_38 : decode m_X10_check.2.1 38 = .ok (.getfield 16, 3) := by decide +kernel
theorem dX10_check_41 : decode m_X10_check.2.1 41 = .ok (.getfield 117, 3) := by decide +kernel
theorem dX10_check_44 : decode m_X10_check.2.1 44 = .ok (.invokevirtual 196, 3) := by decide +kernel
theorem dX10_check_47 : decode m_X10_check.2.1 47 = .ok (.iconst 0, 1) := by decide +kernel
theorem dX10_check_48 : decode m_X10_check.2.1 48 = .ok (.istore_n 3, 1) := by decide +kernel
theorem dX10_check_49 : decode m_X10_check.2.1 49 = .ok (.iload_n 3, 1) := by decide +kernel
theorem dX10_check_50 : decode m_X10_check.2.1 50 = .ok (.iload_n 1, 1) := by decide +kernel
theorem dX10_check_51 : decode m_X10_check.2.1 51 = .ok (.if_icmp .ge 70, 3) := by decide +kernel
theorem dX10_check_54 : decode m_X10_check.2.1 54 = .ok (.aload_n 0, 1) := by decide +kernel
theorem dX10_check_55 : decode m_X10_check.2.1 55 = .ok (.getfield 16, 3) := by decide +kernel
theorem dX10_check_58 : decode m_X10_check.2.1 58 = .ok (.aload_n 0, 1) := by decide +kernel
theorem dX10_check_59 : decode m_X10_check.2.1 59 = .ok (.getfield 26, 3) := by decide +kernel
theorem dX10_check_62 : decode m_X10_check.2.1 62 = .ok (.invokevirtual 173, 3) := by decide +kernel
theorem dX10_check_65 : decode m_X10_check.2.1 65 = .ok (.aload_n 0, 1) := by decide +kernel
theorem dX10_check_66 : decode m_X10_check.2.1 66 = .ok (.iconst 2, 1) := by decide +kernel
theorem dX10_check_67 : decode m_X10_check.2.1 67 = .ok (.iload_n 3, 1) := by decide +kernel
theorem dX10_check_68 : decode m_X10_check.2.1 68 = .ok (.imul, 1) := by decide +kernel
theorem dX10_check_69 : decode m_X10_check.2.1 69 = .ok (.aload_n 0, 1) := by decide +kernel
theorem dX10_check_70 : decode m_X10_check.2.1 70 = .ok (.getfield 26, 3) := by decide +kernel
theorem dX10_check_73 : decode m_X10_check.2.1 73 = .ok (.getfield 181, 3) := by decide +kernel
theorem dX10_check_76 : decode m_X10_check.2.1 76 = .ok (.iload_n 2, 1) := by decide +kernel
theorem dX10_check_77 : decode m_X10_check.2.1 77 = .ok (.invokevirtual 337, 3) := by decide +kernel
theorem dX10_check_80 : decode m_X10_check.2.1 80 = .ok (.ifCond .ne 9, 3) := by decide +kernel
theorem dX10_check_83 : decode m_X10_check.2.1 83 = .ok (.iconst 1, 1) := by decide +kernel
theorem dX10_check_84 : decode m_X10_check.2.1 84 = .ok (.iconst 2, 1) := by decide +kernel
theorem dX10_check_85 : decode m_X10_check.2.1 85 = .ok (.iload_n 3, 1) := by decide +kernel
theorem dX10_check_86 : decode m_X10_check.2.1 86 = .ok (.imul, 1) := by decide +kernel
theorem dX10_check_87 : decode m_X10_check.2.1 87 = .ok (.iadd, 1) := by decide +kernel
theorem dX10_check_88 : decode m_X10_check.2.1 88 = .ok (.ireturn, 1) := by decide +kernel
theorem dX10_check_89 : decode m_X10_check.2.1 89 = .ok (.aload_n 0, 1) := by decide +kernel
theorem dX10_check_90 : decode m_X10_check.2.1 90 = .ok (.iconst 2, 1) := by decide +kernel
theorem dX10_check_91 : decode m_X10_check.2.1 91 = .ok (.iload_n 3, 1) := by decide +kernel
theorem dX10_check_92 : decode m_X10_check.2.1 92 = .ok (.imul, 1) := by decide +kernel
theorem dX10_check_93 : decode m_X10_check.2.1 93 = .ok (.iconst 1, 1) := by decide +kernel
theorem dX10_check_94 : decode m_X10_check.2.1 94 = .ok (.iadd, 1) := by decide +kernel
theorem dX10_check_95 : decode m_X10_check.2.1 95 = .ok (.aload_n 0, 1) := by decide +kernel
theorem dX10_check_96 : decode m_X10_check.2.1 96 = .ok (.getfield 26, 3) := by decide +kernel
theorem dX10_check_99 : decode m_X10_check.2.1 99 = .ok (.invokevirtual 339, 3) := by decide +kernel
theorem dX10_check_102 : decode m_X10_check.2.1 102 = .ok (.iload_n 2, 1) := by decide +kernel
theorem dX10_check_103 : decode m_X10_check.2.1 103 = .ok (.invokevirtual 337, 3) := by decide +kernel
theorem dX10_check_106 : decode m_X10_check.2.1 106 = .ok (.ifCond .ne 9, 3) := by decide +kernel
theorem dX10_check_109 : decode m_X10_check.2.1 109 = .ok (.iconst 2, 1) := by decide +kernel
theorem dX10_check_110 : decode m_X10_check.2.1 110 = .ok (.iconst 2, 1) := by decide +kernel
theorem dX10_check_111 : decode m_X10_check.2.1 111 = .ok (.iload_n 3, 1) := by decide +kernel
theorem dX10_check_112 : decode m_X10_check.2.1 112 = .ok (.imul, 1) := by decide +kernel
theorem dX10_check_113 : decode m_X10_check.2.1 113 = .ok (.iadd, 1) := by decide +kernel
theorem dX10_check_114 : decode m_X10_check.2.1 114 = .ok (.ireturn, 1) := by decide +kernel
theorem dX10_check_115 : decode m_X10_check.2.1 115 = .ok (.iinc 3 1, 3) := by decide +kernel
theorem dX10_check_118 : decode m_X10_check.2.1 118 = .ok (.goto (-69), 3) := by decide +kernel
theorem dX10_check_121 : decode m_X10_check.2.1 121 = .ok (.iload_n 2, 1) := by decide +kernel
theorem dX10_check_122 : decode m_X10_check.2.1 122 = .ok (.iconst 2, 1) := by decide +kernel
theorem dX10_check_123 : decode m_X10_check.2.1 123 = .ok (.iload_n 1, 1) := by decide +kernel
theorem dX10_check_124 : decode m_X10_check.2.1 124 = .ok (.imul, 1) := by decide +kernel
theorem dX10_check_125 : decode m_X10_check.2.1 125 = .ok (.if_icmp .ne 7, 3) := by decide +kernel
theorem dX10_check_128 : decode m_X10_check.2.1 128 = .ok (.iconst 0, 1) := by decide +kernel
theorem dX10_check_129 : decode m_X10_check.2.1 129 = .ok (.goto 8, 3) := by decide +kernel
theorem dX10_check_132 : decode m_X10_check.2.1 132 = .ok (.iconst 1, 1) := by decide +kernel
theorem dX10_check_133 : decode m_X10_check.2.1 133 = .ok (.iconst 2, 1) := by decide +kernel
theorem dX10_check_134 : decode m_X10_check.2.1 134 = .ok (.iload_n 1, 1) := by decide +kernel
theorem dX10_check_135 : decode m_X10_check.2.1 135 = .ok (.imul, 1) := by decide +kernel
theorem dX10_check_136 : decode m_X10_check.2.1 136 = .ok (.iadd, 1) := by decide +kernel
theorem dX10_check_137 : decode m_X10_check.2.1 137 = .ok (.ireturn, 1) := by decide +kernel
theorem dX10_keep_0 : decode m_X10_keep.2.1 0 = .ok (.aload_n 0, 1) := by decide +kernel
theorem dX10_keep_1 : decode m_X10_keep.2.1 1 = .ok (.getfield 16, 3) := by decide +kernel
theorem dX10_keep_4 : decode m_X10_keep.2.1 4 = .ok (.aload_n 0, 1) := by decide +kernel
theorem dX10_keep_5 : decode m_X10_keep.2.1 5 = .ok (.getfield 10, 3) := by decide +kernel
theorem dX10_keep_8 : decode m_X10_keep.2.1 8 = .ok (.invokevirtual 342, 3) := by decide +kernel
theorem dX10_keep_11 : decode m_X10_keep.2.1 11 = .ok (.aload_n 0, 1) := by decide +kernel
theorem dX10_keep_12 : decode m_X10_keep.2.1 12 = .ok (.iconst 1, 1) := by decide +kernel
theorem dX10_keep_13 : decode m_X10_keep.2.1 13 = .ok (.putfield 19, 3) := by decide +kernel
theorem dX10_keep_16 : decode m_X10_keep.2.1 16 = .ok (.aload_n 0, 1) := by decide +kernel
theorem dX10_keep_17 : decode m_X10_keep.2.1 17 = .ok (.getfield 10, 3) := by decide +kernel
theorem dX10_keep_20 : decode m_X10_keep.2.1 20 = .ok (.getfield 117, 3) := by decide +kernel
theorem dX10_keep_23 : decode m_X10_keep.2.1 23 = .ok (.getfield 172, 3) := by decide +kernel
theorem dX10_keep_26 : decode m_X10_keep.2.1 26 = .ok (.ireturn, 1) := by decide +kernel
theorem dX10_back_0 : decode m_X10_back.2.1 0 = .ok (.aload_n 0, 1) := by decide +kernel
theorem dX10_back_1 : decode m_X10_back.2.1 1 = .ok (.getfield 19, 3) := by decide +kernel
theorem dX10_back_4 : decode m_X10_back.2.1 4 = .ok (.ifCond .ne 6, 3) := by decide +kernel
theorem dX10_back_7 : decode m_X10_back.2.1 7 = .ok (.ldc 116, 2) := by decide +kernel
theorem dX10_back_9 : decode m_X10_back.2.1 9 = .ok (.ireturn, 1) := by decide +kernel
theorem dX10_back_10 : decode m_X10_back.2.1 10 = .ok (.aload_n 0, 1) := by decide +kernel
theorem dX10_back_11 : decode m_X10_back.2.1 11 = .ok (.getfield 10, 3) := by decide +kernel
theorem dX10_back_14 : decode m_X10_back.2.1 14 = .ok (.aload_n 0, 1) := by decide +kernel
theorem dX10_back_15 : decode m_X10_back.2.1 15 = .ok (.getfield 16, 3) := by decide +kernel
theorem dX10_back_18 : decode m_X10_back.2.1 18 = .ok (.invokevirtual 342, 3) := by decide +kernel
theorem dX10_back_21 : decode m_X10_back.2.1 21 = .ok (.aload_n 0, 1) := by decide +kernel
theorem dX10_back_22 : decode m_X10_back.2.1 22 = .ok (.getfield 10, 3) := by decide +kernel
theorem dX10_back_25 : decode m_X10_back.2.1 25 = .ok (.getfield 117, 3) := by decide +kernel
theorem dX10_back_28 : decode m_X10_back.2.1 28 = .ok (.getfield 172, 3) := by decide +kernel
theorem dX10_back_31 : decode m_X10_back.2.1 31 = .ok (.ireturn, 1) := by decide +kernel
theorem dX10_count_0 : decode m_X10_count.2.1 0 = .ok (.iload_n 1, 1) := by decide +kernel
theorem dX10_count_1 : decode m_X10_count.2.1 1 = .ok (.tableswitch 141 0 8 #[51, 62, 73, 84, 95, 106, 117, 128, 133], 51) := by decide +kernel
theorem dX10_count_52 : decode m_X10_count.2.1 52 = .ok (.aload_n 0, 1) := by decide +kernel
theorem dX10_count_53 : decode m_X10_count.2.1 53 = .ok (.getfield 10, 3) := by decide +kernel
theorem dX10_count_56 : decode m_X10_count.2.1 56 = .ok (.getfield 68, 3) := by decide +kernel
theorem dX10_count_59 : decode m_X10_count.2.1 59 = .ok (.getfield 345, 3) := by decide +kernel
theorem dX10_count_62 : decode m_X10_count.2.1 62 = .ok (.ireturn, 1) := by decide +kernel
theorem dX10_count_63 : decode m_X10_count.2.1 63 = .ok (.aload_n 0, 1) := by decide +kernel
theorem dX10_count_64 : decode m_X10_count.2.1 64 = .ok (.getfield 10, 3) := by decide +kernel
theorem dX10_count_67 : decode m_X10_count.2.1 67 = .ok (.getfield 117, 3) := by decide +kernel
theorem dX10_count_70 : decode m_X10_count.2.1 70 = .ok (.getfield 128, 3) := by decide +kernel
theorem dX10_count_73 : decode m_X10_count.2.1 73 = .ok (.ireturn, 1) := by decide +kernel
theorem dX10_count_74 : decode m_X10_count.2.1 74 = .ok (.aload_n 0, 1) := by decide +kernel
theorem dX10_count_75 : decode m_X10_count.2.1 75 = .ok (.getfield 10, 3) := by decide +kernel
theorem dX10_count_78 : decode m_X10_count.2.1 78 = .ok (.getfield 117, 3) := by decide +kernel
theorem dX10_count_81 : decode m_X10_count.2.1 81 = .ok (.invokevirtual 339, 3) := by decide +kernel
theorem dX10_count_84 : decode m_X10_count.2.1 84 = .ok (.ireturn, 1) := by decide +kernel
theorem dX10_count_85 : decode m_X10_count.2.1 85 = .ok (.aload_n 0, 1) := by decide +kernel
theorem dX10_count_86 : decode m_X10_count.2.1 86 = .ok (.getfield 10, 3) := by decide +kernel
theorem dX10_count_89 : decode m_X10_count.2.1 89 = .ok (.getfield 209, 3) := by decide +kernel
theorem dX10_count_92 : decode m_X10_count.2.1 92 = .ok (.getfield 346, 3) := by decide +kernel
theorem dX10_count_95 : decode m_X10_count.2.1 95 = .ok (.ireturn, 1) := by decide +kernel
theorem dX10_count_96 : decode m_X10_count.2.1 96 = .ok (.aload_n 0, 1) := by decide +kernel
theorem dX10_count_97 : decode m_X10_count.2.1 97 = .ok (.getfield 10, 3) := by decide +kernel
theorem dX10_count_100 : decode m_X10_count.2.1 100 = .ok (.getfield 68, 3) := by decide +kernel
theorem dX10_count_103 : decode m_X10_count.2.1 103 = .ok (.getfield 237, 3) := by decide +kernel
theorem dX10_count_106 : decode m_X10_count.2.1 106 = .ok (.ireturn, 1) := by decide +kernel
theorem dX10_count_107 : decode m_X10_count.2.1 107 = .ok (.aload_n 0, 1) := by decide +kernel
theorem dX10_count_108 : decode m_X10_count.2.1 108 = .ok (.getfield 10, 3) := by decide +kernel
theorem dX10_count_111 : decode m_X10_count.2.1 111 = .ok (.getfield 250, 3) := by decide +kernel
theorem dX10_count_114 : decode m_X10_count.2.1 114 = .ok (.getfield 267, 3) := by decide +kernel
theorem dX10_count_117 : decode m_X10_count.2.1 117 = .ok (.ireturn, 1) := by decide +kernel
theorem dX10_count_118 : decode m_X10_count.2.1 118 = .ok (.aload_n 0, 1) := by decide +kernel
theorem dX10_count_119 : decode m_X10_count.2.1 119 = .ok (.getfield 10, 3) := by decide +kernel
theorem dX10_count_122 : decode m_X10_count.2.1 122 = .ok (.getfield 117, 3) := by decide +kernel
theorem dX10_count_125 : decode m_X10_count.2.1 125 = .ok (.getfield 172, 3) := by decide +kernel
theorem dX10_count_128 : decode m_X10_count.2.1 128 = .ok (.ireturn, 1) := by decide +kernel
theorem dX10_count_129 : decode m_X10_count.2.1 129 = .ok (.aload_n 0, 1) := by decide +kernel
theorem dX10_count_130 : decode m_X10_count.2.1 130 = .ok (.getfield 55, 3) := by decide +kernel
theorem dX10_count_133 : decode m_X10_count.2.1 133 = .ok (.ireturn, 1) := by decide +kernel
theorem dX10_count_134 : decode m_X10_count.2.1 134 = .ok (.aload_n 0, 1) := by decide +kernel
theorem dX10_count_135 : decode m_X10_count.2.1 135 = .ok (.getfield 33, 3) := by decide +kernel
theorem dX10_count_138 : decode m_X10_count.2.1 138 = .ok (.getfield 200, 3) := by decide +kernel
theorem dX10_count_141 : decode m_X10_count.2.1 141 = .ok (.ireturn, 1) := by decide +kernel
theorem dX10_count_142 : decode m_X10_count.2.1 142 = .ok (.ldc 67, 2) := by decide +kernel
theorem dX10_count_144 : decode m_X10_count.2.1 144 = .ok (.ireturn, 1) := by decide +kernel
theorem dX10_isTold_0 : decode m_X10_isTold.2.1 0 = .ok (.iload_n 1, 1) := by decide +kernel
theorem dX10_isTold_1 : decode m_X10_isTold.2.1 1 = .ok (.iload_n 3, 1) := by decide +kernel
theorem dX10_isTold_2 : decode m_X10_isTold.2.1 2 = .ok (.if_icmp .ge 23, 3) := by decide +kernel
theorem dX10_isTold_5 : decode m_X10_isTold.2.1 5 = .ok (.iload_n 1, 1) := by decide +kernel
theorem dX10_isTold_6 : decode m_X10_isTold.2.1 6 = .ok (.bipush 60, 2) := by decide +kernel
theorem dX10_isTold_8 : decode m_X10_isTold.2.1 8 = .ok (.if_icmp .ge 17, 3) := by decide +kernel
theorem dX10_isTold_11 : decode m_X10_isTold.2.1 11 = .ok (.aload_n 0, 1) := by decide +kernel
theorem dX10_isTold_12 : decode m_X10_isTold.2.1 12 = .ok (.getfield 51, 3) := by decide +kernel
theorem dX10_isTold_15 : decode m_X10_isTold.2.1 15 = .ok (.iload_n 1, 1) := by decide +kernel
theorem dX10_isTold_16 : decode m_X10_isTold.2.1 16 = .ok (.iaload, 1) := by decide +kernel
theorem dX10_isTold_17 : decode m_X10_isTold.2.1 17 = .ok (.iload_n 2, 1) := by decide +kernel
theorem dX10_isTold_18 : decode m_X10_isTold.2.1 18 = .ok (.if_icmp .ne 7, 3) := by decide +kernel
theorem dX10_isTold_21 : decode m_X10_isTold.2.1 21 = .ok (.iconst 1, 1) := by decide +kernel
theorem dX10_isTold_22 : decode m_X10_isTold.2.1 22 = .ok (.goto 4, 3) := by decide +kernel
theorem dX10_isTold_25 : decode m_X10_isTold.2.1 25 = .ok (.iconst 0, 1) := by decide +kernel
theorem dX10_isTold_26 : decode m_X10_isTold.2.1 26 = .ok (.ireturn, 1) := by decide +kernel
theorem dX10_isWithin_0 : decode m_X10_isWithin.2.1 0 = .ok (.iload_n 0, 1) := by decide +kernel
theorem dX10_isWithin_1 : decode m_X10_isWithin.2.1 1 = .ok (.iload_n 1, 1) := by decide +kernel
theorem dX10_isWithin_2 : decode m_X10_isWithin.2.1 2 = .ok (.if_icmp .lt 12, 3) := by decide +kernel
theorem dX10_isWithin_5 : decode m_X10_isWithin.2.1 5 = .ok (.iload_n 0, 1) := by decide +kernel
theorem dX10_isWithin_6 : decode m_X10_isWithin.2.1 6 = .ok (.iload_n 2, 1) := by decide +kernel
theorem dX10_isWithin_7 : decode m_X10_isWithin.2.1 7 = .ok (.if_icmp .gt 7, 3) := by decide +kernel
theorem dX10_isWithin_10 : decode m_X10_isWithin.2.1 10 = .ok (.iconst 1, 1) := by decide +kernel
theorem dX10_isWithin_11 : decode m_X10_isWithin.2.1 11 = .ok (.goto 4, 3) := by decide +kernel
theorem dX10_isWithin_14 : decode m_X10_isWithin.2.1 14 = .ok (.iconst 0, 1) := by decide +kernel
theorem dX10_isWithin_15 : decode m_X10_isWithin.2.1 15 = .ok (.ireturn, 1) := by decide +kernel
theorem dX10_isKind_0 : decode m_X10_isKind.2.1 0 = .ok (.iload_n 0, 1) := by decide +kernel
theorem dX10_isKind_1 : decode m_X10_isKind.2.1 1 = .ok (.iconst 0, 1) := by decide +kernel
theorem dX10_isKind_2 : decode m_X10_isKind.2.1 2 = .ok (.iconst 5, 1) := by decide +kernel
theorem dX10_isKind_3 : decode m_X10_isKind.2.1 3 = .ok (.invokestatic 63, 3) := by decide +kernel
theorem dX10_isKind_6 : decode m_X10_isKind.2.1 6 = .ok (.ireturn, 1) := by decide +kernel
theorem dX10_isSheet_0 : decode m_X10_isSheet.2.1 0 = .ok (.iload_n 0, 1) := by decide +kernel
theorem dX10_isSheet_1 : decode m_X10_isSheet.2.1 1 = .ok (.iconst 0, 1) := by decide +kernel
theorem dX10_isSheet_2 : decode m_X10_isSheet.2.1 2 = .ok (.iconst 3, 1) := by decide +kernel
theorem dX10_isSheet_3 : decode m_X10_isSheet.2.1 3 = .ok (.invokestatic 63, 3) := by decide +kernel
theorem dX10_isSheet_6 : decode m_X10_isSheet.2.1 6 = .ok (.ireturn, 1) := by decide +kernel
theorem dX10_isSlot_0 : decode m_X10_isSlot.2.1 0 = .ok (.iload_n 0, 1) := by decide +kernel
theorem dX10_isSlot_1 : decode m_X10_isSlot.2.1 1 = .ok (.iconst 0, 1) := by decide +kernel
theorem dX10_isSlot_2 : decode m_X10_isSlot.2.1 2 = .ok (.iconst 4, 1) := by decide +kernel
theorem dX10_isSlot_3 : decode m_X10_isSlot.2.1 3 = .ok (.invokestatic 63, 3) := by decide +kernel
theorem dX10_isSlot_6 : decode m_X10_isSlot.2.1 6 = .ok (.ireturn, 1) := by decide +kernel
theorem dX10_heldWithin999_0 : decode m_X10_heldWithin999.2.1 0 = .ok (.iconst 0, 1) := by decide +kernel
theorem dX10_heldWithin999_1 : decode m_X10_heldWithin999.2.1 1 = .ok (.sipush 999, 3) := by decide +kernel
theorem dX10_heldWithin999_4 : decode m_X10_heldWithin999.2.1 4 = .ok (.iload_n 0, 1) := by decide +kernel
theorem dX10_heldWithin999_5 : decode m_X10_heldWithin999.2.1 5 = .ok (.invokestatic 262, 3) := by decide +kernel
theorem dX10_heldWithin999_8 : decode m_X10_heldWithin999.2.1 8 = .ok (.invokestatic 347, 3) := by decide +kernel
theorem dX10_heldWithin999_11 : decode m_X10_heldWithin999.2.1 11 = .ok (.ireturn, 1) := by decide +kernel
theorem dX10_basicOf_0 : decode m_X10_basicOf.2.1 0 = .ok (.iload_n 1, 1) := by decide +kernel
theorem dX10_basicOf_1 : decode m_X10_basicOf.2.1 1 = .ok (.ifCond .ne 7, 3) := by decide +kernel
theorem dX10_basicOf_4 : decode m_X10_basicOf.2.1 4 = .ok (.iconst 0, 1) := by decide +kernel
theorem dX10_basicOf_5 : decode m_X10_basicOf.2.1 5 = .ok (.goto 13, 3) := by decide +kernel
theorem dX10_basicOf_8 : decode m_X10_basicOf.2.1 8 = .ok (.ldc2_w 350, 3) := by decide +kernel
theorem dX10_basicOf_11 : decode m_X10_basicOf.2.1 11 = .ok (.iload_n 0, 1) := by decide +kernel
theorem dX10_basicOf_12 : decode m_X10_basicOf.2.1 12 = .ok (.i2l, 1) := by decide +kernel
theorem dX10_basicOf_13 : decode m_X10_basicOf.2.1 13 = .ok (.lmul, 1) := by decide +kernel
theorem dX10_basicOf_14 : decode m_X10_basicOf.2.1 14 = .ok (.iload_n 1, 1) := by decide +kernel
theorem dX10_basicOf_15 : decode m_X10_basicOf.2.1 15 = .ok (.i2l, 1) := by decide +kernel
theorem dX10_basicOf_16 : decode m_X10_basicOf.2.1 16 = .ok (.ldiv, 1) := by decide +kernel
theorem dX10_basicOf_17 : decode m_X10_basicOf.2.1 17 = .ok (.l2i, 1) := by decide +kernel
theorem dX10_basicOf_18 : decode m_X10_basicOf.2.1 18 = .ok (.ireturn, 1) := by decide +kernel
