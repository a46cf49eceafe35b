theorem dX0_init_0 : decode cX0_init 0 = .ok (.aload_n 0, 1) := by decide +kernel
theorem dX0_init_1 : decode cX0_init 1 = .ok (.invokespecial 3, 3) := by decide +kernel
theorem dX0_init_4 : decode cX0_init 4 = .ok (.aload_n 0, 1) := by decide +kernel
theorem dX0_init_5 : decode cX0_init 5 = .ok (.bipush 60, 2) := by decide +kernel
theorem dX0_init_7 : decode cX0_init 7 = .ok (.newarray .char, 2) := by decide +kernel
theorem dX0_init_9 : decode cX0_init 9 = .ok (.putfield 9, 3) := by decide +kernel
theorem dX0_init_12 : decode cX0_init 12 = .ok (.aload_n 0, 1) := by decide +kernel
theorem dX0_init_13 : decode cX0_init 13 = .ok (.iconst 0, 1) := by decide +kernel
theorem dX0_init_14 : decode cX0_init 14 = .ok (.putfield 15, 3) := by decide +kernel
theorem dX0_init_17 : decode cX0_init 17 = .ok (.aload_n 0, 1) := by decide +kernel
theorem dX0_init_18 : decode cX0_init 18 = .ok (.iconst 0, 1) := by decide +kernel
theorem dX0_init_19 : decode cX0_init 19 = .ok (.putfield 19, 3) := by decide +kernel
theorem dX0_init_22 : decode cX0_init 22 = .ok (.aload_n 0, 1) := by decide +kernel
theorem dX0_init_23 : decode cX0_init 23 = .ok (.iconst 0, 1) := by decide +kernel
theorem dX0_init_24 : decode cX0_init 24 = .ok (.putfield 22, 3) := by decide +kernel
theorem dX0_init_27 : decode cX0_init 27 = .ok (.aload_n 0, 1) := by decide +kernel
theorem dX0_init_28 : decode cX0_init 28 = .ok (.bipush 30, 2) := by decide +kernel
theorem dX0_init_30 : decode cX0_init 30 = .ok (.newarray .int, 2) := by decide +kernel
theorem dX0_init_32 : decode cX0_init 32 = .ok (.putfield 25, 3) := by decide +kernel
theorem dX0_init_35 : decode cX0_init 35 = .ok (.aload_n 0, 1) := by decide +kernel
theorem dX0_init_36 : decode cX0_init 36 = .ok (.bipush 30, 2) := by decide +kernel
theorem dX0_init_38 : decode cX0_init 38 = .ok (.newarray .int, 2) := by decide +kernel
theorem dX0_init_40 : decode cX0_init 40 = .ok (.putfield 29, 3) := by decide +kernel
theorem dX0_init_43 : decode cX0_init 43 = .ok (.aload_n 0, 1) := by decide +kernel
theorem dX0_init_44 : decode cX0_init 44 = .ok (.bipush 30, 2) := by decide +kernel
theorem dX0_init_46 : decode cX0_init 46 = .ok (.newarray .int, 2) := by decide +kernel
theorem dX0_init_48 : decode cX0_init 48 = .ok (.putfield 32, 3) := by decide +kernel
theorem dX0_init_51 : decode cX0_init 51 = .ok (.return_, 1) := by decide +kernel
theorem dX1_init_0 : decode cX1_init 0 = .ok (.aload_n 0, 1) := by decide +kernel
theorem dX1_init_1 : decode cX1_init 1 = .ok (.invokespecial 3, 3) := by decide +kernel
theorem dX1_init_4 : decode cX1_init 4 = .ok (.aload_n 0, 1) := by decide +kernel
theorem dX1_init_5 : decode cX1_init 5 = .ok (.iconst 0, 1) := by decide +kernel
theorem dX1_init_6 : decode cX1_init 6 = .ok (.putfield 9, 3) := by decide +kernel
theorem dX1_init_9 : decode cX1_init 9 = .ok (.aload_n 0, 1) := by decide +kernel
theorem dX1_init_10 : decode cX1_init 10 = .ok (.sipush 5000, 3) := by decide +kernel
theorem dX1_init_13 : decode cX1_init 13 = .ok (.putfield 15, 3) := by decide +kernel
theorem dX1_init_16 : decode cX1_init 16 = .ok (.aload_n 0, 1) := by decide +kernel
theorem dX1_init_17 : decode cX1_init 17 = .ok (.ldc 18, 2) := by decide +kernel
theorem dX1_init_19 : decode cX1_init 19 = .ok (.putfield 19, 3) := by decide +kernel
theorem dX1_init_22 : decode cX1_init 22 = .ok (.aload_n 0, 1) := by decide +kernel
theorem dX1_init_23 : decode cX1_init 23 = .ok (.iconst 0, 1) := by decide +kernel
theorem dX1_init_24 : decode cX1_init 24 = .ok (.putfield 23, 3) := by decide +kernel
theorem dX1_init_27 : decode cX1_init 27 = .ok (.aload_n 0, 1) := by decide +kernel
theorem dX1_init_28 : decode cX1_init 28 = .ok (.iconst 0, 1) := by decide +kernel
theorem dX1_init_29 : decode cX1_init 29 = .ok (.putfield 26, 3) := by decide +kernel
theorem dX1_init_32 : decode cX1_init 32 = .ok (.aload_n 0, 1) := by decide +kernel
theorem dX1_init_33 : decode cX1_init 33 = .ok (.bipush 6, 2) := by decide +kernel
theorem dX1_init_35 : decode cX1_init 35 = .ok (.anewarray 29, 3) := by decide +kernel
theorem dX1_init_38 : decode cX1_init 38 = .ok (.putfield 31, 3) := by decide +kernel
theorem dX1_init_41 : decode cX1_init 41 = .ok (.aload_n 0, 1) := by decide +kernel
theorem dX1_init_42 : decode cX1_init 42 = .ok (.bipush 24, 2) := by decide +kernel
theorem dX1_init_44 : decode cX1_init 44 = .ok (.anewarray 35, 3) := by decide +kernel
theorem dX1_init_47 : decode cX1_init 47 = .ok (.putfield 37, 3) := by decide +kernel
theorem dX1_init_50 : decode cX1_init 50 = .ok (.iconst 0, 1) := by decide +kernel
theorem dX1_init_51 : decode cX1_init 51 = .ok (.istore_n 1, 1) := by decide +kernel
theorem dX1_init_52 : decode cX1_init 52 = .ok (.iload_n 1, 1) := by decide +kernel
theorem dX1_init_53 : decode cX1_init 53 = .ok (.aload_n 0, 1) := by decide +kernel
theorem dX1_init_54 : decode cX1_init 54 = .ok (.getfield 31, 3) := by decide +kernel
theorem dX1_init_57 : decode cX1_init 57 = .ok (.arraylength, 1) := by decide +kernel
theorem dX1_init_58 : decode cX1_init 58 = .ok (.if_icmp .ge 22, 3) := by decide +kernel
theorem dX1_init_61 : decode cX1_init 61 = .ok (.aload_n 0, 1) := by decide +kernel
theorem dX1_init_62 : decode cX1_init 62 = .ok (.getfield 31, 3) := by decide +kernel
theorem dX1_init_65 : decode cX1_init 65 = .ok (.iload_n 1, 1) := by decide +kernel
theorem dX1_init_66 : decode cX1_init 66 = .ok (.new 29, 3) := by decide +kernel
theorem dX1_init_69 : decode cX1_init 69 = .ok (.dup, 1) := by decide +kernel
theorem dX1_init_70 : decode cX1_init 70 = .ok (.invokespecial 41, 3) := by decide +kernel
theorem dX1_init_73 : decode cX1_init 73 = .ok (.aastore, 1) := by decide +kernel
theorem dX1_init_74 : decode cX1_init 74 = .ok (.iinc 1 1, 3) := by decide +kernel
theorem dX1_init_77 : decode cX1_init 77 = .ok (.goto (-25), 3) := by decide +kernel
theorem dX1_init_80 : decode cX1_init 80 = .ok (.iconst 0, 1) := by decide +kernel
theorem dX1_init_81 : decode cX1_init 81 = .ok (.istore_n 1, 1) := by decide +kernel
theorem dX1_init_82 : decode cX1_init 82 = .ok (.iload_n 1, 1) := by decide +kernel
theorem dX1_init_83 : decode cX1_init 83 = .ok (.aload_n 0, 1) := by decide +kernel
theorem dX1_init_84 : decode cX1_init 84 = .ok (.getfield 37, 3) := by decide +kernel
theorem dX1_init_87 : decode cX1_init 87 = .ok (.arraylength, 1) := by decide +kernel
theorem dX1_init_88 : decode cX1_init 88 = .ok (.if_icmp .ge 22, 3) := by decide +kernel
theorem dX1_init_91 : decode cX1_init 91 = .ok (.aload_n 0, 1) := by decide +kernel
theorem dX1_init_92 : decode cX1_init 92 = .ok (.getfield 37, 3) := by decide +kernel
theorem dX1_init_95 : decode cX1_init 95 = .ok (.iload_n 1, 1) := by decide +kernel
theorem dX1_init_96 : decode cX1_init 96 = .ok (.new 35, 3) := by decide +kernel
theorem dX1_init_99 : decode cX1_init 99 = .ok (.dup, 1) := by decide +kernel
theorem dX1_init_100 : decode cX1_init 100 = .ok (.invokespecial 42, 3) := by decide +kernel
theorem dX1_init_103 : decode cX1_init 103 = .ok (.aastore, 1) := by decide +kernel
theorem dX1_init_104 : decode cX1_init 104 = .ok (.iinc 1 1, 3) := by decide +kernel
theorem dX1_init_107 : decode cX1_init 107 = .ok (.goto (-25), 3) := by decide +kernel
theorem dX1_init_110 : decode cX1_init 110 = .ok (.return_, 1) := by decide +kernel
theorem dX1_copyFrom_0 : decode cX1_copyFrom 0 = .ok (.aload_n 0, 1) := by decide +kernel
theorem dX1_copyFrom_1 : decode cX1_copyFrom 1 = .ok (.aload_n 1, 1) := by decide +kernel
theorem dX1_copyFrom_2 : decode cX1_copyFrom 2 = .ok (.getfield 9, 3) := by decide +kernel
theorem dX1_copyFrom_5 : decode cX1_copyFrom 5 = .ok (.putfield 9, 3) := by decide +kernel
theorem dX1_copyFrom_8 : decode cX1_copyFrom 8 = .ok (.aload_n 0, 1) := by decide +kernel
theorem dX1_copyFrom_9 : decode cX1_copyFrom 9 = .ok (.aload_n 1, 1) := by decide +kernel
theorem dX1_copyFrom_10 : decode cX1_copyFrom 10 = .ok (.getfield 15, 3) := by decide +kernel
theorem dX1_copyFrom_13 : decode cX1_copyFrom 13 = .ok (.putfield 15, 3) := by decide +kernel
theorem dX1_copyFrom_16 : decode cX1_copyFrom 16 = .ok (.aload_n 0, 1) := by decide +kernel
theorem dX1_copyFrom_17 : decode cX1_copyFrom 17 = .ok (.aload_n 1, 1) := by decide +kernel
theorem dX1_copyFrom_18 : decode cX1_copyFrom 18 = .ok (.getfield 19, 3) := by decide +kernel
theorem dX1_copyFrom_21 : decode cX1_copyFrom 21 = .ok (.putfield 19, 3) := by decide +kernel
theorem dX1_copyFrom_24 : decode cX1_copyFrom 24 = .ok (.aload_n 0, 1) := by decide +kernel
theorem dX1_copyFrom_25 : decode cX1_copyFrom 25 = .ok (.aload_n 1, 1) := by decide +kernel
theorem dX1_copyFrom_26 : decode cX1_copyFrom 26 = .ok (.getfield 23, 3) := by decide +kernel
theorem dX1_copyFrom_29 : decode cX1_copyFrom 29 = .ok (.putfield 23, 3) := by decide +kernel
theorem dX1_copyFrom_32 : decode cX1_copyFrom 32 = .ok (.aload_n 0, 1) := by decide +kernel
theorem dX1_copyFrom_33 : decode cX1_copyFrom 33 = .ok (.aload_n 1, 1) := by decide +kernel
theorem dX1_copyFrom_34 : decode cX1_copyFrom 34 = .ok (.getfield 26, 3) := by decide +kernel
theorem dX1_copyFrom_37 : decode cX1_copyFrom 37 = .ok (.putfield 26, 3) := by decide +kernel
theorem dX1_copyFrom_40 : decode cX1_copyFrom 40 = .ok (.iconst 0, 1) := by decide +kernel
theorem dX1_copyFrom_41 : decode cX1_copyFrom 41 = .ok (.istore_n 2, 1) := by decide +kernel
theorem dX1_copyFrom_42 : decode cX1_copyFrom 42 = .ok (.iload_n 2, 1) := by decide +kernel
theorem dX1_copyFrom_43 : decode cX1_copyFrom 43 = .ok (.aload_n 0, 1) := by decide +kernel
theorem dX1_copyFrom_44 : decode cX1_copyFrom 44 = .ok (.getfield 23, 3) := by decide +kernel
theorem dX1_copyFrom_47 : decode cX1_copyFrom 47 = .ok (.if_icmp .ge 37, 3) := by decide +kernel
theorem dX1_copyFrom_50 : decode cX1_copyFrom 50 = .ok (.aload_n 0, 1) := by decide +kernel
theorem dX1_copyFrom_51 : decode cX1_copyFrom 51 = .ok (.iload_n 2, 1) := by decide +kernel
theorem dX1_copyFrom_52 : decode cX1_copyFrom 52 = .ok (.invokevirtual 43, 3) := by decide +kernel
theorem dX1_copyFrom_55 : decode cX1_copyFrom 55 = .ok (.astore_n 3, 1) := by decide +kernel
theorem dX1_copyFrom_56 : decode cX1_copyFrom 56 = .ok (.aload_n 1, 1) := by decide +kernel
theorem dX1_copyFrom_57 : decode cX1_copyFrom 57 = .ok (.iload_n 2, 1) := by decide +kernel
theorem dX1_copyFrom_58 : decode cX1_copyFrom 58 = .ok (.invokevirtual 43, 3) := by decide +kernel
theorem dX1_copyFrom_61 : decode cX1_copyFrom 61 = .ok (.astore 4, 2) := by decide +kernel
theorem dX1_copyFrom_63 : decode cX1_copyFrom 63 = .ok (.aload_n 3, 1) := by decide +kernel
theorem dX1_copyFrom_64 : decode cX1_copyFrom 64 = .ok (.ifnull 14, 3) := by decide +kernel
theorem dX1_copyFrom_67 : decode cX1_copyFrom 67 = .ok (.aload 4, 2) := by decide +kernel
theorem dX1_copyFrom_69 : decode cX1_copyFrom 69 = .ok (.ifnull 9, 3) := by decide +kernel
theorem dX1_copyFrom_72 : decode cX1_copyFrom 72 = .ok (.aload_n 3, 1) := by decide +kernel
theorem dX1_copyFrom_73 : decode cX1_copyFrom 73 = .ok (.aload 4, 2) := by decide +kernel
theorem dX1_copyFrom_75 : decode cX1_copyFrom 75 = .ok (.invokevirtual 47, 3) := by decide +kernel
theorem dX1_copyFrom_78 : decode cX1_copyFrom 78 = .ok (.iinc 2 1, 3) := by decide +kernel
theorem dX1_copyFrom_81 : decode cX1_copyFrom 81 = .ok (.goto (-39), 3) := by decide +kernel
theorem dX1_copyFrom_84 : decode cX1_copyFrom 84 = .ok (.iconst 0, 1) := by decide +kernel
theorem dX1_copyFrom_85 : decode cX1_copyFrom 85 = .ok (.istore_n 2, 1) := by decide +kernel
theorem dX1_copyFrom_86 : decode cX1_copyFrom 86 = .ok (.iload_n 2, 1) := by decide +kernel
theorem dX1_copyFrom_87 : decode cX1_copyFrom 87 = .ok (.aload_n 0, 1) := by decide +kernel
theorem dX1_copyFrom_88 : decode cX1_copyFrom 88 = .ok (.getfield 26, 3) := by decide +kernel
theorem dX1_copyFrom_91 : decode cX1_copyFrom 91 = .ok (.if_icmp .ge 37, 3) := by decide +kernel
theorem dX1_copyFrom_94 : decode cX1_copyFrom 94 = .ok (.aload_n 0, 1) := by decide +kernel
theorem dX1_copyFrom_95 : decode cX1_copyFrom 95 = .ok (.iload_n 2, 1) := by decide +kernel
theorem dX1_copyFrom_96 : decode cX1_copyFrom 96 = .ok (.invokevirtual 51, 3) := by decide +kernel
theorem dX1_copyFrom_99 : decode cX1_copyFrom 99 = .ok (.astore_n 3, 1) := by decide +kernel
theorem dX1_copyFrom_100 : decode cX1_copyFrom 100 = .ok (.aload_n 1, 1) := by decide +kernel
theorem dX1_copyFrom_101 : decode cX1_copyFrom 101 = .ok (.iload_n 2, 1) := by decide +kernel
theorem dX1_copyFrom_102 : decode cX1_copyFrom 102 = .ok (.invokevirtual 51, 3) := by decide +kernel
theorem dX1_copyFrom_105 : decode cX1_copyFrom 105 = .ok (.astore 4, 2) := by decide +kernel
theorem dX1_copyFrom_107 : decode cX1_copyFrom 107 = .ok (.aload_n 3, 1) := by decide +kernel
theorem dX1_copyFrom_108 : decode cX1_copyFrom 108 = .ok (.ifnull 14, 3) := by decide +kernel
theorem dX1_copyFrom_111 : decode cX1_copyFrom 111 = .ok (.aload 4, 2) := by decide +kernel
theorem dX1_copyFrom_113 : decode cX1_copyFrom 113 = .ok (.ifnull 9, 3) := by decide +kernel
theorem dX1_copyFrom_116 : decode cX1_copyFrom 116 = .ok (.aload_n 3, 1) := by decide +kernel
theorem dX1_copyFrom_117 : decode cX1_copyFrom 117 = .ok (.aload 4, 2) := by decide +kernel
theorem dX1_copyFrom_119 : decode cX1_copyFrom 119 = .ok (.invokevirtual 55, 3) := by decide +kernel
theorem dX1_copyFrom_122 : decode cX1_copyFrom 122 = .ok (.iinc 2 1, 3) := by decide +kernel
theorem dX1_copyFrom_125 : decode cX1_copyFrom 125 = .ok (.goto (-39), 3) := by decide +kernel
theorem dX1_copyFrom_128 : decode cX1_copyFrom 128 = .ok (.return_, 1) := by decide +kernel
theorem dX1_tenancyAt_0 : decode cX1_tenancyAt 0 = .ok (.iload_n 1, 1) := by decide +kernel
theorem dX1_tenancyAt_1 : decode cX1_tenancyAt 1 = .ok (.ifCond .lt 20, 3) := by decide +kernel
theorem dX1_tenancyAt_4 : decode cX1_tenancyAt 4 = .ok (.iload_n 1, 1) := by decide +kernel
theorem dX1_tenancyAt_5 : decode cX1_tenancyAt 5 = .ok (.aload_n 0, 1) := by decide +kernel
theorem dX1_tenancyAt_6 : decode cX1_tenancyAt 6 = .ok (.getfield 23, 3) := by decide +kernel
theorem dX1_tenancyAt_9 : decode cX1_tenancyAt 9 = .ok (.if_icmp .ge 12, 3) := by decide +kernel
theorem dX1_tenancyAt_12 : decode cX1_tenancyAt 12 = .ok (.iload_n 1, 1) := by decide +kernel
theorem dX1_tenancyAt_13 : decode cX1_tenancyAt 13 = .ok (.aload_n 0, 1) := by decide +kernel
theorem dX1_tenancyAt_14 : decode cX1_tenancyAt 14 = .ok (.getfield 31, 3) := by decide +kernel
theorem dX1_tenancyAt_17 : decode cX1_tenancyAt 17 = .ok (.arraylength, 1) := by decide +kernel
theorem dX1_tenancyAt_18 : decode cX1_tenancyAt 18 = .ok (.if_icmp .lt 5, 3) := by decide +kernel
theorem dX1_tenancyAt_21 : decode cX1_tenancyAt 21 = .ok (.aconst_null, 1) := by decide +kernel
theorem dX1_tenancyAt_22 : decode cX1_tenancyAt 22 = .ok (.areturn, 1) := by decide +kernel
theorem dX1_tenancyAt_23 : decode cX1_tenancyAt 23 = .ok (.aload_n 0, 1) := by decide +kernel
theorem dX1_tenancyAt_24 : decode cX1_tenancyAt 24 = .ok (.getfield 31, 3) := by decide +kernel
theorem dX1_tenancyAt_27 : decode cX1_tenancyAt 27 = .ok (.iload_n 1, 1) := by decide +kernel
theorem dX1_tenancyAt_28 : decode cX1_tenancyAt 28 = .ok (.aaload, 1) := by decide +kernel
theorem dX1_tenancyAt_29 : decode cX1_tenancyAt 29 = .ok (.areturn, 1) := by decide +kernel
theorem dX1_itemAt_0 : decode cX1_itemAt 0 = .ok (.iload_n 1, 1) := by decide +kernel
theorem dX1_itemAt_1 : decode cX1_itemAt 1 = .ok (.ifCond .lt 20, 3) := by decide +kernel
theorem dX1_itemAt_4 : decode cX1_itemAt 4 = .ok (.iload_n 1, 1) := by decide +kernel
theorem dX1_itemAt_5 : decode cX1_itemAt 5 = .ok (.aload_n 0, 1) := by decide +kernel
theorem dX1_itemAt_6 : decode cX1_itemAt 6 = .ok (.getfield 26, 3) := by decide +kernel
theorem dX1_itemAt_9 : decode cX1_itemAt 9 = .ok (.if_icmp .ge 12, 3) := by decide +kernel
theorem dX1_itemAt_12 : decode cX1_itemAt 12 = .ok (.iload_n 1, 1) := by decide +kernel
theorem dX1_itemAt_13 : decode cX1_itemAt 13 = .ok (.aload_n 0, 1) := by decide +kernel
theorem dX1_itemAt_14 : decode cX1_itemAt 14 = .ok (.getfield 37, 3) := by decide +kernel
theorem dX1_itemAt_17 : decode cX1_itemAt 17 = .ok (.arraylength, 1) := by decide +kernel
theorem dX1_itemAt_18 : decode cX1_itemAt 18 = .ok (.if_icmp .lt 5, 3) := by decide +kernel
theorem dX1_itemAt_21 : decode cX1_itemAt 21 = .ok (.aconst_null, 1) := by decide +kernel
theorem dX1_itemAt_22 : decode cX1_itemAt 22 = .ok (.areturn, 1) := by decide +kernel
theorem dX1_itemAt_23 : decode cX1_itemAt 23 = .ok (.aload_n 0, 1) := by decide +kernel
theorem dX1_itemAt_24 : decode cX1_itemAt 24 = .ok (.getfield 37, 3) := by decide +kernel
theorem dX1_itemAt_27 : decode cX1_itemAt 27 = .ok (.iload_n 1, 1) := by decide +kernel
theorem dX1_itemAt_28 : decode cX1_itemAt 28 = .ok (.aaload, 1) := by decide +kernel
theorem dX1_itemAt_29 : decode cX1_itemAt 29 = .ok (.areturn, 1) := by decide +kernel
theorem dX1_addTenancy_0 : decode cX1_addTenancy 0 = .ok (.aload_n 0, 1) := by decide +kernel
theorem dX1_addTenancy_1 : decode cX1_addTenancy 1 = .ok (.getfield 23, 3) := by decide +kernel
theorem dX1_addTenancy_4 : decode cX1_addTenancy 4 = .ok (.istore_n 2, 1) := by decide +kernel
theorem dX1_addTenancy_5 : decode cX1_addTenancy 5 = .ok (.aload_n 0, 1) := by decide +kernel
theorem dX1_addTenancy_6 : decode cX1_addTenancy 6 = .ok (.dup, 1) := by decide +kernel
theorem dX1_addTenancy_7 : decode cX1_addTenancy 7 = .ok (.getfield 23, 3) := by decide +kernel
theorem dX1_addTenancy_10 : decode cX1_addTenancy 10 = .ok (.iconst 1, 1) := by decide +kernel
theorem dX1_addTenancy_11 : decode cX1_addTenancy 11 = .ok (.iadd, 1) := by decide +kernel
theorem dX1_addTenancy_12 : decode cX1_addTenancy 12 = .ok (.putfield 23, 3) := by decide +kernel
theorem dX1_addTenancy_15 : decode cX1_addTenancy 15 = .ok (.aload_n 0, 1) := by decide +kernel
theorem dX1_addTenancy_16 : decode cX1_addTenancy 16 = .ok (.iload_n 2, 1) := by decide +kernel
theorem dX1_addTenancy_17 : decode cX1_addTenancy 17 = .ok (.invokevirtual 43, 3) := by decide +kernel
theorem dX1_addTenancy_20 : decode cX1_addTenancy 20 = .ok (.astore_n 3, 1) := by decide +kernel
theorem dX1_addTenancy_21 : decode cX1_addTenancy 21 = .ok (.aload_n 3, 1) := by decide +kernel
theorem dX1_addTenancy_22 : decode cX1_addTenancy 22 = .ok (.ifnull 12, 3) := by decide +kernel
theorem dX1_addTenancy_25 : decode cX1_addTenancy 25 = .ok (.aload_n 3, 1) := by decide +kernel
theorem dX1_addTenancy_26 : decode cX1_addTenancy 26 = .ok (.iload_n 1, 1) := by decide +kernel
theorem dX1_addTenancy_27 : decode cX1_addTenancy 27 = .ok (.aload_n 0, 1) := by decide +kernel
theorem dX1_addTenancy_28 : decode cX1_addTenancy 28 = .ok (.getfield 9, 3) := by decide +kernel
theorem dX1_addTenancy_31 : decode cX1_addTenancy 31 = .ok (.invokevirtual 58, 3) := by decide +kernel
theorem dX1_addTenancy_34 : decode cX1_addTenancy 34 = .ok (.iload_n 2, 1) := by decide +kernel
theorem dX1_addTenancy_35 : decode cX1_addTenancy 35 = .ok (.ireturn, 1) := by decide +kernel
theorem dX1_newItem_0 : decode cX1_newItem 0 = .ok (.aload_n 0, 1) := by decide +kernel
theorem dX1_newItem_1 : decode cX1_newItem 1 = .ok (.getfield 26, 3) := by decide +kernel
theorem dX1_newItem_4 : decode cX1_newItem 4 = .ok (.istore 6, 2) := by decide +kernel
theorem dX1_newItem_6 : decode cX1_newItem 6 = .ok (.aload_n 0, 1) := by decide +kernel
theorem dX1_newItem_7 : decode cX1_newItem 7 = .ok (.dup, 1) := by decide +kernel
theorem dX1_newItem_8 : decode cX1_newItem 8 = .ok (.getfield 26, 3) := by decide +kernel
theorem dX1_newItem_11 : decode cX1_newItem 11 = .ok (.iconst 1, 1) := by decide +kernel
theorem dX1_newItem_12 : decode cX1_newItem 12 = .ok (.iadd, 1) := by decide +kernel
theorem dX1_newItem_13 : decode cX1_newItem 13 = .ok (.putfield 26, 3) := by decide +kernel
theorem dX1_newItem_16 : decode cX1_newItem 16 = .ok (.aload_n 0, 1) := by decide +kernel
theorem dX1_newItem_17 : decode cX1_newItem 17 = .ok (.iload 6, 2) := by decide +kernel
theorem dX1_newItem_19 : decode cX1_newItem 19 = .ok (.invokevirtual 51, 3) := by decide +kernel
theorem dX1_newItem_22 : decode cX1_newItem 22 = .ok (.astore 7, 2) := by decide +kernel
theorem dX1_newItem_24 : decode cX1_newItem 24 = .ok (.aload 7, 2) := by decide +kernel
theorem dX1_newItem_26 : decode cX1_newItem 26 = .ok (.ifnull 15, 3) := by decide +kernel
theorem dX1_newItem_29 : decode cX1_newItem 29 = .ok (.aload 7, 2) := by decide +kernel
theorem dX1_newItem_31 : decode cX1_newItem 31 = .ok (.iload_n 1, 1) := by decide +kernel
theorem dX1_newItem_32 : decode cX1_newItem 32 = .ok (.iload_n 2, 1) := by decide +kernel
theorem dX1_newItem_33 : decode cX1_newItem 33 = .ok (.iload_n 3, 1) := by decide +kernel
theorem dX1_newItem_34 : decode cX1_newItem 34 = .ok (.iload 4, 2) := by decide +kernel
theorem dX1_newItem_36 : decode cX1_newItem 36 = .ok (.iload 5, 2) := by decide +kernel
theorem dX1_newItem_38 : decode cX1_newItem 38 = .ok (.invokevirtual 62, 3) := by decide +kernel
theorem dX1_newItem_41 : decode cX1_newItem 41 = .ok (.iload 6, 2) := by decide +kernel
theorem dX1_newItem_43 : decode cX1_newItem 43 = .ok (.ireturn, 1) := by decide +kernel
theorem dX1_expectFairConditions_0 : decode cX1_expectFairConditions 0 = .ok (.iconst 0, 1) := by decide +kernel
theorem dX1_expectFairConditions_1 : decode cX1_expectFairConditions 1 = .ok (.istore_n 2, 1) := by decide +kernel
theorem dX1_expectFairConditions_2 : decode cX1_expectFairConditions 2 = .ok (.iload_n 2, 1) := by decide +kernel
theorem dX1_expectFairConditions_3 : decode cX1_expectFairConditions 3 = .ok (.aload_n 0, 1) := by decide +kernel
theorem dX1_expectFairConditions_4 : decode cX1_expectFairConditions 4 = .ok (.getfield 26, 3) := by decide +kernel
theorem dX1_expectFairConditions_7 : decode cX1_expectFairConditions 7 = .ok (.if_icmp .ge 46, 3) := by decide +kernel
theorem dX1_expectFairConditions_10 : decode cX1_expectFairConditions 10 = .ok (.aload_n 0, 1) := by decide +kernel
theorem dX1_expectFairConditions_11 : decode cX1_expectFairConditions 11 = .ok (.iload_n 2, 1) := by decide +kernel
theorem dX1_expectFairConditions_12 : decode cX1_expectFairConditions 12 = .ok (.invokevirtual 51, 3) := by decide +kernel
theorem dX1_expectFairConditions_15 : decode cX1_expectFairConditions 15 = .ok (.astore_n 3, 1) := by decide +kernel
theorem dX1_expectFairConditions_16 : decode cX1_expectFairConditions 16 = .ok (.aload_n 3, 1) := by decide +kernel
theorem dX1_expectFairConditions_17 : decode cX1_expectFairConditions 17 = .ok (.ifnull 30, 3) := by decide +kernel
theorem dX1_expectFairConditions_20 : decode cX1_expectFairConditions 20 = .ok (.aload_n 3, 1) := by decide +kernel
theorem dX1_expectFairConditions_21 : decode cX1_expectFairConditions 21 = .ok (.getfield 65, 3) := by decide +kernel
theorem dX1_expectFairConditions_24 : decode cX1_expectFairConditions 24 = .ok (.iload_n 1, 1) := by decide +kernel
theorem dX1_expectFairConditions_25 : decode cX1_expectFairConditions 25 = .ok (.if_icmp .ne 22, 3) := by decide +kernel
theorem dX1_expectFairConditions_28 : decode cX1_expectFairConditions 28 = .ok (.aload_n 0, 1) := by decide +kernel
theorem dX1_expectFairConditions_29 : decode cX1_expectFairConditions 29 = .ok (.aload_n 3, 1) := by decide +kernel
theorem dX1_expectFairConditions_30 : decode cX1_expectFairConditions 30 = .ok (.invokevirtual 68, 3) := by decide +kernel
theorem dX1_expectFairConditions_33 : decode cX1_expectFairConditions 33 = .ok (.istore 4, 2) := by decide +kernel
theorem dX1_expectFairConditions_35 : decode cX1_expectFairConditions 35 = .ok (.aload_n 3, 1) := by decide +kernel
theorem dX1_expectFairConditions_36 : decode cX1_expectFairConditions 36 = .ok (.iload 4, 2) := by decide +kernel
theorem dX1_expectFairConditions_38 : decode cX1_expectFairConditions 38 = .ok (.aload_n 3, 1) := by decide +kernel
theorem dX1_expectFairConditions_39 : decode cX1_expectFairConditions 39 = .ok (.iload 4, 2) := by decide +kernel
theorem dX1_expectFairConditions_41 : decode cX1_expectFairConditions 41 = .ok (.invokevirtual 72, 3) := by decide +kernel
theorem dX1_expectFairConditions_44 : decode cX1_expectFairConditions 44 = .ok (.invokevirtual 76, 3) := by decide +kernel
theorem dX1_expectFairConditions_47 : decode cX1_expectFairConditions 47 = .ok (.iinc 2 1, 3) := by decide +kernel
theorem dX1_expectFairConditions_50 : decode cX1_expectFairConditions 50 = .ok (.goto (-48), 3) := by decide +kernel
theorem dX1_expectFairConditions_53 : decode cX1_expectFairConditions 53 = .ok (.return_, 1) := by decide +kernel
theorem dX1_daysOf_0 : decode cX1_daysOf 0 = .ok (.aload_n 1, 1) := by decide +kernel
theorem dX1_daysOf_1 : decode cX1_daysOf 1 = .ok (.getfield 79, 3) := by decide +kernel
theorem dX1_daysOf_4 : decode cX1_daysOf 4 = .ok (.ifCond .ne 10, 3) := by decide +kernel
theorem dX1_daysOf_7 : decode cX1_daysOf 7 = .ok (.aload_n 0, 1) := by decide +kernel
theorem dX1_daysOf_8 : decode cX1_daysOf 8 = .ok (.getfield 9, 3) := by decide +kernel
theorem dX1_daysOf_11 : decode cX1_daysOf 11 = .ok (.goto 7, 3) := by decide +kernel
theorem dX1_daysOf_14 : decode cX1_daysOf 14 = .ok (.aload_n 1, 1) := by decide +kernel
theorem dX1_daysOf_15 : decode cX1_daysOf 15 = .ok (.getfield 82, 3) := by decide +kernel
theorem dX1_daysOf_18 : decode cX1_daysOf 18 = .ok (.istore_n 2, 1) := by decide +kernel
theorem dX1_daysOf_19 : decode cX1_daysOf 19 = .ok (.iload_n 2, 1) := by decide +kernel
theorem dX1_daysOf_20 : decode cX1_daysOf 20 = .ok (.aload_n 1, 1) := by decide +kernel
theorem dX1_daysOf_21 : decode cX1_daysOf 21 = .ok (.getfield 85, 3) := by decide +kernel
theorem dX1_daysOf_24 : decode cX1_daysOf 24 = .ok (.isub, 1) := by decide +kernel
theorem dX1_daysOf_25 : decode cX1_daysOf 25 = .ok (.ireturn, 1) := by decide +kernel
theorem dX1_daysOfItem_0 : decode cX1_daysOfItem 0 = .ok (.aload_n 0, 1) := by decide +kernel
theorem dX1_daysOfItem_1 : decode cX1_daysOfItem 1 = .ok (.aload_n 1, 1) := by decide +kernel
theorem dX1_daysOfItem_2 : decode cX1_daysOfItem 2 = .ok (.getfield 65, 3) := by decide +kernel
theorem dX1_daysOfItem_5 : decode cX1_daysOfItem 5 = .ok (.invokevirtual 43, 3) := by decide +kernel
theorem dX1_daysOfItem_8 : decode cX1_daysOfItem 8 = .ok (.astore_n 2, 1) := by decide +kernel
theorem dX1_daysOfItem_9 : decode cX1_daysOfItem 9 = .ok (.aload_n 2, 1) := by decide +kernel
theorem dX1_daysOfItem_10 : decode cX1_daysOfItem 10 = .ok (.ifnonnull 7, 3) := by decide +kernel
theorem dX1_daysOfItem_13 : decode cX1_daysOfItem 13 = .ok (.iconst 0, 1) := by decide +kernel
theorem dX1_daysOfItem_14 : decode cX1_daysOfItem 14 = .ok (.goto 8, 3) := by decide +kernel
theorem dX1_daysOfItem_17 : decode cX1_daysOfItem 17 = .ok (.aload_n 0, 1) := by decide +kernel
theorem dX1_daysOfItem_18 : decode cX1_daysOfItem 18 = .ok (.aload_n 2, 1) := by decide +kernel
theorem dX1_daysOfItem_19 : decode cX1_daysOfItem 19 = .ok (.invokevirtual 88, 3) := by decide +kernel
theorem dX1_daysOfItem_22 : decode cX1_daysOfItem 22 = .ok (.ireturn, 1) := by decide +kernel
theorem dX1_stateOf_0 : decode cX1_stateOf 0 = .ok (.aload_n 0, 1) := by decide +kernel
theorem dX1_stateOf_1 : decode cX1_stateOf 1 = .ok (.aload_n 1, 1) := by decide +kernel
theorem dX1_stateOf_2 : decode cX1_stateOf 2 = .ok (.getfield 65, 3) := by decide +kernel
theorem dX1_stateOf_5 : decode cX1_stateOf 5 = .ok (.invokevirtual 43, 3) := by decide +kernel
theorem dX1_stateOf_8 : decode cX1_stateOf 8 = .ok (.astore_n 2, 1) := by decide +kernel
theorem dX1_stateOf_9 : decode cX1_stateOf 9 = .ok (.aload_n 2, 1) := by decide +kernel
theorem dX1_stateOf_10 : decode cX1_stateOf 10 = .ok (.ifnonnull 7, 3) := by decide +kernel
theorem dX1_stateOf_13 : decode cX1_stateOf 13 = .ok (.iconst 0, 1) := by decide +kernel
theorem dX1_stateOf_14 : decode cX1_stateOf 14 = .ok (.goto 7, 3) := by decide +kernel
theorem dX1_stateOf_17 : decode cX1_stateOf 17 = .ok (.aload_n 2, 1) := by decide +kernel
theorem dX1_stateOf_18 : decode cX1_stateOf 18 = .ok (.getfield 79, 3) := by decide +kernel
theorem dX1_stateOf_21 : decode cX1_stateOf 21 = .ok (.ireturn, 1) := by decide +kernel
theorem dX1_canBeAnswered_0 : decode cX1_canBeAnswered 0 = .ok (.aload_n 0, 1) := by decide +kernel
theorem dX1_canBeAnswered_1 : decode cX1_canBeAnswered 1 = .ok (.aload_n 1, 1) := by decide +kernel
theorem dX1_canBeAnswered_2 : decode cX1_canBeAnswered 2 = .ok (.invokevirtual 92, 3) := by decide +kernel
theorem dX1_canBeAnswered_5 : decode cX1_canBeAnswered 5 = .ok (.iconst 2, 1) := by decide +kernel
theorem dX1_canBeAnswered_6 : decode cX1_canBeAnswered 6 = .ok (.if_icmp .ne 14, 3) := by decide +kernel
theorem dX1_canBeAnswered_9 : decode cX1_canBeAnswered 9 = .ok (.aload_n 1, 1) := by decide +kernel
theorem dX1_canBeAnswered_10 : decode cX1_canBeAnswered 10 = .ok (.getfield 95, 3) := by decide +kernel
theorem dX1_canBeAnswered_13 : decode cX1_canBeAnswered 13 = .ok (.ifCond .le 7, 3) := by decide +kernel
theorem dX1_canBeAnswered_16 : decode cX1_canBeAnswered 16 = .ok (.iconst 1, 1) := by decide +kernel
theorem dX1_canBeAnswered_17 : decode cX1_canBeAnswered 17 = .ok (.goto 4, 3) := by decide +kernel
theorem dX1_canBeAnswered_20 : decode cX1_canBeAnswered 20 = .ok (.iconst 0, 1) := by decide +kernel
theorem dX1_canBeAnswered_21 : decode cX1_canBeAnswered 21 = .ok (.ireturn, 1) := by decide +kernel
theorem dX1_interestOf_0 : decode cX1_interestOf 0 = .ok (.aload_n 1, 1) := by decide +kernel
theorem dX1_interestOf_1 : decode cX1_interestOf 1 = .ok (.getfield 79, 3) := by decide +kernel
theorem dX1_interestOf_4 : decode cX1_interestOf 4 = .ok (.iconst 3, 1) := by decide +kernel
theorem dX1_interestOf_5 : decode cX1_interestOf 5 = .ok (.if_icmp .ne 8, 3) := by decide +kernel
theorem dX1_interestOf_8 : decode cX1_interestOf 8 = .ok (.aload_n 1, 1) := by decide +kernel
theorem dX1_interestOf_9 : decode cX1_interestOf 9 = .ok (.getfield 98, 3) := by decide +kernel
theorem dX1_interestOf_12 : decode cX1_interestOf 12 = .ok (.ireturn, 1) := by decide +kernel
theorem dX1_interestOf_13 : decode cX1_interestOf 13 = .ok (.aload_n 0, 1) := by decide +kernel
theorem dX1_interestOf_14 : decode cX1_interestOf 14 = .ok (.getfield 9, 3) := by decide +kernel
theorem dX1_interestOf_17 : decode cX1_interestOf 17 = .ok (.aload_n 1, 1) := by decide +kernel
theorem dX1_interestOf_18 : decode cX1_interestOf 18 = .ok (.getfield 85, 3) := by decide +kernel
theorem dX1_interestOf_21 : decode cX1_interestOf 21 = .ok (.isub, 1) := by decide +kernel
theorem dX1_interestOf_22 : decode cX1_interestOf 22 = .ok (.istore_n 2, 1) := by decide +kernel
theorem dX1_interestOf_23 : decode cX1_interestOf 23 = .ok (.aload_n 1, 1) := by decide +kernel
theorem dX1_interestOf_24 : decode cX1_interestOf 24 = .ok (.getfield 101, 3) := by decide +kernel
theorem dX1_interestOf_27 : decode cX1_interestOf 27 = .ok (.i2f, 1) := by decide +kernel
theorem dX1_interestOf_28 : decode cX1_interestOf 28 = .ok (.aload_n 0, 1) := by decide +kernel
theorem dX1_interestOf_29 : decode cX1_interestOf 29 = .ok (.getfield 19, 3) := by decide +kernel
theorem dX1_interestOf_32 : decode cX1_interestOf 32 = .ok (.fmul, 1) := by decide +kernel
theorem dX1_interestOf_33 : decode cX1_interestOf 33 = .ok (.iload_n 2, 1) := by decide +kernel
theorem dX1_interestOf_34 : decode cX1_interestOf 34 = .ok (.i2f, 1) := by decide +kernel
theorem dX1_interestOf_35 : decode cX1_interestOf 35 = .ok (.fmul, 1) := by decide +kernel
theorem dX1_interestOf_36 : decode cX1_interestOf 36 = .ok (.ldc 104, 2) := by decide +kernel
theorem dX1_interestOf_38 : decode cX1_interestOf 38 = .ok (.fdiv, 1) := by decide +kernel
theorem dX1_interestOf_39 : decode cX1_interestOf 39 = .ok (.f2i, 1) := by decide +kernel
theorem dX1_interestOf_40 : decode cX1_interestOf 40 = .ok (.ireturn, 1) := by decide +kernel
theorem dX1_total_0 : decode cX1_total 0 = .ok (.iconst 0, 1) := by decide +kernel
theorem dX1_total_1 : decode cX1_total 1 = .ok (.istore_n 3, 1) := by decide +kernel
theorem dX1_total_2 : decode cX1_total 2 = .ok (.iconst 0, 1) := by decide +kernel
theorem dX1_total_3 : decode cX1_total 3 = .ok (.istore 4, 2) := by decide +kernel
theorem dX1_total_5 : decode cX1_total 5 = .ok (.iload 4, 2) := by decide +kernel
theorem dX1_total_7 : decode cX1_total 7 = .ok (.aload_n 0, 1) := by decide +kernel
theorem dX1_total_8 : decode cX1_total 8 = .ok (.getfield 26, 3) := by decide +kernel
theorem dX1_total_11 : decode cX1_total 11 = .ok (.if_icmp .ge 41, 3) := by decide +kernel
theorem dX1_total_14 : decode cX1_total 14 = .ok (.aload_n 0, 1) := by decide +kernel
theorem dX1_total_15 : decode cX1_total 15 = .ok (.iload 4, 2) := by decide +kernel
theorem dX1_total_17 : decode cX1_total 17 = .ok (.invokevirtual 51, 3) := by decide +kernel
theorem dX1_total_20 : decode cX1_total 20 = .ok (.astore 5, 2) := by decide +kernel
theorem dX1_total_22 : decode cX1_total 22 = .ok (.aload 5, 2) := by decide +kernel
theorem dX1_total_24 : decode cX1_total 24 = .ok (.ifnull 22, 3) := by decide +kernel
theorem dX1_total_27 : decode cX1_total 27 = .ok (.aload 5, 2) := by decide +kernel
theorem dX1_total_29 : decode cX1_total 29 = .ok (.getfield 65, 3) := by decide +kernel
theorem dX1_total_32 : decode cX1_total 32 = .ok (.iload_n 1, 1) := by decide +kernel
theorem dX1_total_33 : decode cX1_total 33 = .ok (.if_icmp .ne 13, 3) := by decide +kernel
theorem dX1_total_36 : decode cX1_total 36 = .ok (.iload_n 3, 1) := by decide +kernel
theorem dX1_total_37 : decode cX1_total 37 = .ok (.aload_n 0, 1) := by decide +kernel
theorem dX1_total_38 : decode cX1_total 38 = .ok (.aload 5, 2) := by decide +kernel
theorem dX1_total_40 : decode cX1_total 40 = .ok (.iload_n 2, 1) := by decide +kernel
theorem dX1_total_41 : decode cX1_total 41 = .ok (.invokevirtual 105, 3) := by decide +kernel
theorem dX1_total_44 : decode cX1_total 44 = .ok (.iadd, 1) := by decide +kernel
theorem dX1_total_45 : decode cX1_total 45 = .ok (.istore_n 3, 1) := by decide +kernel
theorem dX1_total_46 : decode cX1_total 46 = .ok (.iinc 4 1, 3) := by decide +kernel
theorem dX1_total_49 : decode cX1_total 49 = .ok (.goto (-44), 3) := by decide +kernel
theorem dX1_total_52 : decode cX1_total 52 = .ok (.iload_n 3, 1) := by decide +kernel
theorem dX1_total_53 : decode cX1_total 53 = .ok (.ireturn, 1) := by decide +kernel
theorem dX1_shareOf_0 : decode cX1_shareOf 0 = .ok (.aload_n 1, 1) := by decide +kernel
theorem dX1_shareOf_1 : decode cX1_shareOf 1 = .ok (.getfield 109, 3) := by decide +kernel
theorem dX1_shareOf_4 : decode cX1_shareOf 4 = .ok (.iconst 2, 1) := by decide +kernel
theorem dX1_shareOf_5 : decode cX1_shareOf 5 = .ok (.if_icmp .ne 7, 3) := by decide +kernel
theorem dX1_shareOf_8 : decode cX1_shareOf 8 = .ok (.iconst 1, 1) := by decide +kernel
theorem dX1_shareOf_9 : decode cX1_shareOf 9 = .ok (.goto 4, 3) := by decide +kernel
theorem dX1_shareOf_12 : decode cX1_shareOf 12 = .ok (.iconst 0, 1) := by decide +kernel
theorem dX1_shareOf_13 : decode cX1_shareOf 13 = .ok (.istore_n 3, 1) := by decide +kernel
theorem dX1_shareOf_14 : decode cX1_shareOf 14 = .ok (.iload_n 2, 1) := by decide +kernel
theorem dX1_shareOf_15 : decode cX1_shareOf 15 = .ok (.tableswitch 102 0 6 #[41, 43, 56, 61, 66, 76, 89], 41) := by decide +kernel
theorem dX1_shareOf_56 : decode cX1_shareOf 56 = .ok (.iconst 1, 1) := by decide +kernel
theorem dX1_shareOf_57 : decode cX1_shareOf 57 = .ok (.ireturn, 1) := by decide +kernel
theorem dX1_shareOf_58 : decode cX1_shareOf 58 = .ok (.aload_n 1, 1) := by decide +kernel
theorem dX1_shareOf_59 : decode cX1_shareOf 59 = .ok (.getfield 95, 3) := by decide +kernel
theorem dX1_shareOf_62 : decode cX1_shareOf 62 = .ok (.ifCond .le 7, 3) := by decide +kernel
theorem dX1_shareOf_65 : decode cX1_shareOf 65 = .ok (.iconst 1, 1) := by decide +kernel
theorem dX1_shareOf_66 : decode cX1_shareOf 66 = .ok (.goto 4, 3) := by decide +kernel
theorem dX1_shareOf_69 : decode cX1_shareOf 69 = .ok (.iconst 0, 1) := by decide +kernel
theorem dX1_shareOf_70 : decode cX1_shareOf 70 = .ok (.ireturn, 1) := by decide +kernel
theorem dX1_shareOf_71 : decode cX1_shareOf 71 = .ok (.aload_n 1, 1) := by decide +kernel
theorem dX1_shareOf_72 : decode cX1_shareOf 72 = .ok (.getfield 95, 3) := by decide +kernel
theorem dX1_shareOf_75 : decode cX1_shareOf 75 = .ok (.ireturn, 1) := by decide +kernel
theorem dX1_shareOf_76 : decode cX1_shareOf 76 = .ok (.aload_n 1, 1) := by decide +kernel
theorem dX1_shareOf_77 : decode cX1_shareOf 77 = .ok (.getfield 112, 3) := by decide +kernel
theorem dX1_shareOf_80 : decode cX1_shareOf 80 = .ok (.ireturn, 1) := by decide +kernel
theorem dX1_shareOf_81 : decode cX1_shareOf 81 = .ok (.iload_n 3, 1) := by decide +kernel
theorem dX1_shareOf_82 : decode cX1_shareOf 82 = .ok (.ifCond .eq 7, 3) := by decide +kernel
theorem dX1_shareOf_85 : decode cX1_shareOf 85 = .ok (.iconst 1, 1) := by decide +kernel
theorem dX1_shareOf_86 : decode cX1_shareOf 86 = .ok (.goto 4, 3) := by decide +kernel
theorem dX1_shareOf_89 : decode cX1_shareOf 89 = .ok (.iconst 0, 1) := by decide +kernel
theorem dX1_shareOf_90 : decode cX1_shareOf 90 = .ok (.ireturn, 1) := by decide +kernel
theorem dX1_shareOf_91 : decode cX1_shareOf 91 = .ok (.iload_n 3, 1) := by decide +kernel
theorem dX1_shareOf_92 : decode cX1_shareOf 92 = .ok (.ifCond .eq 10, 3) := by decide +kernel
theorem dX1_shareOf_95 : decode cX1_shareOf 95 = .ok (.aload_n 1, 1) := by decide +kernel
theorem dX1_shareOf_96 : decode cX1_shareOf 96 = .ok (.getfield 95, 3) := by decide +kernel
theorem dX1_shareOf_99 : decode cX1_shareOf 99 = .ok (.goto 4, 3) := by decide +kernel
theorem dX1_shareOf_102 : decode cX1_shareOf 102 = .ok (.iconst 0, 1) := by decide +kernel
theorem dX1_shareOf_103 : decode cX1_shareOf 103 = .ok (.ireturn, 1) := by decide +kernel
theorem dX1_shareOf_104 : decode cX1_shareOf 104 = .ok (.iload_n 3, 1) := by decide +kernel
theorem dX1_shareOf_105 : decode cX1_shareOf 105 = .ok (.ifCond .eq 10, 3) := by decide +kernel
theorem dX1_shareOf_108 : decode cX1_shareOf 108 = .ok (.aload_n 1, 1) := by decide +kernel
theorem dX1_shareOf_109 : decode cX1_shareOf 109 = .ok (.invokevirtual 115, 3) := by decide +kernel
theorem dX1_shareOf_112 : decode cX1_shareOf 112 = .ok (.goto 4, 3) := by decide +kernel
theorem dX1_shareOf_115 : decode cX1_shareOf 115 = .ok (.iconst 0, 1) := by decide +kernel
theorem dX1_shareOf_116 : decode cX1_shareOf 116 = .ok (.ireturn, 1) := by decide +kernel
theorem dX1_shareOf_117 : decode cX1_shareOf 117 = .ok (.iconst 0, 1) := by decide +kernel
theorem dX1_shareOf_118 : decode cX1_shareOf 118 = .ok (.ireturn, 1) := by decide +kernel
theorem dX1_tenanciesIn_0 : decode cX1_tenanciesIn 0 = .ok (.iconst 0, 1) := by decide +kernel
theorem dX1_tenanciesIn_1 : decode cX1_tenanciesIn 1 = .ok (.istore_n 2, 1) := by decide +kernel
theorem dX1_tenanciesIn_2 : decode cX1_tenanciesIn 2 = .ok (.iconst 0, 1) := by decide +kernel
theorem dX1_tenanciesIn_3 : decode cX1_tenanciesIn 3 = .ok (.istore_n 3, 1) := by decide +kernel
theorem dX1_tenanciesIn_4 : decode cX1_tenanciesIn 4 = .ok (.iload_n 3, 1) := by decide +kernel
theorem dX1_tenanciesIn_5 : decode cX1_tenanciesIn 5 = .ok (.aload_n 0, 1) := by decide +kernel
theorem dX1_tenanciesIn_6 : decode cX1_tenanciesIn 6 = .ok (.getfield 23, 3) := by decide +kernel
theorem dX1_tenanciesIn_9 : decode cX1_tenanciesIn 9 = .ok (.if_icmp .ge 33, 3) := by decide +kernel
theorem dX1_tenanciesIn_12 : decode cX1_tenanciesIn 12 = .ok (.aload_n 0, 1) := by decide +kernel
theorem dX1_tenanciesIn_13 : decode cX1_tenanciesIn 13 = .ok (.iload_n 3, 1) := by decide +kernel
theorem dX1_tenanciesIn_14 : decode cX1_tenanciesIn 14 = .ok (.invokevirtual 43, 3) := by decide +kernel
theorem dX1_tenanciesIn_17 : decode cX1_tenanciesIn 17 = .ok (.astore 4, 2) := by decide +kernel
theorem dX1_tenanciesIn_19 : decode cX1_tenanciesIn 19 = .ok (.aload 4, 2) := by decide +kernel
theorem dX1_tenanciesIn_21 : decode cX1_tenanciesIn 21 = .ok (.ifnull 15, 3) := by decide +kernel
theorem dX1_tenanciesIn_24 : decode cX1_tenanciesIn 24 = .ok (.aload 4, 2) := by decide +kernel
theorem dX1_tenanciesIn_26 : decode cX1_tenanciesIn 26 = .ok (.getfield 79, 3) := by decide +kernel
theorem dX1_tenanciesIn_29 : decode cX1_tenanciesIn 29 = .ok (.iload_n 1, 1) := by decide +kernel
theorem dX1_tenanciesIn_30 : decode cX1_tenanciesIn 30 = .ok (.if_icmp .ne 6, 3) := by decide +kernel
theorem dX1_tenanciesIn_33 : decode cX1_tenanciesIn 33 = .ok (.iinc 2 1, 3) := by decide +kernel
theorem dX1_tenanciesIn_36 : decode cX1_tenanciesIn 36 = .ok (.iinc 3 1, 3) := by decide +kernel
theorem dX1_tenanciesIn_39 : decode cX1_tenanciesIn 39 = .ok (.goto (-35), 3) := by decide +kernel
theorem dX1_tenanciesIn_42 : decode cX1_tenanciesIn 42 = .ok (.iload_n 2, 1) := by decide +kernel
theorem dX1_tenanciesIn_43 : decode cX1_tenanciesIn 43 = .ok (.ireturn, 1) := by decide +kernel
theorem dX1_settle_0 : decode cX1_settle 0 = .ok (.aload_n 3, 1) := by decide +kernel
theorem dX1_settle_1 : decode cX1_settle 1 = .ok (.aload_n 2, 1) := by decide +kernel
theorem dX1_settle_2 : decode cX1_settle 2 = .ok (.getfield 101, 3) := by decide +kernel
theorem dX1_settle_5 : decode cX1_settle 5 = .ok (.aload_n 0, 1) := by decide +kernel
theorem dX1_settle_6 : decode cX1_settle 6 = .ok (.aload_n 2, 1) := by decide +kernel
theorem dX1_settle_7 : decode cX1_settle 7 = .ok (.invokevirtual 123, 3) := by decide +kernel
theorem dX1_settle_10 : decode cX1_settle 10 = .ok (.iadd, 1) := by decide +kernel
theorem dX1_settle_11 : decode cX1_settle 11 = .ok (.invokevirtual 126, 3) := by decide +kernel
theorem dX1_settle_14 : decode cX1_settle 14 = .ok (.aload_n 0, 1) := by decide +kernel
theorem dX1_settle_15 : decode cX1_settle 15 = .ok (.iload_n 1, 1) := by decide +kernel
theorem dX1_settle_16 : decode cX1_settle 16 = .ok (.iconst 5, 1) := by decide +kernel
theorem dX1_settle_17 : decode cX1_settle 17 = .ok (.invokevirtual 119, 3) := by decide +kernel
theorem dX1_settle_20 : decode cX1_settle 20 = .ok (.istore 4, 2) := by decide +kernel
theorem dX1_settle_22 : decode cX1_settle 22 = .ok (.iload 4, 2) := by decide +kernel
theorem dX1_settle_24 : decode cX1_settle 24 = .ok (.ifCond .le 44, 3) := by decide +kernel
theorem dX1_settle_27 : decode cX1_settle 27 = .ok (.iload 4, 2) := by decide +kernel
theorem dX1_settle_29 : decode cX1_settle 29 = .ok (.aload_n 0, 1) := by decide +kernel
theorem dX1_settle_30 : decode cX1_settle 30 = .ok (.iload_n 1, 1) := by decide +kernel
theorem dX1_settle_31 : decode cX1_settle 31 = .ok (.bipush 6, 2) := by decide +kernel
theorem dX1_settle_33 : decode cX1_settle 33 = .ok (.invokevirtual 119, 3) := by decide +kernel
theorem dX1_settle_36 : decode cX1_settle 36 = .ok (.isub, 1) := by decide +kernel
theorem dX1_settle_37 : decode cX1_settle 37 = .ok (.istore 5, 2) := by decide +kernel
theorem dX1_settle_39 : decode cX1_settle 39 = .ok (.aload_n 0, 1) := by decide +kernel
theorem dX1_settle_40 : decode cX1_settle 40 = .ok (.getfield 15, 3) := by decide +kernel
theorem dX1_settle_43 : decode cX1_settle 43 = .ok (.i2f, 1) := by decide +kernel
theorem dX1_settle_44 : decode cX1_settle 44 = .ok (.iload 5, 2) := by decide +kernel
theorem dX1_settle_46 : decode cX1_settle 46 = .ok (.i2f, 1) := by decide +kernel
theorem dX1_settle_47 : decode cX1_settle 47 = .ok (.fmul, 1) := by decide +kernel
theorem dX1_settle_48 : decode cX1_settle 48 = .ok (.iload 4, 2) := by decide +kernel
theorem dX1_settle_50 : decode cX1_settle 50 = .ok (.i2f, 1) := by decide +kernel
theorem dX1_settle_51 : decode cX1_settle 51 = .ok (.fdiv, 1) := by decide +kernel
theorem dX1_settle_52 : decode cX1_settle 52 = .ok (.f2i, 1) := by decide +kernel
theorem dX1_settle_53 : decode cX1_settle 53 = .ok (.istore 6, 2) := by decide +kernel
theorem dX1_settle_55 : decode cX1_settle 55 = .ok (.aload_n 3, 1) := by decide +kernel
theorem dX1_settle_56 : decode cX1_settle 56 = .ok (.iload 6, 2) := by decide +kernel
theorem dX1_settle_58 : decode cX1_settle 58 = .ok (.aload_n 0, 1) := by decide +kernel
theorem dX1_settle_59 : decode cX1_settle 59 = .ok (.getfield 15, 3) := by decide +kernel
theorem dX1_settle_62 : decode cX1_settle 62 = .ok (.iload 6, 2) := by decide +kernel
theorem dX1_settle_64 : decode cX1_settle 64 = .ok (.isub, 1) := by decide +kernel
theorem dX1_settle_65 : decode cX1_settle 65 = .ok (.invokevirtual 131, 3) := by decide +kernel
theorem dX1_settle_68 : decode cX1_settle 68 = .ok (.iconst 0, 1) := by decide +kernel
theorem dX1_settle_69 : decode cX1_settle 69 = .ok (.istore 5, 2) := by decide +kernel
theorem dX1_settle_71 : decode cX1_settle 71 = .ok (.iload 5, 2) := by decide +kernel
theorem dX1_settle_73 : decode cX1_settle 73 = .ok (.aload_n 0, 1) := by decide +kernel
theorem dX1_settle_74 : decode cX1_settle 74 = .ok (.getfield 26, 3) := by decide +kernel
theorem dX1_settle_77 : decode cX1_settle 77 = .ok (.if_icmp .ge 40, 3) := by decide +kernel
theorem dX1_settle_80 : decode cX1_settle 80 = .ok (.aload_n 0, 1) := by decide +kernel
theorem dX1_settle_81 : decode cX1_settle 81 = .ok (.iload 5, 2) := by decide +kernel
theorem dX1_settle_83 : decode cX1_settle 83 = .ok (.invokevirtual 51, 3) := by decide +kernel
theorem dX1_settle_86 : decode cX1_settle 86 = .ok (.astore 6, 2) := by decide +kernel
theorem dX1_settle_88 : decode cX1_settle 88 = .ok (.aload 6, 2) := by decide +kernel
theorem dX1_settle_90 : decode cX1_settle 90 = .ok (.ifnull 21, 3) := by decide +kernel
theorem dX1_settle_93 : decode cX1_settle 93 = .ok (.aload 6, 2) := by decide +kernel
theorem dX1_settle_95 : decode cX1_settle 95 = .ok (.getfield 65, 3) := by decide +kernel
theorem dX1_settle_98 : decode cX1_settle 98 = .ok (.iload_n 1, 1) := by decide +kernel
theorem dX1_settle_99 : decode cX1_settle 99 = .ok (.if_icmp .ne 12, 3) := by decide +kernel
theorem dX1_settle_102 : decode cX1_settle 102 = .ok (.aload_n 3, 1) := by decide +kernel
theorem dX1_settle_103 : decode cX1_settle 103 = .ok (.aload 6, 2) := by decide +kernel
theorem dX1_settle_105 : decode cX1_settle 105 = .ok (.invokevirtual 115, 3) := by decide +kernel
theorem dX1_settle_108 : decode cX1_settle 108 = .ok (.invokevirtual 134, 3) := by decide +kernel
theorem dX1_settle_111 : decode cX1_settle 111 = .ok (.iinc 5 1, 3) := by decide +kernel
theorem dX1_settle_114 : decode cX1_settle 114 = .ok (.goto (-43), 3) := by decide +kernel
theorem dX1_settle_117 : decode cX1_settle 117 = .ok (.aload_n 3, 1) := by decide +kernel
theorem dX1_settle_118 : decode cX1_settle 118 = .ok (.aload_n 2, 1) := by decide +kernel
theorem dX1_settle_119 : decode cX1_settle 119 = .ok (.getfield 137, 3) := by decide +kernel
theorem dX1_settle_122 : decode cX1_settle 122 = .ok (.invokevirtual 134, 3) := by decide +kernel
theorem dX1_settle_125 : decode cX1_settle 125 = .ok (.return_, 1) := by decide +kernel
theorem dX2_init_0 : decode cX2_init 0 = .ok (.aload_n 0, 1) := by decide +kernel
theorem dX2_init_1 : decode cX2_init 1 = .ok (.invokespecial 3, 3) := by decide +kernel
theorem dX2_init_4 : decode cX2_init 4 = .ok (.aload_n 0, 1) := by decide +kernel
theorem dX2_init_5 : decode cX2_init 5 = .ok (.iconst 4, 1) := by decide +kernel
theorem dX2_init_6 : decode cX2_init 6 = .ok (.anewarray 9, 3) := by decide +kernel
theorem dX2_init_9 : decode cX2_init 9 = .ok (.putfield 11, 3) := by decide +kernel
theorem dX2_init_12 : decode cX2_init 12 = .ok (.aload_n 0, 1) := by decide +kernel
theorem dX2_init_13 : decode cX2_init 13 = .ok (.iconst 0, 1) := by decide +kernel
theorem dX2_init_14 : decode cX2_init 14 = .ok (.putfield 17, 3) := by decide +kernel
theorem dX2_init_17 : decode cX2_init 17 = .ok (.aload_n 0, 1) := by decide +kernel
theorem dX2_init_18 : decode cX2_init 18 = .ok (.iconst 0, 1) := by decide +kernel
theorem dX2_init_19 : decode cX2_init 19 = .ok (.putfield 21, 3) := by decide +kernel
theorem dX2_init_22 : decode cX2_init 22 = .ok (.iconst 0, 1) := by decide +kernel
theorem dX2_init_23 : decode cX2_init 23 = .ok (.istore_n 1, 1) := by decide +kernel
theorem dX2_init_24 : decode cX2_init 24 = .ok (.iload_n 1, 1) := by decide +kernel
theorem dX2_init_25 : decode cX2_init 25 = .ok (.aload_n 0, 1) := by decide +kernel
theorem dX2_init_26 : decode cX2_init 26 = .ok (.getfield 11, 3) := by decide +kernel
theorem dX2_init_29 : decode cX2_init 29 = .ok (.arraylength, 1) := by decide +kernel
theorem dX2_init_30 : decode cX2_init 30 = .ok (.if_icmp .ge 22, 3) := by decide +kernel
theorem dX2_init_33 : decode cX2_init 33 = .ok (.aload_n 0, 1) := by decide +kernel
theorem dX2_init_34 : decode cX2_init 34 = .ok (.getfield 11, 3) := by decide +kernel
theorem dX2_init_37 : decode cX2_init 37 = .ok (.iload_n 1, 1) := by decide +kernel
theorem dX2_init_38 : decode cX2_init 38 = .ok (.new 9, 3) := by decide +kernel
theorem dX2_init_41 : decode cX2_init 41 = .ok (.dup, 1) := by decide +kernel
theorem dX2_init_42 : decode cX2_init 42 = .ok (.invokespecial 24, 3) := by decide +kernel
theorem dX2_init_45 : decode cX2_init 45 = .ok (.aastore, 1) := by decide +kernel
theorem dX2_init_46 : decode cX2_init 46 = .ok (.iinc 1 1, 3) := by decide +kernel
theorem dX2_init_49 : decode cX2_init 49 = .ok (.goto (-25), 3) := by decide +kernel
theorem dX2_init_52 : decode cX2_init 52 = .ok (.return_, 1) := by decide +kernel
theorem dX2_push_0 : decode cX2_push 0 = .ok (.aload_n 0, 1) := by decide +kernel
theorem dX2_push_1 : decode cX2_push 1 = .ok (.getfield 21, 3) := by decide +kernel
theorem dX2_push_4 : decode cX2_push 4 = .ok (.iconst 4, 1) := by decide +kernel
theorem dX2_push_5 : decode cX2_push 5 = .ok (.if_icmp .lt 25, 3) := by decide +kernel
theorem dX2_push_8 : decode cX2_push 8 = .ok (.aload_n 0, 1) := by decide +kernel
theorem dX2_push_9 : decode cX2_push 9 = .ok (.aload_n 0, 1) := by decide +kernel
theorem dX2_push_10 : decode cX2_push 10 = .ok (.getfield 17, 3) := by decide +kernel
theorem dX2_push_13 : decode cX2_push 13 = .ok (.iconst 1, 1) := by decide +kernel
theorem dX2_push_14 : decode cX2_push 14 = .ok (.iadd, 1) := by decide +kernel
theorem dX2_push_15 : decode cX2_push 15 = .ok (.iconst 4, 1) := by decide +kernel
theorem dX2_push_16 : decode cX2_push 16 = .ok (.irem, 1) := by decide +kernel
theorem dX2_push_17 : decode cX2_push 17 = .ok (.putfield 17, 3) := by decide +kernel
theorem dX2_push_20 : decode cX2_push 20 = .ok (.aload_n 0, 1) := by decide +kernel
theorem dX2_push_21 : decode cX2_push 21 = .ok (.dup, 1) := by decide +kernel
theorem dX2_push_22 : decode cX2_push 22 = .ok (.getfield 21, 3) := by decide +kernel
theorem dX2_push_25 : decode cX2_push 25 = .ok (.iconst 1, 1) := by decide +kernel
theorem dX2_push_26 : decode cX2_push 26 = .ok (.isub, 1) := by decide +kernel
theorem dX2_push_27 : decode cX2_push 27 = .ok (.putfield 21, 3) := by decide +kernel
theorem dX2_push_30 : decode cX2_push 30 = .ok (.aload_n 0, 1) := by decide +kernel
theorem dX2_push_31 : decode cX2_push 31 = .ok (.aload_n 0, 1) := by decide +kernel
theorem dX2_push_32 : decode cX2_push 32 = .ok (.getfield 21, 3) := by decide +kernel
theorem dX2_push_35 : decode cX2_push 35 = .ok (.invokevirtual 25, 3) := by decide +kernel
theorem dX2_push_38 : decode cX2_push 38 = .ok (.astore_n 2, 1) := by decide +kernel
theorem dX2_push_39 : decode cX2_push 39 = .ok (.aload_n 2, 1) := by decide +kernel
theorem dX2_push_40 : decode cX2_push 40 = .ok (.ifnull 18, 3) := by decide +kernel
theorem dX2_push_43 : decode cX2_push 43 = .ok (.aload_n 2, 1) := by decide +kernel
theorem dX2_push_44 : decode cX2_push 44 = .ok (.aload_n 1, 1) := by decide +kernel
theorem dX2_push_45 : decode cX2_push 45 = .ok (.invokevirtual 29, 3) := by decide +kernel
theorem dX2_push_48 : decode cX2_push 48 = .ok (.aload_n 0, 1) := by decide +kernel
theorem dX2_push_49 : decode cX2_push 49 = .ok (.dup, 1) := by decide +kernel
theorem dX2_push_50 : decode cX2_push 50 = .ok (.getfield 21, 3) := by decide +kernel
theorem dX2_push_53 : decode cX2_push 53 = .ok (.iconst 1, 1) := by decide +kernel
theorem dX2_push_54 : decode cX2_push 54 = .ok (.iadd, 1) := by decide +kernel
theorem dX2_push_55 : decode cX2_push 55 = .ok (.putfield 21, 3) := by decide +kernel
theorem dX2_push_58 : decode cX2_push 58 = .ok (.return_, 1) := by decide +kernel
theorem dX2_latest_0 : decode cX2_latest 0 = .ok (.aload_n 0, 1) := by decide +kernel
theorem dX2_latest_1 : decode cX2_latest 1 = .ok (.getfield 21, 3) := by decide +kernel
theorem dX2_latest_4 : decode cX2_latest 4 = .ok (.ifCond .le 16, 3) := by decide +kernel
theorem dX2_latest_7 : decode cX2_latest 7 = .ok (.aload_n 0, 1) := by decide +kernel
theorem dX2_latest_8 : decode cX2_latest 8 = .ok (.aload_n 0, 1) := by decide +kernel
theorem dX2_latest_9 : decode cX2_latest 9 = .ok (.getfield 21, 3) := by decide +kernel
theorem dX2_latest_12 : decode cX2_latest 12 = .ok (.iconst 1, 1) := by decide +kernel
theorem dX2_latest_13 : decode cX2_latest 13 = .ok (.isub, 1) := by decide +kernel
theorem dX2_latest_14 : decode cX2_latest 14 = .ok (.invokevirtual 25, 3) := by decide +kernel
theorem dX2_latest_17 : decode cX2_latest 17 = .ok (.goto 4, 3) := by decide +kernel
theorem dX2_latest_20 : decode cX2_latest 20 = .ok (.aconst_null, 1) := by decide +kernel
theorem dX2_latest_21 : decode cX2_latest 21 = .ok (.areturn, 1) := by decide +kernel
theorem dX2_stateAt_0 : decode cX2_stateAt 0 = .ok (.aload_n 0, 1) := by decide +kernel
theorem dX2_stateAt_1 : decode cX2_stateAt 1 = .ok (.getfield 17, 3) := by decide +kernel
theorem dX2_stateAt_4 : decode cX2_stateAt 4 = .ok (.iload_n 1, 1) := by decide +kernel
theorem dX2_stateAt_5 : decode cX2_stateAt 5 = .ok (.iadd, 1) := by decide +kernel
theorem dX2_stateAt_6 : decode cX2_stateAt 6 = .ok (.iconst 4, 1) := by decide +kernel
theorem dX2_stateAt_7 : decode cX2_stateAt 7 = .ok (.irem, 1) := by decide +kernel
theorem dX2_stateAt_8 : decode cX2_stateAt 8 = .ok (.istore_n 2, 1) := by decide +kernel
theorem dX2_stateAt_9 : decode cX2_stateAt 9 = .ok (.iload_n 2, 1) := by decide +kernel
theorem dX2_stateAt_10 : decode cX2_stateAt 10 = .ok (.ifCond .lt 21, 3) := by decide +kernel
theorem dX2_stateAt_13 : decode cX2_stateAt 13 = .ok (.iload_n 2, 1) := by decide +kernel
theorem dX2_stateAt_14 : decode cX2_stateAt 14 = .ok (.aload_n 0, 1) := by decide +kernel
theorem dX2_stateAt_15 : decode cX2_stateAt 15 = .ok (.getfield 11, 3) := by decide +kernel
theorem dX2_stateAt_18 : decode cX2_stateAt 18 = .ok (.arraylength, 1) := by decide +kernel
theorem dX2_stateAt_19 : decode cX2_stateAt 19 = .ok (.if_icmp .ge 12, 3) := by decide +kernel
theorem dX2_stateAt_22 : decode cX2_stateAt 22 = .ok (.aload_n 0, 1) := by decide +kernel
theorem dX2_stateAt_23 : decode cX2_stateAt 23 = .ok (.getfield 11, 3) := by decide +kernel
theorem dX2_stateAt_26 : decode cX2_stateAt 26 = .ok (.iload_n 2, 1) := by decide +kernel
theorem dX2_stateAt_27 : decode cX2_stateAt 27 = .ok (.aaload, 1) := by decide +kernel
theorem dX2_stateAt_28 : decode cX2_stateAt 28 = .ok (.goto 4, 3) := by decide +kernel
theorem dX2_stateAt_31 : decode cX2_stateAt 31 = .ok (.aconst_null, 1) := by decide +kernel
theorem dX2_stateAt_32 : decode cX2_stateAt 32 = .ok (.areturn, 1) := by decide +kernel
theorem dX3_init_0 : decode cX3_init 0 = .ok (.aload_n 0, 1) := by decide +kernel
theorem dX3_init_1 : decode cX3_init 1 = .ok (.invokespecial 3, 3) := by decide +kernel
theorem dX3_init_4 : decode cX3_init 4 = .ok (.aload_n 0, 1) := by decide +kernel
theorem dX3_init_5 : decode cX3_init 5 = .ok (.iconst 0, 1) := by decide +kernel
theorem dX3_init_6 : decode cX3_init 6 = .ok (.putfield 9, 3) := by decide +kernel
theorem dX3_init_9 : decode cX3_init 9 = .ok (.aload_n 0, 1) := by decide +kernel
theorem dX3_init_10 : decode cX3_init 10 = .ok (.iconst 0, 1) := by decide +kernel
theorem dX3_init_11 : decode cX3_init 11 = .ok (.putfield 15, 3) := by decide +kernel
theorem dX3_init_14 : decode cX3_init 14 = .ok (.aload_n 0, 1) := by decide +kernel
theorem dX3_init_15 : decode cX3_init 15 = .ok (.iconst 0, 1) := by decide +kernel
theorem dX3_init_16 : decode cX3_init 16 = .ok (.putfield 18, 3) := by decide +kernel
theorem dX3_init_19 : decode cX3_init 19 = .ok (.aload_n 0, 1) := by decide +kernel
theorem dX3_init_20 : decode cX3_init 20 = .ok (.iconst 0, 1) := by decide +kernel
theorem dX3_init_21 : decode cX3_init 21 = .ok (.putfield 21, 3) := by decide +kernel
theorem dX3_init_24 : decode cX3_init 24 = .ok (.aload_n 0, 1) := by decide +kernel
theorem dX3_init_25 : decode cX3_init 25 = .ok (.iconst 0, 1) := by decide +kernel
theorem dX3_init_26 : decode cX3_init 26 = .ok (.putfield 24, 3) := by decide +kernel
theorem dX3_init_29 : decode cX3_init 29 = .ok (.aload_n 0, 1) := by decide +kernel
theorem dX3_init_30 : decode cX3_init 30 = .ok (.iconst 0, 1) := by decide +kernel
theorem dX3_init_31 : decode cX3_init 31 = .ok (.putfield 27, 3) := by decide +kernel
theorem dX3_init_34 : decode cX3_init 34 = .ok (.aload_n 0, 1) := by decide +kernel
theorem dX3_init_35 : decode cX3_init 35 = .ok (.iconst 0, 1) := by decide +kernel
theorem dX3_init_36 : decode cX3_init 36 = .ok (.putfield 30, 3) := by decide +kernel
theorem dX3_init_39 : decode cX3_init 39 = .ok (.aload_n 0, 1) := by decide +kernel
theorem dX3_init_40 : decode cX3_init 40 = .ok (.iconst 0, 1) := by decide +kernel
theorem dX3_init_41 : decode cX3_init 41 = .ok (.putfield 33, 3) := by decide +kernel
theorem dX3_init_44 : decode cX3_init 44 = .ok (.aload_n 0, 1) := by decide +kernel
theorem dX3_init_45 : decode cX3_init 45 = .ok (.iconst 0, 1) := by decide +kernel
theorem dX3_init_46 : decode cX3_init 46 = .ok (.putfield 36, 3) := by decide +kernel
theorem dX3_init_49 : decode cX3_init 49 = .ok (.aload_n 0, 1) := by decide +kernel
theorem dX3_init_50 : decode cX3_init 50 = .ok (.iconst 0, 1) := by decide +kernel
theorem dX3_init_51 : decode cX3_init 51 = .ok (.putfield 39, 3) := by decide +kernel
theorem dX3_init_54 : decode cX3_init 54 = .ok (.aload_n 0, 1) := by decide +kernel
theorem dX3_init_55 : decode cX3_init 55 = .ok (.iconst 0, 1) := by decide +kernel
theorem dX3_init_56 : decode cX3_init 56 = .ok (.putfield 42, 3) := by decide +kernel
theorem dX3_init_59 : decode cX3_init 59 = .ok (.return_, 1) := by decide +kernel
theorem dX3_start_0 : decode cX3_start 0 = .ok (.aload_n 0, 1) := by decide +kernel
theorem dX3_start_1 : decode cX3_start 1 = .ok (.iload_n 1, 1) := by decide +kernel
theorem dX3_start_2 : decode cX3_start 2 = .ok (.putfield 9, 3) := by decide +kernel
theorem dX3_start_5 : decode cX3_start 5 = .ok (.aload_n 0, 1) := by decide +kernel
theorem dX3_start_6 : decode cX3_start 6 = .ok (.iload_n 2, 1) := by decide +kernel
theorem dX3_start_7 : decode cX3_start 7 = .ok (.putfield 15, 3) := by decide +kernel
theorem dX3_start_10 : decode cX3_start 10 = .ok (.aload_n 0, 1) := by decide +kernel
theorem dX3_start_11 : decode cX3_start 11 = .ok (.iload_n 3, 1) := by decide +kernel
theorem dX3_start_12 : decode cX3_start 12 = .ok (.putfield 18, 3) := by decide +kernel
theorem dX3_start_15 : decode cX3_start 15 = .ok (.aload_n 0, 1) := by decide +kernel
theorem dX3_start_16 : decode cX3_start 16 = .ok (.iload 4, 2) := by decide +kernel
theorem dX3_start_18 : decode cX3_start 18 = .ok (.putfield 21, 3) := by decide +kernel
theorem dX3_start_21 : decode cX3_start 21 = .ok (.aload_n 0, 1) := by decide +kernel
theorem dX3_start_22 : decode cX3_start 22 = .ok (.iload 5, 2) := by decide +kernel
theorem dX3_start_24 : decode cX3_start 24 = .ok (.putfield 24, 3) := by decide +kernel
theorem dX3_start_27 : decode cX3_start 27 = .ok (.aload_n 0, 1) := by decide +kernel
theorem dX3_start_28 : decode cX3_start 28 = .ok (.iconst 0, 1) := by decide +kernel
theorem dX3_start_29 : decode cX3_start 29 = .ok (.putfield 27, 3) := by decide +kernel
theorem dX3_start_32 : decode cX3_start 32 = .ok (.aload_n 0, 1) := by decide +kernel
theorem dX3_start_33 : decode cX3_start 33 = .ok (.iconst 0, 1) := by decide +kernel
theorem dX3_start_34 : decode cX3_start 34 = .ok (.putfield 30, 3) := by decide +kernel
theorem dX3_start_37 : decode cX3_start 37 = .ok (.aload_n 0, 1) := by decide +kernel
theorem dX3_start_38 : decode cX3_start 38 = .ok (.iconst 0, 1) := by decide +kernel
theorem dX3_start_39 : decode cX3_start 39 = .ok (.putfield 33, 3) := by decide +kernel
theorem dX3_start_42 : decode cX3_start 42 = .ok (.aload_n 0, 1) := by decide +kernel
theorem dX3_start_43 : decode cX3_start 43 = .ok (.iconst 0, 1) := by decide +kernel
theorem dX3_start_44 : decode cX3_start 44 = .ok (.putfield 36, 3) := by decide +kernel
theorem dX3_start_47 : decode cX3_start 47 = .ok (.aload_n 0, 1) := by decide +kernel
theorem dX3_start_48 : decode cX3_start 48 = .ok (.iconst 0, 1) := by decide +kernel
theorem dX3_start_49 : decode cX3_start 49 = .ok (.putfield 39, 3) := by decide +kernel
theorem dX3_start_52 : decode cX3_start 52 = .ok (.aload_n 0, 1) := by decide +kernel
theorem dX3_start_53 : decode cX3_start 53 = .ok (.iconst 0, 1) := by decide +kernel
theorem dX3_start_54 : decode cX3_start 54 = .ok (.putfield 42, 3) := by decide +kernel
theorem dX3_start_57 : decode cX3_start 57 = .ok (.return_, 1) := by decide +kernel
theorem dX3_copyFrom_0 : decode cX3_copyFrom 0 = .ok (.aload_n 0, 1) := by decide +kernel
theorem dX3_copyFrom_1 : decode cX3_copyFrom 1 = .ok (.aload_n 1, 1) := by decide +kernel
theorem dX3_copyFrom_2 : decode cX3_copyFrom 2 = .ok (.getfield 9, 3) := by decide +kernel
theorem dX3_copyFrom_5 : decode cX3_copyFrom 5 = .ok (.putfield 9, 3) := by decide +kernel
theorem dX3_copyFrom_8 : decode cX3_copyFrom 8 = .ok (.aload_n 0, 1) := by decide +kernel
theorem dX3_copyFrom_9 : decode cX3_copyFrom 9 = .ok (.aload_n 1, 1) := by decide +kernel
theorem dX3_copyFrom_10 : decode cX3_copyFrom 10 = .ok (.getfield 15, 3) := by decide +kernel
theorem dX3_copyFrom_13 : decode cX3_copyFrom 13 = .ok (.putfield 15, 3) := by decide +kernel
theorem dX3_copyFrom_16 : decode cX3_copyFrom 16 = .ok (.aload_n 0, 1) := by decide +kernel
theorem dX3_copyFrom_17 : decode cX3_copyFrom 17 = .ok (.aload_n 1, 1) := by decide +kernel
theorem dX3_copyFrom_18 : decode cX3_copyFrom 18 = .ok (.getfield 18, 3) := by decide +kernel
theorem dX3_copyFrom_21 : decode cX3_copyFrom 21 = .ok (.putfield 18, 3) := by decide +kernel
theorem dX3_copyFrom_24 : decode cX3_copyFrom 24 = .ok (.aload_n 0, 1) := by decide +kernel
theorem dX3_copyFrom_25 : decode cX3_copyFrom 25 = .ok (.aload_n 1, 1) := by decide +kernel
theorem dX3_copyFrom_26 : decode cX3_copyFrom 26 = .ok (.getfield 21, 3) := by decide +kernel
theorem dX3_copyFrom_29 : decode cX3_copyFrom 29 = .ok (.putfield 21, 3) := by decide +kernel
theorem dX3_copyFrom_32 : decode cX3_copyFrom 32 = .ok (.aload_n 0, 1) := by decide +kernel
theorem dX3_copyFrom_33 : decode cX3_copyFrom 33 = .ok (.aload_n 1, 1) := by decide +kernel
theorem dX3_copyFrom_34 : decode cX3_copyFrom 34 = .ok (.getfield 24, 3) := by decide +kernel
theorem dX3_copyFrom_37 : decode cX3_copyFrom 37 = .ok (.putfield 24, 3) := by decide +kernel
theorem dX3_copyFrom_40 : decode cX3_copyFrom 40 = .ok (.aload_n 0, 1) := by decide +kernel
theorem dX3_copyFrom_41 : decode cX3_copyFrom 41 = .ok (.aload_n 1, 1) := by decide +kernel
theorem dX3_copyFrom_42 : decode cX3_copyFrom 42 = .ok (.getfield 27, 3) := by decide +kernel
theorem dX3_copyFrom_45 : decode cX3_copyFrom 45 = .ok (.putfield 27, 3) := by decide +kernel
theorem dX3_copyFrom_48 : decode cX3_copyFrom 48 = .ok (.aload_n 0, 1) := by decide +kernel
theorem dX3_copyFrom_49 : decode cX3_copyFrom 49 = .ok (.aload_n 1, 1) := by decide +kernel
theorem dX3_copyFrom_50 : decode cX3_copyFrom 50 = .ok (.getfield 30, 3) := by decide +kernel
theorem dX3_copyFrom_53 : decode cX3_copyFrom 53 = .ok (.putfield 30, 3) := by decide +kernel
theorem dX3_copyFrom_56 : decode cX3_copyFrom 56 = .ok (.aload_n 0, 1) := by decide +kernel
theorem dX3_copyFrom_57 : decode cX3_copyFrom 57 = .ok (.aload_n 1, 1) := by decide +kernel
theorem dX3_copyFrom_58 : decode cX3_copyFrom 58 = .ok (.getfield 33, 3) := by decide +kernel
theorem dX3_copyFrom_61 : decode cX3_copyFrom 61 = .ok (.putfield 33, 3) := by decide +kernel
theorem dX3_copyFrom_64 : decode cX3_copyFrom 64 = .ok (.aload_n 0, 1) := by decide +kernel
theorem dX3_copyFrom_65 : decode cX3_copyFrom 65 = .ok (.aload_n 1, 1) := by decide +kernel
theorem dX3_copyFrom_66 : decode cX3_copyFrom 66 = .ok (.getfield 36, 3) := by decide +kernel
theorem dX3_copyFrom_69 : decode cX3_copyFrom 69 = .ok (.putfield 36, 3) := by decide +kernel
theorem dX3_copyFrom_72 : decode cX3_copyFrom 72 = .ok (.aload_n 0, 1) := by decide +kernel
theorem dX3_copyFrom_73 : decode cX3_copyFrom 73 = .ok (.aload_n 1, 1) := by decide +kernel
theorem dX3_copyFrom_74 : decode cX3_copyFrom 74 = .ok (.getfield 39, 3) := by decide +kernel
theorem dX3_copyFrom_77 : decode cX3_copyFrom 77 = .ok (.putfield 39, 3) := by decide +kernel
theorem dX3_copyFrom_80 : decode cX3_copyFrom 80 = .ok (.aload_n 0, 1) := by decide +kernel
theorem dX3_copyFrom_81 : decode cX3_copyFrom 81 = .ok (.aload_n 1, 1) := by decide +kernel
theorem dX3_copyFrom_82 : decode cX3_copyFrom 82 = .ok (.getfield 42, 3) := by decide +kernel
theorem dX3_copyFrom_85 : decode cX3_copyFrom 85 = .ok (.putfield 42, 3) := by decide +kernel
theorem dX3_copyFrom_88 : decode cX3_copyFrom 88 = .ok (.return_, 1) := by decide +kernel
theorem dX3_ageAfter_0 : decode cX3_ageAfter 0 = .ok (.aload_n 0, 1) := by decide +kernel
theorem dX3_ageAfter_1 : decode cX3_ageAfter 1 = .ok (.getfield 21, 3) := by decide +kernel
theorem dX3_ageAfter_4 : decode cX3_ageAfter 4 = .ok (.iload_n 1, 1) := by decide +kernel
theorem dX3_ageAfter_5 : decode cX3_ageAfter 5 = .ok (.iadd, 1) := by decide +kernel
theorem dX3_ageAfter_6 : decode cX3_ageAfter 6 = .ok (.ireturn, 1) := by decide +kernel
theorem dX3_fairAfter_0 : decode cX3_fairAfter 0 = .ok (.aload_n 0, 1) := by decide +kernel
theorem dX3_fairAfter_1 : decode cX3_fairAfter 1 = .ok (.getfield 18, 3) := by decide +kernel
theorem dX3_fairAfter_4 : decode cX3_fairAfter 4 = .ok (.ifCond .gt 5, 3) := by decide +kernel
theorem dX3_fairAfter_7 : decode cX3_fairAfter 7 = .ok (.iconst 0, 1) := by decide +kernel
theorem dX3_fairAfter_8 : decode cX3_fairAfter 8 = .ok (.ireturn, 1) := by decide +kernel
theorem dX3_fairAfter_9 : decode cX3_fairAfter 9 = .ok (.aload_n 0, 1) := by decide +kernel
theorem dX3_fairAfter_10 : decode cX3_fairAfter 10 = .ok (.getfield 24, 3) := by decide +kernel
theorem dX3_fairAfter_13 : decode cX3_fairAfter 13 = .ok (.bipush 100, 2) := by decide +kernel
theorem dX3_fairAfter_15 : decode cX3_fairAfter 15 = .ok (.iload_n 1, 1) := by decide +kernel
theorem dX3_fairAfter_16 : decode cX3_fairAfter 16 = .ok (.imul, 1) := by decide +kernel
theorem dX3_fairAfter_17 : decode cX3_fairAfter 17 = .ok (.aload_n 0, 1) := by decide +kernel
theorem dX3_fairAfter_18 : decode cX3_fairAfter 18 = .ok (.getfield 18, 3) := by decide +kernel
theorem dX3_fairAfter_21 : decode cX3_fairAfter 21 = .ok (.idiv, 1) := by decide +kernel
theorem dX3_fairAfter_22 : decode cX3_fairAfter 22 = .ok (.isub, 1) := by decide +kernel
theorem dX3_fairAfter_23 : decode cX3_fairAfter 23 = .ok (.iconst 0, 1) := by decide +kernel
theorem dX3_fairAfter_24 : decode cX3_fairAfter 24 = .ok (.invokestatic 45, 3) := by decide +kernel
theorem dX3_fairAfter_27 : decode cX3_fairAfter 27 = .ok (.ireturn, 1) := by decide +kernel
theorem dX3_restAfter_0 : decode cX3_restAfter 0 = .ok (.aload_n 0, 1) := by decide +kernel
theorem dX3_restAfter_1 : decode cX3_restAfter 1 = .ok (.getfield 18, 3) := by decide +kernel
theorem dX3_restAfter_4 : decode cX3_restAfter 4 = .ok (.ifCond .gt 5, 3) := by decide +kernel
theorem dX3_restAfter_7 : decode cX3_restAfter 7 = .ok (.fconst 0, 1) := by decide +kernel
theorem dX3_restAfter_8 : decode cX3_restAfter 8 = .ok (.freturn, 1) := by decide +kernel
theorem dX3_restAfter_9 : decode cX3_restAfter 9 = .ok (.fconst 1, 1) := by decide +kernel
theorem dX3_restAfter_10 : decode cX3_restAfter 10 = .ok (.aload_n 0, 1) := by decide +kernel
theorem dX3_restAfter_11 : decode cX3_restAfter 11 = .ok (.iload_n 1, 1) := by decide +kernel
theorem dX3_restAfter_12 : decode cX3_restAfter 12 = .ok (.invokevirtual 51, 3) := by decide +kernel
theorem dX3_restAfter_15 : decode cX3_restAfter 15 = .ok (.i2f, 1) := by decide +kernel
theorem dX3_restAfter_16 : decode cX3_restAfter 16 = .ok (.aload_n 0, 1) := by decide +kernel
theorem dX3_restAfter_17 : decode cX3_restAfter 17 = .ok (.getfield 18, 3) := by decide +kernel
theorem dX3_restAfter_20 : decode cX3_restAfter 20 = .ok (.i2f, 1) := by decide +kernel
theorem dX3_restAfter_21 : decode cX3_restAfter 21 = .ok (.fdiv, 1) := by decide +kernel
theorem dX3_restAfter_22 : decode cX3_restAfter 22 = .ok (.fsub, 1) := by decide +kernel
theorem dX3_restAfter_23 : decode cX3_restAfter 23 = .ok (.fstore_n 2, 1) := by decide +kernel
theorem dX3_restAfter_24 : decode cX3_restAfter 24 = .ok (.fload_n 2, 1) := by decide +kernel
theorem dX3_restAfter_25 : decode cX3_restAfter 25 = .ok (.fconst 0, 1) := by decide +kernel
theorem dX3_restAfter_26 : decode cX3_restAfter 26 = .ok (.fcmp .g, 1) := by decide +kernel
theorem dX3_restAfter_27 : decode cX3_restAfter 27 = .ok (.ifCond .ge 7, 3) := by decide +kernel
theorem dX3_restAfter_30 : decode cX3_restAfter 30 = .ok (.fconst 0, 1) := by decide +kernel
theorem dX3_restAfter_31 : decode cX3_restAfter 31 = .ok (.goto 4, 3) := by decide +kernel
theorem dX3_restAfter_34 : decode cX3_restAfter 34 = .ok (.fload_n 2, 1) := by decide +kernel
theorem dX3_restAfter_35 : decode cX3_restAfter 35 = .ok (.freturn, 1) := by decide +kernel
theorem dX3_damageAfter_0 : decode cX3_damageAfter 0 = .ok (.aload_n 0, 1) := by decide +kernel
theorem dX3_damageAfter_1 : decode cX3_damageAfter 1 = .ok (.iload_n 1, 1) := by decide +kernel
theorem dX3_damageAfter_2 : decode cX3_damageAfter 2 = .ok (.invokevirtual 55, 3) := by decide +kernel
theorem dX3_damageAfter_5 : decode cX3_damageAfter 5 = .ok (.iload_n 2, 1) := by decide +kernel
theorem dX3_damageAfter_6 : decode cX3_damageAfter 6 = .ok (.isub, 1) := by decide +kernel
theorem dX3_damageAfter_7 : decode cX3_damageAfter 7 = .ok (.iconst 0, 1) := by decide +kernel
theorem dX3_damageAfter_8 : decode cX3_damageAfter 8 = .ok (.invokestatic 45, 3) := by decide +kernel
theorem dX3_damageAfter_11 : decode cX3_damageAfter 11 = .ok (.ireturn, 1) := by decide +kernel
theorem dX3_dueAfter_0 : decode cX3_dueAfter 0 = .ok (.aload_n 0, 1) := by decide +kernel
theorem dX3_dueAfter_1 : decode cX3_dueAfter 1 = .ok (.iload_n 1, 1) := by decide +kernel
theorem dX3_dueAfter_2 : decode cX3_dueAfter 2 = .ok (.iload_n 2, 1) := by decide +kernel
theorem dX3_dueAfter_3 : decode cX3_dueAfter 3 = .ok (.invokevirtual 58, 3) := by decide +kernel
theorem dX3_dueAfter_6 : decode cX3_dueAfter 6 = .ok (.i2f, 1) := by decide +kernel
theorem dX3_dueAfter_7 : decode cX3_dueAfter 7 = .ok (.ldc 61, 2) := by decide +kernel
theorem dX3_dueAfter_9 : decode cX3_dueAfter 9 = .ok (.fdiv, 1) := by decide +kernel
theorem dX3_dueAfter_10 : decode cX3_dueAfter 10 = .ok (.fstore_n 3, 1) := by decide +kernel
theorem dX3_dueAfter_11 : decode cX3_dueAfter 11 = .ok (.aload_n 0, 1) := by decide +kernel
theorem dX3_dueAfter_12 : decode cX3_dueAfter 12 = .ok (.getfield 15, 3) := by decide +kernel
theorem dX3_dueAfter_15 : decode cX3_dueAfter 15 = .ok (.i2f, 1) := by decide +kernel
theorem dX3_dueAfter_16 : decode cX3_dueAfter 16 = .ok (.aload_n 0, 1) := by decide +kernel
theorem dX3_dueAfter_17 : decode cX3_dueAfter 17 = .ok (.iload_n 1, 1) := by decide +kernel
theorem dX3_dueAfter_18 : decode cX3_dueAfter 18 = .ok (.invokevirtual 62, 3) := by decide +kernel
theorem dX3_dueAfter_21 : decode cX3_dueAfter 21 = .ok (.fmul, 1) := by decide +kernel
theorem dX3_dueAfter_22 : decode cX3_dueAfter 22 = .ok (.fload_n 3, 1) := by decide +kernel
theorem dX3_dueAfter_23 : decode cX3_dueAfter 23 = .ok (.fmul, 1) := by decide +kernel
theorem dX3_dueAfter_24 : decode cX3_dueAfter 24 = .ok (.f2i, 1) := by decide +kernel
theorem dX3_dueAfter_25 : decode cX3_dueAfter 25 = .ok (.ireturn, 1) := by decide +kernel
theorem dX3_tellEnd_0 : decode cX3_tellEnd 0 = .ok (.aload_n 0, 1) := by decide +kernel
theorem dX3_tellEnd_1 : decode cX3_tellEnd 1 = .ok (.iload_n 2, 1) := by decide +kernel
theorem dX3_tellEnd_2 : decode cX3_tellEnd 2 = .ok (.putfield 27, 3) := by decide +kernel
theorem dX3_tellEnd_5 : decode cX3_tellEnd 5 = .ok (.aload_n 0, 1) := by decide +kernel
theorem dX3_tellEnd_6 : decode cX3_tellEnd 6 = .ok (.aload_n 0, 1) := by decide +kernel
theorem dX3_tellEnd_7 : decode cX3_tellEnd 7 = .ok (.iload_n 1, 1) := by decide +kernel
theorem dX3_tellEnd_8 : decode cX3_tellEnd 8 = .ok (.iload_n 2, 1) := by decide +kernel
theorem dX3_tellEnd_9 : decode cX3_tellEnd 9 = .ok (.invokevirtual 66, 3) := by decide +kernel
theorem dX3_tellEnd_12 : decode cX3_tellEnd 12 = .ok (.putfield 30, 3) := by decide +kernel
theorem dX3_tellEnd_15 : decode cX3_tellEnd 15 = .ok (.return_, 1) := by decide +kernel
theorem dX3_award_0 : decode cX3_award 0 = .ok (.aload_n 0, 1) := by decide +kernel
theorem dX3_award_1 : decode cX3_award 1 = .ok (.getfield 36, 3) := by decide +kernel
theorem dX3_award_4 : decode cX3_award 4 = .ok (.iconst 2, 1) := by decide +kernel
theorem dX3_award_5 : decode cX3_award 5 = .ok (.if_icmp .ne 14, 3) := by decide +kernel
theorem dX3_award_8 : decode cX3_award 8 = .ok (.aload_n 0, 1) := by decide +kernel
theorem dX3_award_9 : decode cX3_award 9 = .ok (.getfield 33, 3) := by decide +kernel
theorem dX3_award_12 : decode cX3_award 12 = .ok (.aload_n 0, 1) := by decide +kernel
theorem dX3_award_13 : decode cX3_award 13 = .ok (.getfield 30, 3) := by decide +kernel
theorem dX3_award_16 : decode cX3_award 16 = .ok (.if_icmp .gt 8, 3) := by decide +kernel
theorem dX3_award_19 : decode cX3_award 19 = .ok (.aload_n 0, 1) := by decide +kernel
theorem dX3_award_20 : decode cX3_award 20 = .ok (.getfield 33, 3) := by decide +kernel
theorem dX3_award_23 : decode cX3_award 23 = .ok (.ireturn, 1) := by decide +kernel
theorem dX3_award_24 : decode cX3_award 24 = .ok (.aload_n 0, 1) := by decide +kernel
theorem dX3_award_25 : decode cX3_award 25 = .ok (.getfield 30, 3) := by decide +kernel
theorem dX3_award_28 : decode cX3_award 28 = .ok (.aload_n 0, 1) := by decide +kernel
theorem dX3_award_29 : decode cX3_award 29 = .ok (.getfield 33, 3) := by decide +kernel
theorem dX3_award_32 : decode cX3_award 32 = .ok (.aload_n 0, 1) := by decide +kernel
theorem dX3_award_33 : decode cX3_award 33 = .ok (.getfield 30, 3) := by decide +kernel
theorem dX3_award_36 : decode cX3_award 36 = .ok (.isub, 1) := by decide +kernel
theorem dX3_award_37 : decode cX3_award 37 = .ok (.i2f, 1) := by decide +kernel
theorem dX3_award_38 : decode cX3_award 38 = .ok (.aload_n 0, 1) := by decide +kernel
theorem dX3_award_39 : decode cX3_award 39 = .ok (.invokevirtual 69, 3) := by decide +kernel
theorem dX3_award_42 : decode cX3_award 42 = .ok (.fmul, 1) := by decide +kernel
theorem dX3_award_43 : decode cX3_award 43 = .ok (.f2i, 1) := by decide +kernel
theorem dX3_award_44 : decode cX3_award 44 = .ok (.iadd, 1) := by decide +kernel
theorem dX3_award_45 : decode cX3_award 45 = .ok (.ireturn, 1) := by decide +kernel
theorem dX3_landlordWeight_0 : decode cX3_landlordWeight 0 = .ok (.aload_n 0, 1) := by decide +kernel
theorem dX3_landlordWeight_1 : decode cX3_landlordWeight 1 = .ok (.getfield 39, 3) := by decide +kernel
theorem dX3_landlordWeight_4 : decode cX3_landlordWeight 4 = .ok (.aload_n 0, 1) := by decide +kernel
theorem dX3_landlordWeight_5 : decode cX3_landlordWeight 5 = .ok (.getfield 42, 3) := by decide +kernel
theorem dX3_landlordWeight_8 : decode cX3_landlordWeight 8 = .ok (.iadd, 1) := by decide +kernel
theorem dX3_landlordWeight_9 : decode cX3_landlordWeight 9 = .ok (.istore_n 1, 1) := by decide +kernel
theorem dX3_landlordWeight_10 : decode cX3_landlordWeight 10 = .ok (.iload_n 1, 1) := by decide +kernel
theorem dX3_landlordWeight_11 : decode cX3_landlordWeight 11 = .ok (.ifCond .le 14, 3) := by decide +kernel
theorem dX3_landlordWeight_14 : decode cX3_landlordWeight 14 = .ok (.aload_n 0, 1) := by decide +kernel
theorem dX3_landlordWeight_15 : decode cX3_landlordWeight 15 = .ok (.getfield 39, 3) := by decide +kernel
theorem dX3_landlordWeight_18 : decode cX3_landlordWeight 18 = .ok (.i2f, 1) := by decide +kernel
theorem dX3_landlordWeight_19 : decode cX3_landlordWeight 19 = .ok (.iload_n 1, 1) := by decide +kernel
theorem dX3_landlordWeight_20 : decode cX3_landlordWeight 20 = .ok (.i2f, 1) := by decide +kernel
theorem dX3_landlordWeight_21 : decode cX3_landlordWeight 21 = .ok (.fdiv, 1) := by decide +kernel
theorem dX3_landlordWeight_22 : decode cX3_landlordWeight 22 = .ok (.goto 5, 3) := by decide +kernel
theorem dX3_landlordWeight_25 : decode cX3_landlordWeight 25 = .ok (.ldc 73, 2) := by decide +kernel
theorem dX3_landlordWeight_27 : decode cX3_landlordWeight 27 = .ok (.freturn, 1) := by decide +kernel
theorem dX4_init_0 : decode cX4_init 0 = .ok (.aload_n 0, 1) := by decide +kernel
theorem dX4_init_1 : decode cX4_init 1 = .ok (.invokespecial 1, 3) := by decide +kernel
theorem dX4_init_4 : decode cX4_init 4 = .ok (.aload_n 0, 1) := by decide +kernel
theorem dX4_init_5 : decode cX4_init 5 = .ok (.iconst 0, 1) := by decide +kernel
theorem dX4_init_6 : decode cX4_init 6 = .ok (.putfield 7, 3) := by decide +kernel
theorem dX4_init_9 : decode cX4_init 9 = .ok (.aload_n 0, 1) := by decide +kernel
theorem dX4_init_10 : decode cX4_init 10 = .ok (.iconst 0, 1) := by decide +kernel
theorem dX4_init_11 : decode cX4_init 11 = .ok (.putfield 13, 3) := by decide +kernel
theorem dX4_init_14 : decode cX4_init 14 = .ok (.aload_n 0, 1) := by decide +kernel
theorem dX4_init_15 : decode cX4_init 15 = .ok (.iconst 0, 1) := by decide +kernel
theorem dX4_init_16 : decode cX4_init 16 = .ok (.putfield 16, 3) := by decide +kernel
theorem dX4_init_19 : decode cX4_init 19 = .ok (.aload_n 0, 1) := by decide +kernel
theorem dX4_init_20 : decode cX4_init 20 = .ok (.iconst 0, 1) := by decide +kernel
theorem dX4_init_21 : decode cX4_init 21 = .ok (.putfield 19, 3) := by decide +kernel
theorem dX4_init_24 : decode cX4_init 24 = .ok (.aload_n 0, 1) := by decide +kernel
theorem dX4_init_25 : decode cX4_init 25 = .ok (.iconst 0, 1) := by decide +kernel
theorem dX4_init_26 : decode cX4_init 26 = .ok (.putfield 22, 3) := by decide +kernel
theorem dX4_init_29 : decode cX4_init 29 = .ok (.aload_n 0, 1) := by decide +kernel
theorem dX4_init_30 : decode cX4_init 30 = .ok (.iconst 0, 1) := by decide +kernel
theorem dX4_init_31 : decode cX4_init 31 = .ok (.putfield 25, 3) := by decide +kernel
theorem dX4_init_34 : decode cX4_init 34 = .ok (.return_, 1) := by decide +kernel
theorem dX4_start_0 : decode cX4_start 0 = .ok (.aload_n 0, 1) := by decide +kernel
theorem dX4_start_1 : decode cX4_start 1 = .ok (.iload_n 1, 1) := by decide +kernel
theorem dX4_start_2 : decode cX4_start 2 = .ok (.putfield 7, 3) := by decide +kernel
theorem dX4_start_5 : decode cX4_start 5 = .ok (.aload_n 0, 1) := by decide +kernel
theorem dX4_start_6 : decode cX4_start 6 = .ok (.iload_n 1, 1) := by decide +kernel
theorem dX4_start_7 : decode cX4_start 7 = .ok (.putfield 13, 3) := by decide +kernel
theorem dX4_start_10 : decode cX4_start 10 = .ok (.aload_n 0, 1) := by decide +kernel
theorem dX4_start_11 : decode cX4_start 11 = .ok (.iconst 0, 1) := by decide +kernel
theorem dX4_start_12 : decode cX4_start 12 = .ok (.putfield 16, 3) := by decide +kernel
theorem dX4_start_15 : decode cX4_start 15 = .ok (.aload_n 0, 1) := by decide +kernel
theorem dX4_start_16 : decode cX4_start 16 = .ok (.iconst 0, 1) := by decide +kernel
theorem dX4_start_17 : decode cX4_start 17 = .ok (.putfield 19, 3) := by decide +kernel
theorem dX4_start_20 : decode cX4_start 20 = .ok (.aload_n 0, 1) := by decide +kernel
theorem dX4_start_21 : decode cX4_start 21 = .ok (.iconst 0, 1) := by decide +kernel
theorem dX4_start_22 : decode cX4_start 22 = .ok (.putfield 22, 3) := by decide +kernel
theorem dX4_start_25 : decode cX4_start 25 = .ok (.aload_n 0, 1) := by decide +kernel
theorem dX4_start_26 : decode cX4_start 26 = .ok (.iconst 0, 1) := by decide +kernel
theorem dX4_start_27 : decode cX4_start 27 = .ok (.putfield 25, 3) := by decide +kernel
theorem dX4_start_30 : decode cX4_start 30 = .ok (.return_, 1) := by decide +kernel
theorem dX4_copyFrom_0 : decode cX4_copyFrom 0 = .ok (.aload_n 0, 1) := by decide +kernel
theorem dX4_copyFrom_1 : decode cX4_copyFrom 1 = .ok (.aload_n 1, 1) := by decide +kernel
theorem dX4_copyFrom_2 : decode cX4_copyFrom 2 = .ok (.getfield 7, 3) := by decide +kernel
theorem dX4_copyFrom_5 : decode cX4_copyFrom 5 = .ok (.putfield 7, 3) := by decide +kernel
theorem dX4_copyFrom_8 : decode cX4_copyFrom 8 = .ok (.aload_n 0, 1) := by decide +kernel
theorem dX4_copyFrom_9 : decode cX4_copyFrom 9 = .ok (.aload_n 1, 1) := by decide +kernel
theorem dX4_copyFrom_10 : decode cX4_copyFrom 10 = .ok (.getfield 13, 3) := by decide +kernel
theorem dX4_copyFrom_13 : decode cX4_copyFrom 13 = .ok (.putfield 13, 3) := by decide +kernel
theorem dX4_copyFrom_16 : decode cX4_copyFrom 16 = .ok (.aload_n 0, 1) := by decide +kernel
theorem dX4_copyFrom_17 : decode cX4_copyFrom 17 = .ok (.aload_n 1, 1) := by decide +kernel
theorem dX4_copyFrom_18 : decode cX4_copyFrom 18 = .ok (.getfield 16, 3) := by decide +kernel
theorem dX4_copyFrom_21 : decode cX4_copyFrom 21 = .ok (.putfield 16, 3) := by decide +kernel
theorem dX4_copyFrom_24 : decode cX4_copyFrom 24 = .ok (.aload_n 0, 1) := by decide +kernel
theorem dX4_copyFrom_25 : decode cX4_copyFrom 25 = .ok (.aload_n 1, 1) := by decide +kernel
theorem dX4_copyFrom_26 : decode cX4_copyFrom 26 = .ok (.getfield 19, 3) := by decide +kernel
theorem dX4_copyFrom_29 : decode cX4_copyFrom 29 = .ok (.putfield 19, 3) := by decide +kernel
theorem dX4_copyFrom_32 : decode cX4_copyFrom 32 = .ok (.aload_n 0, 1) := by decide +kernel
theorem dX4_copyFrom_33 : decode cX4_copyFrom 33 = .ok (.aload_n 1, 1) := by decide +kernel
theorem dX4_copyFrom_34 : decode cX4_copyFrom 34 = .ok (.getfield 22, 3) := by decide +kernel
theorem dX4_copyFrom_37 : decode cX4_copyFrom 37 = .ok (.putfield 22, 3) := by decide +kernel
theorem dX4_copyFrom_40 : decode cX4_copyFrom 40 = .ok (.aload_n 0, 1) := by decide +kernel
theorem dX4_copyFrom_41 : decode cX4_copyFrom 41 = .ok (.aload_n 1, 1) := by decide +kernel
theorem dX4_copyFrom_42 : decode cX4_copyFrom 42 = .ok (.getfield 25, 3) := by decide +kernel
theorem dX4_copyFrom_45 : decode cX4_copyFrom 45 = .ok (.putfield 25, 3) := by decide +kernel
theorem dX4_copyFrom_48 : decode cX4_copyFrom 48 = .ok (.return_, 1) := by decide +kernel
theorem dX4_takeFee_0 : decode cX4_takeFee 0 = .ok (.aload_n 0, 1) := by decide +kernel
theorem dX4_takeFee_1 : decode cX4_takeFee 1 = .ok (.iload_n 1, 1) := by decide +kernel
theorem dX4_takeFee_2 : decode cX4_takeFee 2 = .ok (.putfield 22, 3) := by decide +kernel
theorem dX4_takeFee_5 : decode cX4_takeFee 5 = .ok (.aload_n 0, 1) := by decide +kernel
theorem dX4_takeFee_6 : decode cX4_takeFee 6 = .ok (.aload_n 0, 1) := by decide +kernel
theorem dX4_takeFee_7 : decode cX4_takeFee 7 = .ok (.iload_n 2, 1) := by decide +kernel
theorem dX4_takeFee_8 : decode cX4_takeFee 8 = .ok (.invokevirtual 28, 3) := by decide +kernel
theorem dX4_takeFee_11 : decode cX4_takeFee 11 = .ok (.putfield 19, 3) := by decide +kernel
theorem dX4_takeFee_14 : decode cX4_takeFee 14 = .ok (.return_, 1) := by decide +kernel
theorem dX4_payLandlord_0 : decode cX4_payLandlord 0 = .ok (.aload_n 0, 1) := by decide +kernel
theorem dX4_payLandlord_1 : decode cX4_payLandlord 1 = .ok (.dup, 1) := by decide +kernel
theorem dX4_payLandlord_2 : decode cX4_payLandlord 2 = .ok (.getfield 16, 3) := by decide +kernel
theorem dX4_payLandlord_5 : decode cX4_payLandlord 5 = .ok (.aload_n 0, 1) := by decide +kernel
theorem dX4_payLandlord_6 : decode cX4_payLandlord 6 = .ok (.iload_n 1, 1) := by decide +kernel
theorem dX4_payLandlord_7 : decode cX4_payLandlord 7 = .ok (.invokevirtual 28, 3) := by decide +kernel
theorem dX4_payLandlord_10 : decode cX4_payLandlord 10 = .ok (.iadd, 1) := by decide +kernel
theorem dX4_payLandlord_11 : decode cX4_payLandlord 11 = .ok (.putfield 16, 3) := by decide +kernel
theorem dX4_payLandlord_14 : decode cX4_payLandlord 14 = .ok (.return_, 1) := by decide +kernel
theorem dX4_take_0 : decode cX4_take 0 = .ok (.iload_n 1, 1) := by decide +kernel
theorem dX4_take_1 : decode cX4_take 1 = .ok (.aload_n 0, 1) := by decide +kernel
theorem dX4_take_2 : decode cX4_take 2 = .ok (.getfield 13, 3) := by decide +kernel
theorem dX4_take_5 : decode cX4_take 5 = .ok (.invokestatic 32, 3) := by decide +kernel
theorem dX4_take_8 : decode cX4_take 8 = .ok (.istore_n 2, 1) := by decide +kernel
theorem dX4_take_9 : decode cX4_take 9 = .ok (.aload_n 0, 1) := by decide +kernel
theorem dX4_take_10 : decode cX4_take 10 = .ok (.dup, 1) := by decide +kernel
theorem dX4_take_11 : decode cX4_take 11 = .ok (.getfield 13, 3) := by decide +kernel
theorem dX4_take_14 : decode cX4_take 14 = .ok (.iload_n 2, 1) := by decide +kernel
theorem dX4_take_15 : decode cX4_take 15 = .ok (.isub, 1) := by decide +kernel
theorem dX4_take_16 : decode cX4_take 16 = .ok (.putfield 13, 3) := by decide +kernel
theorem dX4_take_19 : decode cX4_take 19 = .ok (.aload_n 0, 1) := by decide +kernel
theorem dX4_take_20 : decode cX4_take 20 = .ok (.dup, 1) := by decide +kernel
theorem dX4_take_21 : decode cX4_take 21 = .ok (.getfield 25, 3) := by decide +kernel
theorem dX4_take_24 : decode cX4_take 24 = .ok (.iload_n 1, 1) := by decide +kernel
theorem dX4_take_25 : decode cX4_take 25 = .ok (.iload_n 2, 1) := by decide +kernel
theorem dX4_take_26 : decode cX4_take 26 = .ok (.isub, 1) := by decide +kernel
theorem dX4_take_27 : decode cX4_take 27 = .ok (.iadd, 1) := by decide +kernel
theorem dX4_take_28 : decode cX4_take 28 = .ok (.putfield 25, 3) := by decide +kernel
theorem dX4_take_31 : decode cX4_take 31 = .ok (.iload_n 2, 1) := by decide +kernel
theorem dX4_take_32 : decode cX4_take 32 = .ok (.ireturn, 1) := by decide +kernel
theorem dX4_fact_0 : decode cX4_fact 0 = .ok (.iload_n 1, 1) := by decide +kernel
theorem dX4_fact_1 : decode cX4_fact 1 = .ok (.tableswitch 60 0 4 #[35, 40, 45, 50, 55], 35) := by decide +kernel
theorem dX4_fact_36 : decode cX4_fact 36 = .ok (.aload_n 0, 1) := by decide +kernel
theorem dX4_fact_37 : decode cX4_fact 37 = .ok (.getfield 13, 3) := by decide +kernel
theorem dX4_fact_40 : decode cX4_fact 40 = .ok (.ireturn, 1) := by decide +kernel
theorem dX4_fact_41 : decode cX4_fact 41 = .ok (.aload_n 0, 1) := by decide +kernel
theorem dX4_fact_42 : decode cX4_fact 42 = .ok (.getfield 16, 3) := by decide +kernel
theorem dX4_fact_45 : decode cX4_fact 45 = .ok (.ireturn, 1) := by decide +kernel
theorem dX4_fact_46 : decode cX4_fact 46 = .ok (.aload_n 0, 1) := by decide +kernel
theorem dX4_fact_47 : decode cX4_fact 47 = .ok (.getfield 19, 3) := by decide +kernel
theorem dX4_fact_50 : decode cX4_fact 50 = .ok (.ireturn, 1) := by decide +kernel
theorem dX4_fact_51 : decode cX4_fact 51 = .ok (.aload_n 0, 1) := by decide +kernel
theorem dX4_fact_52 : decode cX4_fact 52 = .ok (.getfield 22, 3) := by decide +kernel
theorem dX4_fact_55 : decode cX4_fact 55 = .ok (.ireturn, 1) := by decide +kernel
theorem dX4_fact_56 : decode cX4_fact 56 = .ok (.aload_n 0, 1) := by decide +kernel
theorem dX4_fact_57 : decode cX4_fact 57 = .ok (.getfield 25, 3) := by decide +kernel
theorem dX4_fact_60 : decode cX4_fact 60 = .ok (.ireturn, 1) := by decide +kernel
theorem dX4_fact_61 : decode cX4_fact 61 = .ok (.aload_n 0, 1) := by decide +kernel
theorem dX4_fact_62 : decode cX4_fact 62 = .ok (.getfield 7, 3) := by decide +kernel
theorem dX4_fact_65 : decode cX4_fact 65 = .ok (.ireturn, 1) := by decide +kernel
theorem dX4_part_0 : decode cX4_part 0 = .ok (.iload_n 1, 1) := by decide +kernel
theorem dX4_part_1 : decode cX4_part 1 = .ok (.tableswitch 47 8 10 #[27, 32, 37], 27) := by decide +kernel
theorem dX4_part_28 : decode cX4_part 28 = .ok (.aload_n 0, 1) := by decide +kernel
theorem dX4_part_29 : decode cX4_part 29 = .ok (.getfield 13, 3) := by decide +kernel
theorem dX4_part_32 : decode cX4_part 32 = .ok (.ireturn, 1) := by decide +kernel
theorem dX4_part_33 : decode cX4_part 33 = .ok (.aload_n 0, 1) := by decide +kernel
theorem dX4_part_34 : decode cX4_part 34 = .ok (.getfield 16, 3) := by decide +kernel
theorem dX4_part_37 : decode cX4_part 37 = .ok (.ireturn, 1) := by decide +kernel
theorem dX4_part_38 : decode cX4_part 38 = .ok (.aload_n 0, 1) := by decide +kernel
theorem dX4_part_39 : decode cX4_part 39 = .ok (.getfield 19, 3) := by decide +kernel
theorem dX4_part_42 : decode cX4_part 42 = .ok (.aload_n 0, 1) := by decide +kernel
theorem dX4_part_43 : decode cX4_part 43 = .ok (.getfield 22, 3) := by decide +kernel
theorem dX4_part_46 : decode cX4_part 46 = .ok (.iadd, 1) := by decide +kernel
theorem dX4_part_47 : decode cX4_part 47 = .ok (.ireturn, 1) := by decide +kernel
theorem dX4_part_48 : decode cX4_part 48 = .ok (.aload_n 0, 1) := by decide +kernel
theorem dX4_part_49 : decode cX4_part 49 = .ok (.getfield 25, 3) := by decide +kernel
theorem dX4_part_52 : decode cX4_part 52 = .ok (.ireturn, 1) := by decide +kernel
theorem dX5_init_0 : decode cX5_init 0 = .ok (.aload_n 0, 1) := by decide +kernel
theorem dX5_init_1 : decode cX5_init 1 = .ok (.invokespecial 3, 3) := by decide +kernel
theorem dX5_init_4 : decode cX5_init 4 = .ok (.aload_n 0, 1) := by decide +kernel
theorem dX5_init_5 : decode cX5_init 5 = .ok (.iconst 0, 1) := by decide +kernel
theorem dX5_init_6 : decode cX5_init 6 = .ok (.putfield 9, 3) := by decide +kernel
theorem dX5_init_9 : decode cX5_init 9 = .ok (.aload_n 0, 1) := by decide +kernel
theorem dX5_init_10 : decode cX5_init 10 = .ok (.iconst 0, 1) := by decide +kernel
theorem dX5_init_11 : decode cX5_init 11 = .ok (.putfield 15, 3) := by decide +kernel
theorem dX5_init_14 : decode cX5_init 14 = .ok (.aload_n 0, 1) := by decide +kernel
theorem dX5_init_15 : decode cX5_init 15 = .ok (.iconst 0, 1) := by decide +kernel
theorem dX5_init_16 : decode cX5_init 16 = .ok (.putfield 18, 3) := by decide +kernel
theorem dX5_init_19 : decode cX5_init 19 = .ok (.aload_n 0, 1) := by decide +kernel
theorem dX5_init_20 : decode cX5_init 20 = .ok (.iconst 0, 1) := by decide +kernel
theorem dX5_init_21 : decode cX5_init 21 = .ok (.putfield 21, 3) := by decide +kernel
theorem dX5_init_24 : decode cX5_init 24 = .ok (.aload_n 0, 1) := by decide +kernel
theorem dX5_init_25 : decode cX5_init 25 = .ok (.iconst 0, 1) := by decide +kernel
theorem dX5_init_26 : decode cX5_init 26 = .ok (.putfield 24, 3) := by decide +kernel
theorem dX5_init_29 : decode cX5_init 29 = .ok (.aload_n 0, 1) := by decide +kernel
theorem dX5_init_30 : decode cX5_init 30 = .ok (.iconst 0, 1) := by decide +kernel
theorem dX5_init_31 : decode cX5_init 31 = .ok (.putfield 27, 3) := by decide +kernel
theorem dX5_init_34 : decode cX5_init 34 = .ok (.aload_n 0, 1) := by decide +kernel
theorem dX5_init_35 : decode cX5_init 35 = .ok (.new 30, 3) := by decide +kernel
theorem dX5_init_38 : decode cX5_init 38 = .ok (.dup, 1) := by decide +kernel
theorem dX5_init_39 : decode cX5_init 39 = .ok (.invokespecial 32, 3) := by decide +kernel
theorem dX5_init_42 : decode cX5_init 42 = .ok (.putfield 33, 3) := by decide +kernel
theorem dX5_init_45 : decode cX5_init 45 = .ok (.return_, 1) := by decide +kernel
theorem dX5_start_0 : decode cX5_start 0 = .ok (.aload_n 0, 1) := by decide +kernel
theorem dX5_start_1 : decode cX5_start 1 = .ok (.iload_n 1, 1) := by decide +kernel
theorem dX5_start_2 : decode cX5_start 2 = .ok (.putfield 9, 3) := by decide +kernel
theorem dX5_start_5 : decode cX5_start 5 = .ok (.aload_n 0, 1) := by decide +kernel
theorem dX5_start_6 : decode cX5_start 6 = .ok (.iload_n 2, 1) := by decide +kernel
theorem dX5_start_7 : decode cX5_start 7 = .ok (.putfield 15, 3) := by decide +kernel
theorem dX5_start_10 : decode cX5_start 10 = .ok (.aload_n 0, 1) := by decide +kernel
theorem dX5_start_11 : decode cX5_start 11 = .ok (.iconst 0, 1) := by decide +kernel
theorem dX5_start_12 : decode cX5_start 12 = .ok (.putfield 18, 3) := by decide +kernel
theorem dX5_start_15 : decode cX5_start 15 = .ok (.aload_n 0, 1) := by decide +kernel
theorem dX5_start_16 : decode cX5_start 16 = .ok (.iload_n 2, 1) := by decide +kernel
theorem dX5_start_17 : decode cX5_start 17 = .ok (.putfield 21, 3) := by decide +kernel
theorem dX5_start_20 : decode cX5_start 20 = .ok (.aload_n 0, 1) := by decide +kernel
theorem dX5_start_21 : decode cX5_start 21 = .ok (.iconst 0, 1) := by decide +kernel
theorem dX5_start_22 : decode cX5_start 22 = .ok (.putfield 24, 3) := by decide +kernel
theorem dX5_start_25 : decode cX5_start 25 = .ok (.aload_n 0, 1) := by decide +kernel
theorem dX5_start_26 : decode cX5_start 26 = .ok (.iconst 0, 1) := by decide +kernel
theorem dX5_start_27 : decode cX5_start 27 = .ok (.putfield 27, 3) := by decide +kernel
theorem dX5_start_30 : decode cX5_start 30 = .ok (.aload_n 0, 1) := by decide +kernel
theorem dX5_start_31 : decode cX5_start 31 = .ok (.getfield 33, 3) := by decide +kernel
theorem dX5_start_34 : decode cX5_start 34 = .ok (.iconst 0, 1) := by decide +kernel
theorem dX5_start_35 : decode cX5_start 35 = .ok (.invokevirtual 37, 3) := by decide +kernel
theorem dX5_start_38 : decode cX5_start 38 = .ok (.return_, 1) := by decide +kernel
theorem dX5_copyFrom_0 : decode cX5_copyFrom 0 = .ok (.aload_n 0, 1) := by decide +kernel
theorem dX5_copyFrom_1 : decode cX5_copyFrom 1 = .ok (.aload_n 1, 1) := by decide +kernel
theorem dX5_copyFrom_2 : decode cX5_copyFrom 2 = .ok (.getfield 9, 3) := by decide +kernel
theorem dX5_copyFrom_5 : decode cX5_copyFrom 5 = .ok (.putfield 9, 3) := by decide +kernel
theorem dX5_copyFrom_8 : decode cX5_copyFrom 8 = .ok (.aload_n 0, 1) := by decide +kernel
theorem dX5_copyFrom_9 : decode cX5_copyFrom 9 = .ok (.aload_n 1, 1) := by decide +kernel
theorem dX5_copyFrom_10 : decode cX5_copyFrom 10 = .ok (.getfield 15, 3) := by decide +kernel
theorem dX5_copyFrom_13 : decode cX5_copyFrom 13 = .ok (.putfield 15, 3) := by decide +kernel
theorem dX5_copyFrom_16 : decode cX5_copyFrom 16 = .ok (.aload_n 0, 1) := by decide +kernel
theorem dX5_copyFrom_17 : decode cX5_copyFrom 17 = .ok (.aload_n 1, 1) := by decide +kernel
theorem dX5_copyFrom_18 : decode cX5_copyFrom 18 = .ok (.getfield 18, 3) := by decide +kernel
theorem dX5_copyFrom_21 : decode cX5_copyFrom 21 = .ok (.putfield 18, 3) := by decide +kernel
theorem dX5_copyFrom_24 : decode cX5_copyFrom 24 = .ok (.aload_n 0, 1) := by decide +kernel
theorem dX5_copyFrom_25 : decode cX5_copyFrom 25 = .ok (.aload_n 1, 1) := by decide +kernel
theorem dX5_copyFrom_26 : decode cX5_copyFrom 26 = .ok (.getfield 21, 3) := by decide +kernel
theorem dX5_copyFrom_29 : decode cX5_copyFrom 29 = .ok (.putfield 21, 3) := by decide +kernel
theorem dX5_copyFrom_32 : decode cX5_copyFrom 32 = .ok (.aload_n 0, 1) := by decide +kernel
theorem dX5_copyFrom_33 : decode cX5_copyFrom 33 = .ok (.aload_n 1, 1) := by decide +kernel
theorem dX5_copyFrom_34 : decode cX5_copyFrom 34 = .ok (.getfield 24, 3) := by decide +kernel
theorem dX5_copyFrom_37 : decode cX5_copyFrom 37 = .ok (.putfield 24, 3) := by decide +kernel
theorem dX5_copyFrom_40 : decode cX5_copyFrom 40 = .ok (.aload_n 0, 1) := by decide +kernel
theorem dX5_copyFrom_41 : decode cX5_copyFrom 41 = .ok (.aload_n 1, 1) := by decide +kernel
theorem dX5_copyFrom_42 : decode cX5_copyFrom 42 = .ok (.getfield 27, 3) := by decide +kernel
theorem dX5_copyFrom_45 : decode cX5_copyFrom 45 = .ok (.putfield 27, 3) := by decide +kernel
theorem dX5_copyFrom_48 : decode cX5_copyFrom 48 = .ok (.aload_n 0, 1) := by decide +kernel
theorem dX5_copyFrom_49 : decode cX5_copyFrom 49 = .ok (.getfield 33, 3) := by decide +kernel
theorem dX5_copyFrom_52 : decode cX5_copyFrom 52 = .ok (.aload_n 1, 1) := by decide +kernel
theorem dX5_copyFrom_53 : decode cX5_copyFrom 53 = .ok (.getfield 33, 3) := by decide +kernel
theorem dX5_copyFrom_56 : decode cX5_copyFrom 56 = .ok (.invokevirtual 41, 3) := by decide +kernel
theorem dX5_copyFrom_59 : decode cX5_copyFrom 59 = .ok (.return_, 1) := by decide +kernel
theorem dX6_init_0 : decode cX6_init 0 = .ok (.aload_n 0, 1) := by decide +kernel
theorem dX6_init_1 : decode cX6_init 1 = .ok (.invokespecial 1, 3) := by decide +kernel
theorem dX6_init_4 : decode cX6_init 4 = .ok (.aload_n 0, 1) := by decide +kernel
theorem dX6_init_5 : decode cX6_init 5 = .ok (.new 7, 3) := by decide +kernel
theorem dX6_init_8 : decode cX6_init 8 = .ok (.dup, 1) := by decide +kernel
theorem dX6_init_9 : decode cX6_init 9 = .ok (.invokespecial 9, 3) := by decide +kernel
theorem dX6_init_12 : decode cX6_init 12 = .ok (.putfield 10, 3) := by decide +kernel
theorem dX6_init_15 : decode cX6_init 15 = .ok (.aload_n 0, 1) := by decide +kernel
theorem dX6_init_16 : decode cX6_init 16 = .ok (.new 7, 3) := by decide +kernel
theorem dX6_init_19 : decode cX6_init 19 = .ok (.dup, 1) := by decide +kernel
theorem dX6_init_20 : decode cX6_init 20 = .ok (.invokespecial 9, 3) := by decide +kernel
theorem dX6_init_23 : decode cX6_init 23 = .ok (.putfield 16, 3) := by decide +kernel
theorem dX6_init_26 : decode cX6_init 26 = .ok (.aload_n 0, 1) := by decide +kernel
theorem dX6_init_27 : decode cX6_init 27 = .ok (.new 19, 3) := by decide +kernel
theorem dX6_init_30 : decode cX6_init 30 = .ok (.dup, 1) := by decide +kernel
theorem dX6_init_31 : decode cX6_init 31 = .ok (.invokespecial 21, 3) := by decide +kernel
theorem dX6_init_34 : decode cX6_init 34 = .ok (.putfield 22, 3) := by decide +kernel
theorem dX6_init_37 : decode cX6_init 37 = .ok (.aload_n 0, 1) := by decide +kernel
theorem dX6_init_38 : decode cX6_init 38 = .ok (.new 26, 3) := by decide +kernel
theorem dX6_init_41 : decode cX6_init 41 = .ok (.dup, 1) := by decide +kernel
theorem dX6_init_42 : decode cX6_init 42 = .ok (.invokespecial 28, 3) := by decide +kernel
theorem dX6_init_45 : decode cX6_init 45 = .ok (.putfield 29, 3) := by decide +kernel
theorem dX6_init_48 : decode cX6_init 48 = .ok (.aload_n 0, 1) := by decide +kernel
theorem dX6_init_49 : decode cX6_init 49 = .ok (.new 33, 3) := by decide +kernel
theorem dX6_init_52 : decode cX6_init 52 = .ok (.dup, 1) := by decide +kernel
theorem dX6_init_53 : decode cX6_init 53 = .ok (.invokespecial 35, 3) := by decide +kernel
theorem dX6_init_56 : decode cX6_init 56 = .ok (.putfield 36, 3) := by decide +kernel
theorem dX6_init_59 : decode cX6_init 59 = .ok (.aload_n 0, 1) := by decide +kernel
theorem dX6_init_60 : decode cX6_init 60 = .ok (.iconst 0, 1) := by decide +kernel
theorem dX6_init_61 : decode cX6_init 61 = .ok (.putfield 40, 3) := by decide +kernel
theorem dX6_init_64 : decode cX6_init 64 = .ok (.return_, 1) := by decide +kernel
theorem dX6_setRate_0 : decode cX6_setRate 0 = .ok (.iload_n 1, 1) := by decide +kernel
theorem dX6_setRate_1 : decode cX6_setRate 1 = .ok (.iconst 0, 1) := by decide +kernel
theorem dX6_setRate_2 : decode cX6_setRate 2 = .ok (.ldc 44, 2) := by decide +kernel
theorem dX6_setRate_4 : decode cX6_setRate 4 = .ok (.invokestatic 45, 3) := by decide +kernel
theorem dX6_setRate_7 : decode cX6_setRate 7 = .ok (.ifCond .eq 6, 3) := by decide +kernel
theorem dX6_setRate_10 : decode cX6_setRate 10 = .ok (.bipush (-2), 2) := by decide +kernel
theorem dX6_setRate_12 : decode cX6_setRate 12 = .ok (.ireturn, 1) := by decide +kernel
theorem dX6_setRate_13 : decode cX6_setRate 13 = .ok (.iload_n 1, 1) := by decide +kernel
theorem dX6_setRate_14 : decode cX6_setRate 14 = .ok (.invokestatic 49, 3) := by decide +kernel
theorem dX6_setRate_17 : decode cX6_setRate 17 = .ok (.fstore_n 2, 1) := by decide +kernel
theorem dX6_setRate_18 : decode cX6_setRate 18 = .ok (.fload_n 2, 1) := by decide +kernel
theorem dX6_setRate_19 : decode cX6_setRate 19 = .ok (.aload_n 0, 1) := by decide +kernel
theorem dX6_setRate_20 : decode cX6_setRate 20 = .ok (.getfield 10, 3) := by decide +kernel
theorem dX6_setRate_23 : decode cX6_setRate 23 = .ok (.getfield 53, 3) := by decide +kernel
theorem dX6_setRate_26 : decode cX6_setRate 26 = .ok (.fcmp .l, 1) := by decide +kernel
theorem dX6_setRate_27 : decode cX6_setRate 27 = .ok (.ifCond .ne 6, 3) := by decide +kernel
theorem dX6_setRate_30 : decode cX6_setRate 30 = .ok (.bipush (-5), 2) := by decide +kernel
theorem dX6_setRate_32 : decode cX6_setRate 32 = .ok (.ireturn, 1) := by decide +kernel
theorem dX6_setRate_33 : decode cX6_setRate 33 = .ok (.aload_n 0, 1) := by decide +kernel
theorem dX6_setRate_34 : decode cX6_setRate 34 = .ok (.getfield 22, 3) := by decide +kernel
theorem dX6_setRate_37 : decode cX6_setRate 37 = .ok (.aload_n 0, 1) := by decide +kernel
theorem dX6_setRate_38 : decode cX6_setRate 38 = .ok (.getfield 10, 3) := by decide +kernel
theorem dX6_setRate_41 : decode cX6_setRate 41 = .ok (.invokevirtual 57, 3) := by decide +kernel
theorem dX6_setRate_44 : decode cX6_setRate 44 = .ok (.aload_n 0, 1) := by decide +kernel
theorem dX6_setRate_45 : decode cX6_setRate 45 = .ok (.getfield 10, 3) := by decide +kernel
theorem dX6_setRate_48 : decode cX6_setRate 48 = .ok (.fload_n 2, 1) := by decide +kernel
theorem dX6_setRate_49 : decode cX6_setRate 49 = .ok (.putfield 53, 3) := by decide +kernel
theorem dX6_setRate_52 : decode cX6_setRate 52 = .ok (.iconst 1, 1) := by decide +kernel
theorem dX6_setRate_53 : decode cX6_setRate 53 = .ok (.ireturn, 1) := by decide +kernel
theorem dX6_setFee_0 : decode cX6_setFee 0 = .ok (.iload_n 1, 1) := by decide +kernel
theorem dX6_setFee_1 : decode cX6_setFee 1 = .ok (.iconst 0, 1) := by decide +kernel
theorem dX6_setFee_2 : decode cX6_setFee 2 = .ok (.ldc 61, 2) := by decide +kernel
theorem dX6_setFee_4 : decode cX6_setFee 4 = .ok (.invokestatic 45, 3) := by decide +kernel
theorem dX6_setFee_7 : decode cX6_setFee 7 = .ok (.ifCond .eq 6, 3) := by decide +kernel
theorem dX6_setFee_10 : decode cX6_setFee 10 = .ok (.bipush (-2), 2) := by decide +kernel
theorem dX6_setFee_12 : decode cX6_setFee 12 = .ok (.ireturn, 1) := by decide +kernel
theorem dX6_setFee_13 : decode cX6_setFee 13 = .ok (.aload_n 0, 1) := by decide +kernel
theorem dX6_setFee_14 : decode cX6_setFee 14 = .ok (.getfield 10, 3) := by decide +kernel
theorem dX6_setFee_17 : decode cX6_setFee 17 = .ok (.getfield 62, 3) := by decide +kernel
theorem dX6_setFee_20 : decode cX6_setFee 20 = .ok (.istore_n 2, 1) := by decide +kernel
theorem dX6_setFee_21 : decode cX6_setFee 21 = .ok (.iload_n 2, 1) := by decide +kernel
theorem dX6_setFee_22 : decode cX6_setFee 22 = .ok (.iload_n 1, 1) := by decide +kernel
theorem dX6_setFee_23 : decode cX6_setFee 23 = .ok (.if_icmp .ne 6, 3) := by decide +kernel
theorem dX6_setFee_26 : decode cX6_setFee 26 = .ok (.bipush (-5), 2) := by decide +kernel
theorem dX6_setFee_28 : decode cX6_setFee 28 = .ok (.ireturn, 1) := by decide +kernel
theorem dX6_setFee_29 : decode cX6_setFee 29 = .ok (.aload_n 0, 1) := by decide +kernel
theorem dX6_setFee_30 : decode cX6_setFee 30 = .ok (.getfield 22, 3) := by decide +kernel
theorem dX6_setFee_33 : decode cX6_setFee 33 = .ok (.aload_n 0, 1) := by decide +kernel
theorem dX6_setFee_34 : decode cX6_setFee 34 = .ok (.getfield 10, 3) := by decide +kernel
theorem dX6_setFee_37 : decode cX6_setFee 37 = .ok (.invokevirtual 57, 3) := by decide +kernel
theorem dX6_setFee_40 : decode cX6_setFee 40 = .ok (.aload_n 0, 1) := by decide +kernel
theorem dX6_setFee_41 : decode cX6_setFee 41 = .ok (.getfield 10, 3) := by decide +kernel
theorem dX6_setFee_44 : decode cX6_setFee 44 = .ok (.iload_n 1, 1) := by decide +kernel
theorem dX6_setFee_45 : decode cX6_setFee 45 = .ok (.putfield 62, 3) := by decide +kernel
theorem dX6_setFee_48 : decode cX6_setFee 48 = .ok (.iload_n 2, 1) := by decide +kernel
theorem dX6_setFee_49 : decode cX6_setFee 49 = .ok (.ireturn, 1) := by decide +kernel
theorem dX6_pass_0 : decode cX6_pass 0 = .ok (.iload_n 1, 1) := by decide +kernel
theorem dX6_pass_1 : decode cX6_pass 1 = .ok (.iconst 1, 1) := by decide +kernel
theorem dX6_pass_2 : decode cX6_pass 2 = .ok (.sipush 1000, 3) := by decide +kernel
theorem dX6_pass_5 : decode cX6_pass 5 = .ok (.invokestatic 45, 3) := by decide +kernel
theorem dX6_pass_8 : decode cX6_pass 8 = .ok (.ifCond .eq 6, 3) := by decide +kernel
theorem dX6_pass_11 : decode cX6_pass 11 = .ok (.bipush (-2), 2) := by decide +kernel
theorem dX6_pass_13 : decode cX6_pass 13 = .ok (.ireturn, 1) := by decide +kernel
theorem dX6_pass_14 : decode cX6_pass 14 = .ok (.aload_n 0, 1) := by decide +kernel
theorem dX6_pass_15 : decode cX6_pass 15 = .ok (.getfield 10, 3) := by decide +kernel
theorem dX6_pass_18 : decode cX6_pass 18 = .ok (.getfield 66, 3) := by decide +kernel
theorem dX6_pass_21 : decode cX6_pass 21 = .ok (.iload_n 1, 1) := by decide +kernel
theorem dX6_pass_22 : decode cX6_pass 22 = .ok (.iadd, 1) := by decide +kernel
theorem dX6_pass_23 : decode cX6_pass 23 = .ok (.ldc 69, 2) := by decide +kernel
theorem dX6_pass_25 : decode cX6_pass 25 = .ok (.if_icmp .le 6, 3) := by decide +kernel
theorem dX6_pass_28 : decode cX6_pass 28 = .ok (.bipush (-3), 2) := by decide +kernel
theorem dX6_pass_30 : decode cX6_pass 30 = .ok (.ireturn, 1) := by decide +kernel
theorem dX6_pass_31 : decode cX6_pass 31 = .ok (.aload_n 0, 1) := by decide +kernel
theorem dX6_pass_32 : decode cX6_pass 32 = .ok (.getfield 22, 3) := by decide +kernel
theorem dX6_pass_35 : decode cX6_pass 35 = .ok (.aload_n 0, 1) := by decide +kernel
theorem dX6_pass_36 : decode cX6_pass 36 = .ok (.getfield 10, 3) := by decide +kernel
theorem dX6_pass_39 : decode cX6_pass 39 = .ok (.invokevirtual 57, 3) := by decide +kernel
theorem dX6_pass_42 : decode cX6_pass 42 = .ok (.aload_n 0, 1) := by decide +kernel
theorem dX6_pass_43 : decode cX6_pass 43 = .ok (.getfield 10, 3) := by decide +kernel
theorem dX6_pass_46 : decode cX6_pass 46 = .ok (.dup, 1) := by decide +kernel
theorem dX6_pass_47 : decode cX6_pass 47 = .ok (.getfield 66, 3) := by decide +kernel
theorem dX6_pass_50 : decode cX6_pass 50 = .ok (.iload_n 1, 1) := by decide +kernel
theorem dX6_pass_51 : decode cX6_pass 51 = .ok (.iadd, 1) := by decide +kernel
theorem dX6_pass_52 : decode cX6_pass 52 = .ok (.putfield 66, 3) := by decide +kernel
theorem dX6_pass_55 : decode cX6_pass 55 = .ok (.aload_n 0, 1) := by decide +kernel
theorem dX6_pass_56 : decode cX6_pass 56 = .ok (.getfield 10, 3) := by decide +kernel
theorem dX6_pass_59 : decode cX6_pass 59 = .ok (.getfield 66, 3) := by decide +kernel
theorem dX6_pass_62 : decode cX6_pass 62 = .ok (.ireturn, 1) := by decide +kernel
theorem dX6_begin_0 : decode cX6_begin 0 = .ok (.iload_n 1, 1) := by decide +kernel
theorem dX6_begin_1 : decode cX6_begin 1 = .ok (.sipush 1000, 3) := by decide +kernel
theorem dX6_begin_4 : decode cX6_begin 4 = .ok (.ldc 70, 2) := by decide +kernel
theorem dX6_begin_6 : decode cX6_begin 6 = .ok (.invokestatic 45, 3) := by decide +kernel
theorem dX6_begin_9 : decode cX6_begin 9 = .ok (.ifCond .eq 6, 3) := by decide +kernel
theorem dX6_begin_12 : decode cX6_begin 12 = .ok (.bipush (-2), 2) := by decide +kernel
theorem dX6_begin_14 : decode cX6_begin 14 = .ok (.ireturn, 1) := by decide +kernel
theorem dX6_begin_15 : decode cX6_begin 15 = .ok (.aload_n 0, 1) := by decide +kernel
theorem dX6_begin_16 : decode cX6_begin 16 = .ok (.getfield 10, 3) := by decide +kernel
theorem dX6_begin_19 : decode cX6_begin 19 = .ok (.getfield 71, 3) := by decide +kernel
theorem dX6_begin_22 : decode cX6_begin 22 = .ok (.bipush 6, 2) := by decide +kernel
theorem dX6_begin_24 : decode cX6_begin 24 = .ok (.if_icmp .lt 6, 3) := by decide +kernel
theorem dX6_begin_27 : decode cX6_begin 27 = .ok (.bipush (-3), 2) := by decide +kernel
theorem dX6_begin_29 : decode cX6_begin 29 = .ok (.ireturn, 1) := by decide +kernel
theorem dX6_begin_30 : decode cX6_begin 30 = .ok (.aload_n 0, 1) := by decide +kernel
theorem dX6_begin_31 : decode cX6_begin 31 = .ok (.getfield 22, 3) := by decide +kernel
theorem dX6_begin_34 : decode cX6_begin 34 = .ok (.aload_n 0, 1) := by decide +kernel
theorem dX6_begin_35 : decode cX6_begin 35 = .ok (.getfield 10, 3) := by decide +kernel
theorem dX6_begin_38 : decode cX6_begin 38 = .ok (.invokevirtual 57, 3) := by decide +kernel
theorem dX6_begin_41 : decode cX6_begin 41 = .ok (.aload_n 0, 1) := by decide +kernel
theorem dX6_begin_42 : decode cX6_begin 42 = .ok (.getfield 10, 3) := by decide +kernel
theorem dX6_begin_45 : decode cX6_begin 45 = .ok (.iload_n 1, 1) := by decide +kernel
theorem dX6_begin_46 : decode cX6_begin 46 = .ok (.invokevirtual 74, 3) := by decide +kernel
theorem dX6_begin_49 : decode cX6_begin 49 = .ok (.ireturn, 1) := by decide +kernel
theorem dX6_addItem_0 : decode cX6_addItem 0 = .ok (.aload_n 0, 1) := by decide +kernel
theorem dX6_addItem_1 : decode cX6_addItem 1 = .ok (.getfield 10, 3) := by decide +kernel
theorem dX6_addItem_4 : decode cX6_addItem 4 = .ok (.iload_n 1, 1) := by decide +kernel
theorem dX6_addItem_5 : decode cX6_addItem 5 = .ok (.invokevirtual 78, 3) := by decide +kernel
theorem dX6_addItem_8 : decode cX6_addItem 8 = .ok (.astore 6, 2) := by decide +kernel
theorem dX6_addItem_10 : decode cX6_addItem 10 = .ok (.aload 6, 2) := by decide +kernel
theorem dX6_addItem_12 : decode cX6_addItem 12 = .ok (.ifnonnull 5, 3) := by decide +kernel
theorem dX6_addItem_15 : decode cX6_addItem 15 = .ok (.iconst (-1), 1) := by decide +kernel
theorem dX6_addItem_16 : decode cX6_addItem 16 = .ok (.ireturn, 1) := by decide +kernel
theorem dX6_addItem_17 : decode cX6_addItem 17 = .ok (.iload_n 2, 1) := by decide +kernel
theorem dX6_addItem_18 : decode cX6_addItem 18 = .ok (.bipush 100, 2) := by decide +kernel
theorem dX6_addItem_20 : decode cX6_addItem 20 = .ok (.ldc 82, 2) := by decide +kernel
theorem dX6_addItem_22 : decode cX6_addItem 22 = .ok (.invokestatic 45, 3) := by decide +kernel
theorem dX6_addItem_25 : decode cX6_addItem 25 = .ok (.ifCond .ne 38, 3) := by decide +kernel
theorem dX6_addItem_28 : decode cX6_addItem 28 = .ok (.iload_n 3, 1) := by decide +kernel
theorem dX6_addItem_29 : decode cX6_addItem 29 = .ok (.bipush 30, 2) := by decide +kernel
theorem dX6_addItem_31 : decode cX6_addItem 31 = .ok (.sipush 9999, 3) := by decide +kernel
theorem dX6_addItem_34 : decode cX6_addItem 34 = .ok (.invokestatic 45, 3) := by decide +kernel
theorem dX6_addItem_37 : decode cX6_addItem 37 = .ok (.ifCond .ne 26, 3) := by decide +kernel
theorem dX6_addItem_40 : decode cX6_addItem 40 = .ok (.iload 4, 2) := by decide +kernel
theorem dX6_addItem_42 : decode cX6_addItem 42 = .ok (.iconst 0, 1) := by decide +kernel
theorem dX6_addItem_43 : decode cX6_addItem 43 = .ok (.sipush 9999, 3) := by decide +kernel
theorem dX6_addItem_46 : decode cX6_addItem 46 = .ok (.invokestatic 45, 3) := by decide +kernel
theorem dX6_addItem_49 : decode cX6_addItem 49 = .ok (.ifCond .ne 14, 3) := by decide +kernel
theorem dX6_addItem_52 : decode cX6_addItem 52 = .ok (.iload 5, 2) := by decide +kernel
theorem dX6_addItem_54 : decode cX6_addItem 54 = .ok (.iconst 0, 1) := by decide +kernel
theorem dX6_addItem_55 : decode cX6_addItem 55 = .ok (.bipush 100, 2) := by decide +kernel
theorem dX6_addItem_57 : decode cX6_addItem 57 = .ok (.invokestatic 45, 3) := by decide +kernel
theorem dX6_addItem_60 : decode cX6_addItem 60 = .ok (.ifCond .eq 6, 3) := by decide +kernel
theorem dX6_addItem_63 : decode cX6_addItem 63 = .ok (.bipush (-2), 2) := by decide +kernel
theorem dX6_addItem_65 : decode cX6_addItem 65 = .ok (.ireturn, 1) := by decide +kernel
theorem dX6_addItem_66 : decode cX6_addItem 66 = .ok (.aload 6, 2) := by decide +kernel
theorem dX6_addItem_68 : decode cX6_addItem 68 = .ok (.getfield 83, 3) := by decide +kernel
theorem dX6_addItem_71 : decode cX6_addItem 71 = .ok (.ifCond .ne 18, 3) := by decide +kernel
theorem dX6_addItem_74 : decode cX6_addItem 74 = .ok (.aload 6, 2) := by decide +kernel
theorem dX6_addItem_76 : decode cX6_addItem 76 = .ok (.getfield 88, 3) := by decide +kernel
theorem dX6_addItem_79 : decode cX6_addItem 79 = .ok (.aload_n 0, 1) := by decide +kernel
theorem dX6_addItem_80 : decode cX6_addItem 80 = .ok (.getfield 10, 3) := by decide +kernel
theorem dX6_addItem_83 : decode cX6_addItem 83 = .ok (.getfield 66, 3) := by decide +kernel
theorem dX6_addItem_86 : decode cX6_addItem 86 = .ok (.if_icmp .eq 6, 3) := by decide +kernel
theorem dX6_addItem_89 : decode cX6_addItem 89 = .ok (.bipush (-4), 2) := by decide +kernel
theorem dX6_addItem_91 : decode cX6_addItem 91 = .ok (.ireturn, 1) := by decide +kernel
theorem dX6_addItem_92 : decode cX6_addItem 92 = .ok (.aload_n 0, 1) := by decide +kernel
theorem dX6_addItem_93 : decode cX6_addItem 93 = .ok (.getfield 10, 3) := by decide +kernel
theorem dX6_addItem_96 : decode cX6_addItem 96 = .ok (.getfield 91, 3) := by decide +kernel
theorem dX6_addItem_99 : decode cX6_addItem 99 = .ok (.bipush 24, 2) := by decide +kernel
theorem dX6_addItem_101 : decode cX6_addItem 101 = .ok (.if_icmp .lt 6, 3) := by decide +kernel
theorem dX6_addItem_104 : decode cX6_addItem 104 = .ok (.bipush (-3), 2) := by decide +kernel
theorem dX6_addItem_106 : decode cX6_addItem 106 = .ok (.ireturn, 1) := by decide +kernel
theorem dX6_addItem_107 : decode cX6_addItem 107 = .ok (.aload_n 0, 1) := by decide +kernel
theorem dX6_addItem_108 : decode cX6_addItem 108 = .ok (.getfield 22, 3) := by decide +kernel
theorem dX6_addItem_111 : decode cX6_addItem 111 = .ok (.aload_n 0, 1) := by decide +kernel
theorem dX6_addItem_112 : decode cX6_addItem 112 = .ok (.getfield 10, 3) := by decide +kernel
theorem dX6_addItem_115 : decode cX6_addItem 115 = .ok (.invokevirtual 57, 3) := by decide +kernel
theorem dX6_addItem_118 : decode cX6_addItem 118 = .ok (.aload_n 0, 1) := by decide +kernel
theorem dX6_addItem_119 : decode cX6_addItem 119 = .ok (.getfield 10, 3) := by decide +kernel
theorem dX6_addItem_122 : decode cX6_addItem 122 = .ok (.iload_n 1, 1) := by decide +kernel
theorem dX6_addItem_123 : decode cX6_addItem 123 = .ok (.iload_n 2, 1) := by decide +kernel
theorem dX6_addItem_124 : decode cX6_addItem 124 = .ok (.iload_n 3, 1) := by decide +kernel
theorem dX6_addItem_125 : decode cX6_addItem 125 = .ok (.iload 4, 2) := by decide +kernel
theorem dX6_addItem_127 : decode cX6_addItem 127 = .ok (.iload 5, 2) := by decide +kernel
theorem dX6_addItem_129 : decode cX6_addItem 129 = .ok (.invokevirtual 94, 3) := by decide +kernel
theorem dX6_addItem_132 : decode cX6_addItem 132 = .ok (.ireturn, 1) := by decide +kernel
theorem dX6_end_0 : decode cX6_end 0 = .ok (.aload_n 0, 1) := by decide +kernel
theorem dX6_end_1 : decode cX6_end 1 = .ok (.getfield 10, 3) := by decide +kernel
theorem dX6_end_4 : decode cX6_end 4 = .ok (.iload_n 1, 1) := by decide +kernel
theorem dX6_end_5 : decode cX6_end 5 = .ok (.invokevirtual 78, 3) := by decide +kernel
theorem dX6_end_8 : decode cX6_end 8 = .ok (.astore_n 2, 1) := by decide +kernel
theorem dX6_end_9 : decode cX6_end 9 = .ok (.aload_n 2, 1) := by decide +kernel
theorem dX6_end_10 : decode cX6_end 10 = .ok (.ifnonnull 5, 3) := by decide +kernel
theorem dX6_end_13 : decode cX6_end 13 = .ok (.iconst (-1), 1) := by decide +kernel
theorem dX6_end_14 : decode cX6_end 14 = .ok (.ireturn, 1) := by decide +kernel
theorem dX6_end_15 : decode cX6_end 15 = .ok (.aload_n 2, 1) := by decide +kernel
theorem dX6_end_16 : decode cX6_end 16 = .ok (.getfield 83, 3) := by decide +kernel
theorem dX6_end_19 : decode cX6_end 19 = .ok (.ifCond .eq 6, 3) := by decide +kernel
theorem dX6_end_22 : decode cX6_end 22 = .ok (.bipush (-4), 2) := by decide +kernel
theorem dX6_end_24 : decode cX6_end 24 = .ok (.ireturn, 1) := by decide +kernel
theorem dX6_end_25 : decode cX6_end 25 = .ok (.aload_n 0, 1) := by decide +kernel
theorem dX6_end_26 : decode cX6_end 26 = .ok (.getfield 22, 3) := by decide +kernel
theorem dX6_end_29 : decode cX6_end 29 = .ok (.aload_n 0, 1) := by decide +kernel
theorem dX6_end_30 : decode cX6_end 30 = .ok (.getfield 10, 3) := by decide +kernel
theorem dX6_end_33 : decode cX6_end 33 = .ok (.invokevirtual 57, 3) := by decide +kernel
theorem dX6_end_36 : decode cX6_end 36 = .ok (.aload_n 2, 1) := by decide +kernel
theorem dX6_end_37 : decode cX6_end 37 = .ok (.iconst 1, 1) := by decide +kernel
theorem dX6_end_38 : decode cX6_end 38 = .ok (.putfield 83, 3) := by decide +kernel
theorem dX6_end_41 : decode cX6_end 41 = .ok (.aload_n 2, 1) := by decide +kernel
theorem dX6_end_42 : decode cX6_end 42 = .ok (.aload_n 0, 1) := by decide +kernel
theorem dX6_end_43 : decode cX6_end 43 = .ok (.getfield 10, 3) := by decide +kernel
theorem dX6_end_46 : decode cX6_end 46 = .ok (.getfield 66, 3) := by decide +kernel
theorem dX6_end_49 : decode cX6_end 49 = .ok (.putfield 98, 3) := by decide +kernel
theorem dX6_end_52 : decode cX6_end 52 = .ok (.aload_n 0, 1) := by decide +kernel
theorem dX6_end_53 : decode cX6_end 53 = .ok (.getfield 10, 3) := by decide +kernel
theorem dX6_end_56 : decode cX6_end 56 = .ok (.iload_n 1, 1) := by decide +kernel
theorem dX6_end_57 : decode cX6_end 57 = .ok (.invokevirtual 101, 3) := by decide +kernel
theorem dX6_end_60 : decode cX6_end 60 = .ok (.aload_n 0, 1) := by decide +kernel
theorem dX6_end_61 : decode cX6_end 61 = .ok (.getfield 10, 3) := by decide +kernel
theorem dX6_end_64 : decode cX6_end 64 = .ok (.aload_n 2, 1) := by decide +kernel
theorem dX6_end_65 : decode cX6_end 65 = .ok (.invokevirtual 105, 3) := by decide +kernel
theorem dX6_end_68 : decode cX6_end 68 = .ok (.ireturn, 1) := by decide +kernel
theorem dX6_inspect_0 : decode cX6_inspect 0 = .ok (.aload_n 0, 1) := by decide +kernel
theorem dX6_inspect_1 : decode cX6_inspect 1 = .ok (.getfield 10, 3) := by decide +kernel
theorem dX6_inspect_4 : decode cX6_inspect 4 = .ok (.iload_n 1, 1) := by decide +kernel
theorem dX6_inspect_5 : decode cX6_inspect 5 = .ok (.invokevirtual 109, 3) := by decide +kernel
theorem dX6_inspect_8 : decode cX6_inspect 8 = .ok (.astore_n 3, 1) := by decide +kernel
theorem dX6_inspect_9 : decode cX6_inspect 9 = .ok (.aload_n 3, 1) := by decide +kernel
theorem dX6_inspect_10 : decode cX6_inspect 10 = .ok (.ifnonnull 5, 3) := by decide +kernel
theorem dX6_inspect_13 : decode cX6_inspect 13 = .ok (.iconst (-1), 1) := by decide +kernel
theorem dX6_inspect_14 : decode cX6_inspect 14 = .ok (.ireturn, 1) := by decide +kernel
theorem dX6_inspect_15 : decode cX6_inspect 15 = .ok (.iload_n 2, 1) := by decide +kernel
theorem dX6_inspect_16 : decode cX6_inspect 16 = .ok (.iconst 0, 1) := by decide +kernel
theorem dX6_inspect_17 : decode cX6_inspect 17 = .ok (.bipush 100, 2) := by decide +kernel
theorem dX6_inspect_19 : decode cX6_inspect 19 = .ok (.invokestatic 45, 3) := by decide +kernel
theorem dX6_inspect_22 : decode cX6_inspect 22 = .ok (.ifCond .eq 6, 3) := by decide +kernel
theorem dX6_inspect_25 : decode cX6_inspect 25 = .ok (.bipush (-2), 2) := by decide +kernel
theorem dX6_inspect_27 : decode cX6_inspect 27 = .ok (.ireturn, 1) := by decide +kernel
theorem dX6_inspect_28 : decode cX6_inspect 28 = .ok (.aload_n 0, 1) := by decide +kernel
theorem dX6_inspect_29 : decode cX6_inspect 29 = .ok (.getfield 10, 3) := by decide +kernel
theorem dX6_inspect_32 : decode cX6_inspect 32 = .ok (.aload_n 3, 1) := by decide +kernel
theorem dX6_inspect_33 : decode cX6_inspect 33 = .ok (.invokevirtual 113, 3) := by decide +kernel
theorem dX6_inspect_36 : decode cX6_inspect 36 = .ok (.iconst 1, 1) := by decide +kernel
theorem dX6_inspect_37 : decode cX6_inspect 37 = .ok (.if_icmp .eq 6, 3) := by decide +kernel
theorem dX6_inspect_40 : decode cX6_inspect 40 = .ok (.bipush (-4), 2) := by decide +kernel
theorem dX6_inspect_42 : decode cX6_inspect 42 = .ok (.ireturn, 1) := by decide +kernel
theorem dX6_inspect_43 : decode cX6_inspect 43 = .ok (.aload_n 3, 1) := by decide +kernel
theorem dX6_inspect_44 : decode cX6_inspect 44 = .ok (.getfield 117, 3) := by decide +kernel
theorem dX6_inspect_47 : decode cX6_inspect 47 = .ok (.iload_n 2, 1) := by decide +kernel
theorem dX6_inspect_48 : decode cX6_inspect 48 = .ok (.if_icmp .ne 6, 3) := by decide +kernel
theorem dX6_inspect_51 : decode cX6_inspect 51 = .ok (.bipush (-5), 2) := by decide +kernel
theorem dX6_inspect_53 : decode cX6_inspect 53 = .ok (.ireturn, 1) := by decide +kernel
theorem dX6_inspect_54 : decode cX6_inspect 54 = .ok (.aload_n 0, 1) := by decide +kernel
theorem dX6_inspect_55 : decode cX6_inspect 55 = .ok (.getfield 22, 3) := by decide +kernel
theorem dX6_inspect_58 : decode cX6_inspect 58 = .ok (.aload_n 0, 1) := by decide +kernel
theorem dX6_inspect_59 : decode cX6_inspect 59 = .ok (.getfield 10, 3) := by decide +kernel
theorem dX6_inspect_62 : decode cX6_inspect 62 = .ok (.invokevirtual 57, 3) := by decide +kernel
theorem dX6_inspect_65 : decode cX6_inspect 65 = .ok (.aload_n 3, 1) := by decide +kernel
theorem dX6_inspect_66 : decode cX6_inspect 66 = .ok (.aload_n 0, 1) := by decide +kernel
theorem dX6_inspect_67 : decode cX6_inspect 67 = .ok (.getfield 10, 3) := by decide +kernel
theorem dX6_inspect_70 : decode cX6_inspect 70 = .ok (.aload_n 3, 1) := by decide +kernel
theorem dX6_inspect_71 : decode cX6_inspect 71 = .ok (.invokevirtual 122, 3) := by decide +kernel
theorem dX6_inspect_74 : decode cX6_inspect 74 = .ok (.iload_n 2, 1) := by decide +kernel
theorem dX6_inspect_75 : decode cX6_inspect 75 = .ok (.invokevirtual 125, 3) := by decide +kernel
theorem dX6_inspect_78 : decode cX6_inspect 78 = .ok (.aload_n 3, 1) := by decide +kernel
theorem dX6_inspect_79 : decode cX6_inspect 79 = .ok (.getfield 129, 3) := by decide +kernel
theorem dX6_inspect_82 : decode cX6_inspect 82 = .ok (.ireturn, 1) := by decide +kernel
theorem dX6_claim_0 : decode cX6_claim 0 = .ok (.aload_n 0, 1) := by decide +kernel
theorem dX6_claim_1 : decode cX6_claim 1 = .ok (.getfield 10, 3) := by decide +kernel
theorem dX6_claim_4 : decode cX6_claim 4 = .ok (.iload_n 1, 1) := by decide +kernel
theorem dX6_claim_5 : decode cX6_claim 5 = .ok (.invokevirtual 109, 3) := by decide +kernel
theorem dX6_claim_8 : decode cX6_claim 8 = .ok (.astore_n 3, 1) := by decide +kernel
theorem dX6_claim_9 : decode cX6_claim 9 = .ok (.aload_n 3, 1) := by decide +kernel
theorem dX6_claim_10 : decode cX6_claim 10 = .ok (.ifnonnull 5, 3) := by decide +kernel
theorem dX6_claim_13 : decode cX6_claim 13 = .ok (.iconst (-1), 1) := by decide +kernel
theorem dX6_claim_14 : decode cX6_claim 14 = .ok (.ireturn, 1) := by decide +kernel
theorem dX6_claim_15 : decode cX6_claim 15 = .ok (.iload_n 2, 1) := by decide +kernel
theorem dX6_claim_16 : decode cX6_claim 16 = .ok (.iconst 0, 1) := by decide +kernel
theorem dX6_claim_17 : decode cX6_claim 17 = .ok (.aload_n 3, 1) := by decide +kernel
theorem dX6_claim_18 : decode cX6_claim 18 = .ok (.getfield 132, 3) := by decide +kernel
theorem dX6_claim_21 : decode cX6_claim 21 = .ok (.invokestatic 45, 3) := by decide +kernel
theorem dX6_claim_24 : decode cX6_claim 24 = .ok (.ifCond .eq 6, 3) := by decide +kernel
theorem dX6_claim_27 : decode cX6_claim 27 = .ok (.bipush (-2), 2) := by decide +kernel
theorem dX6_claim_29 : decode cX6_claim 29 = .ok (.ireturn, 1) := by decide +kernel
theorem dX6_claim_30 : decode cX6_claim 30 = .ok (.aload_n 0, 1) := by decide +kernel
theorem dX6_claim_31 : decode cX6_claim 31 = .ok (.getfield 10, 3) := by decide +kernel
theorem dX6_claim_34 : decode cX6_claim 34 = .ok (.aload_n 3, 1) := by decide +kernel
theorem dX6_claim_35 : decode cX6_claim 35 = .ok (.invokevirtual 113, 3) := by decide +kernel
theorem dX6_claim_38 : decode cX6_claim 38 = .ok (.iconst 1, 1) := by decide +kernel
theorem dX6_claim_39 : decode cX6_claim 39 = .ok (.if_icmp .eq 6, 3) := by decide +kernel
theorem dX6_claim_42 : decode cX6_claim 42 = .ok (.bipush (-4), 2) := by decide +kernel
theorem dX6_claim_44 : decode cX6_claim 44 = .ok (.ireturn, 1) := by decide +kernel
theorem dX6_claim_45 : decode cX6_claim 45 = .ok (.aload_n 3, 1) := by decide +kernel
theorem dX6_claim_46 : decode cX6_claim 46 = .ok (.getfield 135, 3) := by decide +kernel
theorem dX6_claim_49 : decode cX6_claim 49 = .ok (.istore 4, 2) := by decide +kernel
theorem dX6_claim_51 : decode cX6_claim 51 = .ok (.iload 4, 2) := by decide +kernel
theorem dX6_claim_53 : decode cX6_claim 53 = .ok (.iload_n 2, 1) := by decide +kernel
theorem dX6_claim_54 : decode cX6_claim 54 = .ok (.if_icmp .ne 6, 3) := by decide +kernel
theorem dX6_claim_57 : decode cX6_claim 57 = .ok (.bipush (-5), 2) := by decide +kernel
theorem dX6_claim_59 : decode cX6_claim 59 = .ok (.ireturn, 1) := by decide +kernel
theorem dX6_claim_60 : decode cX6_claim 60 = .ok (.aload_n 0, 1) := by decide +kernel
theorem dX6_claim_61 : decode cX6_claim 61 = .ok (.getfield 22, 3) := by decide +kernel
theorem dX6_claim_64 : decode cX6_claim 64 = .ok (.aload_n 0, 1) := by decide +kernel
theorem dX6_claim_65 : decode cX6_claim 65 = .ok (.getfield 10, 3) := by decide +kernel
theorem dX6_claim_68 : decode cX6_claim 68 = .ok (.invokevirtual 57, 3) := by decide +kernel
theorem dX6_claim_71 : decode cX6_claim 71 = .ok (.aload_n 3, 1) := by decide +kernel
theorem dX6_claim_72 : decode cX6_claim 72 = .ok (.iload_n 2, 1) := by decide +kernel
theorem dX6_claim_73 : decode cX6_claim 73 = .ok (.putfield 135, 3) := by decide +kernel
theorem dX6_claim_76 : decode cX6_claim 76 = .ok (.iload 4, 2) := by decide +kernel
theorem dX6_claim_78 : decode cX6_claim 78 = .ok (.ireturn, 1) := by decide +kernel
theorem dX6_claimRent_0 : decode cX6_claimRent 0 = .ok (.aload_n 0, 1) := by decide +kernel
theorem dX6_claimRent_1 : decode cX6_claimRent 1 = .ok (.getfield 10, 3) := by decide +kernel
theorem dX6_claimRent_4 : decode cX6_claimRent 4 = .ok (.iload_n 1, 1) := by decide +kernel
theorem dX6_claimRent_5 : decode cX6_claimRent 5 = .ok (.invokevirtual 78, 3) := by decide +kernel
theorem dX6_claimRent_8 : decode cX6_claimRent 8 = .ok (.astore_n 3, 1) := by decide +kernel
theorem dX6_claimRent_9 : decode cX6_claimRent 9 = .ok (.aload_n 3, 1) := by decide +kernel
theorem dX6_claimRent_10 : decode cX6_claimRent 10 = .ok (.ifnonnull 5, 3) := by decide +kernel
theorem dX6_claimRent_13 : decode cX6_claimRent 13 = .ok (.iconst (-1), 1) := by decide +kernel
theorem dX6_claimRent_14 : decode cX6_claimRent 14 = .ok (.ireturn, 1) := by decide +kernel
theorem dX6_claimRent_15 : decode cX6_claimRent 15 = .ok (.iload_n 2, 1) := by decide +kernel
theorem dX6_claimRent_16 : decode cX6_claimRent 16 = .ok (.iconst 0, 1) := by decide +kernel
theorem dX6_claimRent_17 : decode cX6_claimRent 17 = .ok (.ldc 70, 2) := by decide +kernel
theorem dX6_claimRent_19 : decode cX6_claimRent 19 = .ok (.invokestatic 45, 3) := by decide +kernel
theorem dX6_claimRent_22 : decode cX6_claimRent 22 = .ok (.ifCond .eq 6, 3) := by decide +kernel
theorem dX6_claimRent_25 : decode cX6_claimRent 25 = .ok (.bipush (-2), 2) := by decide +kernel
theorem dX6_claimRent_27 : decode cX6_claimRent 27 = .ok (.ireturn, 1) := by decide +kernel
theorem dX6_claimRent_28 : decode cX6_claimRent 28 = .ok (.aload_n 3, 1) := by decide +kernel
theorem dX6_claimRent_29 : decode cX6_claimRent 29 = .ok (.getfield 83, 3) := by decide +kernel
theorem dX6_claimRent_32 : decode cX6_claimRent 32 = .ok (.iconst 1, 1) := by decide +kernel
theorem dX6_claimRent_33 : decode cX6_claimRent 33 = .ok (.if_icmp .eq 6, 3) := by decide +kernel
theorem dX6_claimRent_36 : decode cX6_claimRent 36 = .ok (.bipush (-4), 2) := by decide +kernel
theorem dX6_claimRent_38 : decode cX6_claimRent 38 = .ok (.ireturn, 1) := by decide +kernel
theorem dX6_claimRent_39 : decode cX6_claimRent 39 = .ok (.aload_n 3, 1) := by decide +kernel
theorem dX6_claimRent_40 : decode cX6_claimRent 40 = .ok (.getfield 138, 3) := by decide +kernel
theorem dX6_claimRent_43 : decode cX6_claimRent 43 = .ok (.istore 4, 2) := by decide +kernel
theorem dX6_claimRent_45 : decode cX6_claimRent 45 = .ok (.iload 4, 2) := by decide +kernel
theorem dX6_claimRent_47 : decode cX6_claimRent 47 = .ok (.iload_n 2, 1) := by decide +kernel
theorem dX6_claimRent_48 : decode cX6_claimRent 48 = .ok (.if_icmp .ne 6, 3) := by decide +kernel
theorem dX6_claimRent_51 : decode cX6_claimRent 51 = .ok (.bipush (-5), 2) := by decide +kernel
theorem dX6_claimRent_53 : decode cX6_claimRent 53 = .ok (.ireturn, 1) := by decide +kernel
theorem dX6_claimRent_54 : decode cX6_claimRent 54 = .ok (.aload_n 0, 1) := by decide +kernel
theorem dX6_claimRent_55 : decode cX6_claimRent 55 = .ok (.getfield 22, 3) := by decide +kernel
theorem dX6_claimRent_58 : decode cX6_claimRent 58 = .ok (.aload_n 0, 1) := by decide +kernel
theorem dX6_claimRent_59 : decode cX6_claimRent 59 = .ok (.getfield 10, 3) := by decide +kernel
theorem dX6_claimRent_62 : decode cX6_claimRent 62 = .ok (.invokevirtual 57, 3) := by decide +kernel
theorem dX6_claimRent_65 : decode cX6_claimRent 65 = .ok (.aload_n 3, 1) := by decide +kernel
theorem dX6_claimRent_66 : decode cX6_claimRent 66 = .ok (.iload_n 2, 1) := by decide +kernel
theorem dX6_claimRent_67 : decode cX6_claimRent 67 = .ok (.putfield 138, 3) := by decide +kernel
theorem dX6_claimRent_70 : decode cX6_claimRent 70 = .ok (.iload 4, 2) := by decide +kernel
theorem dX6_claimRent_72 : decode cX6_claimRent 72 = .ok (.ireturn, 1) := by decide +kernel
theorem dX6_put_0 : decode cX6_put 0 = .ok (.aload_n 0, 1) := by decide +kernel
theorem dX6_put_1 : decode cX6_put 1 = .ok (.getfield 10, 3) := by decide +kernel
theorem dX6_put_4 : decode cX6_put 4 = .ok (.iload_n 1, 1) := by decide +kernel
theorem dX6_put_5 : decode cX6_put 5 = .ok (.invokevirtual 78, 3) := by decide +kernel
theorem dX6_put_8 : decode cX6_put 8 = .ok (.astore_n 2, 1) := by decide +kernel
theorem dX6_put_9 : decode cX6_put 9 = .ok (.aload_n 2, 1) := by decide +kernel
theorem dX6_put_10 : decode cX6_put 10 = .ok (.ifnonnull 5, 3) := by decide +kernel
theorem dX6_put_13 : decode cX6_put 13 = .ok (.iconst (-1), 1) := by decide +kernel
theorem dX6_put_14 : decode cX6_put 14 = .ok (.ireturn, 1) := by decide +kernel
theorem dX6_put_15 : decode cX6_put 15 = .ok (.aload_n 2, 1) := by decide +kernel
theorem dX6_put_16 : decode cX6_put 16 = .ok (.getfield 83, 3) := by decide +kernel
theorem dX6_put_19 : decode cX6_put 19 = .ok (.iconst 1, 1) := by decide +kernel
theorem dX6_put_20 : decode cX6_put 20 = .ok (.if_icmp .eq 6, 3) := by decide +kernel
theorem dX6_put_23 : decode cX6_put 23 = .ok (.bipush (-4), 2) := by decide +kernel
theorem dX6_put_25 : decode cX6_put 25 = .ok (.ireturn, 1) := by decide +kernel
theorem dX6_put_26 : decode cX6_put 26 = .ok (.aload_n 0, 1) := by decide +kernel
theorem dX6_put_27 : decode cX6_put 27 = .ok (.getfield 22, 3) := by decide +kernel
theorem dX6_put_30 : decode cX6_put 30 = .ok (.aload_n 0, 1) := by decide +kernel
theorem dX6_put_31 : decode cX6_put 31 = .ok (.getfield 10, 3) := by decide +kernel
theorem dX6_put_34 : decode cX6_put 34 = .ok (.invokevirtual 57, 3) := by decide +kernel
theorem dX6_put_37 : decode cX6_put 37 = .ok (.aload_n 2, 1) := by decide +kernel
theorem dX6_put_38 : decode cX6_put 38 = .ok (.iconst 2, 1) := by decide +kernel
theorem dX6_put_39 : decode cX6_put 39 = .ok (.putfield 83, 3) := by decide +kernel
theorem dX6_put_42 : decode cX6_put 42 = .ok (.aload_n 0, 1) := by decide +kernel
theorem dX6_put_43 : decode cX6_put 43 = .ok (.getfield 10, 3) := by decide +kernel
theorem dX6_put_46 : decode cX6_put 46 = .ok (.iload_n 1, 1) := by decide +kernel
theorem dX6_put_47 : decode cX6_put 47 = .ok (.iconst 1, 1) := by decide +kernel
theorem dX6_put_48 : decode cX6_put 48 = .ok (.invokevirtual 141, 3) := by decide +kernel
theorem dX6_put_51 : decode cX6_put 51 = .ok (.ireturn, 1) := by decide +kernel
theorem dX6_answer_0 : decode cX6_answer 0 = .ok (.aload_n 0, 1) := by decide +kernel
theorem dX6_answer_1 : decode cX6_answer 1 = .ok (.getfield 10, 3) := by decide +kernel
theorem dX6_answer_4 : decode cX6_answer 4 = .ok (.iload_n 1, 1) := by decide +kernel
theorem dX6_answer_5 : decode cX6_answer 5 = .ok (.invokevirtual 109, 3) := by decide +kernel
theorem dX6_answer_8 : decode cX6_answer 8 = .ok (.astore_n 3, 1) := by decide +kernel
theorem dX6_answer_9 : decode cX6_answer 9 = .ok (.aload_n 3, 1) := by decide +kernel
theorem dX6_answer_10 : decode cX6_answer 10 = .ok (.ifnonnull 5, 3) := by decide +kernel
theorem dX6_answer_13 : decode cX6_answer 13 = .ok (.iconst (-1), 1) := by decide +kernel
theorem dX6_answer_14 : decode cX6_answer 14 = .ok (.ireturn, 1) := by decide +kernel
theorem dX6_answer_15 : decode cX6_answer 15 = .ok (.aload_n 0, 1) := by decide +kernel
theorem dX6_answer_16 : decode cX6_answer 16 = .ok (.getfield 10, 3) := by decide +kernel
theorem dX6_answer_19 : decode cX6_answer 19 = .ok (.aload_n 3, 1) := by decide +kernel
theorem dX6_answer_20 : decode cX6_answer 20 = .ok (.invokevirtual 145, 3) := by decide +kernel
theorem dX6_answer_23 : decode cX6_answer 23 = .ok (.ifCond .ne 6, 3) := by decide +kernel
theorem dX6_answer_26 : decode cX6_answer 26 = .ok (.bipush (-4), 2) := by decide +kernel
theorem dX6_answer_28 : decode cX6_answer 28 = .ok (.ireturn, 1) := by decide +kernel
theorem dX6_answer_29 : decode cX6_answer 29 = .ok (.aload_n 3, 1) := by decide +kernel
theorem dX6_answer_30 : decode cX6_answer 30 = .ok (.getfield 149, 3) := by decide +kernel
theorem dX6_answer_33 : decode cX6_answer 33 = .ok (.istore 4, 2) := by decide +kernel
theorem dX6_answer_35 : decode cX6_answer 35 = .ok (.iload_n 2, 1) := by decide +kernel
theorem dX6_answer_36 : decode cX6_answer 36 = .ok (.ifCond .eq 7, 3) := by decide +kernel
theorem dX6_answer_39 : decode cX6_answer 39 = .ok (.iconst 1, 1) := by decide +kernel
theorem dX6_answer_40 : decode cX6_answer 40 = .ok (.goto 4, 3) := by decide +kernel
theorem dX6_answer_43 : decode cX6_answer 43 = .ok (.iconst 2, 1) := by decide +kernel
theorem dX6_answer_44 : decode cX6_answer 44 = .ok (.istore 5, 2) := by decide +kernel
theorem dX6_answer_46 : decode cX6_answer 46 = .ok (.iload 4, 2) := by decide +kernel
theorem dX6_answer_48 : decode cX6_answer 48 = .ok (.iload 5, 2) := by decide +kernel
theorem dX6_answer_50 : decode cX6_answer 50 = .ok (.if_icmp .ne 6, 3) := by decide +kernel
theorem dX6_answer_53 : decode cX6_answer 53 = .ok (.bipush (-5), 2) := by decide +kernel
theorem dX6_answer_55 : decode cX6_answer 55 = .ok (.ireturn, 1) := by decide +kernel
theorem dX6_answer_56 : decode cX6_answer 56 = .ok (.aload_n 0, 1) := by decide +kernel
theorem dX6_answer_57 : decode cX6_answer 57 = .ok (.getfield 22, 3) := by decide +kernel
theorem dX6_answer_60 : decode cX6_answer 60 = .ok (.aload_n 0, 1) := by decide +kernel
theorem dX6_answer_61 : decode cX6_answer 61 = .ok (.getfield 10, 3) := by decide +kernel
theorem dX6_answer_64 : decode cX6_answer 64 = .ok (.invokevirtual 57, 3) := by decide +kernel
theorem dX6_answer_67 : decode cX6_answer 67 = .ok (.aload_n 3, 1) := by decide +kernel
theorem dX6_answer_68 : decode cX6_answer 68 = .ok (.iload 5, 2) := by decide +kernel
theorem dX6_answer_70 : decode cX6_answer 70 = .ok (.putfield 149, 3) := by decide +kernel
theorem dX6_answer_73 : decode cX6_answer 73 = .ok (.iload 4, 2) := by decide +kernel
theorem dX6_answer_75 : decode cX6_answer 75 = .ok (.ireturn, 1) := by decide +kernel
theorem dX6_setEvidence_0 : decode cX6_setEvidence 0 = .ok (.aload_n 0, 1) := by decide +kernel
theorem dX6_setEvidence_1 : decode cX6_setEvidence 1 = .ok (.getfield 10, 3) := by decide +kernel
theorem dX6_setEvidence_4 : decode cX6_setEvidence 4 = .ok (.iload_n 1, 1) := by decide +kernel
theorem dX6_setEvidence_5 : decode cX6_setEvidence 5 = .ok (.invokevirtual 109, 3) := by decide +kernel
theorem dX6_setEvidence_8 : decode cX6_setEvidence 8 = .ok (.astore 4, 2) := by decide +kernel
theorem dX6_setEvidence_10 : decode cX6_setEvidence 10 = .ok (.aload 4, 2) := by decide +kernel
theorem dX6_setEvidence_12 : decode cX6_setEvidence 12 = .ok (.ifnonnull 5, 3) := by decide +kernel
theorem dX6_setEvidence_15 : decode cX6_setEvidence 15 = .ok (.iconst (-1), 1) := by decide +kernel
theorem dX6_setEvidence_16 : decode cX6_setEvidence 16 = .ok (.ireturn, 1) := by decide +kernel
theorem dX6_setEvidence_17 : decode cX6_setEvidence 17 = .ok (.iload_n 2, 1) := by decide +kernel
theorem dX6_setEvidence_18 : decode cX6_setEvidence 18 = .ok (.iconst 0, 1) := by decide +kernel
theorem dX6_setEvidence_19 : decode cX6_setEvidence 19 = .ok (.bipush 10, 2) := by decide +kernel
theorem dX6_setEvidence_21 : decode cX6_setEvidence 21 = .ok (.invokestatic 45, 3) := by decide +kernel
theorem dX6_setEvidence_24 : decode cX6_setEvidence 24 = .ok (.ifCond .ne 13, 3) := by decide +kernel
theorem dX6_setEvidence_27 : decode cX6_setEvidence 27 = .ok (.iload_n 3, 1) := by decide +kernel
theorem dX6_setEvidence_28 : decode cX6_setEvidence 28 = .ok (.iconst 0, 1) := by decide +kernel
theorem dX6_setEvidence_29 : decode cX6_setEvidence 29 = .ok (.bipush 10, 2) := by decide +kernel
theorem dX6_setEvidence_31 : decode cX6_setEvidence 31 = .ok (.invokestatic 45, 3) := by decide +kernel
theorem dX6_setEvidence_34 : decode cX6_setEvidence 34 = .ok (.ifCond .eq 6, 3) := by decide +kernel
theorem dX6_setEvidence_37 : decode cX6_setEvidence 37 = .ok (.bipush (-2), 2) := by decide +kernel
theorem dX6_setEvidence_39 : decode cX6_setEvidence 39 = .ok (.ireturn, 1) := by decide +kernel
theorem dX6_setEvidence_40 : decode cX6_setEvidence 40 = .ok (.aload_n 0, 1) := by decide +kernel
theorem dX6_setEvidence_41 : decode cX6_setEvidence 41 = .ok (.getfield 10, 3) := by decide +kernel
theorem dX6_setEvidence_44 : decode cX6_setEvidence 44 = .ok (.aload 4, 2) := by decide +kernel
theorem dX6_setEvidence_46 : decode cX6_setEvidence 46 = .ok (.invokevirtual 113, 3) := by decide +kernel
theorem dX6_setEvidence_49 : decode cX6_setEvidence 49 = .ok (.istore 5, 2) := by decide +kernel
theorem dX6_setEvidence_51 : decode cX6_setEvidence 51 = .ok (.iload 5, 2) := by decide +kernel
theorem dX6_setEvidence_53 : decode cX6_setEvidence 53 = .ok (.iconst 1, 1) := by decide +kernel
theorem dX6_setEvidence_54 : decode cX6_setEvidence 54 = .ok (.if_icmp .eq 12, 3) := by decide +kernel
theorem dX6_setEvidence_57 : decode cX6_setEvidence 57 = .ok (.iload 5, 2) := by decide +kernel
theorem dX6_setEvidence_59 : decode cX6_setEvidence 59 = .ok (.iconst 2, 1) := by decide +kernel
theorem dX6_setEvidence_60 : decode cX6_setEvidence 60 = .ok (.if_icmp .eq 6, 3) := by decide +kernel
theorem dX6_setEvidence_63 : decode cX6_setEvidence 63 = .ok (.bipush (-4), 2) := by decide +kernel
theorem dX6_setEvidence_65 : decode cX6_setEvidence 65 = .ok (.ireturn, 1) := by decide +kernel
theorem dX6_setEvidence_66 : decode cX6_setEvidence 66 = .ok (.aload_n 0, 1) := by decide +kernel
theorem dX6_setEvidence_67 : decode cX6_setEvidence 67 = .ok (.getfield 22, 3) := by decide +kernel
theorem dX6_setEvidence_70 : decode cX6_setEvidence 70 = .ok (.aload_n 0, 1) := by decide +kernel
theorem dX6_setEvidence_71 : decode cX6_setEvidence 71 = .ok (.getfield 10, 3) := by decide +kernel
theorem dX6_setEvidence_74 : decode cX6_setEvidence 74 = .ok (.invokevirtual 57, 3) := by decide +kernel
theorem dX6_setEvidence_77 : decode cX6_setEvidence 77 = .ok (.aload 4, 2) := by decide +kernel
theorem dX6_setEvidence_79 : decode cX6_setEvidence 79 = .ok (.iload_n 2, 1) := by decide +kernel
theorem dX6_setEvidence_80 : decode cX6_setEvidence 80 = .ok (.putfield 172, 3) := by decide +kernel
theorem dX6_setEvidence_83 : decode cX6_setEvidence 83 = .ok (.aload 4, 2) := by decide +kernel
theorem dX6_setEvidence_85 : decode cX6_setEvidence 85 = .ok (.iload_n 3, 1) := by decide +kernel
theorem dX6_setEvidence_86 : decode cX6_setEvidence 86 = .ok (.putfield 175, 3) := by decide +kernel
theorem dX6_setEvidence_89 : decode cX6_setEvidence 89 = .ok (.aload 4, 2) := by decide +kernel
theorem dX6_setEvidence_91 : decode cX6_setEvidence 91 = .ok (.invokevirtual 178, 3) := by decide +kernel
theorem dX6_setEvidence_94 : decode cX6_setEvidence 94 = .ok (.ireturn, 1) := by decide +kernel
theorem dX6_close_0 : decode cX6_close 0 = .ok (.aload_n 0, 1) := by decide +kernel
theorem dX6_close_1 : decode cX6_close 1 = .ok (.getfield 10, 3) := by decide +kernel
theorem dX6_close_4 : decode cX6_close 4 = .ok (.iload_n 1, 1) := by decide +kernel
theorem dX6_close_5 : decode cX6_close 5 = .ok (.invokevirtual 78, 3) := by decide +kernel
theorem dX6_close_8 : decode cX6_close 8 = .ok (.astore_n 2, 1) := by decide +kernel
theorem dX6_close_9 : decode cX6_close 9 = .ok (.aload_n 2, 1) := by decide +kernel
theorem dX6_close_10 : decode cX6_close 10 = .ok (.ifnonnull 5, 3) := by decide +kernel
theorem dX6_close_13 : decode cX6_close 13 = .ok (.iconst (-1), 1) := by decide +kernel
theorem dX6_close_14 : decode cX6_close 14 = .ok (.ireturn, 1) := by decide +kernel
theorem dX6_close_15 : decode cX6_close 15 = .ok (.aload_n 2, 1) := by decide +kernel
theorem dX6_close_16 : decode cX6_close 16 = .ok (.getfield 83, 3) := by decide +kernel
theorem dX6_close_19 : decode cX6_close 19 = .ok (.iconst 2, 1) := by decide +kernel
theorem dX6_close_20 : decode cX6_close 20 = .ok (.if_icmp .eq 6, 3) := by decide +kernel
theorem dX6_close_23 : decode cX6_close 23 = .ok (.bipush (-4), 2) := by decide +kernel
theorem dX6_close_25 : decode cX6_close 25 = .ok (.ireturn, 1) := by decide +kernel
theorem dX6_close_26 : decode cX6_close 26 = .ok (.aload_n 0, 1) := by decide +kernel
theorem dX6_close_27 : decode cX6_close 27 = .ok (.getfield 22, 3) := by decide +kernel
theorem dX6_close_30 : decode cX6_close 30 = .ok (.aload_n 0, 1) := by decide +kernel
theorem dX6_close_31 : decode cX6_close 31 = .ok (.getfield 10, 3) := by decide +kernel
theorem dX6_close_34 : decode cX6_close 34 = .ok (.invokevirtual 57, 3) := by decide +kernel
theorem dX6_close_37 : decode cX6_close 37 = .ok (.aload_n 0, 1) := by decide +kernel
theorem dX6_close_38 : decode cX6_close 38 = .ok (.getfield 10, 3) := by decide +kernel
theorem dX6_close_41 : decode cX6_close 41 = .ok (.iload_n 1, 1) := by decide +kernel
theorem dX6_close_42 : decode cX6_close 42 = .ok (.aload_n 2, 1) := by decide +kernel
theorem dX6_close_43 : decode cX6_close 43 = .ok (.aload_n 2, 1) := by decide +kernel
theorem dX6_close_44 : decode cX6_close 44 = .ok (.getfield 181, 3) := by decide +kernel
theorem dX6_close_47 : decode cX6_close 47 = .ok (.invokevirtual 184, 3) := by decide +kernel
theorem dX6_close_50 : decode cX6_close 50 = .ok (.aload_n 2, 1) := by decide +kernel
theorem dX6_close_51 : decode cX6_close 51 = .ok (.aload_n 0, 1) := by decide +kernel
theorem dX6_close_52 : decode cX6_close 52 = .ok (.getfield 10, 3) := by decide +kernel
theorem dX6_close_55 : decode cX6_close 55 = .ok (.aload_n 2, 1) := by decide +kernel
theorem dX6_close_56 : decode cX6_close 56 = .ok (.invokevirtual 188, 3) := by decide +kernel
theorem dX6_close_59 : decode cX6_close 59 = .ok (.putfield 191, 3) := by decide +kernel
theorem dX6_close_62 : decode cX6_close 62 = .ok (.aload_n 2, 1) := by decide +kernel
theorem dX6_close_63 : decode cX6_close 63 = .ok (.iconst 3, 1) := by decide +kernel
theorem dX6_close_64 : decode cX6_close 64 = .ok (.putfield 83, 3) := by decide +kernel
theorem dX6_close_67 : decode cX6_close 67 = .ok (.aload_n 2, 1) := by decide +kernel
theorem dX6_close_68 : decode cX6_close 68 = .ok (.getfield 181, 3) := by decide +kernel
theorem dX6_close_71 : decode cX6_close 71 = .ok (.getfield 194, 3) := by decide +kernel
theorem dX6_close_74 : decode cX6_close 74 = .ok (.ireturn, 1) := by decide +kernel
theorem dX6_undo_0 : decode cX6_undo 0 = .ok (.aload_n 0, 1) := by decide +kernel
theorem dX6_undo_1 : decode cX6_undo 1 = .ok (.getfield 22, 3) := by decide +kernel
theorem dX6_undo_4 : decode cX6_undo 4 = .ok (.invokevirtual 204, 3) := by decide +kernel
theorem dX6_undo_7 : decode cX6_undo 7 = .ok (.astore_n 1, 1) := by decide +kernel
theorem dX6_undo_8 : decode cX6_undo 8 = .ok (.aload_n 1, 1) := by decide +kernel
theorem dX6_undo_9 : decode cX6_undo 9 = .ok (.ifnonnull 6, 3) := by decide +kernel
theorem dX6_undo_12 : decode cX6_undo 12 = .ok (.bipush (-5), 2) := by decide +kernel
theorem dX6_undo_14 : decode cX6_undo 14 = .ok (.ireturn, 1) := by decide +kernel
theorem dX6_undo_15 : decode cX6_undo 15 = .ok (.aload_n 0, 1) := by decide +kernel
theorem dX6_undo_16 : decode cX6_undo 16 = .ok (.getfield 10, 3) := by decide +kernel
theorem dX6_undo_19 : decode cX6_undo 19 = .ok (.aload_n 1, 1) := by decide +kernel
theorem dX6_undo_20 : decode cX6_undo 20 = .ok (.invokevirtual 208, 3) := by decide +kernel
theorem dX6_undo_23 : decode cX6_undo 23 = .ok (.aload_n 0, 1) := by decide +kernel
theorem dX6_undo_24 : decode cX6_undo 24 = .ok (.getfield 22, 3) := by decide +kernel
theorem dX6_undo_27 : decode cX6_undo 27 = .ok (.dup, 1) := by decide +kernel
theorem dX6_undo_28 : decode cX6_undo 28 = .ok (.getfield 211, 3) := by decide +kernel
theorem dX6_undo_31 : decode cX6_undo 31 = .ok (.iconst 1, 1) := by decide +kernel
theorem dX6_undo_32 : decode cX6_undo 32 = .ok (.isub, 1) := by decide +kernel
theorem dX6_undo_33 : decode cX6_undo 33 = .ok (.putfield 211, 3) := by decide +kernel
theorem dX6_undo_36 : decode cX6_undo 36 = .ok (.aload_n 0, 1) := by decide +kernel
theorem dX6_undo_37 : decode cX6_undo 37 = .ok (.getfield 22, 3) := by decide +kernel
theorem dX6_undo_40 : decode cX6_undo 40 = .ok (.getfield 211, 3) := by decide +kernel
theorem dX6_undo_43 : decode cX6_undo 43 = .ok (.ireturn, 1) := by decide +kernel
theorem dX6_keep_0 : decode cX6_keep 0 = .ok (.aload_n 0, 1) := by decide +kernel
theorem dX6_keep_1 : decode cX6_keep 1 = .ok (.getfield 16, 3) := by decide +kernel
theorem dX6_keep_4 : decode cX6_keep 4 = .ok (.aload_n 0, 1) := by decide +kernel
theorem dX6_keep_5 : decode cX6_keep 5 = .ok (.getfield 10, 3) := by decide +kernel
theorem dX6_keep_8 : decode cX6_keep 8 = .ok (.invokevirtual 208, 3) := by decide +kernel
theorem dX6_keep_11 : decode cX6_keep 11 = .ok (.aload_n 0, 1) := by decide +kernel
theorem dX6_keep_12 : decode cX6_keep 12 = .ok (.iconst 1, 1) := by decide +kernel
theorem dX6_keep_13 : decode cX6_keep 13 = .ok (.putfield 40, 3) := by decide +kernel
theorem dX6_keep_16 : decode cX6_keep 16 = .ok (.aload_n 0, 1) := by decide +kernel
theorem dX6_keep_17 : decode cX6_keep 17 = .ok (.getfield 10, 3) := by decide +kernel
theorem dX6_keep_20 : decode cX6_keep 20 = .ok (.getfield 66, 3) := by decide +kernel
theorem dX6_keep_23 : decode cX6_keep 23 = .ok (.ireturn, 1) := by decide +kernel
theorem dX6_restore_0 : decode cX6_restore 0 = .ok (.aload_n 0, 1) := by decide +kernel
theorem dX6_restore_1 : decode cX6_restore 1 = .ok (.getfield 40, 3) := by decide +kernel
theorem dX6_restore_4 : decode cX6_restore 4 = .ok (.ifCond .ne 6, 3) := by decide +kernel
theorem dX6_restore_7 : decode cX6_restore 7 = .ok (.bipush (-5), 2) := by decide +kernel
theorem dX6_restore_9 : decode cX6_restore 9 = .ok (.ireturn, 1) := by decide +kernel
theorem dX6_restore_10 : decode cX6_restore 10 = .ok (.aload_n 0, 1) := by decide +kernel
theorem dX6_restore_11 : decode cX6_restore 11 = .ok (.getfield 22, 3) := by decide +kernel
theorem dX6_restore_14 : decode cX6_restore 14 = .ok (.aload_n 0, 1) := by decide +kernel
theorem dX6_restore_15 : decode cX6_restore 15 = .ok (.getfield 10, 3) := by decide +kernel
theorem dX6_restore_18 : decode cX6_restore 18 = .ok (.invokevirtual 57, 3) := by decide +kernel
theorem dX6_restore_21 : decode cX6_restore 21 = .ok (.aload_n 0, 1) := by decide +kernel
theorem dX6_restore_22 : decode cX6_restore 22 = .ok (.getfield 10, 3) := by decide +kernel
theorem dX6_restore_25 : decode cX6_restore 25 = .ok (.aload_n 0, 1) := by decide +kernel
theorem dX6_restore_26 : decode cX6_restore 26 = .ok (.getfield 16, 3) := by decide +kernel
theorem dX6_restore_29 : decode cX6_restore 29 = .ok (.invokevirtual 208, 3) := by decide +kernel
theorem dX6_restore_32 : decode cX6_restore 32 = .ok (.aload_n 0, 1) := by decide +kernel
theorem dX6_restore_33 : decode cX6_restore 33 = .ok (.getfield 10, 3) := by decide +kernel
theorem dX6_restore_36 : decode cX6_restore 36 = .ok (.getfield 66, 3) := by decide +kernel
theorem dX6_restore_39 : decode cX6_restore 39 = .ok (.ireturn, 1) := by decide +kernel
theorem dX6_rate_0 : decode cX6_rate 0 = .ok (.aload_n 0, 1) := by decide +kernel
theorem dX6_rate_1 : decode cX6_rate 1 = .ok (.getfield 10, 3) := by decide +kernel
theorem dX6_rate_4 : decode cX6_rate 4 = .ok (.getfield 53, 3) := by decide +kernel
theorem dX6_rate_7 : decode cX6_rate 7 = .ok (.freturn, 1) := by decide +kernel
theorem dX6_tenancy_0 : decode cX6_tenancy 0 = .ok (.aload_n 0, 1) := by decide +kernel
theorem dX6_tenancy_1 : decode cX6_tenancy 1 = .ok (.getfield 10, 3) := by decide +kernel
theorem dX6_tenancy_4 : decode cX6_tenancy 4 = .ok (.iload_n 1, 1) := by decide +kernel
theorem dX6_tenancy_5 : decode cX6_tenancy 5 = .ok (.invokevirtual 78, 3) := by decide +kernel
theorem dX6_tenancy_8 : decode cX6_tenancy 8 = .ok (.astore_n 3, 1) := by decide +kernel
theorem dX6_tenancy_9 : decode cX6_tenancy 9 = .ok (.aload_n 3, 1) := by decide +kernel
theorem dX6_tenancy_10 : decode cX6_tenancy 10 = .ok (.ifnonnull 5, 3) := by decide +kernel
theorem dX6_tenancy_13 : decode cX6_tenancy 13 = .ok (.iconst (-1), 1) := by decide +kernel
theorem dX6_tenancy_14 : decode cX6_tenancy 14 = .ok (.ireturn, 1) := by decide +kernel
theorem dX6_tenancy_15 : decode cX6_tenancy 15 = .ok (.iload_n 2, 1) := by decide +kernel
theorem dX6_tenancy_16 : decode cX6_tenancy 16 = .ok (.tableswitch 134 0 9 #[56, 61, 66, 71, 80, 89, 99, 104, 114, 124], 56) := by decide +kernel
theorem dX6_tenancy_72 : decode cX6_tenancy 72 = .ok (.aload_n 3, 1) := by decide +kernel
theorem dX6_tenancy_73 : decode cX6_tenancy 73 = .ok (.getfield 212, 3) := by decide +kernel
theorem dX6_tenancy_76 : decode cX6_tenancy 76 = .ok (.ireturn, 1) := by decide +kernel
theorem dX6_tenancy_77 : decode cX6_tenancy 77 = .ok (.aload_n 3, 1) := by decide +kernel
theorem dX6_tenancy_78 : decode cX6_tenancy 78 = .ok (.getfield 88, 3) := by decide +kernel
theorem dX6_tenancy_81 : decode cX6_tenancy 81 = .ok (.ireturn, 1) := by decide +kernel
theorem dX6_tenancy_82 : decode cX6_tenancy 82 = .ok (.aload_n 3, 1) := by decide +kernel
theorem dX6_tenancy_83 : decode cX6_tenancy 83 = .ok (.getfield 83, 3) := by decide +kernel
theorem dX6_tenancy_86 : decode cX6_tenancy 86 = .ok (.ireturn, 1) := by decide +kernel
theorem dX6_tenancy_87 : decode cX6_tenancy 87 = .ok (.aload_n 0, 1) := by decide +kernel
theorem dX6_tenancy_88 : decode cX6_tenancy 88 = .ok (.getfield 10, 3) := by decide +kernel
theorem dX6_tenancy_91 : decode cX6_tenancy 91 = .ok (.aload_n 3, 1) := by decide +kernel
theorem dX6_tenancy_92 : decode cX6_tenancy 92 = .ok (.invokevirtual 105, 3) := by decide +kernel
theorem dX6_tenancy_95 : decode cX6_tenancy 95 = .ok (.ireturn, 1) := by decide +kernel
theorem dX6_tenancy_96 : decode cX6_tenancy 96 = .ok (.aload_n 0, 1) := by decide +kernel
theorem dX6_tenancy_97 : decode cX6_tenancy 97 = .ok (.getfield 10, 3) := by decide +kernel
theorem dX6_tenancy_100 : decode cX6_tenancy 100 = .ok (.aload_n 3, 1) := by decide +kernel
theorem dX6_tenancy_101 : decode cX6_tenancy 101 = .ok (.invokevirtual 188, 3) := by decide +kernel
theorem dX6_tenancy_104 : decode cX6_tenancy 104 = .ok (.ireturn, 1) := by decide +kernel
theorem dX6_tenancy_105 : decode cX6_tenancy 105 = .ok (.aload_n 0, 1) := by decide +kernel
theorem dX6_tenancy_106 : decode cX6_tenancy 106 = .ok (.getfield 10, 3) := by decide +kernel
theorem dX6_tenancy_109 : decode cX6_tenancy 109 = .ok (.iload_n 1, 1) := by decide +kernel
theorem dX6_tenancy_110 : decode cX6_tenancy 110 = .ok (.iconst 0, 1) := by decide +kernel
theorem dX6_tenancy_111 : decode cX6_tenancy 111 = .ok (.invokevirtual 141, 3) := by decide +kernel
theorem dX6_tenancy_114 : decode cX6_tenancy 114 = .ok (.ireturn, 1) := by decide +kernel
theorem dX6_tenancy_115 : decode cX6_tenancy 115 = .ok (.aload_n 3, 1) := by decide +kernel
theorem dX6_tenancy_116 : decode cX6_tenancy 116 = .ok (.getfield 138, 3) := by decide +kernel
theorem dX6_tenancy_119 : decode cX6_tenancy 119 = .ok (.ireturn, 1) := by decide +kernel
theorem dX6_tenancy_120 : decode cX6_tenancy 120 = .ok (.aload_n 0, 1) := by decide +kernel
theorem dX6_tenancy_121 : decode cX6_tenancy 121 = .ok (.getfield 10, 3) := by decide +kernel
theorem dX6_tenancy_124 : decode cX6_tenancy 124 = .ok (.iload_n 1, 1) := by decide +kernel
theorem dX6_tenancy_125 : decode cX6_tenancy 125 = .ok (.iconst 2, 1) := by decide +kernel
theorem dX6_tenancy_126 : decode cX6_tenancy 126 = .ok (.invokevirtual 141, 3) := by decide +kernel
theorem dX6_tenancy_129 : decode cX6_tenancy 129 = .ok (.ireturn, 1) := by decide +kernel
theorem dX6_tenancy_130 : decode cX6_tenancy 130 = .ok (.aload_n 0, 1) := by decide +kernel
theorem dX6_tenancy_131 : decode cX6_tenancy 131 = .ok (.getfield 10, 3) := by decide +kernel
theorem dX6_tenancy_134 : decode cX6_tenancy 134 = .ok (.iload_n 1, 1) := by decide +kernel
theorem dX6_tenancy_135 : decode cX6_tenancy 135 = .ok (.iconst 3, 1) := by decide +kernel
theorem dX6_tenancy_136 : decode cX6_tenancy 136 = .ok (.invokevirtual 141, 3) := by decide +kernel
theorem dX6_tenancy_139 : decode cX6_tenancy 139 = .ok (.ireturn, 1) := by decide +kernel
theorem dX6_tenancy_140 : decode cX6_tenancy 140 = .ok (.aload_n 0, 1) := by decide +kernel
theorem dX6_tenancy_141 : decode cX6_tenancy 141 = .ok (.getfield 10, 3) := by decide +kernel
theorem dX6_tenancy_144 : decode cX6_tenancy 144 = .ok (.iload_n 1, 1) := by decide +kernel
theorem dX6_tenancy_145 : decode cX6_tenancy 145 = .ok (.iconst 4, 1) := by decide +kernel
theorem dX6_tenancy_146 : decode cX6_tenancy 146 = .ok (.invokevirtual 141, 3) := by decide +kernel
theorem dX6_tenancy_149 : decode cX6_tenancy 149 = .ok (.ireturn, 1) := by decide +kernel
theorem dX6_tenancy_150 : decode cX6_tenancy 150 = .ok (.bipush (-2), 2) := by decide +kernel
theorem dX6_tenancy_152 : decode cX6_tenancy 152 = .ok (.ireturn, 1) := by decide +kernel
theorem dX6_item_0 : decode cX6_item 0 = .ok (.aload_n 0, 1) := by decide +kernel
theorem dX6_item_1 : decode cX6_item 1 = .ok (.getfield 10, 3) := by decide +kernel
theorem dX6_item_4 : decode cX6_item 4 = .ok (.iload_n 1, 1) := by decide +kernel
theorem dX6_item_5 : decode cX6_item 5 = .ok (.invokevirtual 109, 3) := by decide +kernel
theorem dX6_item_8 : decode cX6_item 8 = .ok (.astore_n 3, 1) := by decide +kernel
theorem dX6_item_9 : decode cX6_item 9 = .ok (.aload_n 3, 1) := by decide +kernel
theorem dX6_item_10 : decode cX6_item 10 = .ok (.ifnonnull 5, 3) := by decide +kernel
theorem dX6_item_13 : decode cX6_item 13 = .ok (.iconst (-1), 1) := by decide +kernel
theorem dX6_item_14 : decode cX6_item 14 = .ok (.ireturn, 1) := by decide +kernel
theorem dX6_item_15 : decode cX6_item 15 = .ok (.iload_n 2, 1) := by decide +kernel
theorem dX6_item_16 : decode cX6_item 16 = .ok (.tableswitch 123 0 10 #[60, 65, 70, 75, 88, 88, 88, 95, 100, 105, 110], 60) := by decide +kernel
theorem dX6_item_76 : decode cX6_item 76 = .ok (.aload_n 3, 1) := by decide +kernel
theorem dX6_item_77 : decode cX6_item 77 = .ok (.getfield 215, 3) := by decide +kernel
theorem dX6_item_80 : decode cX6_item 80 = .ok (.ireturn, 1) := by decide +kernel
theorem dX6_item_81 : decode cX6_item 81 = .ok (.aload_n 3, 1) := by decide +kernel
theorem dX6_item_82 : decode cX6_item 82 = .ok (.getfield 132, 3) := by decide +kernel
theorem dX6_item_85 : decode cX6_item 85 = .ok (.ireturn, 1) := by decide +kernel
theorem dX6_item_86 : decode cX6_item 86 = .ok (.aload_n 3, 1) := by decide +kernel
theorem dX6_item_87 : decode cX6_item 87 = .ok (.getfield 218, 3) := by decide +kernel
theorem dX6_item_90 : decode cX6_item 90 = .ok (.ireturn, 1) := by decide +kernel
theorem dX6_item_91 : decode cX6_item 91 = .ok (.aload_n 3, 1) := by decide +kernel
theorem dX6_item_92 : decode cX6_item 92 = .ok (.aload_n 0, 1) := by decide +kernel
theorem dX6_item_93 : decode cX6_item 93 = .ok (.getfield 10, 3) := by decide +kernel
theorem dX6_item_96 : decode cX6_item 96 = .ok (.aload_n 3, 1) := by decide +kernel
theorem dX6_item_97 : decode cX6_item 97 = .ok (.invokevirtual 122, 3) := by decide +kernel
theorem dX6_item_100 : decode cX6_item 100 = .ok (.invokevirtual 221, 3) := by decide +kernel
theorem dX6_item_103 : decode cX6_item 103 = .ok (.ireturn, 1) := by decide +kernel
theorem dX6_item_104 : decode cX6_item 104 = .ok (.aload_n 0, 1) := by decide +kernel
theorem dX6_item_105 : decode cX6_item 105 = .ok (.aload_n 3, 1) := by decide +kernel
theorem dX6_item_106 : decode cX6_item 106 = .ok (.iload_n 2, 1) := by decide +kernel
theorem dX6_item_107 : decode cX6_item 107 = .ok (.invokevirtual 224, 3) := by decide +kernel
theorem dX6_item_110 : decode cX6_item 110 = .ok (.ireturn, 1) := by decide +kernel
theorem dX6_item_111 : decode cX6_item 111 = .ok (.aload_n 3, 1) := by decide +kernel
theorem dX6_item_112 : decode cX6_item 112 = .ok (.getfield 135, 3) := by decide +kernel
theorem dX6_item_115 : decode cX6_item 115 = .ok (.ireturn, 1) := by decide +kernel
theorem dX6_item_116 : decode cX6_item 116 = .ok (.aload_n 3, 1) := by decide +kernel
theorem dX6_item_117 : decode cX6_item 117 = .ok (.getfield 149, 3) := by decide +kernel
theorem dX6_item_120 : decode cX6_item 120 = .ok (.ireturn, 1) := by decide +kernel
theorem dX6_item_121 : decode cX6_item 121 = .ok (.aload_n 3, 1) := by decide +kernel
theorem dX6_item_122 : decode cX6_item 122 = .ok (.invokevirtual 178, 3) := by decide +kernel
theorem dX6_item_125 : decode cX6_item 125 = .ok (.ireturn, 1) := by decide +kernel
theorem dX6_item_126 : decode cX6_item 126 = .ok (.aload_n 3, 1) := by decide +kernel
theorem dX6_item_127 : decode cX6_item 127 = .ok (.aload_n 0, 1) := by decide +kernel
theorem dX6_item_128 : decode cX6_item 128 = .ok (.getfield 10, 3) := by decide +kernel
theorem dX6_item_131 : decode cX6_item 131 = .ok (.aload_n 3, 1) := by decide +kernel
theorem dX6_item_132 : decode cX6_item 132 = .ok (.invokevirtual 122, 3) := by decide +kernel
theorem dX6_item_135 : decode cX6_item 135 = .ok (.invokevirtual 228, 3) := by decide +kernel
theorem dX6_item_138 : decode cX6_item 138 = .ok (.ireturn, 1) := by decide +kernel
theorem dX6_item_139 : decode cX6_item 139 = .ok (.bipush (-2), 2) := by decide +kernel
theorem dX6_item_141 : decode cX6_item 141 = .ok (.ireturn, 1) := by decide +kernel
theorem dX6_rest_0 : decode cX6_rest 0 = .ok (.aload_n 0, 1) := by decide +kernel
theorem dX6_rest_1 : decode cX6_rest 1 = .ok (.getfield 10, 3) := by decide +kernel
theorem dX6_rest_4 : decode cX6_rest 4 = .ok (.iload_n 1, 1) := by decide +kernel
theorem dX6_rest_5 : decode cX6_rest 5 = .ok (.invokevirtual 109, 3) := by decide +kernel
theorem dX6_rest_8 : decode cX6_rest 8 = .ok (.astore_n 2, 1) := by decide +kernel
theorem dX6_rest_9 : decode cX6_rest 9 = .ok (.aload_n 2, 1) := by decide +kernel
theorem dX6_rest_10 : decode cX6_rest 10 = .ok (.ifnonnull 6, 3) := by decide +kernel
theorem dX6_rest_13 : decode cX6_rest 13 = .ok (.ldc 231, 2) := by decide +kernel
theorem dX6_rest_15 : decode cX6_rest 15 = .ok (.freturn, 1) := by decide +kernel
theorem dX6_rest_16 : decode cX6_rest 16 = .ok (.aload_n 2, 1) := by decide +kernel
theorem dX6_rest_17 : decode cX6_rest 17 = .ok (.aload_n 0, 1) := by decide +kernel
theorem dX6_rest_18 : decode cX6_rest 18 = .ok (.getfield 10, 3) := by decide +kernel
theorem dX6_rest_21 : decode cX6_rest 21 = .ok (.aload_n 2, 1) := by decide +kernel
theorem dX6_rest_22 : decode cX6_rest 22 = .ok (.invokevirtual 122, 3) := by decide +kernel
theorem dX6_rest_25 : decode cX6_rest 25 = .ok (.invokevirtual 232, 3) := by decide +kernel
theorem dX6_rest_28 : decode cX6_rest 28 = .ok (.freturn, 1) := by decide +kernel
theorem dX6_weight_0 : decode cX6_weight 0 = .ok (.aload_n 0, 1) := by decide +kernel
theorem dX6_weight_1 : decode cX6_weight 1 = .ok (.getfield 10, 3) := by decide +kernel
theorem dX6_weight_4 : decode cX6_weight 4 = .ok (.iload_n 1, 1) := by decide +kernel
theorem dX6_weight_5 : decode cX6_weight 5 = .ok (.invokevirtual 109, 3) := by decide +kernel
theorem dX6_weight_8 : decode cX6_weight 8 = .ok (.astore_n 2, 1) := by decide +kernel
theorem dX6_weight_9 : decode cX6_weight 9 = .ok (.aload_n 2, 1) := by decide +kernel
theorem dX6_weight_10 : decode cX6_weight 10 = .ok (.ifnonnull 6, 3) := by decide +kernel
theorem dX6_weight_13 : decode cX6_weight 13 = .ok (.ldc 231, 2) := by decide +kernel
theorem dX6_weight_15 : decode cX6_weight 15 = .ok (.freturn, 1) := by decide +kernel
theorem dX6_weight_16 : decode cX6_weight 16 = .ok (.aload_n 2, 1) := by decide +kernel
theorem dX6_weight_17 : decode cX6_weight 17 = .ok (.invokevirtual 235, 3) := by decide +kernel
theorem dX6_weight_20 : decode cX6_weight 20 = .ok (.freturn, 1) := by decide +kernel
theorem dX6_reason_0 : decode cX6_reason 0 = .ok (.aload_n 0, 1) := by decide +kernel
theorem dX6_reason_1 : decode cX6_reason 1 = .ok (.getfield 10, 3) := by decide +kernel
theorem dX6_reason_4 : decode cX6_reason 4 = .ok (.iload_n 1, 1) := by decide +kernel
theorem dX6_reason_5 : decode cX6_reason 5 = .ok (.invokevirtual 109, 3) := by decide +kernel
theorem dX6_reason_8 : decode cX6_reason 8 = .ok (.astore_n 2, 1) := by decide +kernel
theorem dX6_reason_9 : decode cX6_reason 9 = .ok (.aload_n 2, 1) := by decide +kernel
theorem dX6_reason_10 : decode cX6_reason 10 = .ok (.ifnonnull 5, 3) := by decide +kernel
theorem dX6_reason_13 : decode cX6_reason 13 = .ok (.iconst (-1), 1) := by decide +kernel
theorem dX6_reason_14 : decode cX6_reason 14 = .ok (.ireturn, 1) := by decide +kernel
theorem dX6_reason_15 : decode cX6_reason 15 = .ok (.aload_n 2, 1) := by decide +kernel
theorem dX6_reason_16 : decode cX6_reason 16 = .ok (.getfield 135, 3) := by decide +kernel
theorem dX6_reason_19 : decode cX6_reason 19 = .ok (.ifCond .ne 5, 3) := by decide +kernel
theorem dX6_reason_22 : decode cX6_reason 22 = .ok (.iconst 0, 1) := by decide +kernel
theorem dX6_reason_23 : decode cX6_reason 23 = .ok (.ireturn, 1) := by decide +kernel
theorem dX6_reason_24 : decode cX6_reason 24 = .ok (.aload_n 2, 1) := by decide +kernel
theorem dX6_reason_25 : decode cX6_reason 25 = .ok (.getfield 149, 3) := by decide +kernel
theorem dX6_reason_28 : decode cX6_reason 28 = .ok (.iconst 2, 1) := by decide +kernel
theorem dX6_reason_29 : decode cX6_reason 29 = .ok (.if_icmp .eq 5, 3) := by decide +kernel
theorem dX6_reason_32 : decode cX6_reason 32 = .ok (.iconst 1, 1) := by decide +kernel
theorem dX6_reason_33 : decode cX6_reason 33 = .ok (.ireturn, 1) := by decide +kernel
theorem dX6_reason_34 : decode cX6_reason 34 = .ok (.aload_n 2, 1) := by decide +kernel
theorem dX6_reason_35 : decode cX6_reason 35 = .ok (.getfield 135, 3) := by decide +kernel
theorem dX6_reason_38 : decode cX6_reason 38 = .ok (.aload_n 2, 1) := by decide +kernel
theorem dX6_reason_39 : decode cX6_reason 39 = .ok (.getfield 129, 3) := by decide +kernel
theorem dX6_reason_42 : decode cX6_reason 42 = .ok (.if_icmp .gt 7, 3) := by decide +kernel
theorem dX6_reason_45 : decode cX6_reason 45 = .ok (.iconst 2, 1) := by decide +kernel
theorem dX6_reason_46 : decode cX6_reason 46 = .ok (.goto 4, 3) := by decide +kernel
theorem dX6_reason_49 : decode cX6_reason 49 = .ok (.iconst 3, 1) := by decide +kernel
theorem dX6_reason_50 : decode cX6_reason 50 = .ok (.ireturn, 1) := by decide +kernel
theorem dX6_outcome_0 : decode cX6_outcome 0 = .ok (.aload_n 0, 1) := by decide +kernel
theorem dX6_outcome_1 : decode cX6_outcome 1 = .ok (.getfield 10, 3) := by decide +kernel
theorem dX6_outcome_4 : decode cX6_outcome 4 = .ok (.iload_n 1, 1) := by decide +kernel
theorem dX6_outcome_5 : decode cX6_outcome 5 = .ok (.invokevirtual 78, 3) := by decide +kernel
theorem dX6_outcome_8 : decode cX6_outcome 8 = .ok (.astore_n 3, 1) := by decide +kernel
theorem dX6_outcome_9 : decode cX6_outcome 9 = .ok (.aload_n 3, 1) := by decide +kernel
theorem dX6_outcome_10 : decode cX6_outcome 10 = .ok (.ifnonnull 5, 3) := by decide +kernel
theorem dX6_outcome_13 : decode cX6_outcome 13 = .ok (.iconst (-1), 1) := by decide +kernel
theorem dX6_outcome_14 : decode cX6_outcome 14 = .ok (.ireturn, 1) := by decide +kernel
theorem dX6_outcome_15 : decode cX6_outcome 15 = .ok (.iload_n 2, 1) := by decide +kernel
theorem dX6_outcome_16 : decode cX6_outcome 16 = .ok (.iconst 0, 1) := by decide +kernel
theorem dX6_outcome_17 : decode cX6_outcome 17 = .ok (.iconst 5, 1) := by decide +kernel
theorem dX6_outcome_18 : decode cX6_outcome 18 = .ok (.invokestatic 45, 3) := by decide +kernel
theorem dX6_outcome_21 : decode cX6_outcome 21 = .ok (.ifCond .eq 6, 3) := by decide +kernel
theorem dX6_outcome_24 : decode cX6_outcome 24 = .ok (.bipush (-2), 2) := by decide +kernel
theorem dX6_outcome_26 : decode cX6_outcome 26 = .ok (.ireturn, 1) := by decide +kernel
theorem dX6_outcome_27 : decode cX6_outcome 27 = .ok (.aload_n 3, 1) := by decide +kernel
theorem dX6_outcome_28 : decode cX6_outcome 28 = .ok (.getfield 83, 3) := by decide +kernel
theorem dX6_outcome_31 : decode cX6_outcome 31 = .ok (.ifCond .ne 6, 3) := by decide +kernel
theorem dX6_outcome_34 : decode cX6_outcome 34 = .ok (.bipush (-4), 2) := by decide +kernel
theorem dX6_outcome_36 : decode cX6_outcome 36 = .ok (.ireturn, 1) := by decide +kernel
theorem dX6_outcome_37 : decode cX6_outcome 37 = .ok (.aload_n 3, 1) := by decide +kernel
theorem dX6_outcome_38 : decode cX6_outcome 38 = .ok (.getfield 83, 3) := by decide +kernel
theorem dX6_outcome_41 : decode cX6_outcome 41 = .ok (.iconst 3, 1) := by decide +kernel
theorem dX6_outcome_42 : decode cX6_outcome 42 = .ok (.if_icmp .ne 12, 3) := by decide +kernel
theorem dX6_outcome_45 : decode cX6_outcome 45 = .ok (.aload_n 3, 1) := by decide +kernel
theorem dX6_outcome_46 : decode cX6_outcome 46 = .ok (.getfield 181, 3) := by decide +kernel
theorem dX6_outcome_49 : decode cX6_outcome 49 = .ok (.iload_n 2, 1) := by decide +kernel
theorem dX6_outcome_50 : decode cX6_outcome 50 = .ok (.invokevirtual 239, 3) := by decide +kernel
theorem dX6_outcome_53 : decode cX6_outcome 53 = .ok (.ireturn, 1) := by decide +kernel
theorem dX6_outcome_54 : decode cX6_outcome 54 = .ok (.aload_n 0, 1) := by decide +kernel
theorem dX6_outcome_55 : decode cX6_outcome 55 = .ok (.getfield 10, 3) := by decide +kernel
theorem dX6_outcome_58 : decode cX6_outcome 58 = .ok (.iload_n 1, 1) := by decide +kernel
theorem dX6_outcome_59 : decode cX6_outcome 59 = .ok (.aload_n 3, 1) := by decide +kernel
theorem dX6_outcome_60 : decode cX6_outcome 60 = .ok (.aload_n 0, 1) := by decide +kernel
theorem dX6_outcome_61 : decode cX6_outcome 61 = .ok (.getfield 36, 3) := by decide +kernel
theorem dX6_outcome_64 : decode cX6_outcome 64 = .ok (.invokevirtual 184, 3) := by decide +kernel
theorem dX6_outcome_67 : decode cX6_outcome 67 = .ok (.aload_n 0, 1) := by decide +kernel
theorem dX6_outcome_68 : decode cX6_outcome 68 = .ok (.getfield 36, 3) := by decide +kernel
theorem dX6_outcome_71 : decode cX6_outcome 71 = .ok (.iload_n 2, 1) := by decide +kernel
theorem dX6_outcome_72 : decode cX6_outcome 72 = .ok (.invokevirtual 239, 3) := by decide +kernel
theorem dX6_outcome_75 : decode cX6_outcome 75 = .ok (.ireturn, 1) := by decide +kernel
theorem dX6_count_0 : decode cX6_count 0 = .ok (.iload_n 1, 1) := by decide +kernel
theorem dX6_count_1 : decode cX6_count 1 = .ok (.tableswitch 136 0 13 #[71, 79, 87, 87, 87, 87, 98, 106, 114, 114, 114, 114, 120, 128], 71) := by decide +kernel
theorem dX6_count_72 : decode cX6_count 72 = .ok (.aload_n 0, 1) := by decide +kernel
theorem dX6_count_73 : decode cX6_count 73 = .ok (.getfield 10, 3) := by decide +kernel
theorem dX6_count_76 : decode cX6_count 76 = .ok (.getfield 66, 3) := by decide +kernel
theorem dX6_count_79 : decode cX6_count 79 = .ok (.ireturn, 1) := by decide +kernel
theorem dX6_count_80 : decode cX6_count 80 = .ok (.aload_n 0, 1) := by decide +kernel
theorem dX6_count_81 : decode cX6_count 81 = .ok (.getfield 10, 3) := by decide +kernel
theorem dX6_count_84 : decode cX6_count 84 = .ok (.getfield 71, 3) := by decide +kernel
theorem dX6_count_87 : decode cX6_count 87 = .ok (.ireturn, 1) := by decide +kernel
theorem dX6_count_88 : decode cX6_count 88 = .ok (.aload_n 0, 1) := by decide +kernel
theorem dX6_count_89 : decode cX6_count 89 = .ok (.getfield 10, 3) := by decide +kernel
theorem dX6_count_92 : decode cX6_count 92 = .ok (.iload_n 1, 1) := by decide +kernel
theorem dX6_count_93 : decode cX6_count 93 = .ok (.iconst 2, 1) := by decide +kernel
theorem dX6_count_94 : decode cX6_count 94 = .ok (.isub, 1) := by decide +kernel
theorem dX6_count_95 : decode cX6_count 95 = .ok (.invokevirtual 245, 3) := by decide +kernel
theorem dX6_count_98 : decode cX6_count 98 = .ok (.ireturn, 1) := by decide +kernel
theorem dX6_count_99 : decode cX6_count 99 = .ok (.aload_n 0, 1) := by decide +kernel
theorem dX6_count_100 : decode cX6_count 100 = .ok (.getfield 10, 3) := by decide +kernel
theorem dX6_count_103 : decode cX6_count 103 = .ok (.getfield 91, 3) := by decide +kernel
theorem dX6_count_106 : decode cX6_count 106 = .ok (.ireturn, 1) := by decide +kernel
theorem dX6_count_107 : decode cX6_count 107 = .ok (.aload_n 0, 1) := by decide +kernel
theorem dX6_count_108 : decode cX6_count 108 = .ok (.getfield 10, 3) := by decide +kernel
theorem dX6_count_111 : decode cX6_count 111 = .ok (.getfield 62, 3) := by decide +kernel
theorem dX6_count_114 : decode cX6_count 114 = .ok (.ireturn, 1) := by decide +kernel
theorem dX6_count_115 : decode cX6_count 115 = .ok (.aload_n 0, 1) := by decide +kernel
theorem dX6_count_116 : decode cX6_count 116 = .ok (.iload_n 1, 1) := by decide +kernel
theorem dX6_count_117 : decode cX6_count 117 = .ok (.invokevirtual 248, 3) := by decide +kernel
theorem dX6_count_120 : decode cX6_count 120 = .ok (.ireturn, 1) := by decide +kernel
theorem dX6_count_121 : decode cX6_count 121 = .ok (.aload_n 0, 1) := by decide +kernel
theorem dX6_count_122 : decode cX6_count 122 = .ok (.getfield 22, 3) := by decide +kernel
theorem dX6_count_125 : decode cX6_count 125 = .ok (.getfield 211, 3) := by decide +kernel
theorem dX6_count_128 : decode cX6_count 128 = .ok (.ireturn, 1) := by decide +kernel
theorem dX6_count_129 : decode cX6_count 129 = .ok (.aload_n 0, 1) := by decide +kernel
theorem dX6_count_130 : decode cX6_count 130 = .ok (.getfield 29, 3) := by decide +kernel
theorem dX6_count_133 : decode cX6_count 133 = .ok (.getfield 201, 3) := by decide +kernel
theorem dX6_count_136 : decode cX6_count 136 = .ok (.ireturn, 1) := by decide +kernel
theorem dX6_count_137 : decode cX6_count 137 = .ok (.bipush (-2), 2) := by decide +kernel
theorem dX6_count_139 : decode cX6_count 139 = .ok (.ireturn, 1) := by decide +kernel
theorem dX6_outside_0 : decode cX6_outside 0 = .ok (.iload_n 0, 1) := by decide +kernel
theorem dX6_outside_1 : decode cX6_outside 1 = .ok (.iload_n 1, 1) := by decide +kernel
theorem dX6_outside_2 : decode cX6_outside 2 = .ok (.if_icmp .lt 8, 3) := by decide +kernel
theorem dX6_outside_5 : decode cX6_outside 5 = .ok (.iload_n 0, 1) := by decide +kernel
theorem dX6_outside_6 : decode cX6_outside 6 = .ok (.iload_n 2, 1) := by decide +kernel
theorem dX6_outside_7 : decode cX6_outside 7 = .ok (.if_icmp .le 7, 3) := by decide +kernel
theorem dX6_outside_10 : decode cX6_outside 10 = .ok (.iconst 1, 1) := by decide +kernel
theorem dX6_outside_11 : decode cX6_outside 11 = .ok (.goto 4, 3) := by decide +kernel
theorem dX6_outside_14 : decode cX6_outside 14 = .ok (.iconst 0, 1) := by decide +kernel
theorem dX6_outside_15 : decode cX6_outside 15 = .ok (.ireturn, 1) := by decide +kernel
theorem dX6_floatOf_0 : decode cX6_floatOf 0 = .ok (.iload_n 0, 1) := by decide +kernel
theorem dX6_floatOf_1 : decode cX6_floatOf 1 = .ok (.bipush 23, 2) := by decide +kernel
theorem dX6_floatOf_3 : decode cX6_floatOf 3 = .ok (.ishr, 1) := by decide +kernel
theorem dX6_floatOf_4 : decode cX6_floatOf 4 = .ok (.istore_n 1, 1) := by decide +kernel
theorem dX6_floatOf_5 : decode cX6_floatOf 5 = .ok (.iload_n 0, 1) := by decide +kernel
theorem dX6_floatOf_6 : decode cX6_floatOf 6 = .ok (.ldc 251, 2) := by decide +kernel
theorem dX6_floatOf_8 : decode cX6_floatOf 8 = .ok (.iand, 1) := by decide +kernel
theorem dX6_floatOf_9 : decode cX6_floatOf 9 = .ok (.istore_n 2, 1) := by decide +kernel
theorem dX6_floatOf_10 : decode cX6_floatOf 10 = .ok (.iload_n 1, 1) := by decide +kernel
theorem dX6_floatOf_11 : decode cX6_floatOf 11 = .ok (.ifCond .le 11, 3) := by decide +kernel
theorem dX6_floatOf_14 : decode cX6_floatOf 14 = .ok (.iload_n 2, 1) := by decide +kernel
theorem dX6_floatOf_15 : decode cX6_floatOf 15 = .ok (.ldc 252, 2) := by decide +kernel
theorem dX6_floatOf_17 : decode cX6_floatOf 17 = .ok (.iadd, 1) := by decide +kernel
theorem dX6_floatOf_18 : decode cX6_floatOf 18 = .ok (.istore_n 2, 1) := by decide +kernel
theorem dX6_floatOf_19 : decode cX6_floatOf 19 = .ok (.goto 5, 3) := by decide +kernel
theorem dX6_floatOf_22 : decode cX6_floatOf 22 = .ok (.iconst 1, 1) := by decide +kernel
theorem dX6_floatOf_23 : decode cX6_floatOf 23 = .ok (.istore_n 1, 1) := by decide +kernel
theorem dX6_floatOf_24 : decode cX6_floatOf 24 = .ok (.iload_n 2, 1) := by decide +kernel
theorem dX6_floatOf_25 : decode cX6_floatOf 25 = .ok (.i2f, 1) := by decide +kernel
theorem dX6_floatOf_26 : decode cX6_floatOf 26 = .ok (.fstore_n 3, 1) := by decide +kernel
theorem dX6_floatOf_27 : decode cX6_floatOf 27 = .ok (.iload_n 1, 1) := by decide +kernel
theorem dX6_floatOf_28 : decode cX6_floatOf 28 = .ok (.istore 4, 2) := by decide +kernel
theorem dX6_floatOf_30 : decode cX6_floatOf 30 = .ok (.iload 4, 2) := by decide +kernel
theorem dX6_floatOf_32 : decode cX6_floatOf 32 = .ok (.sipush 150, 3) := by decide +kernel
theorem dX6_floatOf_35 : decode cX6_floatOf 35 = .ok (.if_icmp .ge 13, 3) := by decide +kernel
theorem dX6_floatOf_38 : decode cX6_floatOf 38 = .ok (.fload_n 3, 1) := by decide +kernel
theorem dX6_floatOf_39 : decode cX6_floatOf 39 = .ok (.fconst 2, 1) := by decide +kernel
theorem dX6_floatOf_40 : decode cX6_floatOf 40 = .ok (.fdiv, 1) := by decide +kernel
theorem dX6_floatOf_41 : decode cX6_floatOf 41 = .ok (.fstore_n 3, 1) := by decide +kernel
theorem dX6_floatOf_42 : decode cX6_floatOf 42 = .ok (.iinc 4 1, 3) := by decide +kernel
theorem dX6_floatOf_45 : decode cX6_floatOf 45 = .ok (.goto (-15), 3) := by decide +kernel
theorem dX6_floatOf_48 : decode cX6_floatOf 48 = .ok (.fload_n 3, 1) := by decide +kernel
theorem dX6_floatOf_49 : decode cX6_floatOf 49 = .ok (.freturn, 1) := by decide +kernel
theorem dX6_conditionFact_0 : decode cX6_conditionFact 0 = .ok (.aload_n 0, 1) := by decide +kernel
theorem dX6_conditionFact_1 : decode cX6_conditionFact 1 = .ok (.getfield 10, 3) := by decide +kernel
theorem dX6_conditionFact_4 : decode cX6_conditionFact 4 = .ok (.aload_n 1, 1) := by decide +kernel
theorem dX6_conditionFact_5 : decode cX6_conditionFact 5 = .ok (.invokevirtual 113, 3) := by decide +kernel
theorem dX6_conditionFact_8 : decode cX6_conditionFact 8 = .ok (.ifCond .ne 6, 3) := by decide +kernel
theorem dX6_conditionFact_11 : decode cX6_conditionFact 11 = .ok (.bipush (-5), 2) := by decide +kernel
theorem dX6_conditionFact_13 : decode cX6_conditionFact 13 = .ok (.ireturn, 1) := by decide +kernel
theorem dX6_conditionFact_14 : decode cX6_conditionFact 14 = .ok (.iload_n 2, 1) := by decide +kernel
theorem dX6_conditionFact_15 : decode cX6_conditionFact 15 = .ok (.iconst 4, 1) := by decide +kernel
theorem dX6_conditionFact_16 : decode cX6_conditionFact 16 = .ok (.if_icmp .ne 8, 3) := by decide +kernel
theorem dX6_conditionFact_19 : decode cX6_conditionFact 19 = .ok (.aload_n 1, 1) := by decide +kernel
theorem dX6_conditionFact_20 : decode cX6_conditionFact 20 = .ok (.getfield 117, 3) := by decide +kernel
theorem dX6_conditionFact_23 : decode cX6_conditionFact 23 = .ok (.ireturn, 1) := by decide +kernel
theorem dX6_conditionFact_24 : decode cX6_conditionFact 24 = .ok (.iload_n 2, 1) := by decide +kernel
theorem dX6_conditionFact_25 : decode cX6_conditionFact 25 = .ok (.iconst 5, 1) := by decide +kernel
theorem dX6_conditionFact_26 : decode cX6_conditionFact 26 = .ok (.if_icmp .ne 20, 3) := by decide +kernel
theorem dX6_conditionFact_29 : decode cX6_conditionFact 29 = .ok (.aload_n 1, 1) := by decide +kernel
theorem dX6_conditionFact_30 : decode cX6_conditionFact 30 = .ok (.aload_n 0, 1) := by decide +kernel
theorem dX6_conditionFact_31 : decode cX6_conditionFact 31 = .ok (.getfield 10, 3) := by decide +kernel
theorem dX6_conditionFact_34 : decode cX6_conditionFact 34 = .ok (.aload_n 1, 1) := by decide +kernel
theorem dX6_conditionFact_35 : decode cX6_conditionFact 35 = .ok (.invokevirtual 122, 3) := by decide +kernel
theorem dX6_conditionFact_38 : decode cX6_conditionFact 38 = .ok (.aload_n 1, 1) := by decide +kernel
theorem dX6_conditionFact_39 : decode cX6_conditionFact 39 = .ok (.getfield 117, 3) := by decide +kernel
theorem dX6_conditionFact_42 : decode cX6_conditionFact 42 = .ok (.invokevirtual 262, 3) := by decide +kernel
theorem dX6_conditionFact_45 : decode cX6_conditionFact 45 = .ok (.ireturn, 1) := by decide +kernel
theorem dX6_conditionFact_46 : decode cX6_conditionFact 46 = .ok (.aload_n 1, 1) := by decide +kernel
theorem dX6_conditionFact_47 : decode cX6_conditionFact 47 = .ok (.getfield 129, 3) := by decide +kernel
theorem dX6_conditionFact_50 : decode cX6_conditionFact 50 = .ok (.ireturn, 1) := by decide +kernel
theorem dX6_closedSum_0 : decode cX6_closedSum 0 = .ok (.iconst 0, 1) := by decide +kernel
theorem dX6_closedSum_1 : decode cX6_closedSum 1 = .ok (.istore_n 2, 1) := by decide +kernel
theorem dX6_closedSum_2 : decode cX6_closedSum 2 = .ok (.iconst 0, 1) := by decide +kernel
theorem dX6_closedSum_3 : decode cX6_closedSum 3 = .ok (.istore_n 3, 1) := by decide +kernel
theorem dX6_closedSum_4 : decode cX6_closedSum 4 = .ok (.iload_n 3, 1) := by decide +kernel
theorem dX6_closedSum_5 : decode cX6_closedSum 5 = .ok (.aload_n 0, 1) := by decide +kernel
theorem dX6_closedSum_6 : decode cX6_closedSum 6 = .ok (.getfield 10, 3) := by decide +kernel
theorem dX6_closedSum_9 : decode cX6_closedSum 9 = .ok (.getfield 71, 3) := by decide +kernel
theorem dX6_closedSum_12 : decode cX6_closedSum 12 = .ok (.if_icmp .ge 45, 3) := by decide +kernel
theorem dX6_closedSum_15 : decode cX6_closedSum 15 = .ok (.aload_n 0, 1) := by decide +kernel
theorem dX6_closedSum_16 : decode cX6_closedSum 16 = .ok (.getfield 10, 3) := by decide +kernel
theorem dX6_closedSum_19 : decode cX6_closedSum 19 = .ok (.iload_n 3, 1) := by decide +kernel
theorem dX6_closedSum_20 : decode cX6_closedSum 20 = .ok (.invokevirtual 78, 3) := by decide +kernel
theorem dX6_closedSum_23 : decode cX6_closedSum 23 = .ok (.astore 4, 2) := by decide +kernel
theorem dX6_closedSum_25 : decode cX6_closedSum 25 = .ok (.aload 4, 2) := by decide +kernel
theorem dX6_closedSum_27 : decode cX6_closedSum 27 = .ok (.ifnull 24, 3) := by decide +kernel
theorem dX6_closedSum_30 : decode cX6_closedSum 30 = .ok (.aload 4, 2) := by decide +kernel
theorem dX6_closedSum_32 : decode cX6_closedSum 32 = .ok (.getfield 83, 3) := by decide +kernel
theorem dX6_closedSum_35 : decode cX6_closedSum 35 = .ok (.iconst 3, 1) := by decide +kernel
theorem dX6_closedSum_36 : decode cX6_closedSum 36 = .ok (.if_icmp .ne 15, 3) := by decide +kernel
theorem dX6_closedSum_39 : decode cX6_closedSum 39 = .ok (.iload_n 2, 1) := by decide +kernel
theorem dX6_closedSum_40 : decode cX6_closedSum 40 = .ok (.aload 4, 2) := by decide +kernel
theorem dX6_closedSum_42 : decode cX6_closedSum 42 = .ok (.getfield 181, 3) := by decide +kernel
theorem dX6_closedSum_45 : decode cX6_closedSum 45 = .ok (.iload_n 1, 1) := by decide +kernel
theorem dX6_closedSum_46 : decode cX6_closedSum 46 = .ok (.invokevirtual 265, 3) := by decide +kernel
theorem dX6_closedSum_49 : decode cX6_closedSum 49 = .ok (.iadd, 1) := by decide +kernel
theorem dX6_closedSum_50 : decode cX6_closedSum 50 = .ok (.istore_n 2, 1) := by decide +kernel
theorem dX6_closedSum_51 : decode cX6_closedSum 51 = .ok (.iinc 3 1, 3) := by decide +kernel
theorem dX6_closedSum_54 : decode cX6_closedSum 54 = .ok (.goto (-50), 3) := by decide +kernel
theorem dX6_closedSum_57 : decode cX6_closedSum 57 = .ok (.iload_n 2, 1) := by decide +kernel
theorem dX6_closedSum_58 : decode cX6_closedSum 58 = .ok (.ireturn, 1) := by decide +kernel
