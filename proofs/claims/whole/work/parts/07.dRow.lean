theorem d_Row_init_0 : decode m_Row_init.2.1 0 = .ok (.aload_n 0, 1) := by decide +kernel
theorem d_Row_init_1 : decode m_Row_init.2.1 1 = .ok (.invokespecial 3, 3) := by decide +kernel
theorem d_Row_init_4 : decode m_Row_init.2.1 4 = .ok (.aload_n 0, 1) := by decide +kernel
theorem d_Row_init_5 : decode m_Row_init.2.1 5 = .ok (.bipush 20, 2) := by decide +kernel
theorem d_Row_init_7 : decode m_Row_init.2.1 7 = .ok (.newarray .int, 2) := by decide +kernel
theorem d_Row_init_9 : decode m_Row_init.2.1 9 = .ok (.putfield 9, 3) := by decide +kernel
theorem d_Row_init_12 : decode m_Row_init.2.1 12 = .ok (.aload_n 0, 1) := by decide +kernel
theorem d_Row_init_13 : decode m_Row_init.2.1 13 = .ok (.iconst 0, 1) := by decide +kernel
theorem d_Row_init_14 : decode m_Row_init.2.1 14 = .ok (.putfield 15, 3) := by decide +kernel
theorem d_Row_init_17 : decode m_Row_init.2.1 17 = .ok (.aload_n 0, 1) := by decide +kernel
theorem d_Row_init_18 : decode m_Row_init.2.1 18 = .ok (.bipush 20, 2) := by decide +kernel
theorem d_Row_init_20 : decode m_Row_init.2.1 20 = .ok (.newarray .int, 2) := by decide +kernel
theorem d_Row_init_22 : decode m_Row_init.2.1 22 = .ok (.putfield 19, 3) := by decide +kernel
theorem d_Row_init_25 : decode m_Row_init.2.1 25 = .ok (.aload_n 0, 1) := by decide +kernel
theorem d_Row_init_26 : decode m_Row_init.2.1 26 = .ok (.bipush 20, 2) := by decide +kernel
theorem d_Row_init_28 : decode m_Row_init.2.1 28 = .ok (.newarray .int, 2) := by decide +kernel
theorem d_Row_init_30 : decode m_Row_init.2.1 30 = .ok (.putfield 22, 3) := by decide +kernel
theorem d_Row_init_33 : decode m_Row_init.2.1 33 = .ok (.aload_n 0, 1) := by decide +kernel
theorem d_Row_init_34 : decode m_Row_init.2.1 34 = .ok (.bipush 20, 2) := by decide +kernel
theorem d_Row_init_36 : decode m_Row_init.2.1 36 = .ok (.newarray .int, 2) := by decide +kernel
theorem d_Row_init_38 : decode m_Row_init.2.1 38 = .ok (.putfield 25, 3) := by decide +kernel
theorem d_Row_init_41 : decode m_Row_init.2.1 41 = .ok (.aload_n 0, 1) := by decide +kernel
theorem d_Row_init_42 : decode m_Row_init.2.1 42 = .ok (.iconst 0, 1) := by decide +kernel
theorem d_Row_init_43 : decode m_Row_init.2.1 43 = .ok (.putfield 28, 3) := by decide +kernel
theorem d_Row_init_46 : decode m_Row_init.2.1 46 = .ok (.aload_n 0, 1) := by decide +kernel
theorem d_Row_init_47 : decode m_Row_init.2.1 47 = .ok (.iconst 0, 1) := by decide +kernel
theorem d_Row_init_48 : decode m_Row_init.2.1 48 = .ok (.putfield 31, 3) := by decide +kernel
theorem d_Row_init_51 : decode m_Row_init.2.1 51 = .ok (.return_, 1) := by decide +kernel
theorem d_Row_insert_0 : decode m_Row_insert.2.1 0 = .ok (.aload_n 0, 1) := by decide +kernel
theorem d_Row_insert_1 : decode m_Row_insert.2.1 1 = .ok (.getfield 15, 3) := by decide +kernel
theorem d_Row_insert_4 : decode m_Row_insert.2.1 4 = .ok (.bipush 20, 2) := by decide +kernel
theorem d_Row_insert_6 : decode m_Row_insert.2.1 6 = .ok (.if_icmp .ge 15, 3) := by decide +kernel
theorem d_Row_insert_9 : decode m_Row_insert.2.1 9 = .ok (.iload_n 2, 1) := by decide +kernel
theorem d_Row_insert_10 : decode m_Row_insert.2.1 10 = .ok (.ifCond .lt 11, 3) := by decide +kernel
theorem d_Row_insert_13 : decode m_Row_insert.2.1 13 = .ok (.iload_n 2, 1) := by decide +kernel
theorem d_Row_insert_14 : decode m_Row_insert.2.1 14 = .ok (.aload_n 0, 1) := by decide +kernel
theorem d_Row_insert_15 : decode m_Row_insert.2.1 15 = .ok (.getfield 15, 3) := by decide +kernel
theorem d_Row_insert_18 : decode m_Row_insert.2.1 18 = .ok (.if_icmp .le 4, 3) := by decide +kernel
theorem d_Row_insert_21 : decode m_Row_insert.2.1 21 = .ok (.return_, 1) := by decide +kernel
theorem d_Row_insert_22 : decode m_Row_insert.2.1 22 = .ok (.aload_n 0, 1) := by decide +kernel
theorem d_Row_insert_23 : decode m_Row_insert.2.1 23 = .ok (.getfield 9, 3) := by decide +kernel
theorem d_Row_insert_26 : decode m_Row_insert.2.1 26 = .ok (.iload_n 2, 1) := by decide +kernel
theorem d_Row_insert_27 : decode m_Row_insert.2.1 27 = .ok (.aload_n 0, 1) := by decide +kernel
theorem d_Row_insert_28 : decode m_Row_insert.2.1 28 = .ok (.getfield 9, 3) := by decide +kernel
theorem d_Row_insert_31 : decode m_Row_insert.2.1 31 = .ok (.iload_n 2, 1) := by decide +kernel
theorem d_Row_insert_32 : decode m_Row_insert.2.1 32 = .ok (.iconst 1, 1) := by decide +kernel
theorem d_Row_insert_33 : decode m_Row_insert.2.1 33 = .ok (.iadd, 1) := by decide +kernel
theorem d_Row_insert_34 : decode m_Row_insert.2.1 34 = .ok (.aload_n 0, 1) := by decide +kernel
theorem d_Row_insert_35 : decode m_Row_insert.2.1 35 = .ok (.getfield 15, 3) := by decide +kernel
theorem d_Row_insert_38 : decode m_Row_insert.2.1 38 = .ok (.iload_n 2, 1) := by decide +kernel
theorem d_Row_insert_39 : decode m_Row_insert.2.1 39 = .ok (.isub, 1) := by decide +kernel
theorem d_Row_insert_40 : decode m_Row_insert.2.1 40 = .ok (.invokestatic 35, 3) := by decide +kernel
theorem d_Row_insert_43 : decode m_Row_insert.2.1 43 = .ok (.aload_n 0, 1) := by decide +kernel
theorem d_Row_insert_44 : decode m_Row_insert.2.1 44 = .ok (.getfield 9, 3) := by decide +kernel
theorem d_Row_insert_47 : decode m_Row_insert.2.1 47 = .ok (.iload_n 2, 1) := by decide +kernel
theorem d_Row_insert_48 : decode m_Row_insert.2.1 48 = .ok (.iload_n 1, 1) := by decide +kernel
theorem d_Row_insert_49 : decode m_Row_insert.2.1 49 = .ok (.iastore, 1) := by decide +kernel
theorem d_Row_insert_50 : decode m_Row_insert.2.1 50 = .ok (.aload_n 0, 1) := by decide +kernel
theorem d_Row_insert_51 : decode m_Row_insert.2.1 51 = .ok (.dup, 1) := by decide +kernel
theorem d_Row_insert_52 : decode m_Row_insert.2.1 52 = .ok (.getfield 15, 3) := by decide +kernel
theorem d_Row_insert_55 : decode m_Row_insert.2.1 55 = .ok (.iconst 1, 1) := by decide +kernel
theorem d_Row_insert_56 : decode m_Row_insert.2.1 56 = .ok (.iadd, 1) := by decide +kernel
theorem d_Row_insert_57 : decode m_Row_insert.2.1 57 = .ok (.putfield 15, 3) := by decide +kernel
theorem d_Row_insert_60 : decode m_Row_insert.2.1 60 = .ok (.aload_n 0, 1) := by decide +kernel
theorem d_Row_insert_61 : decode m_Row_insert.2.1 61 = .ok (.iconst 0, 1) := by decide +kernel
theorem d_Row_insert_62 : decode m_Row_insert.2.1 62 = .ok (.putfield 31, 3) := by decide +kernel
theorem d_Row_insert_65 : decode m_Row_insert.2.1 65 = .ok (.return_, 1) := by decide +kernel
theorem d_Row_copyFrom_0 : decode m_Row_copyFrom.2.1 0 = .ok (.aload_n 1, 1) := by decide +kernel
theorem d_Row_copyFrom_1 : decode m_Row_copyFrom.2.1 1 = .ok (.getfield 9, 3) := by decide +kernel
theorem d_Row_copyFrom_4 : decode m_Row_copyFrom.2.1 4 = .ok (.iconst 0, 1) := by decide +kernel
theorem d_Row_copyFrom_5 : decode m_Row_copyFrom.2.1 5 = .ok (.aload_n 0, 1) := by decide +kernel
theorem d_Row_copyFrom_6 : decode m_Row_copyFrom.2.1 6 = .ok (.getfield 9, 3) := by decide +kernel
theorem d_Row_copyFrom_9 : decode m_Row_copyFrom.2.1 9 = .ok (.iconst 0, 1) := by decide +kernel
theorem d_Row_copyFrom_10 : decode m_Row_copyFrom.2.1 10 = .ok (.bipush 20, 2) := by decide +kernel
theorem d_Row_copyFrom_12 : decode m_Row_copyFrom.2.1 12 = .ok (.invokestatic 35, 3) := by decide +kernel
theorem d_Row_copyFrom_15 : decode m_Row_copyFrom.2.1 15 = .ok (.aload_n 0, 1) := by decide +kernel
theorem d_Row_copyFrom_16 : decode m_Row_copyFrom.2.1 16 = .ok (.aload_n 1, 1) := by decide +kernel
theorem d_Row_copyFrom_17 : decode m_Row_copyFrom.2.1 17 = .ok (.getfield 15, 3) := by decide +kernel
theorem d_Row_copyFrom_20 : decode m_Row_copyFrom.2.1 20 = .ok (.putfield 15, 3) := by decide +kernel
theorem d_Row_copyFrom_23 : decode m_Row_copyFrom.2.1 23 = .ok (.aload_n 0, 1) := by decide +kernel
theorem d_Row_copyFrom_24 : decode m_Row_copyFrom.2.1 24 = .ok (.iconst 0, 1) := by decide +kernel
theorem d_Row_copyFrom_25 : decode m_Row_copyFrom.2.1 25 = .ok (.putfield 31, 3) := by decide +kernel
theorem d_Row_copyFrom_28 : decode m_Row_copyFrom.2.1 28 = .ok (.return_, 1) := by decide +kernel
theorem d_Row_looseOnes_0 : decode m_Row_looseOnes.2.1 0 = .ok (.aload_n 0, 1) := by decide +kernel
theorem d_Row_looseOnes_1 : decode m_Row_looseOnes.2.1 1 = .ok (.invokevirtual 45, 3) := by decide +kernel
theorem d_Row_looseOnes_4 : decode m_Row_looseOnes.2.1 4 = .ok (.aload_n 0, 1) := by decide +kernel
theorem d_Row_looseOnes_5 : decode m_Row_looseOnes.2.1 5 = .ok (.getfield 28, 3) := by decide +kernel
theorem d_Row_looseOnes_8 : decode m_Row_looseOnes.2.1 8 = .ok (.ireturn, 1) := by decide +kernel
theorem d_Row_pairUp_0 : decode m_Row_pairUp.2.1 0 = .ok (.aload_n 0, 1) := by decide +kernel
theorem d_Row_pairUp_1 : decode m_Row_pairUp.2.1 1 = .ok (.getfield 31, 3) := by decide +kernel
theorem d_Row_pairUp_4 : decode m_Row_pairUp.2.1 4 = .ok (.ifCond .eq 4, 3) := by decide +kernel
theorem d_Row_pairUp_7 : decode m_Row_pairUp.2.1 7 = .ok (.return_, 1) := by decide +kernel
theorem d_Row_pairUp_8 : decode m_Row_pairUp.2.1 8 = .ok (.aload_n 0, 1) := by decide +kernel
theorem d_Row_pairUp_9 : decode m_Row_pairUp.2.1 9 = .ok (.invokevirtual 65, 3) := by decide +kernel
theorem d_Row_pairUp_12 : decode m_Row_pairUp.2.1 12 = .ok (.aload_n 0, 1) := by decide +kernel
theorem d_Row_pairUp_13 : decode m_Row_pairUp.2.1 13 = .ok (.invokevirtual 68, 3) := by decide +kernel
theorem d_Row_pairUp_16 : decode m_Row_pairUp.2.1 16 = .ok (.aload_n 0, 1) := by decide +kernel
theorem d_Row_pairUp_17 : decode m_Row_pairUp.2.1 17 = .ok (.iconst 1, 1) := by decide +kernel
theorem d_Row_pairUp_18 : decode m_Row_pairUp.2.1 18 = .ok (.putfield 31, 3) := by decide +kernel
theorem d_Row_pairUp_21 : decode m_Row_pairUp.2.1 21 = .ok (.return_, 1) := by decide +kernel
theorem d_Row_findMates_0 : decode m_Row_findMates.2.1 0 = .ok (.iconst 0, 1) := by decide +kernel
theorem d_Row_findMates_1 : decode m_Row_findMates.2.1 1 = .ok (.istore_n 1, 1) := by decide +kernel
theorem d_Row_findMates_2 : decode m_Row_findMates.2.1 2 = .ok (.aload_n 0, 1) := by decide +kernel
theorem d_Row_findMates_3 : decode m_Row_findMates.2.1 3 = .ok (.iconst 0, 1) := by decide +kernel
theorem d_Row_findMates_4 : decode m_Row_findMates.2.1 4 = .ok (.putfield 28, 3) := by decide +kernel
theorem d_Row_findMates_7 : decode m_Row_findMates.2.1 7 = .ok (.iconst 0, 1) := by decide +kernel
theorem d_Row_findMates_8 : decode m_Row_findMates.2.1 8 = .ok (.istore_n 2, 1) := by decide +kernel
theorem d_Row_findMates_9 : decode m_Row_findMates.2.1 9 = .ok (.iload_n 2, 1) := by decide +kernel
theorem d_Row_findMates_10 : decode m_Row_findMates.2.1 10 = .ok (.aload_n 0, 1) := by decide +kernel
theorem d_Row_findMates_11 : decode m_Row_findMates.2.1 11 = .ok (.getfield 15, 3) := by decide +kernel
theorem d_Row_findMates_14 : decode m_Row_findMates.2.1 14 = .ok (.if_icmp .ge 122, 3) := by decide +kernel
theorem d_Row_findMates_17 : decode m_Row_findMates.2.1 17 = .ok (.aload_n 0, 1) := by decide +kernel
theorem d_Row_findMates_18 : decode m_Row_findMates.2.1 18 = .ok (.getfield 19, 3) := by decide +kernel
theorem d_Row_findMates_21 : decode m_Row_findMates.2.1 21 = .ok (.iload_n 2, 1) := by decide +kernel
theorem d_Row_findMates_22 : decode m_Row_findMates.2.1 22 = .ok (.iconst (-1), 1) := by decide +kernel
theorem d_Row_findMates_23 : decode m_Row_findMates.2.1 23 = .ok (.iastore, 1) := by decide +kernel
theorem d_Row_findMates_24 : decode m_Row_findMates.2.1 24 = .ok (.aload_n 0, 1) := by decide +kernel
theorem d_Row_findMates_25 : decode m_Row_findMates.2.1 25 = .ok (.getfield 9, 3) := by decide +kernel
theorem d_Row_findMates_28 : decode m_Row_findMates.2.1 28 = .ok (.iload_n 2, 1) := by decide +kernel
theorem d_Row_findMates_29 : decode m_Row_findMates.2.1 29 = .ok (.iaload, 1) := by decide +kernel
theorem d_Row_findMates_30 : decode m_Row_findMates.2.1 30 = .ok (.invokestatic 55, 3) := by decide +kernel
theorem d_Row_findMates_33 : decode m_Row_findMates.2.1 33 = .ok (.ifCond .eq 16, 3) := by decide +kernel
theorem d_Row_findMates_36 : decode m_Row_findMates.2.1 36 = .ok (.aload_n 0, 1) := by decide +kernel
theorem d_Row_findMates_37 : decode m_Row_findMates.2.1 37 = .ok (.getfield 25, 3) := by decide +kernel
theorem d_Row_findMates_40 : decode m_Row_findMates.2.1 40 = .ok (.iload_n 1, 1) := by decide +kernel
theorem d_Row_findMates_41 : decode m_Row_findMates.2.1 41 = .ok (.iload_n 2, 1) := by decide +kernel
theorem d_Row_findMates_42 : decode m_Row_findMates.2.1 42 = .ok (.iastore, 1) := by decide +kernel
theorem d_Row_findMates_43 : decode m_Row_findMates.2.1 43 = .ok (.iinc 1 1, 3) := by decide +kernel
theorem d_Row_findMates_46 : decode m_Row_findMates.2.1 46 = .ok (.goto 84, 3) := by decide +kernel
theorem d_Row_findMates_49 : decode m_Row_findMates.2.1 49 = .ok (.aload_n 0, 1) := by decide +kernel
theorem d_Row_findMates_50 : decode m_Row_findMates.2.1 50 = .ok (.getfield 9, 3) := by decide +kernel
theorem d_Row_findMates_53 : decode m_Row_findMates.2.1 53 = .ok (.iload_n 2, 1) := by decide +kernel
theorem d_Row_findMates_54 : decode m_Row_findMates.2.1 54 = .ok (.iaload, 1) := by decide +kernel
theorem d_Row_findMates_55 : decode m_Row_findMates.2.1 55 = .ok (.invokestatic 58, 3) := by decide +kernel
theorem d_Row_findMates_58 : decode m_Row_findMates.2.1 58 = .ok (.ifCond .eq 72, 3) := by decide +kernel
theorem d_Row_findMates_61 : decode m_Row_findMates.2.1 61 = .ok (.iload_n 1, 1) := by decide +kernel
theorem d_Row_findMates_62 : decode m_Row_findMates.2.1 62 = .ok (.ifCond .le 58, 3) := by decide +kernel
theorem d_Row_findMates_65 : decode m_Row_findMates.2.1 65 = .ok (.aload_n 0, 1) := by decide +kernel
theorem d_Row_findMates_66 : decode m_Row_findMates.2.1 66 = .ok (.getfield 9, 3) := by decide +kernel
theorem d_Row_findMates_69 : decode m_Row_findMates.2.1 69 = .ok (.aload_n 0, 1) := by decide +kernel
theorem d_Row_findMates_70 : decode m_Row_findMates.2.1 70 = .ok (.getfield 25, 3) := by decide +kernel
theorem d_Row_findMates_73 : decode m_Row_findMates.2.1 73 = .ok (.iload_n 1, 1) := by decide +kernel
theorem d_Row_findMates_74 : decode m_Row_findMates.2.1 74 = .ok (.iconst 1, 1) := by decide +kernel
theorem d_Row_findMates_75 : decode m_Row_findMates.2.1 75 = .ok (.isub, 1) := by decide +kernel
theorem d_Row_findMates_76 : decode m_Row_findMates.2.1 76 = .ok (.iaload, 1) := by decide +kernel
theorem d_Row_findMates_77 : decode m_Row_findMates.2.1 77 = .ok (.iaload, 1) := by decide +kernel
theorem d_Row_findMates_78 : decode m_Row_findMates.2.1 78 = .ok (.aload_n 0, 1) := by decide +kernel
theorem d_Row_findMates_79 : decode m_Row_findMates.2.1 79 = .ok (.getfield 9, 3) := by decide +kernel
theorem d_Row_findMates_82 : decode m_Row_findMates.2.1 82 = .ok (.iload_n 2, 1) := by decide +kernel
theorem d_Row_findMates_83 : decode m_Row_findMates.2.1 83 = .ok (.iaload, 1) := by decide +kernel
theorem d_Row_findMates_84 : decode m_Row_findMates.2.1 84 = .ok (.invokestatic 61, 3) := by decide +kernel
theorem d_Row_findMates_87 : decode m_Row_findMates.2.1 87 = .ok (.if_icmp .ne 33, 3) := by decide +kernel
theorem d_Row_findMates_90 : decode m_Row_findMates.2.1 90 = .ok (.iinc 1 (-1), 3) := by decide +kernel
theorem d_Row_findMates_93 : decode m_Row_findMates.2.1 93 = .ok (.aload_n 0, 1) := by decide +kernel
theorem d_Row_findMates_94 : decode m_Row_findMates.2.1 94 = .ok (.getfield 19, 3) := by decide +kernel
theorem d_Row_findMates_97 : decode m_Row_findMates.2.1 97 = .ok (.iload_n 2, 1) := by decide +kernel
theorem d_Row_findMates_98 : decode m_Row_findMates.2.1 98 = .ok (.aload_n 0, 1) := by decide +kernel
theorem d_Row_findMates_99 : decode m_Row_findMates.2.1 99 = .ok (.getfield 25, 3) := by decide +kernel
theorem d_Row_findMates_102 : decode m_Row_findMates.2.1 102 = .ok (.iload_n 1, 1) := by decide +kernel
theorem d_Row_findMates_103 : decode m_Row_findMates.2.1 103 = .ok (.iaload, 1) := by decide +kernel
theorem d_Row_findMates_104 : decode m_Row_findMates.2.1 104 = .ok (.iastore, 1) := by decide +kernel
theorem d_Row_findMates_105 : decode m_Row_findMates.2.1 105 = .ok (.aload_n 0, 1) := by decide +kernel
theorem d_Row_findMates_106 : decode m_Row_findMates.2.1 106 = .ok (.getfield 19, 3) := by decide +kernel
theorem d_Row_findMates_109 : decode m_Row_findMates.2.1 109 = .ok (.aload_n 0, 1) := by decide +kernel
theorem d_Row_findMates_110 : decode m_Row_findMates.2.1 110 = .ok (.getfield 25, 3) := by decide +kernel
theorem d_Row_findMates_113 : decode m_Row_findMates.2.1 113 = .ok (.iload_n 1, 1) := by decide +kernel
theorem d_Row_findMates_114 : decode m_Row_findMates.2.1 114 = .ok (.iaload, 1) := by decide +kernel
theorem d_Row_findMates_115 : decode m_Row_findMates.2.1 115 = .ok (.iload_n 2, 1) := by decide +kernel
theorem d_Row_findMates_116 : decode m_Row_findMates.2.1 116 = .ok (.iastore, 1) := by decide +kernel
theorem d_Row_findMates_117 : decode m_Row_findMates.2.1 117 = .ok (.goto 13, 3) := by decide +kernel
theorem d_Row_findMates_120 : decode m_Row_findMates.2.1 120 = .ok (.aload_n 0, 1) := by decide +kernel
theorem d_Row_findMates_121 : decode m_Row_findMates.2.1 121 = .ok (.dup, 1) := by decide +kernel
theorem d_Row_findMates_122 : decode m_Row_findMates.2.1 122 = .ok (.getfield 28, 3) := by decide +kernel
theorem d_Row_findMates_125 : decode m_Row_findMates.2.1 125 = .ok (.iconst 1, 1) := by decide +kernel
theorem d_Row_findMates_126 : decode m_Row_findMates.2.1 126 = .ok (.iadd, 1) := by decide +kernel
theorem d_Row_findMates_127 : decode m_Row_findMates.2.1 127 = .ok (.putfield 28, 3) := by decide +kernel
theorem d_Row_findMates_130 : decode m_Row_findMates.2.1 130 = .ok (.iinc 2 1, 3) := by decide +kernel
theorem d_Row_findMates_133 : decode m_Row_findMates.2.1 133 = .ok (.goto (-124), 3) := by decide +kernel
theorem d_Row_findMates_136 : decode m_Row_findMates.2.1 136 = .ok (.aload_n 0, 1) := by decide +kernel
theorem d_Row_findMates_137 : decode m_Row_findMates.2.1 137 = .ok (.dup, 1) := by decide +kernel
theorem d_Row_findMates_138 : decode m_Row_findMates.2.1 138 = .ok (.getfield 28, 3) := by decide +kernel
theorem d_Row_findMates_141 : decode m_Row_findMates.2.1 141 = .ok (.iload_n 1, 1) := by decide +kernel
theorem d_Row_findMates_142 : decode m_Row_findMates.2.1 142 = .ok (.iadd, 1) := by decide +kernel
theorem d_Row_findMates_143 : decode m_Row_findMates.2.1 143 = .ok (.putfield 28, 3) := by decide +kernel
theorem d_Row_findMates_146 : decode m_Row_findMates.2.1 146 = .ok (.return_, 1) := by decide +kernel
theorem d_Row_opens_0 : decode m_Row_opens.2.1 0 = .ok (.iload_n 0, 1) := by decide +kernel
theorem d_Row_opens_1 : decode m_Row_opens.2.1 1 = .ok (.iconst 3, 1) := by decide +kernel
theorem d_Row_opens_2 : decode m_Row_opens.2.1 2 = .ok (.if_icmp .ge 7, 3) := by decide +kernel
theorem d_Row_opens_5 : decode m_Row_opens.2.1 5 = .ok (.iconst 1, 1) := by decide +kernel
theorem d_Row_opens_6 : decode m_Row_opens.2.1 6 = .ok (.goto 4, 3) := by decide +kernel
theorem d_Row_opens_9 : decode m_Row_opens.2.1 9 = .ok (.iconst 0, 1) := by decide +kernel
theorem d_Row_opens_10 : decode m_Row_opens.2.1 10 = .ok (.ireturn, 1) := by decide +kernel
theorem d_Row_closes_0 : decode m_Row_closes.2.1 0 = .ok (.iload_n 0, 1) := by decide +kernel
theorem d_Row_closes_1 : decode m_Row_closes.2.1 1 = .ok (.iconst 3, 1) := by decide +kernel
theorem d_Row_closes_2 : decode m_Row_closes.2.1 2 = .ok (.if_icmp .lt 13, 3) := by decide +kernel
theorem d_Row_closes_5 : decode m_Row_closes.2.1 5 = .ok (.iload_n 0, 1) := by decide +kernel
theorem d_Row_closes_6 : decode m_Row_closes.2.1 6 = .ok (.bipush 6, 2) := by decide +kernel
theorem d_Row_closes_8 : decode m_Row_closes.2.1 8 = .ok (.if_icmp .ge 7, 3) := by decide +kernel
theorem d_Row_closes_11 : decode m_Row_closes.2.1 11 = .ok (.iconst 1, 1) := by decide +kernel
theorem d_Row_closes_12 : decode m_Row_closes.2.1 12 = .ok (.goto 4, 3) := by decide +kernel
theorem d_Row_closes_15 : decode m_Row_closes.2.1 15 = .ok (.iconst 0, 1) := by decide +kernel
theorem d_Row_closes_16 : decode m_Row_closes.2.1 16 = .ok (.ireturn, 1) := by decide +kernel
theorem d_Row_kindOf_0 : decode m_Row_kindOf.2.1 0 = .ok (.iload_n 0, 1) := by decide +kernel
theorem d_Row_kindOf_1 : decode m_Row_kindOf.2.1 1 = .ok (.bipush 6, 2) := by decide +kernel
theorem d_Row_kindOf_3 : decode m_Row_kindOf.2.1 3 = .ok (.if_icmp .ge 9, 3) := by decide +kernel
theorem d_Row_kindOf_6 : decode m_Row_kindOf.2.1 6 = .ok (.iload_n 0, 1) := by decide +kernel
theorem d_Row_kindOf_7 : decode m_Row_kindOf.2.1 7 = .ok (.iconst 3, 1) := by decide +kernel
theorem d_Row_kindOf_8 : decode m_Row_kindOf.2.1 8 = .ok (.irem, 1) := by decide +kernel
theorem d_Row_kindOf_9 : decode m_Row_kindOf.2.1 9 = .ok (.goto 4, 3) := by decide +kernel
theorem d_Row_kindOf_12 : decode m_Row_kindOf.2.1 12 = .ok (.iconst (-1), 1) := by decide +kernel
theorem d_Row_kindOf_13 : decode m_Row_kindOf.2.1 13 = .ok (.ireturn, 1) := by decide +kernel
theorem d_Row_countDepths_0 : decode m_Row_countDepths.2.1 0 = .ok (.iconst 0, 1) := by decide +kernel
theorem d_Row_countDepths_1 : decode m_Row_countDepths.2.1 1 = .ok (.istore_n 1, 1) := by decide +kernel
theorem d_Row_countDepths_2 : decode m_Row_countDepths.2.1 2 = .ok (.iconst 0, 1) := by decide +kernel
theorem d_Row_countDepths_3 : decode m_Row_countDepths.2.1 3 = .ok (.istore_n 2, 1) := by decide +kernel
theorem d_Row_countDepths_4 : decode m_Row_countDepths.2.1 4 = .ok (.iload_n 2, 1) := by decide +kernel
theorem d_Row_countDepths_5 : decode m_Row_countDepths.2.1 5 = .ok (.aload_n 0, 1) := by decide +kernel
theorem d_Row_countDepths_6 : decode m_Row_countDepths.2.1 6 = .ok (.getfield 15, 3) := by decide +kernel
theorem d_Row_countDepths_9 : decode m_Row_countDepths.2.1 9 = .ok (.if_icmp .ge 66, 3) := by decide +kernel
theorem d_Row_countDepths_12 : decode m_Row_countDepths.2.1 12 = .ok (.aload_n 0, 1) := by decide +kernel
theorem d_Row_countDepths_13 : decode m_Row_countDepths.2.1 13 = .ok (.getfield 19, 3) := by decide +kernel
theorem d_Row_countDepths_16 : decode m_Row_countDepths.2.1 16 = .ok (.iload_n 2, 1) := by decide +kernel
theorem d_Row_countDepths_17 : decode m_Row_countDepths.2.1 17 = .ok (.iaload, 1) := by decide +kernel
theorem d_Row_countDepths_18 : decode m_Row_countDepths.2.1 18 = .ok (.iconst (-1), 1) := by decide +kernel
theorem d_Row_countDepths_19 : decode m_Row_countDepths.2.1 19 = .ok (.if_icmp .eq 7, 3) := by decide +kernel
theorem d_Row_countDepths_22 : decode m_Row_countDepths.2.1 22 = .ok (.iconst 1, 1) := by decide +kernel
theorem d_Row_countDepths_23 : decode m_Row_countDepths.2.1 23 = .ok (.goto 4, 3) := by decide +kernel
theorem d_Row_countDepths_26 : decode m_Row_countDepths.2.1 26 = .ok (.iconst 0, 1) := by decide +kernel
theorem d_Row_countDepths_27 : decode m_Row_countDepths.2.1 27 = .ok (.istore_n 3, 1) := by decide +kernel
theorem d_Row_countDepths_28 : decode m_Row_countDepths.2.1 28 = .ok (.iload_n 3, 1) := by decide +kernel
theorem d_Row_countDepths_29 : decode m_Row_countDepths.2.1 29 = .ok (.ifCond .eq 16, 3) := by decide +kernel
theorem d_Row_countDepths_32 : decode m_Row_countDepths.2.1 32 = .ok (.aload_n 0, 1) := by decide +kernel
theorem d_Row_countDepths_33 : decode m_Row_countDepths.2.1 33 = .ok (.getfield 19, 3) := by decide +kernel
theorem d_Row_countDepths_36 : decode m_Row_countDepths.2.1 36 = .ok (.iload_n 2, 1) := by decide +kernel
theorem d_Row_countDepths_37 : decode m_Row_countDepths.2.1 37 = .ok (.iaload, 1) := by decide +kernel
theorem d_Row_countDepths_38 : decode m_Row_countDepths.2.1 38 = .ok (.iload_n 2, 1) := by decide +kernel
theorem d_Row_countDepths_39 : decode m_Row_countDepths.2.1 39 = .ok (.if_icmp .ge 6, 3) := by decide +kernel
theorem d_Row_countDepths_42 : decode m_Row_countDepths.2.1 42 = .ok (.iinc 1 (-1), 3) := by decide +kernel
theorem d_Row_countDepths_45 : decode m_Row_countDepths.2.1 45 = .ok (.aload_n 0, 1) := by decide +kernel
theorem d_Row_countDepths_46 : decode m_Row_countDepths.2.1 46 = .ok (.getfield 22, 3) := by decide +kernel
theorem d_Row_countDepths_49 : decode m_Row_countDepths.2.1 49 = .ok (.iload_n 2, 1) := by decide +kernel
theorem d_Row_countDepths_50 : decode m_Row_countDepths.2.1 50 = .ok (.iload_n 1, 1) := by decide +kernel
theorem d_Row_countDepths_51 : decode m_Row_countDepths.2.1 51 = .ok (.iastore, 1) := by decide +kernel
theorem d_Row_countDepths_52 : decode m_Row_countDepths.2.1 52 = .ok (.iload_n 3, 1) := by decide +kernel
theorem d_Row_countDepths_53 : decode m_Row_countDepths.2.1 53 = .ok (.ifCond .eq 16, 3) := by decide +kernel
theorem d_Row_countDepths_56 : decode m_Row_countDepths.2.1 56 = .ok (.aload_n 0, 1) := by decide +kernel
theorem d_Row_countDepths_57 : decode m_Row_countDepths.2.1 57 = .ok (.getfield 19, 3) := by decide +kernel
theorem d_Row_countDepths_60 : decode m_Row_countDepths.2.1 60 = .ok (.iload_n 2, 1) := by decide +kernel
theorem d_Row_countDepths_61 : decode m_Row_countDepths.2.1 61 = .ok (.iaload, 1) := by decide +kernel
theorem d_Row_countDepths_62 : decode m_Row_countDepths.2.1 62 = .ok (.iload_n 2, 1) := by decide +kernel
theorem d_Row_countDepths_63 : decode m_Row_countDepths.2.1 63 = .ok (.if_icmp .le 6, 3) := by decide +kernel
theorem d_Row_countDepths_66 : decode m_Row_countDepths.2.1 66 = .ok (.iinc 1 1, 3) := by decide +kernel
theorem d_Row_countDepths_69 : decode m_Row_countDepths.2.1 69 = .ok (.iinc 2 1, 3) := by decide +kernel
theorem d_Row_countDepths_72 : decode m_Row_countDepths.2.1 72 = .ok (.goto (-68), 3) := by decide +kernel
theorem d_Row_countDepths_75 : decode m_Row_countDepths.2.1 75 = .ok (.return_, 1) := by decide +kernel
theorem d_Row_has_0 : decode m_Row_has.2.1 0 = .ok (.iload_n 1, 1) := by decide +kernel
theorem d_Row_has_1 : decode m_Row_has.2.1 1 = .ok (.ifCond .lt 15, 3) := by decide +kernel
theorem d_Row_has_4 : decode m_Row_has.2.1 4 = .ok (.iload_n 1, 1) := by decide +kernel
theorem d_Row_has_5 : decode m_Row_has.2.1 5 = .ok (.aload_n 0, 1) := by decide +kernel
theorem d_Row_has_6 : decode m_Row_has.2.1 6 = .ok (.getfield 15, 3) := by decide +kernel
theorem d_Row_has_9 : decode m_Row_has.2.1 9 = .ok (.if_icmp .ge 7, 3) := by decide +kernel
theorem d_Row_has_12 : decode m_Row_has.2.1 12 = .ok (.iconst 1, 1) := by decide +kernel
theorem d_Row_has_13 : decode m_Row_has.2.1 13 = .ok (.goto 4, 3) := by decide +kernel
theorem d_Row_has_16 : decode m_Row_has.2.1 16 = .ok (.iconst 0, 1) := by decide +kernel
theorem d_Row_has_17 : decode m_Row_has.2.1 17 = .ok (.ireturn, 1) := by decide +kernel
theorem d_Row_depthOf_0 : decode m_Row_depthOf.2.1 0 = .ok (.aload_n 0, 1) := by decide +kernel
theorem d_Row_depthOf_1 : decode m_Row_depthOf.2.1 1 = .ok (.invokevirtual 45, 3) := by decide +kernel
theorem d_Row_depthOf_4 : decode m_Row_depthOf.2.1 4 = .ok (.aload_n 0, 1) := by decide +kernel
theorem d_Row_depthOf_5 : decode m_Row_depthOf.2.1 5 = .ok (.getfield 22, 3) := by decide +kernel
theorem d_Row_depthOf_8 : decode m_Row_depthOf.2.1 8 = .ok (.iload_n 1, 1) := by decide +kernel
theorem d_Row_depthOf_9 : decode m_Row_depthOf.2.1 9 = .ok (.iaload, 1) := by decide +kernel
theorem d_Row_depthOf_10 : decode m_Row_depthOf.2.1 10 = .ok (.ireturn, 1) := by decide +kernel
theorem d_Row_personOf_0 : decode m_Row_personOf.2.1 0 = .ok (.iload_n 0, 1) := by decide +kernel
theorem d_Row_personOf_1 : decode m_Row_personOf.2.1 1 = .ok (.bipush 6, 2) := by decide +kernel
theorem d_Row_personOf_3 : decode m_Row_personOf.2.1 3 = .ok (.if_icmp .ge 7, 3) := by decide +kernel
theorem d_Row_personOf_6 : decode m_Row_personOf.2.1 6 = .ok (.iconst (-1), 1) := by decide +kernel
theorem d_Row_personOf_7 : decode m_Row_personOf.2.1 7 = .ok (.goto 7, 3) := by decide +kernel
theorem d_Row_personOf_10 : decode m_Row_personOf.2.1 10 = .ok (.iload_n 0, 1) := by decide +kernel
theorem d_Row_personOf_11 : decode m_Row_personOf.2.1 11 = .ok (.bipush 6, 2) := by decide +kernel
theorem d_Row_personOf_13 : decode m_Row_personOf.2.1 13 = .ok (.isub, 1) := by decide +kernel
theorem d_Row_personOf_14 : decode m_Row_personOf.2.1 14 = .ok (.ireturn, 1) := by decide +kernel
theorem d_Row_remove_0 : decode m_Row_remove.2.1 0 = .ok (.aload_n 0, 1) := by decide +kernel
theorem d_Row_remove_1 : decode m_Row_remove.2.1 1 = .ok (.iload_n 1, 1) := by decide +kernel
theorem d_Row_remove_2 : decode m_Row_remove.2.1 2 = .ok (.invokevirtual 41, 3) := by decide +kernel
theorem d_Row_remove_5 : decode m_Row_remove.2.1 5 = .ok (.ifCond .ne 4, 3) := by decide +kernel
theorem d_Row_remove_8 : decode m_Row_remove.2.1 8 = .ok (.return_, 1) := by decide +kernel
theorem d_Row_remove_9 : decode m_Row_remove.2.1 9 = .ok (.aload_n 0, 1) := by decide +kernel
theorem d_Row_remove_10 : decode m_Row_remove.2.1 10 = .ok (.getfield 9, 3) := by decide +kernel
theorem d_Row_remove_13 : decode m_Row_remove.2.1 13 = .ok (.iload_n 1, 1) := by decide +kernel
theorem d_Row_remove_14 : decode m_Row_remove.2.1 14 = .ok (.iconst 1, 1) := by decide +kernel
theorem d_Row_remove_15 : decode m_Row_remove.2.1 15 = .ok (.iadd, 1) := by decide +kernel
theorem d_Row_remove_16 : decode m_Row_remove.2.1 16 = .ok (.aload_n 0, 1) := by decide +kernel
theorem d_Row_remove_17 : decode m_Row_remove.2.1 17 = .ok (.getfield 9, 3) := by decide +kernel
theorem d_Row_remove_20 : decode m_Row_remove.2.1 20 = .ok (.iload_n 1, 1) := by decide +kernel
theorem d_Row_remove_21 : decode m_Row_remove.2.1 21 = .ok (.aload_n 0, 1) := by decide +kernel
theorem d_Row_remove_22 : decode m_Row_remove.2.1 22 = .ok (.getfield 15, 3) := by decide +kernel
theorem d_Row_remove_25 : decode m_Row_remove.2.1 25 = .ok (.iload_n 1, 1) := by decide +kernel
theorem d_Row_remove_26 : decode m_Row_remove.2.1 26 = .ok (.isub, 1) := by decide +kernel
theorem d_Row_remove_27 : decode m_Row_remove.2.1 27 = .ok (.iconst 1, 1) := by decide +kernel
theorem d_Row_remove_28 : decode m_Row_remove.2.1 28 = .ok (.isub, 1) := by decide +kernel
theorem d_Row_remove_29 : decode m_Row_remove.2.1 29 = .ok (.invokestatic 35, 3) := by decide +kernel
theorem d_Row_remove_32 : decode m_Row_remove.2.1 32 = .ok (.aload_n 0, 1) := by decide +kernel
theorem d_Row_remove_33 : decode m_Row_remove.2.1 33 = .ok (.dup, 1) := by decide +kernel
theorem d_Row_remove_34 : decode m_Row_remove.2.1 34 = .ok (.getfield 15, 3) := by decide +kernel
theorem d_Row_remove_37 : decode m_Row_remove.2.1 37 = .ok (.iconst 1, 1) := by decide +kernel
theorem d_Row_remove_38 : decode m_Row_remove.2.1 38 = .ok (.isub, 1) := by decide +kernel
theorem d_Row_remove_39 : decode m_Row_remove.2.1 39 = .ok (.putfield 15, 3) := by decide +kernel
theorem d_Row_remove_42 : decode m_Row_remove.2.1 42 = .ok (.aload_n 0, 1) := by decide +kernel
theorem d_Row_remove_43 : decode m_Row_remove.2.1 43 = .ok (.iconst 0, 1) := by decide +kernel
theorem d_Row_remove_44 : decode m_Row_remove.2.1 44 = .ok (.putfield 31, 3) := by decide +kernel
theorem d_Row_remove_47 : decode m_Row_remove.2.1 47 = .ok (.return_, 1) := by decide +kernel
theorem d_Row_replace_0 : decode m_Row_replace.2.1 0 = .ok (.aload_n 0, 1) := by decide +kernel
theorem d_Row_replace_1 : decode m_Row_replace.2.1 1 = .ok (.iload_n 1, 1) := by decide +kernel
theorem d_Row_replace_2 : decode m_Row_replace.2.1 2 = .ok (.invokevirtual 41, 3) := by decide +kernel
theorem d_Row_replace_5 : decode m_Row_replace.2.1 5 = .ok (.ifCond .eq 15, 3) := by decide +kernel
theorem d_Row_replace_8 : decode m_Row_replace.2.1 8 = .ok (.aload_n 0, 1) := by decide +kernel
theorem d_Row_replace_9 : decode m_Row_replace.2.1 9 = .ok (.getfield 9, 3) := by decide +kernel
theorem d_Row_replace_12 : decode m_Row_replace.2.1 12 = .ok (.iload_n 1, 1) := by decide +kernel
theorem d_Row_replace_13 : decode m_Row_replace.2.1 13 = .ok (.iload_n 2, 1) := by decide +kernel
theorem d_Row_replace_14 : decode m_Row_replace.2.1 14 = .ok (.iastore, 1) := by decide +kernel
theorem d_Row_replace_15 : decode m_Row_replace.2.1 15 = .ok (.aload_n 0, 1) := by decide +kernel
theorem d_Row_replace_16 : decode m_Row_replace.2.1 16 = .ok (.iconst 0, 1) := by decide +kernel
theorem d_Row_replace_17 : decode m_Row_replace.2.1 17 = .ok (.putfield 31, 3) := by decide +kernel
theorem d_Row_replace_20 : decode m_Row_replace.2.1 20 = .ok (.return_, 1) := by decide +kernel
theorem d_Row_mateOf_0 : decode m_Row_mateOf.2.1 0 = .ok (.aload_n 0, 1) := by decide +kernel
theorem d_Row_mateOf_1 : decode m_Row_mateOf.2.1 1 = .ok (.invokevirtual 45, 3) := by decide +kernel
theorem d_Row_mateOf_4 : decode m_Row_mateOf.2.1 4 = .ok (.aload_n 0, 1) := by decide +kernel
theorem d_Row_mateOf_5 : decode m_Row_mateOf.2.1 5 = .ok (.getfield 19, 3) := by decide +kernel
theorem d_Row_mateOf_8 : decode m_Row_mateOf.2.1 8 = .ok (.iload_n 1, 1) := by decide +kernel
theorem d_Row_mateOf_9 : decode m_Row_mateOf.2.1 9 = .ok (.iaload, 1) := by decide +kernel
theorem d_Row_mateOf_10 : decode m_Row_mateOf.2.1 10 = .ok (.ireturn, 1) := by decide +kernel
theorem d_Row_isLoose_0 : decode m_Row_isLoose.2.1 0 = .ok (.aload_n 0, 1) := by decide +kernel
theorem d_Row_isLoose_1 : decode m_Row_isLoose.2.1 1 = .ok (.invokevirtual 45, 3) := by decide +kernel
theorem d_Row_isLoose_4 : decode m_Row_isLoose.2.1 4 = .ok (.aload_n 0, 1) := by decide +kernel
theorem d_Row_isLoose_5 : decode m_Row_isLoose.2.1 5 = .ok (.getfield 19, 3) := by decide +kernel
theorem d_Row_isLoose_8 : decode m_Row_isLoose.2.1 8 = .ok (.iload_n 1, 1) := by decide +kernel
theorem d_Row_isLoose_9 : decode m_Row_isLoose.2.1 9 = .ok (.iaload, 1) := by decide +kernel
theorem d_Row_isLoose_10 : decode m_Row_isLoose.2.1 10 = .ok (.iconst (-1), 1) := by decide +kernel
theorem d_Row_isLoose_11 : decode m_Row_isLoose.2.1 11 = .ok (.if_icmp .ne 19, 3) := by decide +kernel
theorem d_Row_isLoose_14 : decode m_Row_isLoose.2.1 14 = .ok (.aload_n 0, 1) := by decide +kernel
theorem d_Row_isLoose_15 : decode m_Row_isLoose.2.1 15 = .ok (.getfield 9, 3) := by decide +kernel
theorem d_Row_isLoose_18 : decode m_Row_isLoose.2.1 18 = .ok (.iload_n 1, 1) := by decide +kernel
theorem d_Row_isLoose_19 : decode m_Row_isLoose.2.1 19 = .ok (.iaload, 1) := by decide +kernel
theorem d_Row_isLoose_20 : decode m_Row_isLoose.2.1 20 = .ok (.invokestatic 48, 3) := by decide +kernel
theorem d_Row_isLoose_23 : decode m_Row_isLoose.2.1 23 = .ok (.ifCond .ne 7, 3) := by decide +kernel
theorem d_Row_isLoose_26 : decode m_Row_isLoose.2.1 26 = .ok (.iconst 1, 1) := by decide +kernel
theorem d_Row_isLoose_27 : decode m_Row_isLoose.2.1 27 = .ok (.goto 4, 3) := by decide +kernel
theorem d_Row_isLoose_30 : decode m_Row_isLoose.2.1 30 = .ok (.iconst 0, 1) := by decide +kernel
theorem d_Row_isLoose_31 : decode m_Row_isLoose.2.1 31 = .ok (.ireturn, 1) := by decide +kernel
theorem d_Row_isName_0 : decode m_Row_isName.2.1 0 = .ok (.iload_n 0, 1) := by decide +kernel
theorem d_Row_isName_1 : decode m_Row_isName.2.1 1 = .ok (.bipush 6, 2) := by decide +kernel
theorem d_Row_isName_3 : decode m_Row_isName.2.1 3 = .ok (.if_icmp .lt 7, 3) := by decide +kernel
theorem d_Row_isName_6 : decode m_Row_isName.2.1 6 = .ok (.iconst 1, 1) := by decide +kernel
theorem d_Row_isName_7 : decode m_Row_isName.2.1 7 = .ok (.goto 4, 3) := by decide +kernel
theorem d_Row_isName_10 : decode m_Row_isName.2.1 10 = .ok (.iconst 0, 1) := by decide +kernel
theorem d_Row_isName_11 : decode m_Row_isName.2.1 11 = .ok (.ireturn, 1) := by decide +kernel
theorem d_Row_isWhole_0 : decode m_Row_isWhole.2.1 0 = .ok (.iconst 0, 1) := by decide +kernel
theorem d_Row_isWhole_1 : decode m_Row_isWhole.2.1 1 = .ok (.istore_n 3, 1) := by decide +kernel
theorem d_Row_isWhole_2 : decode m_Row_isWhole.2.1 2 = .ok (.iload_n 1, 1) := by decide +kernel
theorem d_Row_isWhole_3 : decode m_Row_isWhole.2.1 3 = .ok (.istore 4, 2) := by decide +kernel
theorem d_Row_isWhole_5 : decode m_Row_isWhole.2.1 5 = .ok (.iload 4, 2) := by decide +kernel
theorem d_Row_isWhole_7 : decode m_Row_isWhole.2.1 7 = .ok (.iload_n 2, 1) := by decide +kernel
theorem d_Row_isWhole_8 : decode m_Row_isWhole.2.1 8 = .ok (.if_icmp .gt 73, 3) := by decide +kernel
theorem d_Row_isWhole_11 : decode m_Row_isWhole.2.1 11 = .ok (.aload_n 0, 1) := by decide +kernel
theorem d_Row_isWhole_12 : decode m_Row_isWhole.2.1 12 = .ok (.getfield 9, 3) := by decide +kernel
theorem d_Row_isWhole_15 : decode m_Row_isWhole.2.1 15 = .ok (.iload 4, 2) := by decide +kernel
theorem d_Row_isWhole_17 : decode m_Row_isWhole.2.1 17 = .ok (.iaload, 1) := by decide +kernel
theorem d_Row_isWhole_18 : decode m_Row_isWhole.2.1 18 = .ok (.istore 5, 2) := by decide +kernel
theorem d_Row_isWhole_20 : decode m_Row_isWhole.2.1 20 = .ok (.iload 5, 2) := by decide +kernel
theorem d_Row_isWhole_22 : decode m_Row_isWhole.2.1 22 = .ok (.invokestatic 55, 3) := by decide +kernel
theorem d_Row_isWhole_25 : decode m_Row_isWhole.2.1 25 = .ok (.ifCond .eq 17, 3) := by decide +kernel
theorem d_Row_isWhole_28 : decode m_Row_isWhole.2.1 28 = .ok (.aload_n 0, 1) := by decide +kernel
theorem d_Row_isWhole_29 : decode m_Row_isWhole.2.1 29 = .ok (.getfield 25, 3) := by decide +kernel
theorem d_Row_isWhole_32 : decode m_Row_isWhole.2.1 32 = .ok (.iload_n 3, 1) := by decide +kernel
theorem d_Row_isWhole_33 : decode m_Row_isWhole.2.1 33 = .ok (.iload 5, 2) := by decide +kernel
theorem d_Row_isWhole_35 : decode m_Row_isWhole.2.1 35 = .ok (.iastore, 1) := by decide +kernel
theorem d_Row_isWhole_36 : decode m_Row_isWhole.2.1 36 = .ok (.iinc 3 1, 3) := by decide +kernel
theorem d_Row_isWhole_39 : decode m_Row_isWhole.2.1 39 = .ok (.goto 36, 3) := by decide +kernel
theorem d_Row_isWhole_42 : decode m_Row_isWhole.2.1 42 = .ok (.iload 5, 2) := by decide +kernel
theorem d_Row_isWhole_44 : decode m_Row_isWhole.2.1 44 = .ok (.invokestatic 58, 3) := by decide +kernel
theorem d_Row_isWhole_47 : decode m_Row_isWhole.2.1 47 = .ok (.ifCond .eq 28, 3) := by decide +kernel
theorem d_Row_isWhole_50 : decode m_Row_isWhole.2.1 50 = .ok (.iload_n 3, 1) := by decide +kernel
theorem d_Row_isWhole_51 : decode m_Row_isWhole.2.1 51 = .ok (.ifCond .eq 19, 3) := by decide +kernel
theorem d_Row_isWhole_54 : decode m_Row_isWhole.2.1 54 = .ok (.aload_n 0, 1) := by decide +kernel
theorem d_Row_isWhole_55 : decode m_Row_isWhole.2.1 55 = .ok (.getfield 25, 3) := by decide +kernel
theorem d_Row_isWhole_58 : decode m_Row_isWhole.2.1 58 = .ok (.iload_n 3, 1) := by decide +kernel
theorem d_Row_isWhole_59 : decode m_Row_isWhole.2.1 59 = .ok (.iconst 1, 1) := by decide +kernel
theorem d_Row_isWhole_60 : decode m_Row_isWhole.2.1 60 = .ok (.isub, 1) := by decide +kernel
theorem d_Row_isWhole_61 : decode m_Row_isWhole.2.1 61 = .ok (.iaload, 1) := by decide +kernel
theorem d_Row_isWhole_62 : decode m_Row_isWhole.2.1 62 = .ok (.iload 5, 2) := by decide +kernel
theorem d_Row_isWhole_64 : decode m_Row_isWhole.2.1 64 = .ok (.invokestatic 61, 3) := by decide +kernel
theorem d_Row_isWhole_67 : decode m_Row_isWhole.2.1 67 = .ok (.if_icmp .eq 5, 3) := by decide +kernel
theorem d_Row_isWhole_70 : decode m_Row_isWhole.2.1 70 = .ok (.iconst 0, 1) := by decide +kernel
theorem d_Row_isWhole_71 : decode m_Row_isWhole.2.1 71 = .ok (.ireturn, 1) := by decide +kernel
theorem d_Row_isWhole_72 : decode m_Row_isWhole.2.1 72 = .ok (.iinc 3 (-1), 3) := by decide +kernel
theorem d_Row_isWhole_75 : decode m_Row_isWhole.2.1 75 = .ok (.iinc 4 1, 3) := by decide +kernel
theorem d_Row_isWhole_78 : decode m_Row_isWhole.2.1 78 = .ok (.goto (-73), 3) := by decide +kernel
theorem d_Row_isWhole_81 : decode m_Row_isWhole.2.1 81 = .ok (.iload_n 3, 1) := by decide +kernel
theorem d_Row_isWhole_82 : decode m_Row_isWhole.2.1 82 = .ok (.ifCond .ne 7, 3) := by decide +kernel
theorem d_Row_isWhole_85 : decode m_Row_isWhole.2.1 85 = .ok (.iconst 1, 1) := by decide +kernel
theorem d_Row_isWhole_86 : decode m_Row_isWhole.2.1 86 = .ok (.goto 4, 3) := by decide +kernel
theorem d_Row_isWhole_89 : decode m_Row_isWhole.2.1 89 = .ok (.iconst 0, 1) := by decide +kernel
theorem d_Row_isWhole_90 : decode m_Row_isWhole.2.1 90 = .ok (.ireturn, 1) := by decide +kernel
theorem d_Row_isAllWhole_0 : decode m_Row_isAllWhole.2.1 0 = .ok (.aload_n 0, 1) := by decide +kernel
theorem d_Row_isAllWhole_1 : decode m_Row_isAllWhole.2.1 1 = .ok (.invokevirtual 51, 3) := by decide +kernel
theorem d_Row_isAllWhole_4 : decode m_Row_isAllWhole.2.1 4 = .ok (.ifCond .ne 7, 3) := by decide +kernel
theorem d_Row_isAllWhole_7 : decode m_Row_isAllWhole.2.1 7 = .ok (.iconst 1, 1) := by decide +kernel
theorem d_Row_isAllWhole_8 : decode m_Row_isAllWhole.2.1 8 = .ok (.goto 4, 3) := by decide +kernel
theorem d_Row_isAllWhole_11 : decode m_Row_isAllWhole.2.1 11 = .ok (.iconst 0, 1) := by decide +kernel
theorem d_Row_isAllWhole_12 : decode m_Row_isAllWhole.2.1 12 = .ok (.ireturn, 1) := by decide +kernel
