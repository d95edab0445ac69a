theorem d_Row_init_0 : decode m_Row_init.2.1 0 = .ok (.aload_n 0, 1) := by decide +kernel
theorem d_Row_init_1 : decode m_Row_init.2.1 1 = .ok (.invokespecial 3, 3) := by decide +kernel
theorem d_Row_init_4 : decode m_Row_init.2.1 4 = .ok (.aload_n 0, 1) := by decide +kernel
theorem d_Row_init_5 : decode m_Row_init.2.1 5 = .ok (.bipush 20, 2) := by decide +kernel
theorem d_Row_init_7 : decode m_Row_init.2.1 7 = .ok (.newarray .int, 2) := by decide +kernel
theorem d_Row_init_9 : decode m_Row_init.2.1 9 = .ok (.putfield 9, 3) := by decide +kernel
theorem d_Row_init_12 : decode m_Row_init.2.1 12 = .ok (.aload_n 0, 1) := by decide +kernel
theorem d_Row_init_13 : decode m_Row_init.2.1 13 = .ok (.iconst 0, 1) := by decide +kernel
theorem d_Row_init_14 : decode m_Row_init.2.1 14 = .ok (.putfield 15, 3) := by decide +kernel
theorem d_Row_init_17 : decode m_Row_init.2.1 17 = .ok (.aload_n 0, 1) := by decide +kernel
theorem d_Row_init_18 : decode m_Row_init.2.1 18 = .ok (.bipush 20, 2) := by decide +kernel
theorem d_Row_init_20 : decode m_Row_init.2.1 20 = .ok (.newarray .int, 2) := by decide +kernel
theorem d_Row_init_22 : decode m_Row_init.2.1 22 = .ok (.putfield 19, 3) := by decide +kernel
theorem d_Row_init_25 : decode m_Row_init.2.1 25 = .ok (.aload_n 0, 1) := by decide +kernel
theorem d_Row_init_26 : decode m_Row_init.2.1 26 = .ok (.bipush 20, 2) := by decide +kernel
theorem d_Row_init_28 : decode m_Row_init.2.1 28 = .ok (.newarray .int, 2) := by decide +kernel
theorem d_Row_init_30 : decode m_Row_init.2.1 30 = .ok (.putfield 22, 3) := by decide +kernel
theorem d_Row_init_33 : decode m_Row_init.2.1 33 = .ok (.aload_n 0, 1) := by decide +kernel
theorem d_Row_init_34 : decode m_Row_init.2.1 34 = .ok (.bipush 20, 2) := by decide +kernel
theorem d_Row_init_36 : decode m_Row_init.2.1 36 = .ok (.newarray .int, 2) := by decide +kernel
theorem d_Row_init_38 : decode m_Row_init.2.1 38 = .ok (.putfield 25, 3) := by decide +kernel
theorem d_Row_init_41 : decode m_Row_init.2.1 41 = .ok (.aload_n 0, 1) := by decide +kernel
theorem d_Row_init_42 : decode m_Row_init.2.1 42 = .ok (.iconst 0, 1) := by decide +kernel
theorem d_Row_init_43 : decode m_Row_init.2.1 43 = .ok (.putfield 28, 3) := by decide +kernel
theorem d_Row_init_46 : decode m_Row_init.2.1 46 = .ok (.aload_n 0, 1) := by decide +kernel
theorem d_Row_init_47 : decode m_Row_init.2.1 47 = .ok (.iconst 0, 1) := by decide +kernel
theorem d_Row_init_48 : decode m_Row_init.2.1 48 = .ok (.putfield 31, 3) := by decide +kernel
theorem d_Row_init_51 : decode m_Row_init.2.1 51 = .ok (.return_, 1) := by decide +kernel
theorem d_Row_insert_0 : decode m_Row_insert.2.1 0 = .ok (.aload_n 0, 1) := by decide +kernel
theorem d_Row_insert_1 : decode m_Row_insert.2.1 1 = .ok (.getfield 15, 3) := by decide +kernel
theorem d_Row_insert_4 : decode m_Row_insert.2.1 4 = .ok (.bipush 20, 2) := by decide +kernel
theorem d_Row_insert_6 : decode m_Row_insert.2.1 6 = .ok (.if_icmp .ge 15, 3) := by decide +kernel
theorem d_Row_insert_9 : decode m_Row_insert.2.1 9 = .ok (.iload_n 2, 1) := by decide +kernel
theorem d_Row_insert_10 : decode m_Row_insert.2.1 10 = .ok (.ifCond .lt 11, 3) := by decide +kernel
theorem d_Row_insert_13 : decode m_Row_insert.2.1 13 = .ok (.iload_n 2, 1) := by decide +kernel
theorem d_Row_insert_14 : decode m_Row_insert.2.1 14 = .ok (.aload_n 0, 1) := by decide +kernel
theorem d_Row_insert_15 : decode m_Row_insert.2.1 15 = .ok (.getfield 15, 3) := by decide +kernel
theorem d_Row_insert_18 : decode m_Row_insert.2.1 18 = .ok (.if_icmp .le 4, 3) := by decide +kernel
theorem d_Row_insert_21 : decode m_Row_insert.2.1 21 = .ok (.return_, 1) := by decide +kernel
theorem d_Row_insert_22 : decode m_Row_insert.2.1 22 = .ok (.aload_n 0, 1) := by decide +kernel
theorem d_Row_insert_23 : decode m_Row_insert.2.1 23 = .ok (.getfield 9, 3) := by decide +kernel
theorem d_Row_insert_26 : decode m_Row_insert.2.1 26 = .ok (.iload_n 2, 1) := by decide +kernel
theorem d_Row_insert_27 : decode m_Row_insert.2.1 27 = .ok (.aload_n 0, 1) := by decide +kernel
theorem d_Row_insert_28 : decode m_Row_insert.2.1 28 = .ok (.getfield 9, 3) := by decide +kernel
theorem d_Row_insert_31 : decode m_Row_insert.2.1 31 = .ok (.iload_n 2, 1) := by decide +kernel
theorem d_Row_insert_32 : decode m_Row_insert.2.1 32 = .ok (.iconst 1, 1) := by decide +kernel
theorem d_Row_insert_33 : decode m_Row_insert.2.1 33 = .ok (.iadd, 1) := by decide +kernel
theorem d_Row_insert_34 : decode m_Row_insert.2.1 34 = .ok (.aload_n 0, 1) := by decide +kernel
theorem d_Row_insert_35 : decode m_Row_insert.2.1 35 = .ok (.getfield 15, 3) := by decide +kernel
theorem d_Row_insert_38 : decode m_Row_insert.2.1 38 = .ok (.iload_n 2, 1) := by decide +kernel
theorem d_Row_insert_39 : decode m_Row_insert.2.1 39 = .ok (.isub, 1) := by decide +kernel
theorem d_Row_insert_40 : decode m_Row_insert.2.1 40 = .ok (.invokestatic 35, 3) := by decide +kernel
theorem d_Row_insert_43 : decode m_Row_insert.2.1 43 = .ok (.aload_n 0, 1) := by decide +kernel
theorem d_Row_insert_44 : decode m_Row_insert.2.1 44 = .ok (.getfield 9, 3) := by decide +kernel
theorem d_Row_insert_47 : decode m_Row_insert.2.1 47 = .ok (.iload_n 2, 1) := by decide +kernel
theorem d_Row_insert_48 : decode m_Row_insert.2.1 48 = .ok (.iload_n 1, 1) := by decide +kernel
theorem d_Row_insert_49 : decode m_Row_insert.2.1 49 = .ok (.iastore, 1) := by decide +kernel
theorem d_Row_insert_50 : decode m_Row_insert.2.1 50 = .ok (.aload_n 0, 1) := by decide +kernel
theorem d_Row_insert_51 : decode m_Row_insert.2.1 51 = .ok (.dup, 1) := by decide +kernel
theorem d_Row_insert_52 : decode m_Row_insert.2.1 52 = .ok (.getfield 15, 3) := by decide +kernel
theorem d_Row_insert_55 : decode m_Row_insert.2.1 55 = .ok (.iconst 1, 1) := by decide +kernel
theorem d_Row_insert_56 : decode m_Row_insert.2.1 56 = .ok (.iadd, 1) := by decide +kernel
theorem d_Row_insert_57 : decode m_Row_insert.2.1 57 = .ok (.putfield 15, 3) := by decide +kernel
theorem d_Row_insert_60 : decode m_Row_insert.2.1 60 = .ok (.aload_n 0, 1) := by decide +kernel
theorem d_Row_insert_61 : decode m_Row_insert.2.1 61 = .ok (.iconst 0, 1) := by decide +kernel
theorem d_Row_insert_62 : decode m_Row_insert.2.1 62 = .ok (.putfield 31, 3) := by decide +kernel
theorem d_Row_insert_65 : decode m_Row_insert.2.1 65 = .ok (.return_, 1) := by decide +kernel
theorem d_Row_copyFrom_0 : decode m_Row_copyFrom.2.1 0 = .ok (.aload_n 1, 1) := by decide +kernel
theorem d_Row_copyFrom_1 : decode m_Row_copyFrom.2.1 1 = .ok (.getfield 9, 3) := by decide +kernel
theorem d_Row_copyFrom_4 : decode m_Row_copyFrom.2.1 4 = .ok (.iconst 0, 1) := by decide +kernel
theorem d_Row_copyFrom_5 : decode m_Row_copyFrom.2.1 5 = .ok (.aload_n 0, 1) := by decide +kernel
theorem d_Row_copyFrom_6 : decode m_Row_copyFrom.2.1 6 = .ok (.getfield 9, 3) := by decide +kernel
theorem d_Row_copyFrom_9 : decode m_Row_copyFrom.2.1 9 = .ok (.iconst 0, 1) := by decide +kernel
theorem d_Row_copyFrom_10 : decode m_Row_copyFrom.2.1 10 = .ok (.bipush 20, 2) := by decide +kernel
theorem d_Row_copyFrom_12 : decode m_Row_copyFrom.2.1 12 = .ok (.invokestatic 35, 3) := by decide +kernel
theorem d_Row_copyFrom_15 : decode m_Row_copyFrom.2.1 15 = .ok (.aload_n 0, 1) := by decide +kernel
theorem d_Row_copyFrom_16 : decode m_Row_copyFrom.2.1 16 = .ok (.aload_n 1, 1) := by decide +kernel
theorem d_Row_copyFrom_17 : decode m_Row_copyFrom.2.1 17 = .ok (.getfield 15, 3) := by decide +kernel
theorem d_Row_copyFrom_20 : decode m_Row_copyFrom.2.1 20 = .ok (.putfield 15, 3) := by decide +kernel
theorem d_Row_copyFrom_23 : decode m_Row_copyFrom.2.1 23 = .ok (.aload_n 0, 1) := by decide +kernel
theorem d_Row_copyFrom_24 : decode m_Row_copyFrom.2.1 24 = .ok (.iconst 0, 1) := by decide +kernel
theorem d_Row_copyFrom_25 : decode m_Row_copyFrom.2.1 25 = .ok (.putfield 31, 3) := by decide +kernel
theorem d_Row_copyFrom_28 : decode m_Row_copyFrom.2.1 28 = .ok (.return_, 1) := by decide +kernel
theorem d_Row_looseOnes_0 : decode m_Row_looseOnes.2.1 0 = .ok (.aload_n 0, 1) := by decide +kernel
theorem d_Row_looseOnes_1 : decode m_Row_looseOnes.2.1 1 = .ok (.invokevirtual 45, 3) := by decide +kernel
theorem d_Row_looseOnes_4 : decode m_Row_looseOnes.2.1 4 = .ok (.aload_n 0, 1) := by decide +kernel
theorem d_Row_looseOnes_5 : decode m_Row_looseOnes.2.1 5 = .ok (.getfield 28, 3) := by decide +kernel
theorem d_Row_looseOnes_8 : decode m_Row_looseOnes.2.1 8 = .ok (.ireturn, 1) := by decide +kernel
theorem d_Row_pairUp_0 : decode m_Row_pairUp.2.1 0 = .ok (.aload_n 0, 1) := by decide +kernel
theorem d_Row_pairUp_1 : decode m_Row_pairUp.2.1 1 = .ok (.getfield 31, 3) := by decide +kernel
theorem d_Row_pairUp_4 : decode m_Row_pairUp.2.1 4 = .ok (.ifCond .eq 4, 3) := by decide +kernel
theorem d_Row_pairUp_7 : decode m_Row_pairUp.2.1 7 = .ok (.return_, 1) := by decide +kernel
theorem d_Row_pairUp_8 : decode m_Row_pairUp.2.1 8 = .ok (.aload_n 0, 1) := by decide +kernel
theorem d_Row_pairUp_9 : decode m_Row_pairUp.2.1 9 = .ok (.invokevirtual 65, 3) := by decide +kernel
theorem d_Row_pairUp_12 : decode m_Row_pairUp.2.1 12 = .ok (.aload_n 0, 1) := by decide +kernel
theorem d_Row_pairUp_13 : decode m_Row_pairUp.2.1 13 = .ok (.invokevirtual 68, 3) := by decide +kernel
theorem d_Row_pairUp_16 : decode m_Row_pairUp.2.1 16 = .ok (.aload_n 0, 1) := by decide +kernel
theorem d_Row_pairUp_17 : decode m_Row_pairUp.2.1 17 = .ok (.iconst 1, 1) := by decide +kernel
theorem d_Row_pairUp_18 : decode m_Row_pairUp.2.1 18 = .ok (.putfield 31, 3) := by decide +kernel
theorem d_Row_pairUp_21 : decode m_Row_pairUp.2.1 21 = .ok (.return_, 1) := by decide +kernel
theorem d_Row_findMates_0 : decode m_Row_findMates.2.1 0 = .ok (.iconst 0, 1) := by decide +kernel
theorem d_Row_findMates_1 : decode m_Row_findMates.2.1 1 = .ok (.istore_n 1, 1) := by decide +kernel
theorem d_Row_findMates_2 : decode m_Row_findMates.2.1 2 = .ok (.aload_n 0, 1) := by decide +kernel
theorem d_Row_findMates_3 : decode m_Row_findMates.2.1 3 = .ok (.iconst 0, 1) := by decide +kernel
theorem d_Row_findMates_4 : decode m_Row_findMates.2.1 4 = .ok (.putfield 28, 3) := by decide +kernel
theorem d_Row_findMates_7 : decode m_Row_findMates.2.1 7 = .ok (.iconst 0, 1) := by decide +kernel
theorem d_Row_findMates_8 : decode m_Row_findMates.2.1 8 = .ok (.istore_n 2, 1) := by decide +kernel
theorem d_Row_findMates_9 : decode m_Row_findMates.2.1 9 = .ok (.iload_n 2, 1) := by decide +kernel
theorem d_Row_findMates_10 : decode m_Row_findMates.2.1 10 = .ok (.aload_n 0, 1) := by decide +kernel
theorem d_Row_findMates_11 : decode m_Row_findMates.2.1 11 = .ok (.getfield 15, 3) := by decide +kernel
theorem d_Row_findMates_14 : decode m_Row_findMates.2.1 14 = .ok (.if_icmp .ge 122, 3) := by decide +kernel
theorem d_Row_findMates_17 : decode m_Row_findMates.2.1 17 = .ok (.aload_n 0, 1) := by decide +kernel
theorem d_Row_findMates_18 : decode m_Row_findMates.2.1 18 = .ok (.getfield 19, 3) := by decide +kernel
theorem d_Row_findMates_21 : decode m_Row_findMates.2.1 21 = .ok (.iload_n 2, 1) := by decide +kernel
theorem d_Row_findMates_22 : decode m_Row_findMates.2.1 22 = .ok (.iconst (-1), 1) := by decide +kernel
theorem d_Row_findMates_23 : decode m_Row_findMates.2.1 23 = .ok (.iastore, 1) := by decide +kernel
theorem d_Row_findMates_24 : decode m_Row_findMates.2.1 24 = .ok (.aload_n 0, 1) := by decide +kernel
theorem d_Row_findMates_25 : decode m_Row_findMates.2.1 25 = .ok (.getfield 9, 3) := by decide +kernel
theorem d_Row_findMates_28 : decode m_Row_findMates.2.1 28 = .ok (.iload_n 2, 1) := by decide +kernel
theorem d_Row_findMates_29 : decode m_Row_findMates.2.1 29 = .ok (.iaload, 1) := by decide +kernel
theorem d_Row_findMates_30 : decode m_Row_findMates.2.1 30 = .ok (.invokestatic 55, 3) := by decide +kernel
theorem d_Row_findMates_33 : decode m_Row_findMates.2.1 33 = .ok (.ifCond .eq 16, 3) := by decide +kernel
theorem d_Row_findMates_36 : decode m_Row_findMates.2.1 36 = .ok (.aload_n 0, 1) := by decide +kernel
theorem d_Row_findMates_37 : decode m_Row_findMates.2.1 37 = .ok (.getfield 25, 3) := by decide +kernel
theorem d_Row_findMates_40 : decode m_Row_findMates.2.1 40 = .ok (.iload_n 1, 1) := by decide +kernel
theorem d_Row_findMates_41 : decode m_Row_findMates.2.1 41 = .ok (.iload_n 2, 1) := by decide +kernel
theorem d_Row_findMates_42 : decode m_Row_findMates.2.1 42 = .ok (.iastore, 1) := by decide +kernel
theorem d_Row_findMates_43 : decode m_Row_findMates.2.1 43 = .ok (.iinc 1 1, 3) := by decide +kernel
theorem d_Row_findMates_46 : decode m_Row_findMates.2.1 46 = .ok (.goto 84, 3) := by decide +kernel
theorem d_Row_findMates_49 : decode m_Row_findMates.2.1 49 = .ok (.aload_n 0, 1) := by decide +kernel
theorem d_Row_findMates_50 : decode m_Row_findMates.2.1 50 = .ok (.getfield 9, 3) := by decide +kernel
theorem d_Row_findMates_53 : decode m_Row_findMates.2.1 53 = .ok (.iload_n 2, 1) := by decide +kernel
theorem d_Row_findMates_54 : decode m_Row_findMates.2.1 54 = .ok (.iaload, 1) := by decide +kernel
theorem d_Row_findMates_55 : decode m_Row_findMates.2.1 55 = .ok (.invokestatic 58, 3) := by decide +kernel
theorem d_Row_findMates_58 : decode m_Row_findMates.2.1 58 = .ok (.ifCond .eq 72, 3) := by decide +kernel
theorem d_Row_findMates_61 : decode m_Row_findMates.2.1 61 = .ok (.iload_n 1, 1) := by decide +kernel
theorem d_Row_findMates_62 : decode m_Row_findMates.2.1 62 = .ok (.ifCond .le 58, 3) := by decide +kernel
theorem d_Row_findMates_65 : decode m_Row_findMates.2.1 65 = .ok (.aload_n 0, 1) := by decide +kernel
theorem d_Row_findMates_66 : decode m_Row_findMates.2.1 66 = .ok (.getfield 9, 3) := by decide +kernel
theorem d_Row_findMates_69 : decode m_Row_findMates.2.1 69 = .ok (.aload_n 0, 1) := by decide +kernel
theorem d_Row_findMates_70 : decode m_Row_findMates.2.1 70 = .ok (.getfield 25, 3) := by decide +kernel
theorem d_Row_findMates_73 : decode m_Row_findMates.2.1 73 = .ok (.iload_n 1, 1) := by decide +kernel
theorem d_Row_findMates_74 : decode m_Row_findMates.2.1 74 = .ok (.iconst 1, 1) := by decide +kernel
theorem d_Row_findMates_75 : decode m_Row_findMates.2.1 75 = .ok (.isub, 1) := by decide +kernel
theorem d_Row_findMates_76 : decode m_Row_findMates.2.1 76 = .ok (.iaload, 1) := by decide +kernel
theorem d_Row_findMates_77 : decode m_Row_findMates.2.1 77 = .ok (.iaload, 1) := by decide +kernel
theorem d_Row_findMates_78 : decode m_Row_findMates.2.1 78 = .ok (.aload_n 0, 1) := by decide +kernel
theorem d_Row_findMates_79 : decode m_Row_findMates.2.1 79 = .ok (.getfield 9, 3) := by decide +kernel
theorem d_Row_findMates_82 : decode m_Row_findMates.2.1 82 = .ok (.iload_n 2, 1) := by decide +kernel
theorem d_Row_findMates_83 : decode m_Row_findMates.2.1 83 = .ok (.iaload, 1) := by decide +kernel
theorem d_Row_findMates_84 : decode m_Row_findMates.2.1 84 = .ok (.invokestatic 61, 3) := by decide +kernel
theorem d_Row_findMates_87 : decode m_Row_findMates.2.1 87 = .ok (.if_icmp .ne 33, 3) := by decide +kernel
theorem d_Row_findMates_90 : decode m_Row_findMates.2.1 90 = .ok (.iinc 1 (-1), 3) := by decide +kernel
theorem d_Row_findMates_93 : decode m_Row_findMates.2.1 93 = .ok (.aload_n 0, 1) := by decide +kernel
theorem d_Row_findMates_94 : decode m_Row_findMates.2.1 94 = .ok (.getfield 19, 3) := by decide +kernel
theorem d_Row_findMates_97 : decode m_Row_findMates.2.1 97 = .ok (.iload_n 2, 1) := by decide +kernel
theorem d_Row_findMates_98 : decode m_Row_findMates.2.1 98 = .ok (.aload_n 0, 1) := by decide +kernel
theorem d_Row_findMates_99 : decode m_Row_findMates.2.1 99 = .ok (.getfield 25, 3) := by decide +kernel
theorem d_Row_findMates_102 : decode m_Row_findMates.2.1 102 = .ok (.iload_n 1, 1) := by decide +kernel
theorem d_Row_findMates_103 : decode m_Row_findMates.2.1 103 = .ok (.iaload, 1) := by decide +kernel
theorem d_Row_findMates_104 : decode m_Row_findMates.2.1 104 = .ok (.iastore, 1) := by decide +kernel
theorem d_Row_findMates_105 : decode m_Row_findMates.2.1 105 = .ok (.aload_n 0, 1) := by decide +kernel
theorem d_Row_findMates_106 : decode m_Row_findMates.2.1 106 = .ok (.getfield 19, 3) := by decide +kernel
theorem d_Row_findMates_109 : decode m_Row_findMates.2.1 109 = .ok (.aload_n 0, 1) := by decide +kernel
theorem d_Row_findMates_110 : decode m_Row_findMates.2.1 110 = .ok (.getfield 25, 3) := by decide +kernel
theorem d_Row_findMates_113 : decode m_Row_findMates.2.1 113 = .ok (.iload_n 1, 1) := by decide +kernel
theorem d_Row_findMates_114 : decode m_Row_findMates.2.1 114 = .ok (.iaload, 1) := by decide +kernel
theorem d_Row_findMates_115 : decode m_Row_findMates.2.1 115 = .ok (.iload_n 2, 1) := by decide +kernel
theorem d_Row_findMates_116 : decode m_Row_findMates.2.1 116 = .ok (.iastore, 1) := by decide +kernel
theorem d_Row_findMates_117 : decode m_Row_findMates.2.1 117 = .ok (.goto 13, 3) := by decide +kernel
theorem d_Row_findMates_120 : decode m_Row_findMates.2.1 120 = .ok (.aload_n 0, 1) := by decide +kernel
theorem d_Row_findMates_121 : decode m_Row_findMates.2.1 121 = .ok (.dup, 1) := by decide +kernel
theorem d_Row_findMates_122 : decode m_Row_findMates.2.1 122 = .ok (.getfield 28, 3) := by decide +kernel
theorem d_Row_findMates_125 : decode m_Row_findMates.2.1 125 = .ok (.iconst 1, 1) := by decide +kernel
theorem d_Row_findMates_126 : decode m_Row_findMates.2.1 126 = .ok (.iadd, 1) := by decide +kernel
theorem d_Row_findMates_127 : decode m_Row_findMates.2.1 127 = .ok (.putfield 28, 3) := by decide +kernel
theorem d_Row_findMates_130 : decode m_Row_findMates.2.1 130 = .ok (.iinc 2 1, 3) := by decide +kernel
theorem d_Row_findMates_133 : decode m_Row_findMates.2.1 133 = .ok (.goto (-124), 3) := by decide +kernel
theorem d_Row_findMates_136 : decode m_Row_findMates.2.1 136 = .ok (.aload_n 0, 1) := by decide +kernel
theorem d_Row_findMates_137 : decode m_Row_findMates.2.1 137 = .ok (.dup, 1) := by decide +kernel
theorem d_Row_findMates_138 : decode m_Row_findMates.2.1 138 = .ok (.getfield 28, 3) := by decide +kernel
theorem d_Row_findMates_141 : decode m_Row_findMates.2.1 141 = .ok (.iload_n 1, 1) := by decide +kernel
theorem d_Row_findMates_142 : decode m_Row_findMates.2.1 142 = .ok (.iadd, 1) := by decide +kernel
theorem d_Row_findMates_143 : decode m_Row_findMates.2.1 143 = .ok (.putfield 28, 3) := by decide +kernel
theorem d_Row_findMates_146 : decode m_Row_findMates.2.1 146 = .ok (.return_, 1) := by decide +kernel
theorem d_Row_opens_0 : decode m_Row_opens.2.1 0 = .ok (.iload_n 0, 1) := by decide +kernel
theorem d_Row_opens_1 : decode m_Row_opens.2.1 1 = .ok (.iconst 3, 1) := by decide +kernel
theorem d_Row_opens_2 : decode m_Row_opens.2.1 2 = .ok (.if_icmp .ge 7, 3) := by decide +kernel
theorem d_Row_opens_5 : decode m_Row_opens.2.1 5 = .ok (.iconst 1, 1) := by decide +kernel
theorem d_Row_opens_6 : decode m_Row_opens.2.1 6 = .ok (.goto 4, 3) := by decide +kernel
theorem d_Row_opens_9 : decode m_Row_opens.2.1 9 = .ok (.iconst 0, 1) := by decide +kernel
theorem d_Row_opens_10 : decode m_Row_opens.2.1 10 = .ok (.ireturn, 1) := by decide +kernel
theorem d_Row_closes_0 : decode m_Row_closes.2.1 0 = .ok (.iload_n 0, 1) := by decide +kernel
theorem d_Row_closes_1 : decode m_Row_closes.2.1 1 = .ok (.iconst 3, 1) := by decide +kernel
theorem d_Row_closes_2 : decode m_Row_closes.2.1 2 = .ok (.if_icmp .lt 13, 3) := by decide +kernel
theorem d_Row_closes_5 : decode m_Row_closes.2.1 5 = .ok (.iload_n 0, 1) := by decide +kernel
theorem d_Row_closes_6 : decode m_Row_closes.2.1 6 = .ok (.bipush 6, 2) := by decide +kernel
theorem d_Row_closes_8 : decode m_Row_closes.2.1 8 = .ok (.if_icmp .ge 7, 3) := by decide +kernel
theorem d_Row_closes_11 : decode m_Row_closes.2.1 11 = .ok (.iconst 1, 1) := by decide +kernel
theorem d_Row_closes_12 : decode m_Row_closes.2.1 12 = .ok (.goto 4, 3) := by decide +kernel
theorem d_Row_closes_15 : decode m_Row_closes.2.1 15 = .ok (.iconst 0, 1) := by decide +kernel
theorem d_Row_closes_16 : decode m_Row_closes.2.1 16 = .ok (.ireturn, 1) := by decide +kernel
theorem d_Row_kindOf_0 : decode m_Row_kindOf.2.1 0 = .ok (.iload_n 0, 1) := by decide +kernel
theorem d_Row_kindOf_1 : decode m_Row_kindOf.2.1 1 = .ok (.bipush 6, 2) := by decide +kernel
theorem d_Row_kindOf_3 : decode m_Row_kindOf.2.1 3 = .ok (.if_icmp .ge 9, 3) := by decide +kernel
theorem d_Row_kindOf_6 : decode m_Row_kindOf.2.1 6 = .ok (.iload_n 0, 1) := by decide +kernel
theorem d_Row_kindOf_7 : decode m_Row_kindOf.2.1 7 = .ok (.iconst 3, 1) := by decide +kernel
theorem d_Row_kindOf_8 : decode m_Row_kindOf.2.1 8 = .ok (.irem, 1) := by decide +kernel
theorem d_Row_kindOf_9 : decode m_Row_kindOf.2.1 9 = .ok (.goto 4, 3) := by decide +kernel
theorem d_Row_kindOf_12 : decode m_Row_kindOf.2.1 12 = .ok (.iconst (-1), 1) := by decide +kernel
theorem d_Row_kindOf_13 : decode m_Row_kindOf.2.1 13 = .ok (.ireturn, 1) := by decide +kernel
theorem d_Row_countDepths_0 : decode m_Row_countDepths.2.1 0 = .ok (.iconst 0, 1) := by decide +kernel
theorem d_Row_countDepths_1 : decode m_Row_countDepths.2.1 1 = .ok (.istore_n 1, 1) := by decide +kernel
theorem d_Row_countDepths_2 : decode m_Row_countDepths.2.1 2 = .ok (.iconst 0, 1) := by decide +kernel
theorem d_Row_countDepths_3 : decode m_Row_countDepths.2.1 3 = .ok (.istore_n 2, 1) := by decide +kernel
theorem d_Row_countDepths_4 : decode m_Row_countDepths.2.1 4 = .ok (.iload_n 2, 1) := by decide +kernel
theorem d_Row_countDepths_5 : decode m_Row_countDepths.2.1 5 = .ok (.aload_n 0, 1) := by decide +kernel
theorem d_Row_countDepths_6 : decode m_Row_countDepths.2.1 6 = .ok (.getfield 15, 3) := by decide +kernel
theorem d_Row_countDepths_9 : decode m_Row_countDepths.2.1 9 = .ok (.if_icmp .ge 66, 3) := by decide +kernel
theorem d_Row_countDepths_12 : decode m_Row_countDepths.2.1 12 = .ok (.aload_n 0, 1) := by decide +kernel
theorem d_Row_countDepths_13 : decode m_Row_countDepths.2.1 13 = .ok (.getfield 19, 3) := by decide +kernel
theorem d_Row_countDepths_16 : decode m_Row_countDepths.2.1 16 = .ok (.iload_n 2, 1) := by decide +kernel
theorem d_Row_countDepths_17 : decode m_Row_countDepths.2.1 17 = .ok (.iaload, 1) := by decide +kernel
theorem d_Row_countDepths_18 : decode m_Row_countDepths.2.1 18 = .ok (.iconst (-1), 1) := by decide +kernel
theorem d_Row_countDepths_19 : decode m_Row_countDepths.2.1 19 = .ok (.if_icmp .eq 7, 3) := by decide +kernel
theorem d_Row_countDepths_22 : decode m_Row_countDepths.2.1 22 = .ok (.iconst 1, 1) := by decide +kernel
theorem d_Row_countDepths_23 : decode m_Row_countDepths.2.1 23 = .ok (.goto 4, 3) := by decide +kernel
theorem d_Row_countDepths_26 : decode m_Row_countDepths.2.1 26 = .ok (.iconst 0, 1) := by decide +kernel
theorem d_Row_countDepths_27 : decode m_Row_countDepths.2.1 27 = .ok (.istore_n 3, 1) := by decide +kernel
theorem d_Row_countDepths_28 : decode m_Row_countDepths.2.1 28 = .ok (.iload_n 3, 1) := by decide +kernel
theorem d_Row_countDepths_29 : decode m_Row_countDepths.2.1 29 = .ok (.ifCond .eq 16, 3) := by decide +kernel
theorem d_Row_countDepths_32 : decode m_Row_countDepths.2.1 32 = .ok (.aload_n 0, 1) := by decide +kernel
theorem d_Row_countDepths_33 : decode m_Row_countDepths.2.1 33 = .ok (.getfield 19, 3) := by decide +kernel
theorem d_Row_countDepths_36 : decode m_Row_countDepths.2.1 36 = .ok (.iload_n 2, 1) := by decide +kernel
theorem d_Row_countDepths_37 : decode m_Row_countDepths.2.1 37 = .ok (.iaload, 1) := by decide +kernel
theorem d_Row_countDepths_38 : decode m_Row_countDepths.2.1 38 = .ok (.iload_n 2, 1) := by decide +kernel
theorem d_Row_countDepths_39 : decode m_Row_countDepths.2.1 39 = .ok (.if_icmp .ge 6, 3) := by decide +kernel
theorem d_Row_countDepths_42 : decode m_Row_countDepths.2.1 42 = .ok (.iinc 1 (-1), 3) := by decide +kernel
theorem d_Row_countDepths_45 : decode m_Row_countDepths.2.1 45 = .ok (.aload_n 0, 1) := by decide +kernel
theorem d_Row_countDepths_46 : decode m_Row_countDepths.2.1 46 = .ok (.getfield 22, 3) := by decide +kernel
theorem d_Row_countDepths_49 : decode m_Row_countDepths.2.1 49 = .ok (.iload_n 2, 1) := by decide +kernel
theorem d_Row_countDepths_50 : decode m_Row_countDepths.2.1 50 = .ok (.iload_n 1, 1) := by decide +kernel
theorem d_Row_countDepths_51 : decode m_Row_countDepths.2.1 51 = .ok (.iastore, 1) := by decide +kernel
theorem d_Row_countDepths_52 : decode m_Row_countDepths.2.1 52 = .ok (.iload_n 3, 1) := by decide +kernel
theorem d_Row_countDepths_53 : decode m_Row_countDepths.2.1 53 = .ok (.ifCond .eq 16, 3) := by decide +kernel
theorem d_Row_countDepths_56 : decode m_Row_countDepths.2.1 56 = .ok (.aload_n 0, 1) := by decide +kernel
theorem d_Row_countDepths_57 : decode m_Row_countDepths.2.1 57 = .ok (.getfield 19, 3) := by decide +kernel
theorem d_Row_countDepths_60 : decode m_Row_countDepths.2.1 60 = .ok (.iload_n 2, 1) := by decide +kernel
theorem d_Row_countDepths_61 : decode m_Row_countDepths.2.1 61 = .ok (.iaload, 1) := by decide +kernel
theorem d_Row_countDepths_62 : decode m_Row_countDepths.2.1 62 = .ok (.iload_n 2, 1) := by decide +kernel
theorem d_Row_countDepths_63 : decode m_Row_countDepths.2.1 63 = .ok (.if_icmp .le 6, 3) := by decide +kernel
theorem d_Row_countDepths_66 : decode m_Row_countDepths.2.1 66 = .ok (.iinc 1 1, 3) := by decide +kernel
theorem d_Row_countDepths_69 : decode m_Row_countDepths.2.1 69 = .ok (.iinc 2 1, 3) := by decide +kernel
theorem d_Row_countDepths_72 : decode m_Row_countDepths.2.1 72 = .ok (.goto (-68), 3) := by decide +kernel
theorem d_Row_countDepths_75 : decode m_Row_countDepths.2.1 75 = .ok (.return_, 1) := by decide +kernel
theorem d_Row_has_0 : decode m_Row_has.2.1 0 = .ok (.iload_n 1, 1) := by decide +kernel
theorem d_Row_has_1 : decode m_Row_has.2.1 1 = .ok (.ifCond .lt 15, 3) := by decide +kernel
theorem d_Row_has_4 : decode m_Row_has.2.1 4 = .ok (.iload_n 1, 1) := by decide +kernel
theorem d_Row_has_5 : decode m_Row_has.2.1 5 = .ok (.aload_n 0, 1) := by decide +kernel
theorem d_Row_has_6 : decode m_Row_has.2.1 6 = .ok (.getfield 15, 3) := by decide +kernel
theorem d_Row_has_9 : decode m_Row_has.2.1 9 = .ok (.if_icmp .ge 7, 3) := by decide +kernel
theorem d_Row_has_12 : decode m_Row_has.2.1 12 = .ok (.iconst 1, 1) := by decide +kernel
theorem d_Row_has_13 : decode m_Row_has.2.1 13 = .ok (.goto 4, 3) := by decide +kernel
theorem d_Row_has_16 : decode m_Row_has.2.1 16 = .ok (.iconst 0, 1) := by decide +kernel
theorem d_Row_has_17 : decode m_Row_has.2.1 17 = .ok (.ireturn, 1) := by decide +kernel
theorem d_Row_depthOf_0 : decode m_Row_depthOf.2.1 0 = .ok (.aload_n 0, 1) := by decide +kernel
theorem d_Row_depthOf_1 : decode m_Row_depthOf.2.1 1 = .ok (.invokevirtual 45, 3) := by decide +kernel
theorem d_Row_depthOf_4 : decode m_Row_depthOf.2.1 4 = .ok (.aload_n 0, 1) := by decide +kernel
theorem d_Row_depthOf_5 : decode m_Row_depthOf.2.1 5 = .ok (.getfield 22, 3) := by decide +kernel
theorem d_Row_depthOf_8 : decode m_Row_depthOf.2.1 8 = .ok (.iload_n 1, 1) := by decide +kernel
theorem d_Row_depthOf_9 : decode m_Row_depthOf.2.1 9 = .ok (.iaload, 1) := by decide +kernel
theorem d_Row_depthOf_10 : decode m_Row_depthOf.2.1 10 = .ok (.ireturn, 1) := by decide +kernel
theorem d_Row_personOf_0 : decode m_Row_personOf.2.1 0 = .ok (.iload_n 0, 1) := by decide +kernel
theorem d_Row_personOf_1 : decode m_Row_personOf.2.1 1 = .ok (.bipush 6, 2) := by decide +kernel
theorem d_Row_personOf_3 : decode m_Row_personOf.2.1 3 = .ok (.if_icmp .ge 7, 3) := by decide +kernel
theorem d_Row_personOf_6 : decode m_Row_personOf.2.1 6 = .ok (.iconst (-1), 1) := by decide +kernel
theorem d_Row_personOf_7 : decode m_Row_personOf.2.1 7 = .ok (.goto 7, 3) := by decide +kernel
theorem d_Row_personOf_10 : decode m_Row_personOf.2.1 10 = .ok (.iload_n 0, 1) := by decide +kernel
theorem d_Row_personOf_11 : decode m_Row_personOf.2.1 11 = .ok (.bipush 6, 2) := by decide +kernel
theorem d_Row_personOf_13 : decode m_Row_personOf.2.1 13 = .ok (.isub, 1) := by decide +kernel
theorem d_Row_personOf_14 : decode m_Row_personOf.2.1 14 = .ok (.ireturn, 1) := by decide +kernel
theorem d_Row_remove_0 : decode m_Row_remove.2.1 0 = .ok (.aload_n 0, 1) := by decide +kernel
theorem d_Row_remove_1 : decode m_Row_remove.2.1 1 = .ok (.iload_n 1, 1) := by decide +kernel
theorem d_Row_remove_2 : decode m_Row_remove.2.1 2 = .ok (.invokevirtual 41, 3) := by decide +kernel
theorem d_Row_remove_5 : decode m_Row_remove.2.1 5 = .ok (.ifCond .ne 4, 3) := by decide +kernel
theorem d_Row_remove_8 : decode m_Row_remove.2.1 8 = .ok (.return_, 1) := by decide +kernel
theorem d_Row_remove_9 : decode m_Row_remove.2.1 9 = .ok (.aload_n 0, 1) := by decide +kernel
theorem d_Row_remove_10 : decode m_Row_remove.2.1 10 = .ok (.getfield 9, 3) := by decide +kernel
theorem d_Row_remove_13 : decode m_Row_remove.2.1 13 = .ok (.iload_n 1, 1) := by decide +kernel
theorem d_Row_remove_14 : decode m_Row_remove.2.1 14 = .ok (.iconst 1, 1) := by decide +kernel
theorem d_Row_remove_15 : decode m_Row_remove.2.1 15 = .ok (.iadd, 1) := by decide +kernel
theorem d_Row_remove_16 : decode m_Row_remove.2.1 16 = .ok (.aload_n 0, 1) := by decide +kernel
theorem d_Row_remove_17 : decode m_Row_remove.2.1 17 = .ok (.getfield 9, 3) := by decide +kernel
theorem d_Row_remove_20 : decode m_Row_remove.2.1 20 = .ok (.iload_n 1, 1) := by decide +kernel
theorem d_Row_remove_21 : decode m_Row_remove.2.1 21 = .ok (.aload_n 0, 1) := by decide +kernel
theorem d_Row_remove_22 : decode m_Row_remove.2.1 22 = .ok (.getfield 15, 3) := by decide +kernel
theorem d_Row_remove_25 : decode m_Row_remove.2.1 25 = .ok (.iload_n 1, 1) := by decide +kernel
theorem d_Row_remove_26 : decode m_Row_remove.2.1 26 = .ok (.isub, 1) := by decide +kernel
theorem d_Row_remove_27 : decode m_Row_remove.2.1 27 = .ok (.iconst 1, 1) := by decide +kernel
theorem d_Row_remove_28 : decode m_Row_remove.2.1 28 = .ok (.isub, 1) := by decide +kernel
theorem d_Row_remove_29 : decode m_Row_remove.2.1 29 = .ok (.invokestatic 35, 3) := by decide +kernel
theorem d_Row_remove_32 : decode m_Row_remove.2.1 32 = .ok (.aload_n 0, 1) := by decide +kernel
theorem d_Row_remove_33 : decode m_Row_remove.2.1 33 = .ok (.dup, 1) := by decide +kernel
theorem d_Row_remove_34 : decode m_Row_remove.2.1 34 = .ok (.getfield 15, 3) := by decide +kernel
theorem d_Row_remove_37 : decode m_Row_remove.2.1 37 = .ok (.iconst 1, 1) := by decide +kernel
theorem d_Row_remove_38 : decode m_Row_remove.2.1 38 = .ok (.isub, 1) := by decide +kernel
theorem d_Row_remove_39 : decode m_Row_remove.2.1 39 = .ok (.putfield 15, 3) := by decide +kernel
theorem d_Row_remove_42 : decode m_Row_remove.2.1 42 = .ok (.aload_n 0, 1) := by decide +kernel
theorem d_Row_remove_43 : decode m_Row_remove.2.1 43 = .ok (.iconst 0, 1) := by decide +kernel
theorem d_Row_remove_44 : decode m_Row_remove.2.1 44 = .ok (.putfield 31, 3) := by decide +kernel
theorem d_Row_remove_47 : decode m_Row_remove.2.1 47 = .ok (.return_, 1) := by decide +kernel
theorem d_Row_replace_0 : decode m_Row_replace.2.1 0 = .ok (.aload_n 0, 1) := by decide +kernel
theorem d_Row_replace_1 : decode m_Row_replace.2.1 1 = .ok (.iload_n 1, 1) := by decide +kernel
theorem d_Row_replace_2 : decode m_Row_replace.2.1 2 = .ok (.invokevirtual 41, 3) := by decide +kernel
theorem d_Row_replace_5 : decode m_Row_replace.2.1 5 = .ok (.ifCond .eq 15, 3) := by decide +kernel
theorem d_Row_replace_8 : decode m_Row_replace.2.1 8 = .ok (.aload_n 0, 1) := by decide +kernel
theorem d_Row_replace_9 : decode m_Row_replace.2.1 9 = .ok (.getfield 9, 3) := by decide +kernel
theorem d_Row_replace_12 : decode m_Row_replace.2.1 12 = .ok (.iload_n 1, 1) := by decide +kernel
theorem d_Row_replace_13 : decode m_Row_replace.2.1 13 = .ok (.iload_n 2, 1) := by decide +kernel
theorem d_Row_replace_14 : decode m_Row_replace.2.1 14 = .ok (.iastore, 1) := by decide +kernel
theorem d_Row_replace_15 : decode m_Row_replace.2.1 15 = .ok (.aload_n 0, 1) := by decide +kernel
theorem d_Row_replace_16 : decode m_Row_replace.2.1 16 = .ok (.iconst 0, 1) := by decide +kernel
theorem d_Row_replace_17 : decode m_Row_replace.2.1 17 = .ok (.putfield 31, 3) := by decide +kernel
theorem d_Row_replace_20 : decode m_Row_replace.2.1 20 = .ok (.return_, 1) := by decide +kernel
theorem d_Row_mateOf_0 : decode m_Row_mateOf.2.1 0 = .ok (.aload_n 0, 1) := by decide +kernel
theorem d_Row_mateOf_1 : decode m_Row_mateOf.2.1 1 = .ok (.invokevirtual 45, 3) := by decide +kernel
theorem d_Row_mateOf_4 : decode m_Row_mateOf.2.1 4 = .ok (.aload_n 0, 1) := by decide +kernel
theorem d_Row_mateOf_5 : decode m_Row_mateOf.2.1 5 = .ok (.getfield 19, 3) := by decide +kernel
theorem d_Row_mateOf_8 : decode m_Row_mateOf.2.1 8 = .ok (.iload_n 1, 1) := by decide +kernel
theorem d_Row_mateOf_9 : decode m_Row_mateOf.2.1 9 = .ok (.iaload, 1) := by decide +kernel
theorem d_Row_mateOf_10 : decode m_Row_mateOf.2.1 10 = .ok (.ireturn, 1) := by decide +kernel
theorem d_Row_isLoose_0 : decode m_Row_isLoose.2.1 0 = .ok (.aload_n 0, 1) := by decide +kernel
theorem d_Row_isLoose_1 : decode m_Row_isLoose.2.1 1 = .ok (.invokevirtual 45, 3) := by decide +kernel
theorem d_Row_isLoose_4 : decode m_Row_isLoose.2.1 4 = .ok (.aload_n 0, 1) := by decide +kernel
theorem d_Row_isLoose_5 : decode m_Row_isLoose.2.1 5 = .ok (.getfield 19, 3) := by decide +kernel
theorem d_Row_isLoose_8 : decode m_Row_isLoose.2.1 8 = .ok (.iload_n 1, 1) := by decide +kernel
theorem d_Row_isLoose_9 : decode m_Row_isLoose.2.1 9 = .ok (.iaload, 1) := by decide +kernel
theorem d_Row_isLoose_10 : decode m_Row_isLoose.2.1 10 = .ok (.iconst (-1), 1) := by decide +kernel
theorem d_Row_isLoose_11 : decode m_Row_isLoose.2.1 11 = .ok (.if_icmp .ne 19, 3) := by decide +kernel
theorem d_Row_isLoose_14 : decode m_Row_isLoose.2.1 14 = .ok (.aload_n 0, 1) := by decide +kernel
theorem d_Row_isLoose_15 : decode m_Row_isLoose.2.1 15 = .ok (.getfield 9, 3) := by decide +kernel
theorem d_Row_isLoose_18 : decode m_Row_isLoose.2.1 18 = .ok (.iload_n 1, 1) := by decide +kernel
theorem d_Row_isLoose_19 : decode m_Row_isLoose.2.1 19 = .ok (.iaload, 1) := by decide +kernel
theorem d_Row_isLoose_20 : decode m_Row_isLoose.2.1 20 = .ok (.invokestatic 48, 3) := by decide +kernel
theorem d_Row_isLoose_23 : decode m_Row_isLoose.2.1 23 = .ok (.ifCond .ne 7, 3) := by decide +kernel
theorem d_Row_isLoose_26 : decode m_Row_isLoose.2.1 26 = .ok (.iconst 1, 1) := by decide +kernel
theorem d_Row_isLoose_27 : decode m_Row_isLoose.2.1 27 = .ok (.goto 4, 3) := by decide +kernel
theorem d_Row_isLoose_30 : decode m_Row_isLoose.2.1 30 = .ok (.iconst 0, 1) := by decide +kernel
theorem d_Row_isLoose_31 : decode m_Row_isLoose.2.1 31 = .ok (.ireturn, 1) := by decide +kernel
theorem d_Row_isName_0 : decode m_Row_isName.2.1 0 = .ok (.iload_n 0, 1) := by decide +kernel
theorem d_Row_isName_1 : decode m_Row_isName.2.1 1 = .ok (.bipush 6, 2) := by decide +kernel
theorem d_Row_isName_3 : decode m_Row_isName.2.1 3 = .ok (.if_icmp .lt 7, 3) := by decide +kernel
theorem d_Row_isName_6 : decode m_Row_isName.2.1 6 = .ok (.iconst 1, 1) := by decide +kernel
theorem d_Row_isName_7 : decode m_Row_isName.2.1 7 = .ok (.goto 4, 3) := by decide +kernel
theorem d_Row_isName_10 : decode m_Row_isName.2.1 10 = .ok (.iconst 0, 1) := by decide +kernel
theorem d_Row_isName_11 : decode m_Row_isName.2.1 11 = .ok (.ireturn, 1) := by decide +kernel
theorem d_Row_isWhole_0 : decode m_Row_isWhole.2.1 0 = .ok (.iconst 0, 1) := by decide +kernel
theorem d_Row_isWhole_1 : decode m_Row_isWhole.2.1 1 = .ok (.istore_n 3, 1) := by decide +kernel
theorem d_Row_isWhole_2 : decode m_Row_isWhole.2.1 2 = .ok (.iload_n 1, 1) := by decide +kernel
theorem d_Row_isWhole_3 : decode m_Row_isWhole.2.1 3 = .ok (.istore 4, 2) := by decide +kernel
theorem d_Row_isWhole_5 : decode m_Row_isWhole.2.1 5 = .ok (.iload 4, 2) := by decide +kernel
theorem d_Row_isWhole_7 : decode m_Row_isWhole.2.1 7 = .ok (.iload_n 2, 1) := by decide +kernel
theorem d_Row_isWhole_8 : decode m_Row_isWhole.2.1 8 = .ok (.if_icmp .gt 73, 3) := by decide +kernel
theorem d_Row_isWhole_11 : decode m_Row_isWhole.2.1 11 = .ok (.aload_n 0, 1) := by decide +kernel
theorem d_Row_isWhole_12 : decode m_Row_isWhole.2.1 12 = .ok (.getfield 9, 3) := by decide +kernel
theorem d_Row_isWhole_15 : decode m_Row_isWhole.2.1 15 = .ok (.iload 4, 2) := by decide +kernel
theorem d_Row_isWhole_17 : decode m_Row_isWhole.2.1 17 = .ok (.iaload, 1) := by decide +kernel
theorem d_Row_isWhole_18 : decode m_Row_isWhole.2.1 18 = .ok (.istore 5, 2) := by decide +kernel
theorem d_Row_isWhole_20 : decode m_Row_isWhole.2.1 20 = .ok (.iload 5, 2) := by decide +kernel
theorem d_Row_isWhole_22 : decode m_Row_isWhole.2.1 22 = .ok (.invokestatic 55, 3) := by decide +kernel
theorem d_Row_isWhole_25 : decode m_Row_isWhole.2.1 25 = .ok (.ifCond .eq 17, 3) := by decide +kernel
theorem d_Row_isWhole_28 : decode m_Row_isWhole.2.1 28 = .ok (.aload_n 0, 1) := by decide +kernel
theorem d_Row_isWhole_29 : decode m_Row_isWhole.2.1 29 = .ok (.getfield 25, 3) := by decide +kernel
theorem d_Row_isWhole_32 : decode m_Row_isWhole.2.1 32 = .ok (.iload_n 3, 1) := by decide +kernel
theorem d_Row_isWhole_33 : decode m_Row_isWhole.2.1 33 = .ok (.iload 5, 2) := by decide +kernel
theorem d_Row_isWhole_35 : decode m_Row_isWhole.2.1 35 = .ok (.iastore, 1) := by decide +kernel
theorem d_Row_isWhole_36 : decode m_Row_isWhole.2.1 36 = .ok (.iinc 3 1, 3) := by decide +kernel
theorem d_Row_isWhole_39 : decode m_Row_isWhole.2.1 39 = .ok (.goto 36, 3) := by decide +kernel
theorem d_Row_isWhole_42 : decode m_Row_isWhole.2.1 42 = .ok (.iload 5, 2) := by decide +kernel
theorem d_Row_isWhole_44 : decode m_Row_isWhole.2.1 44 = .ok (.invokestatic 58, 3) := by decide +kernel
theorem d_Row_isWhole_47 : decode m_Row_isWhole.2.1 47 = .ok (.ifCond .eq 28, 3) := by decide +kernel
theorem d_Row_isWhole_50 : decode m_Row_isWhole.2.1 50 = .ok (.iload_n 3, 1) := by decide +kernel
theorem d_Row_isWhole_51 : decode m_Row_isWhole.2.1 51 = .ok (.ifCond .eq 19, 3) := by decide +kernel
theorem d_Row_isWhole_54 : decode m_Row_isWhole.2.1 54 = .ok (.aload_n 0, 1) := by decide +kernel
theorem d_Row_isWhole_55 : decode m_Row_isWhole.2.1 55 = .ok (.getfield 25, 3) := by decide +kernel
theorem d_Row_isWhole_58 : decode m_Row_isWhole.2.1 58 = .ok (.iload_n 3, 1) := by decide +kernel
theorem d_Row_isWhole_59 : decode m_Row_isWhole.2.1 59 = .ok (.iconst 1, 1) := by decide +kernel
theorem d_Row_isWhole_60 : decode m_Row_isWhole.2.1 60 = .ok (.isub, 1) := by decide +kernel
theorem d_Row_isWhole_61 : decode m_Row_isWhole.2.1 61 = .ok (.iaload, 1) := by decide +kernel
theorem d_Row_isWhole_62 : decode m_Row_isWhole.2.1 62 = .ok (.iload 5, 2) := by decide +kernel
theorem d_Row_isWhole_64 : decode m_Row_isWhole.2.1 64 = .ok (.invokestatic 61, 3) := by decide +kernel
theorem d_Row_isWhole_67 : decode m_Row_isWhole.2.1 67 = .ok (.if_icmp .eq 5, 3) := by decide +kernel
theorem d_Row_isWhole_70 : decode m_Row_isWhole.2.1 70 = .ok (.iconst 0, 1) := by decide +kernel
theorem d_Row_isWhole_71 : decode m_Row_isWhole.2.1 71 = .ok (.ireturn, 1) := by decide +kernel
theorem d_Row_isWhole_72 : decode m_Row_isWhole.2.1 72 = .ok (.iinc 3 (-1), 3) := by decide +kernel
theorem d_Row_isWhole_75 : decode m_Row_isWhole.2.1 75 = .ok (.iinc 4 1, 3) := by decide +kernel
theorem d_Row_isWhole_78 : decode m_Row_isWhole.2.1 78 = .ok (.goto (-73), 3) := by decide +kernel
theorem d_Row_isWhole_81 : decode m_Row_isWhole.2.1 81 = .ok (.iload_n 3, 1) := by decide +kernel
theorem d_Row_isWhole_82 : decode m_Row_isWhole.2.1 82 = .ok (.ifCond .ne 7, 3) := by decide +kernel
theorem d_Row_isWhole_85 : decode m_Row_isWhole.2.1 85 = .ok (.iconst 1, 1) := by decide +kernel
theorem d_Row_isWhole_86 : decode m_Row_isWhole.2.1 86 = .ok (.goto 4, 3) := by decide +kernel
theorem d_Row_isWhole_89 : decode m_Row_isWhole.2.1 89 = .ok (.iconst 0, 1) := by decide +kernel
theorem d_Row_isWhole_90 : decode m_Row_isWhole.2.1 90 = .ok (.ireturn, 1) := by decide +kernel
theorem d_Row_isAllWhole_0 : decode m_Row_isAllWhole.2.1 0 = .ok (.aload_n 0, 1) := by decide +kernel
theorem d_Row_isAllWhole_1 : decode m_Row_isAllWhole.2.1 1 = .ok (.invokevirtual 51, 3) := by decide +kernel
theorem d_Row_isAllWhole_4 : decode m_Row_isAllWhole.2.1 4 = .ok (.ifCond .ne 7, 3) := by decide +kernel
theorem d_Row_isAllWhole_7 : decode m_Row_isAllWhole.2.1 7 = .ok (.iconst 1, 1) := by decide +kernel
theorem d_Row_isAllWhole_8 : decode m_Row_isAllWhole.2.1 8 = .ok (.goto 4, 3) := by decide +kernel
theorem d_Row_isAllWhole_11 : decode m_Row_isAllWhole.2.1 11 = .ok (.iconst 0, 1) := by decide +kernel
theorem d_Row_isAllWhole_12 : decode m_Row_isAllWhole.2.1 12 = .ok (.ireturn, 1) := by decide +kernel
theorem d_Tap_init_0 : decode m_Tap_init.2.1 0 = .ok (.aload_n 0, 1) := by decide +kernel
theorem d_Tap_init_1 : decode m_Tap_init.2.1 1 = .ok (.invokespecial 3, 3) := by decide +kernel
theorem d_Tap_init_4 : decode m_Tap_init.2.1 4 = .ok (.aload_n 0, 1) := by decide +kernel
theorem d_Tap_init_5 : decode m_Tap_init.2.1 5 = .ok (.sipush 400, 3) := by decide +kernel
theorem d_Tap_init_8 : decode m_Tap_init.2.1 8 = .ok (.newarray .int, 2) := by decide +kernel
theorem d_Tap_init_10 : decode m_Tap_init.2.1 10 = .ok (.putfield 9, 3) := by decide +kernel
theorem d_Tap_init_13 : decode m_Tap_init.2.1 13 = .ok (.aload_n 0, 1) := by decide +kernel
theorem d_Tap_init_14 : decode m_Tap_init.2.1 14 = .ok (.iconst 0, 1) := by decide +kernel
theorem d_Tap_init_15 : decode m_Tap_init.2.1 15 = .ok (.putfield 15, 3) := by decide +kernel
theorem d_Tap_init_18 : decode m_Tap_init.2.1 18 = .ok (.aload_n 0, 1) := by decide +kernel
theorem d_Tap_init_19 : decode m_Tap_init.2.1 19 = .ok (.sipush 401, 3) := by decide +kernel
theorem d_Tap_init_22 : decode m_Tap_init.2.1 22 = .ok (.newarray .int, 2) := by decide +kernel
theorem d_Tap_init_24 : decode m_Tap_init.2.1 24 = .ok (.putfield 19, 3) := by decide +kernel
theorem d_Tap_init_27 : decode m_Tap_init.2.1 27 = .ok (.aload_n 0, 1) := by decide +kernel
theorem d_Tap_init_28 : decode m_Tap_init.2.1 28 = .ok (.sipush 401, 3) := by decide +kernel
theorem d_Tap_init_31 : decode m_Tap_init.2.1 31 = .ok (.newarray .int, 2) := by decide +kernel
theorem d_Tap_init_33 : decode m_Tap_init.2.1 33 = .ok (.putfield 22, 3) := by decide +kernel
theorem d_Tap_init_36 : decode m_Tap_init.2.1 36 = .ok (.aload_n 0, 1) := by decide +kernel
theorem d_Tap_init_37 : decode m_Tap_init.2.1 37 = .ok (.sipush 401, 3) := by decide +kernel
theorem d_Tap_init_40 : decode m_Tap_init.2.1 40 = .ok (.newarray .int, 2) := by decide +kernel
theorem d_Tap_init_42 : decode m_Tap_init.2.1 42 = .ok (.putfield 25, 3) := by decide +kernel
theorem d_Tap_init_45 : decode m_Tap_init.2.1 45 = .ok (.aload_n 0, 1) := by decide +kernel
theorem d_Tap_init_46 : decode m_Tap_init.2.1 46 = .ok (.iconst 0, 1) := by decide +kernel
theorem d_Tap_init_47 : decode m_Tap_init.2.1 47 = .ok (.putfield 28, 3) := by decide +kernel
theorem d_Tap_init_50 : decode m_Tap_init.2.1 50 = .ok (.aload_n 0, 1) := by decide +kernel
theorem d_Tap_init_51 : decode m_Tap_init.2.1 51 = .ok (.ldc 31, 2) := by decide +kernel
theorem d_Tap_init_53 : decode m_Tap_init.2.1 53 = .ok (.invokevirtual 33, 3) := by decide +kernel
theorem d_Tap_init_56 : decode m_Tap_init.2.1 56 = .ok (.putfield 39, 3) := by decide +kernel
theorem d_Tap_init_59 : decode m_Tap_init.2.1 59 = .ok (.return_, 1) := by decide +kernel
theorem d_Tap_addNumber_0 : decode m_Tap_addNumber.2.1 0 = .ok (.bipush 24, 2) := by decide +kernel
theorem d_Tap_addNumber_2 : decode m_Tap_addNumber.2.1 2 = .ok (.istore_n 2, 1) := by decide +kernel
theorem d_Tap_addNumber_3 : decode m_Tap_addNumber.2.1 3 = .ok (.iload_n 2, 1) := by decide +kernel
theorem d_Tap_addNumber_4 : decode m_Tap_addNumber.2.1 4 = .ok (.ifCond .lt 45, 3) := by decide +kernel
theorem d_Tap_addNumber_7 : decode m_Tap_addNumber.2.1 7 = .ok (.aload_n 0, 1) := by decide +kernel
theorem d_Tap_addNumber_8 : decode m_Tap_addNumber.2.1 8 = .ok (.getfield 15, 3) := by decide +kernel
theorem d_Tap_addNumber_11 : decode m_Tap_addNumber.2.1 11 = .ok (.sipush 400, 3) := by decide +kernel
theorem d_Tap_addNumber_14 : decode m_Tap_addNumber.2.1 14 = .ok (.if_icmp .ge 35, 3) := by decide +kernel
theorem d_Tap_addNumber_17 : decode m_Tap_addNumber.2.1 17 = .ok (.aload_n 0, 1) := by decide +kernel
theorem d_Tap_addNumber_18 : decode m_Tap_addNumber.2.1 18 = .ok (.getfield 9, 3) := by decide +kernel
theorem d_Tap_addNumber_21 : decode m_Tap_addNumber.2.1 21 = .ok (.aload_n 0, 1) := by decide +kernel
theorem d_Tap_addNumber_22 : decode m_Tap_addNumber.2.1 22 = .ok (.getfield 15, 3) := by decide +kernel
theorem d_Tap_addNumber_25 : decode m_Tap_addNumber.2.1 25 = .ok (.iload_n 1, 1) := by decide +kernel
theorem d_Tap_addNumber_26 : decode m_Tap_addNumber.2.1 26 = .ok (.iload_n 2, 1) := by decide +kernel
theorem d_Tap_addNumber_27 : decode m_Tap_addNumber.2.1 27 = .ok (.iushr, 1) := by decide +kernel
theorem d_Tap_addNumber_28 : decode m_Tap_addNumber.2.1 28 = .ok (.sipush 255, 3) := by decide +kernel
theorem d_Tap_addNumber_31 : decode m_Tap_addNumber.2.1 31 = .ok (.iand, 1) := by decide +kernel
theorem d_Tap_addNumber_32 : decode m_Tap_addNumber.2.1 32 = .ok (.iastore, 1) := by decide +kernel
theorem d_Tap_addNumber_33 : decode m_Tap_addNumber.2.1 33 = .ok (.aload_n 0, 1) := by decide +kernel
theorem d_Tap_addNumber_34 : decode m_Tap_addNumber.2.1 34 = .ok (.dup, 1) := by decide +kernel
theorem d_Tap_addNumber_35 : decode m_Tap_addNumber.2.1 35 = .ok (.getfield 15, 3) := by decide +kernel
theorem d_Tap_addNumber_38 : decode m_Tap_addNumber.2.1 38 = .ok (.iconst 1, 1) := by decide +kernel
theorem d_Tap_addNumber_39 : decode m_Tap_addNumber.2.1 39 = .ok (.iadd, 1) := by decide +kernel
theorem d_Tap_addNumber_40 : decode m_Tap_addNumber.2.1 40 = .ok (.putfield 15, 3) := by decide +kernel
theorem d_Tap_addNumber_43 : decode m_Tap_addNumber.2.1 43 = .ok (.iinc 2 (-8), 3) := by decide +kernel
theorem d_Tap_addNumber_46 : decode m_Tap_addNumber.2.1 46 = .ok (.goto (-43), 3) := by decide +kernel
theorem d_Tap_addNumber_49 : decode m_Tap_addNumber.2.1 49 = .ok (.return_, 1) := by decide +kernel
theorem d_Tap_split_0 : decode m_Tap_split.2.1 0 = .ok (.aload_n 0, 1) := by decide +kernel
theorem d_Tap_split_1 : decode m_Tap_split.2.1 1 = .ok (.iconst 0, 1) := by decide +kernel
theorem d_Tap_split_2 : decode m_Tap_split.2.1 2 = .ok (.putfield 28, 3) := by decide +kernel
theorem d_Tap_split_5 : decode m_Tap_split.2.1 5 = .ok (.iconst 0, 1) := by decide +kernel
theorem d_Tap_split_6 : decode m_Tap_split.2.1 6 = .ok (.istore_n 1, 1) := by decide +kernel
theorem d_Tap_split_7 : decode m_Tap_split.2.1 7 = .ok (.iconst 0, 1) := by decide +kernel
theorem d_Tap_split_8 : decode m_Tap_split.2.1 8 = .ok (.istore_n 2, 1) := by decide +kernel
theorem d_Tap_split_9 : decode m_Tap_split.2.1 9 = .ok (.iload_n 2, 1) := by decide +kernel
theorem d_Tap_split_10 : decode m_Tap_split.2.1 10 = .ok (.aload_n 0, 1) := by decide +kernel
theorem d_Tap_split_11 : decode m_Tap_split.2.1 11 = .ok (.getfield 15, 3) := by decide +kernel
theorem d_Tap_split_14 : decode m_Tap_split.2.1 14 = .ok (.if_icmp .ge 37, 3) := by decide +kernel
theorem d_Tap_split_17 : decode m_Tap_split.2.1 17 = .ok (.iload_n 2, 1) := by decide +kernel
theorem d_Tap_split_18 : decode m_Tap_split.2.1 18 = .ok (.iload_n 1, 1) := by decide +kernel
theorem d_Tap_split_19 : decode m_Tap_split.2.1 19 = .ok (.if_icmp .lt 26, 3) := by decide +kernel
theorem d_Tap_split_22 : decode m_Tap_split.2.1 22 = .ok (.aload_n 0, 1) := by decide +kernel
theorem d_Tap_split_23 : decode m_Tap_split.2.1 23 = .ok (.getfield 9, 3) := by decide +kernel
theorem d_Tap_split_26 : decode m_Tap_split.2.1 26 = .ok (.iload_n 2, 1) := by decide +kernel
theorem d_Tap_split_27 : decode m_Tap_split.2.1 27 = .ok (.iaload, 1) := by decide +kernel
theorem d_Tap_split_28 : decode m_Tap_split.2.1 28 = .ok (.bipush 32, 2) := by decide +kernel
theorem d_Tap_split_30 : decode m_Tap_split.2.1 30 = .ok (.if_icmp .eq 15, 3) := by decide +kernel
theorem d_Tap_split_33 : decode m_Tap_split.2.1 33 = .ok (.aload_n 0, 1) := by decide +kernel
theorem d_Tap_split_34 : decode m_Tap_split.2.1 34 = .ok (.iload_n 2, 1) := by decide +kernel
theorem d_Tap_split_35 : decode m_Tap_split.2.1 35 = .ok (.invokevirtual 43, 3) := by decide +kernel
theorem d_Tap_split_38 : decode m_Tap_split.2.1 38 = .ok (.istore_n 1, 1) := by decide +kernel
theorem d_Tap_split_39 : decode m_Tap_split.2.1 39 = .ok (.aload_n 0, 1) := by decide +kernel
theorem d_Tap_split_40 : decode m_Tap_split.2.1 40 = .ok (.iload_n 2, 1) := by decide +kernel
theorem d_Tap_split_41 : decode m_Tap_split.2.1 41 = .ok (.iload_n 1, 1) := by decide +kernel
theorem d_Tap_split_42 : decode m_Tap_split.2.1 42 = .ok (.invokevirtual 47, 3) := by decide +kernel
theorem d_Tap_split_45 : decode m_Tap_split.2.1 45 = .ok (.iinc 2 1, 3) := by decide +kernel
theorem d_Tap_split_48 : decode m_Tap_split.2.1 48 = .ok (.goto (-39), 3) := by decide +kernel
theorem d_Tap_split_51 : decode m_Tap_split.2.1 51 = .ok (.aload_n 0, 1) := by decide +kernel
theorem d_Tap_split_52 : decode m_Tap_split.2.1 52 = .ok (.getfield 19, 3) := by decide +kernel
theorem d_Tap_split_55 : decode m_Tap_split.2.1 55 = .ok (.aload_n 0, 1) := by decide +kernel
theorem d_Tap_split_56 : decode m_Tap_split.2.1 56 = .ok (.getfield 28, 3) := by decide +kernel
theorem d_Tap_split_59 : decode m_Tap_split.2.1 59 = .ok (.sipush 302, 3) := by decide +kernel
theorem d_Tap_split_62 : decode m_Tap_split.2.1 62 = .ok (.iastore, 1) := by decide +kernel
theorem d_Tap_split_63 : decode m_Tap_split.2.1 63 = .ok (.aload_n 0, 1) := by decide +kernel
theorem d_Tap_split_64 : decode m_Tap_split.2.1 64 = .ok (.getfield 22, 3) := by decide +kernel
theorem d_Tap_split_67 : decode m_Tap_split.2.1 67 = .ok (.aload_n 0, 1) := by decide +kernel
theorem d_Tap_split_68 : decode m_Tap_split.2.1 68 = .ok (.getfield 28, 3) := by decide +kernel
theorem d_Tap_split_71 : decode m_Tap_split.2.1 71 = .ok (.aload_n 0, 1) := by decide +kernel
theorem d_Tap_split_72 : decode m_Tap_split.2.1 72 = .ok (.getfield 15, 3) := by decide +kernel
theorem d_Tap_split_75 : decode m_Tap_split.2.1 75 = .ok (.iastore, 1) := by decide +kernel
theorem d_Tap_split_76 : decode m_Tap_split.2.1 76 = .ok (.aload_n 0, 1) := by decide +kernel
theorem d_Tap_split_77 : decode m_Tap_split.2.1 77 = .ok (.dup, 1) := by decide +kernel
theorem d_Tap_split_78 : decode m_Tap_split.2.1 78 = .ok (.getfield 28, 3) := by decide +kernel
theorem d_Tap_split_81 : decode m_Tap_split.2.1 81 = .ok (.iconst 1, 1) := by decide +kernel
theorem d_Tap_split_82 : decode m_Tap_split.2.1 82 = .ok (.iadd, 1) := by decide +kernel
theorem d_Tap_split_83 : decode m_Tap_split.2.1 83 = .ok (.putfield 28, 3) := by decide +kernel
theorem d_Tap_split_86 : decode m_Tap_split.2.1 86 = .ok (.return_, 1) := by decide +kernel
theorem d_Tap_endOf_0 : decode m_Tap_endOf.2.1 0 = .ok (.aload_n 0, 1) := by decide +kernel
theorem d_Tap_endOf_1 : decode m_Tap_endOf.2.1 1 = .ok (.getfield 9, 3) := by decide +kernel
theorem d_Tap_endOf_4 : decode m_Tap_endOf.2.1 4 = .ok (.iload_n 1, 1) := by decide +kernel
theorem d_Tap_endOf_5 : decode m_Tap_endOf.2.1 5 = .ok (.iaload, 1) := by decide +kernel
theorem d_Tap_endOf_6 : decode m_Tap_endOf.2.1 6 = .ok (.invokestatic 51, 3) := by decide +kernel
theorem d_Tap_endOf_9 : decode m_Tap_endOf.2.1 9 = .ok (.istore_n 2, 1) := by decide +kernel
theorem d_Tap_endOf_10 : decode m_Tap_endOf.2.1 10 = .ok (.aload_n 0, 1) := by decide +kernel
theorem d_Tap_endOf_11 : decode m_Tap_endOf.2.1 11 = .ok (.getfield 9, 3) := by decide +kernel
theorem d_Tap_endOf_14 : decode m_Tap_endOf.2.1 14 = .ok (.iload_n 1, 1) := by decide +kernel
theorem d_Tap_endOf_15 : decode m_Tap_endOf.2.1 15 = .ok (.iaload, 1) := by decide +kernel
theorem d_Tap_endOf_16 : decode m_Tap_endOf.2.1 16 = .ok (.invokestatic 55, 3) := by decide +kernel
theorem d_Tap_endOf_19 : decode m_Tap_endOf.2.1 19 = .ok (.istore_n 3, 1) := by decide +kernel
theorem d_Tap_endOf_20 : decode m_Tap_endOf.2.1 20 = .ok (.iload_n 1, 1) := by decide +kernel
theorem d_Tap_endOf_21 : decode m_Tap_endOf.2.1 21 = .ok (.iconst 1, 1) := by decide +kernel
theorem d_Tap_endOf_22 : decode m_Tap_endOf.2.1 22 = .ok (.iadd, 1) := by decide +kernel
theorem d_Tap_endOf_23 : decode m_Tap_endOf.2.1 23 = .ok (.istore 4, 2) := by decide +kernel
theorem d_Tap_endOf_25 : decode m_Tap_endOf.2.1 25 = .ok (.iload 4, 2) := by decide +kernel
theorem d_Tap_endOf_27 : decode m_Tap_endOf.2.1 27 = .ok (.aload_n 0, 1) := by decide +kernel
theorem d_Tap_endOf_28 : decode m_Tap_endOf.2.1 28 = .ok (.getfield 15, 3) := by decide +kernel
theorem d_Tap_endOf_31 : decode m_Tap_endOf.2.1 31 = .ok (.if_icmp .ge 43, 3) := by decide +kernel
theorem d_Tap_endOf_34 : decode m_Tap_endOf.2.1 34 = .ok (.iload_n 2, 1) := by decide +kernel
theorem d_Tap_endOf_35 : decode m_Tap_endOf.2.1 35 = .ok (.ifCond .eq 16, 3) := by decide +kernel
theorem d_Tap_endOf_38 : decode m_Tap_endOf.2.1 38 = .ok (.aload_n 0, 1) := by decide +kernel
theorem d_Tap_endOf_39 : decode m_Tap_endOf.2.1 39 = .ok (.getfield 9, 3) := by decide +kernel
theorem d_Tap_endOf_42 : decode m_Tap_endOf.2.1 42 = .ok (.iload 4, 2) := by decide +kernel
theorem d_Tap_endOf_44 : decode m_Tap_endOf.2.1 44 = .ok (.iaload, 1) := by decide +kernel
theorem d_Tap_endOf_45 : decode m_Tap_endOf.2.1 45 = .ok (.invokestatic 51, 3) := by decide +kernel
theorem d_Tap_endOf_48 : decode m_Tap_endOf.2.1 48 = .ok (.ifCond .ne 20, 3) := by decide +kernel
theorem d_Tap_endOf_51 : decode m_Tap_endOf.2.1 51 = .ok (.iload_n 3, 1) := by decide +kernel
theorem d_Tap_endOf_52 : decode m_Tap_endOf.2.1 52 = .ok (.ifCond .eq 22, 3) := by decide +kernel
theorem d_Tap_endOf_55 : decode m_Tap_endOf.2.1 55 = .ok (.aload_n 0, 1) := by decide +kernel
theorem d_Tap_endOf_56 : decode m_Tap_endOf.2.1 56 = .ok (.getfield 9, 3) := by decide +kernel
theorem d_Tap_endOf_59 : decode m_Tap_endOf.2.1 59 = .ok (.iload 4, 2) := by decide +kernel
theorem d_Tap_endOf_61 : decode m_Tap_endOf.2.1 61 = .ok (.iaload, 1) := by decide +kernel
theorem d_Tap_endOf_62 : decode m_Tap_endOf.2.1 62 = .ok (.invokestatic 55, 3) := by decide +kernel
theorem d_Tap_endOf_65 : decode m_Tap_endOf.2.1 65 = .ok (.ifCond .eq 9, 3) := by decide +kernel
theorem d_Tap_endOf_68 : decode m_Tap_endOf.2.1 68 = .ok (.iinc 4 1, 3) := by decide +kernel
theorem d_Tap_endOf_71 : decode m_Tap_endOf.2.1 71 = .ok (.goto (-46), 3) := by decide +kernel
theorem d_Tap_endOf_74 : decode m_Tap_endOf.2.1 74 = .ok (.iload 4, 2) := by decide +kernel
theorem d_Tap_endOf_76 : decode m_Tap_endOf.2.1 76 = .ok (.ireturn, 1) := by decide +kernel
theorem d_Tap_isLetter_0 : decode m_Tap_isLetter.2.1 0 = .ok (.iload_n 0, 1) := by decide +kernel
theorem d_Tap_isLetter_1 : decode m_Tap_isLetter.2.1 1 = .ok (.bipush 97, 2) := by decide +kernel
theorem d_Tap_isLetter_3 : decode m_Tap_isLetter.2.1 3 = .ok (.if_icmp .lt 13, 3) := by decide +kernel
theorem d_Tap_isLetter_6 : decode m_Tap_isLetter.2.1 6 = .ok (.iload_n 0, 1) := by decide +kernel
theorem d_Tap_isLetter_7 : decode m_Tap_isLetter.2.1 7 = .ok (.bipush 122, 2) := by decide +kernel
theorem d_Tap_isLetter_9 : decode m_Tap_isLetter.2.1 9 = .ok (.if_icmp .gt 7, 3) := by decide +kernel
theorem d_Tap_isLetter_12 : decode m_Tap_isLetter.2.1 12 = .ok (.iconst 1, 1) := by decide +kernel
theorem d_Tap_isLetter_13 : decode m_Tap_isLetter.2.1 13 = .ok (.goto 4, 3) := by decide +kernel
theorem d_Tap_isLetter_16 : decode m_Tap_isLetter.2.1 16 = .ok (.iconst 0, 1) := by decide +kernel
theorem d_Tap_isLetter_17 : decode m_Tap_isLetter.2.1 17 = .ok (.ireturn, 1) := by decide +kernel
theorem d_Tap_isDigit_0 : decode m_Tap_isDigit.2.1 0 = .ok (.iload_n 0, 1) := by decide +kernel
theorem d_Tap_isDigit_1 : decode m_Tap_isDigit.2.1 1 = .ok (.bipush 48, 2) := by decide +kernel
theorem d_Tap_isDigit_3 : decode m_Tap_isDigit.2.1 3 = .ok (.if_icmp .lt 13, 3) := by decide +kernel
theorem d_Tap_isDigit_6 : decode m_Tap_isDigit.2.1 6 = .ok (.iload_n 0, 1) := by decide +kernel
theorem d_Tap_isDigit_7 : decode m_Tap_isDigit.2.1 7 = .ok (.bipush 57, 2) := by decide +kernel
theorem d_Tap_isDigit_9 : decode m_Tap_isDigit.2.1 9 = .ok (.if_icmp .gt 7, 3) := by decide +kernel
theorem d_Tap_isDigit_12 : decode m_Tap_isDigit.2.1 12 = .ok (.iconst 1, 1) := by decide +kernel
theorem d_Tap_isDigit_13 : decode m_Tap_isDigit.2.1 13 = .ok (.goto 4, 3) := by decide +kernel
theorem d_Tap_isDigit_16 : decode m_Tap_isDigit.2.1 16 = .ok (.iconst 0, 1) := by decide +kernel
theorem d_Tap_isDigit_17 : decode m_Tap_isDigit.2.1 17 = .ok (.ireturn, 1) := by decide +kernel
theorem d_Tap_addToken_0 : decode m_Tap_addToken.2.1 0 = .ok (.aload_n 0, 1) := by decide +kernel
theorem d_Tap_addToken_1 : decode m_Tap_addToken.2.1 1 = .ok (.getfield 22, 3) := by decide +kernel
theorem d_Tap_addToken_4 : decode m_Tap_addToken.2.1 4 = .ok (.aload_n 0, 1) := by decide +kernel
theorem d_Tap_addToken_5 : decode m_Tap_addToken.2.1 5 = .ok (.getfield 28, 3) := by decide +kernel
theorem d_Tap_addToken_8 : decode m_Tap_addToken.2.1 8 = .ok (.iload_n 1, 1) := by decide +kernel
theorem d_Tap_addToken_9 : decode m_Tap_addToken.2.1 9 = .ok (.iastore, 1) := by decide +kernel
theorem d_Tap_addToken_10 : decode m_Tap_addToken.2.1 10 = .ok (.aload_n 0, 1) := by decide +kernel
theorem d_Tap_addToken_11 : decode m_Tap_addToken.2.1 11 = .ok (.getfield 9, 3) := by decide +kernel
theorem d_Tap_addToken_14 : decode m_Tap_addToken.2.1 14 = .ok (.iload_n 1, 1) := by decide +kernel
theorem d_Tap_addToken_15 : decode m_Tap_addToken.2.1 15 = .ok (.iaload, 1) := by decide +kernel
theorem d_Tap_addToken_16 : decode m_Tap_addToken.2.1 16 = .ok (.invokestatic 55, 3) := by decide +kernel
theorem d_Tap_addToken_19 : decode m_Tap_addToken.2.1 19 = .ok (.ifCond .eq 33, 3) := by decide +kernel
theorem d_Tap_addToken_22 : decode m_Tap_addToken.2.1 22 = .ok (.aload_n 0, 1) := by decide +kernel
theorem d_Tap_addToken_23 : decode m_Tap_addToken.2.1 23 = .ok (.getfield 19, 3) := by decide +kernel
theorem d_Tap_addToken_26 : decode m_Tap_addToken.2.1 26 = .ok (.aload_n 0, 1) := by decide +kernel
theorem d_Tap_addToken_27 : decode m_Tap_addToken.2.1 27 = .ok (.getfield 28, 3) := by decide +kernel
theorem d_Tap_addToken_30 : decode m_Tap_addToken.2.1 30 = .ok (.sipush 301, 3) := by decide +kernel
theorem d_Tap_addToken_33 : decode m_Tap_addToken.2.1 33 = .ok (.iastore, 1) := by decide +kernel
theorem d_Tap_addToken_34 : decode m_Tap_addToken.2.1 34 = .ok (.aload_n 0, 1) := by decide +kernel
theorem d_Tap_addToken_35 : decode m_Tap_addToken.2.1 35 = .ok (.getfield 25, 3) := by decide +kernel
theorem d_Tap_addToken_38 : decode m_Tap_addToken.2.1 38 = .ok (.aload_n 0, 1) := by decide +kernel
theorem d_Tap_addToken_39 : decode m_Tap_addToken.2.1 39 = .ok (.getfield 28, 3) := by decide +kernel
theorem d_Tap_addToken_42 : decode m_Tap_addToken.2.1 42 = .ok (.aload_n 0, 1) := by decide +kernel
theorem d_Tap_addToken_43 : decode m_Tap_addToken.2.1 43 = .ok (.iload_n 1, 1) := by decide +kernel
theorem d_Tap_addToken_44 : decode m_Tap_addToken.2.1 44 = .ok (.iload_n 2, 1) := by decide +kernel
theorem d_Tap_addToken_45 : decode m_Tap_addToken.2.1 45 = .ok (.invokevirtual 58, 3) := by decide +kernel
theorem d_Tap_addToken_48 : decode m_Tap_addToken.2.1 48 = .ok (.iastore, 1) := by decide +kernel
theorem d_Tap_addToken_49 : decode m_Tap_addToken.2.1 49 = .ok (.goto 48, 3) := by decide +kernel
theorem d_Tap_addToken_52 : decode m_Tap_addToken.2.1 52 = .ok (.aload_n 0, 1) := by decide +kernel
theorem d_Tap_addToken_53 : decode m_Tap_addToken.2.1 53 = .ok (.getfield 9, 3) := by decide +kernel
theorem d_Tap_addToken_56 : decode m_Tap_addToken.2.1 56 = .ok (.iload_n 1, 1) := by decide +kernel
theorem d_Tap_addToken_57 : decode m_Tap_addToken.2.1 57 = .ok (.iaload, 1) := by decide +kernel
theorem d_Tap_addToken_58 : decode m_Tap_addToken.2.1 58 = .ok (.invokestatic 51, 3) := by decide +kernel
theorem d_Tap_addToken_61 : decode m_Tap_addToken.2.1 61 = .ok (.ifCond .eq 21, 3) := by decide +kernel
theorem d_Tap_addToken_64 : decode m_Tap_addToken.2.1 64 = .ok (.aload_n 0, 1) := by decide +kernel
theorem d_Tap_addToken_65 : decode m_Tap_addToken.2.1 65 = .ok (.getfield 19, 3) := by decide +kernel
theorem d_Tap_addToken_68 : decode m_Tap_addToken.2.1 68 = .ok (.aload_n 0, 1) := by decide +kernel
theorem d_Tap_addToken_69 : decode m_Tap_addToken.2.1 69 = .ok (.getfield 28, 3) := by decide +kernel
theorem d_Tap_addToken_72 : decode m_Tap_addToken.2.1 72 = .ok (.aload_n 0, 1) := by decide +kernel
theorem d_Tap_addToken_73 : decode m_Tap_addToken.2.1 73 = .ok (.iload_n 1, 1) := by decide +kernel
theorem d_Tap_addToken_74 : decode m_Tap_addToken.2.1 74 = .ok (.iload_n 2, 1) := by decide +kernel
theorem d_Tap_addToken_75 : decode m_Tap_addToken.2.1 75 = .ok (.invokevirtual 62, 3) := by decide +kernel
theorem d_Tap_addToken_78 : decode m_Tap_addToken.2.1 78 = .ok (.iastore, 1) := by decide +kernel
theorem d_Tap_addToken_79 : decode m_Tap_addToken.2.1 79 = .ok (.goto 18, 3) := by decide +kernel
theorem d_Tap_addToken_82 : decode m_Tap_addToken.2.1 82 = .ok (.aload_n 0, 1) := by decide +kernel
theorem d_Tap_addToken_83 : decode m_Tap_addToken.2.1 83 = .ok (.getfield 19, 3) := by decide +kernel
theorem d_Tap_addToken_86 : decode m_Tap_addToken.2.1 86 = .ok (.aload_n 0, 1) := by decide +kernel
theorem d_Tap_addToken_87 : decode m_Tap_addToken.2.1 87 = .ok (.getfield 28, 3) := by decide +kernel
theorem d_Tap_addToken_90 : decode m_Tap_addToken.2.1 90 = .ok (.aload_n 0, 1) := by decide +kernel
theorem d_Tap_addToken_91 : decode m_Tap_addToken.2.1 91 = .ok (.getfield 9, 3) := by decide +kernel
theorem d_Tap_addToken_94 : decode m_Tap_addToken.2.1 94 = .ok (.iload_n 1, 1) := by decide +kernel
theorem d_Tap_addToken_95 : decode m_Tap_addToken.2.1 95 = .ok (.iaload, 1) := by decide +kernel
theorem d_Tap_addToken_96 : decode m_Tap_addToken.2.1 96 = .ok (.iastore, 1) := by decide +kernel
theorem d_Tap_addToken_97 : decode m_Tap_addToken.2.1 97 = .ok (.aload_n 0, 1) := by decide +kernel
theorem d_Tap_addToken_98 : decode m_Tap_addToken.2.1 98 = .ok (.dup, 1) := by decide +kernel
theorem d_Tap_addToken_99 : decode m_Tap_addToken.2.1 99 = .ok (.getfield 28, 3) := by decide +kernel
theorem d_Tap_addToken_102 : decode m_Tap_addToken.2.1 102 = .ok (.iconst 1, 1) := by decide +kernel
theorem d_Tap_addToken_103 : decode m_Tap_addToken.2.1 103 = .ok (.iadd, 1) := by decide +kernel
theorem d_Tap_addToken_104 : decode m_Tap_addToken.2.1 104 = .ok (.putfield 28, 3) := by decide +kernel
theorem d_Tap_addToken_107 : decode m_Tap_addToken.2.1 107 = .ok (.return_, 1) := by decide +kernel
theorem d_Tap_numberOf_0 : decode m_Tap_numberOf.2.1 0 = .ok (.iconst 0, 1) := by decide +kernel
theorem d_Tap_numberOf_1 : decode m_Tap_numberOf.2.1 1 = .ok (.istore_n 3, 1) := by decide +kernel
theorem d_Tap_numberOf_2 : decode m_Tap_numberOf.2.1 2 = .ok (.iload_n 1, 1) := by decide +kernel
theorem d_Tap_numberOf_3 : decode m_Tap_numberOf.2.1 3 = .ok (.istore 4, 2) := by decide +kernel
theorem d_Tap_numberOf_5 : decode m_Tap_numberOf.2.1 5 = .ok (.iload 4, 2) := by decide +kernel
theorem d_Tap_numberOf_7 : decode m_Tap_numberOf.2.1 7 = .ok (.iload_n 2, 1) := by decide +kernel
theorem d_Tap_numberOf_8 : decode m_Tap_numberOf.2.1 8 = .ok (.if_icmp .ge 31, 3) := by decide +kernel
theorem d_Tap_numberOf_11 : decode m_Tap_numberOf.2.1 11 = .ok (.sipush 1001, 3) := by decide +kernel
theorem d_Tap_numberOf_14 : decode m_Tap_numberOf.2.1 14 = .ok (.iload_n 3, 1) := by decide +kernel
theorem d_Tap_numberOf_15 : decode m_Tap_numberOf.2.1 15 = .ok (.bipush 10, 2) := by decide +kernel
theorem d_Tap_numberOf_17 : decode m_Tap_numberOf.2.1 17 = .ok (.imul, 1) := by decide +kernel
theorem d_Tap_numberOf_18 : decode m_Tap_numberOf.2.1 18 = .ok (.aload_n 0, 1) := by decide +kernel
theorem d_Tap_numberOf_19 : decode m_Tap_numberOf.2.1 19 = .ok (.getfield 9, 3) := by decide +kernel
theorem d_Tap_numberOf_22 : decode m_Tap_numberOf.2.1 22 = .ok (.iload 4, 2) := by decide +kernel
theorem d_Tap_numberOf_24 : decode m_Tap_numberOf.2.1 24 = .ok (.iaload, 1) := by decide +kernel
theorem d_Tap_numberOf_25 : decode m_Tap_numberOf.2.1 25 = .ok (.iadd, 1) := by decide +kernel
theorem d_Tap_numberOf_26 : decode m_Tap_numberOf.2.1 26 = .ok (.bipush 48, 2) := by decide +kernel
theorem d_Tap_numberOf_28 : decode m_Tap_numberOf.2.1 28 = .ok (.isub, 1) := by decide +kernel
theorem d_Tap_numberOf_29 : decode m_Tap_numberOf.2.1 29 = .ok (.invokestatic 65, 3) := by decide +kernel
theorem d_Tap_numberOf_32 : decode m_Tap_numberOf.2.1 32 = .ok (.istore_n 3, 1) := by decide +kernel
theorem d_Tap_numberOf_33 : decode m_Tap_numberOf.2.1 33 = .ok (.iinc 4 1, 3) := by decide +kernel
theorem d_Tap_numberOf_36 : decode m_Tap_numberOf.2.1 36 = .ok (.goto (-31), 3) := by decide +kernel
theorem d_Tap_numberOf_39 : decode m_Tap_numberOf.2.1 39 = .ok (.iload_n 3, 1) := by decide +kernel
theorem d_Tap_numberOf_40 : decode m_Tap_numberOf.2.1 40 = .ok (.ireturn, 1) := by decide +kernel
theorem d_Tap_wordOf_0 : decode m_Tap_wordOf.2.1 0 = .ok (.sipush 256, 3) := by decide +kernel
theorem d_Tap_wordOf_3 : decode m_Tap_wordOf.2.1 3 = .ok (.istore_n 3, 1) := by decide +kernel
theorem d_Tap_wordOf_4 : decode m_Tap_wordOf.2.1 4 = .ok (.iconst 0, 1) := by decide +kernel
theorem d_Tap_wordOf_5 : decode m_Tap_wordOf.2.1 5 = .ok (.istore 4, 2) := by decide +kernel
theorem d_Tap_wordOf_7 : decode m_Tap_wordOf.2.1 7 = .ok (.iconst 0, 1) := by decide +kernel
theorem d_Tap_wordOf_8 : decode m_Tap_wordOf.2.1 8 = .ok (.istore 5, 2) := by decide +kernel
theorem d_Tap_wordOf_10 : decode m_Tap_wordOf.2.1 10 = .ok (.iload 5, 2) := by decide +kernel
theorem d_Tap_wordOf_12 : decode m_Tap_wordOf.2.1 12 = .ok (.aload_n 0, 1) := by decide +kernel
theorem d_Tap_wordOf_13 : decode m_Tap_wordOf.2.1 13 = .ok (.getfield 39, 3) := by decide +kernel
theorem d_Tap_wordOf_16 : decode m_Tap_wordOf.2.1 16 = .ok (.arraylength, 1) := by decide +kernel
theorem d_Tap_wordOf_17 : decode m_Tap_wordOf.2.1 17 = .ok (.if_icmp .ge 56, 3) := by decide +kernel
theorem d_Tap_wordOf_20 : decode m_Tap_wordOf.2.1 20 = .ok (.aload_n 0, 1) := by decide +kernel
theorem d_Tap_wordOf_21 : decode m_Tap_wordOf.2.1 21 = .ok (.getfield 39, 3) := by decide +kernel
theorem d_Tap_wordOf_24 : decode m_Tap_wordOf.2.1 24 = .ok (.iload 5, 2) := by decide +kernel
theorem d_Tap_wordOf_26 : decode m_Tap_wordOf.2.1 26 = .ok (.caload, 1) := by decide +kernel
theorem d_Tap_wordOf_27 : decode m_Tap_wordOf.2.1 27 = .ok (.bipush 32, 2) := by decide +kernel
theorem d_Tap_wordOf_29 : decode m_Tap_wordOf.2.1 29 = .ok (.if_icmp .ne 38, 3) := by decide +kernel
theorem d_Tap_wordOf_32 : decode m_Tap_wordOf.2.1 32 = .ok (.iload 5, 2) := by decide +kernel
theorem d_Tap_wordOf_34 : decode m_Tap_wordOf.2.1 34 = .ok (.iload 4, 2) := by decide +kernel
theorem d_Tap_wordOf_36 : decode m_Tap_wordOf.2.1 36 = .ok (.isub, 1) := by decide +kernel
theorem d_Tap_wordOf_37 : decode m_Tap_wordOf.2.1 37 = .ok (.iload_n 2, 1) := by decide +kernel
theorem d_Tap_wordOf_38 : decode m_Tap_wordOf.2.1 38 = .ok (.iload_n 1, 1) := by decide +kernel
theorem d_Tap_wordOf_39 : decode m_Tap_wordOf.2.1 39 = .ok (.isub, 1) := by decide +kernel
theorem d_Tap_wordOf_40 : decode m_Tap_wordOf.2.1 40 = .ok (.if_icmp .ne 18, 3) := by decide +kernel
theorem d_Tap_wordOf_43 : decode m_Tap_wordOf.2.1 43 = .ok (.aload_n 0, 1) := by decide +kernel
theorem d_Tap_wordOf_44 : decode m_Tap_wordOf.2.1 44 = .ok (.iload 4, 2) := by decide +kernel
theorem d_Tap_wordOf_46 : decode m_Tap_wordOf.2.1 46 = .ok (.iload_n 1, 1) := by decide +kernel
theorem d_Tap_wordOf_47 : decode m_Tap_wordOf.2.1 47 = .ok (.iload_n 2, 1) := by decide +kernel
theorem d_Tap_wordOf_48 : decode m_Tap_wordOf.2.1 48 = .ok (.iload_n 1, 1) := by decide +kernel
theorem d_Tap_wordOf_49 : decode m_Tap_wordOf.2.1 49 = .ok (.isub, 1) := by decide +kernel
theorem d_Tap_wordOf_50 : decode m_Tap_wordOf.2.1 50 = .ok (.invokevirtual 70, 3) := by decide +kernel
theorem d_Tap_wordOf_53 : decode m_Tap_wordOf.2.1 53 = .ok (.ifCond .eq 5, 3) := by decide +kernel
theorem d_Tap_wordOf_56 : decode m_Tap_wordOf.2.1 56 = .ok (.iload_n 3, 1) := by decide +kernel
theorem d_Tap_wordOf_57 : decode m_Tap_wordOf.2.1 57 = .ok (.ireturn, 1) := by decide +kernel
theorem d_Tap_wordOf_58 : decode m_Tap_wordOf.2.1 58 = .ok (.iinc 3 1, 3) := by decide +kernel
theorem d_Tap_wordOf_61 : decode m_Tap_wordOf.2.1 61 = .ok (.iload 5, 2) := by decide +kernel
theorem d_Tap_wordOf_63 : decode m_Tap_wordOf.2.1 63 = .ok (.iconst 1, 1) := by decide +kernel
theorem d_Tap_wordOf_64 : decode m_Tap_wordOf.2.1 64 = .ok (.iadd, 1) := by decide +kernel
theorem d_Tap_wordOf_65 : decode m_Tap_wordOf.2.1 65 = .ok (.istore 4, 2) := by decide +kernel
theorem d_Tap_wordOf_67 : decode m_Tap_wordOf.2.1 67 = .ok (.iinc 5 1, 3) := by decide +kernel
theorem d_Tap_wordOf_70 : decode m_Tap_wordOf.2.1 70 = .ok (.goto (-60), 3) := by decide +kernel
theorem d_Tap_wordOf_73 : decode m_Tap_wordOf.2.1 73 = .ok (.sipush 300, 3) := by decide +kernel
theorem d_Tap_wordOf_76 : decode m_Tap_wordOf.2.1 76 = .ok (.ireturn, 1) := by decide +kernel
theorem d_Tap_hasWord_0 : decode m_Tap_hasWord.2.1 0 = .ok (.iconst 0, 1) := by decide +kernel
theorem d_Tap_hasWord_1 : decode m_Tap_hasWord.2.1 1 = .ok (.istore 4, 2) := by decide +kernel
theorem d_Tap_hasWord_3 : decode m_Tap_hasWord.2.1 3 = .ok (.iload 4, 2) := by decide +kernel
theorem d_Tap_hasWord_5 : decode m_Tap_hasWord.2.1 5 = .ok (.iload_n 3, 1) := by decide +kernel
theorem d_Tap_hasWord_6 : decode m_Tap_hasWord.2.1 6 = .ok (.if_icmp .ge 32, 3) := by decide +kernel
theorem d_Tap_hasWord_9 : decode m_Tap_hasWord.2.1 9 = .ok (.aload_n 0, 1) := by decide +kernel
theorem d_Tap_hasWord_10 : decode m_Tap_hasWord.2.1 10 = .ok (.getfield 39, 3) := by decide +kernel
theorem d_Tap_hasWord_13 : decode m_Tap_hasWord.2.1 13 = .ok (.iload_n 1, 1) := by decide +kernel
theorem d_Tap_hasWord_14 : decode m_Tap_hasWord.2.1 14 = .ok (.iload 4, 2) := by decide +kernel
theorem d_Tap_hasWord_16 : decode m_Tap_hasWord.2.1 16 = .ok (.iadd, 1) := by decide +kernel
theorem d_Tap_hasWord_17 : decode m_Tap_hasWord.2.1 17 = .ok (.caload, 1) := by decide +kernel
theorem d_Tap_hasWord_18 : decode m_Tap_hasWord.2.1 18 = .ok (.aload_n 0, 1) := by decide +kernel
theorem d_Tap_hasWord_19 : decode m_Tap_hasWord.2.1 19 = .ok (.getfield 9, 3) := by decide +kernel
theorem d_Tap_hasWord_22 : decode m_Tap_hasWord.2.1 22 = .ok (.iload_n 2, 1) := by decide +kernel
theorem d_Tap_hasWord_23 : decode m_Tap_hasWord.2.1 23 = .ok (.iload 4, 2) := by decide +kernel
theorem d_Tap_hasWord_25 : decode m_Tap_hasWord.2.1 25 = .ok (.iadd, 1) := by decide +kernel
theorem d_Tap_hasWord_26 : decode m_Tap_hasWord.2.1 26 = .ok (.iaload, 1) := by decide +kernel
theorem d_Tap_hasWord_27 : decode m_Tap_hasWord.2.1 27 = .ok (.if_icmp .eq 5, 3) := by decide +kernel
theorem d_Tap_hasWord_30 : decode m_Tap_hasWord.2.1 30 = .ok (.iconst 0, 1) := by decide +kernel
theorem d_Tap_hasWord_31 : decode m_Tap_hasWord.2.1 31 = .ok (.ireturn, 1) := by decide +kernel
theorem d_Tap_hasWord_32 : decode m_Tap_hasWord.2.1 32 = .ok (.iinc 4 1, 3) := by decide +kernel
theorem d_Tap_hasWord_35 : decode m_Tap_hasWord.2.1 35 = .ok (.goto (-32), 3) := by decide +kernel
theorem d_Tap_hasWord_38 : decode m_Tap_hasWord.2.1 38 = .ok (.iconst 1, 1) := by decide +kernel
theorem d_Tap_hasWord_39 : decode m_Tap_hasWord.2.1 39 = .ok (.ireturn, 1) := by decide +kernel
theorem d_Gra_init_0 : decode m_Gra_init.2.1 0 = .ok (.aload_n 0, 1) := by decide +kernel
theorem d_Gra_init_1 : decode m_Gra_init.2.1 1 = .ok (.invokespecial 3, 3) := by decide +kernel
theorem d_Gra_init_4 : decode m_Gra_init.2.1 4 = .ok (.aload_n 0, 1) := by decide +kernel
theorem d_Gra_init_5 : decode m_Gra_init.2.1 5 = .ok (.new 9, 3) := by decide +kernel
theorem d_Gra_init_8 : decode m_Gra_init.2.1 8 = .ok (.dup, 1) := by decide +kernel
theorem d_Gra_init_9 : decode m_Gra_init.2.1 9 = .ok (.invokespecial 11, 3) := by decide +kernel
theorem d_Gra_init_12 : decode m_Gra_init.2.1 12 = .ok (.putfield 12, 3) := by decide +kernel
theorem d_Gra_init_15 : decode m_Gra_init.2.1 15 = .ok (.aload_n 0, 1) := by decide +kernel
theorem d_Gra_init_16 : decode m_Gra_init.2.1 16 = .ok (.iconst (-1), 1) := by decide +kernel
theorem d_Gra_init_17 : decode m_Gra_init.2.1 17 = .ok (.putfield 18, 3) := by decide +kernel
theorem d_Gra_init_20 : decode m_Gra_init.2.1 20 = .ok (.aload_n 0, 1) := by decide +kernel
theorem d_Gra_init_21 : decode m_Gra_init.2.1 21 = .ok (.iconst 0, 1) := by decide +kernel
theorem d_Gra_init_22 : decode m_Gra_init.2.1 22 = .ok (.putfield 22, 3) := by decide +kernel
theorem d_Gra_init_25 : decode m_Gra_init.2.1 25 = .ok (.aload_n 0, 1) := by decide +kernel
theorem d_Gra_init_26 : decode m_Gra_init.2.1 26 = .ok (.iconst 0, 1) := by decide +kernel
theorem d_Gra_init_27 : decode m_Gra_init.2.1 27 = .ok (.putfield 26, 3) := by decide +kernel
theorem d_Gra_init_30 : decode m_Gra_init.2.1 30 = .ok (.aload_n 0, 1) := by decide +kernel
theorem d_Gra_init_31 : decode m_Gra_init.2.1 31 = .ok (.sipush 302, 3) := by decide +kernel
theorem d_Gra_init_34 : decode m_Gra_init.2.1 34 = .ok (.putfield 29, 3) := by decide +kernel
theorem d_Gra_init_37 : decode m_Gra_init.2.1 37 = .ok (.aload_n 0, 1) := by decide +kernel
theorem d_Gra_init_38 : decode m_Gra_init.2.1 38 = .ok (.iconst 0, 1) := by decide +kernel
theorem d_Gra_init_39 : decode m_Gra_init.2.1 39 = .ok (.putfield 32, 3) := by decide +kernel
theorem d_Gra_init_42 : decode m_Gra_init.2.1 42 = .ok (.aload_n 0, 1) := by decide +kernel
theorem d_Gra_init_43 : decode m_Gra_init.2.1 43 = .ok (.iconst 0, 1) := by decide +kernel
theorem d_Gra_init_44 : decode m_Gra_init.2.1 44 = .ok (.putfield 35, 3) := by decide +kernel
theorem d_Gra_init_47 : decode m_Gra_init.2.1 47 = .ok (.aload_n 0, 1) := by decide +kernel
theorem d_Gra_init_48 : decode m_Gra_init.2.1 48 = .ok (.aload_n 1, 1) := by decide +kernel
theorem d_Gra_init_49 : decode m_Gra_init.2.1 49 = .ok (.putfield 38, 3) := by decide +kernel
theorem d_Gra_init_52 : decode m_Gra_init.2.1 52 = .ok (.return_, 1) := by decide +kernel
theorem d_Gra_readsTape_0 : decode m_Gra_readsTape.2.1 0 = .ok (.aload_n 0, 1) := by decide +kernel
theorem d_Gra_readsTape_1 : decode m_Gra_readsTape.2.1 1 = .ok (.iload_n 1, 1) := by decide +kernel
theorem d_Gra_readsTape_2 : decode m_Gra_readsTape.2.1 2 = .ok (.putfield 22, 3) := by decide +kernel
theorem d_Gra_readsTape_5 : decode m_Gra_readsTape.2.1 5 = .ok (.aload_n 0, 1) := by decide +kernel
theorem d_Gra_readsTape_6 : decode m_Gra_readsTape.2.1 6 = .ok (.iconst 0, 1) := by decide +kernel
theorem d_Gra_readsTape_7 : decode m_Gra_readsTape.2.1 7 = .ok (.putfield 26, 3) := by decide +kernel
theorem d_Gra_readsTape_10 : decode m_Gra_readsTape.2.1 10 = .ok (.aload_n 0, 1) := by decide +kernel
theorem d_Gra_readsTape_11 : decode m_Gra_readsTape.2.1 11 = .ok (.iconst 0, 1) := by decide +kernel
theorem d_Gra_readsTape_12 : decode m_Gra_readsTape.2.1 12 = .ok (.putfield 32, 3) := by decide +kernel
theorem d_Gra_readsTape_15 : decode m_Gra_readsTape.2.1 15 = .ok (.aload_n 0, 1) := by decide +kernel
theorem d_Gra_readsTape_16 : decode m_Gra_readsTape.2.1 16 = .ok (.iconst 0, 1) := by decide +kernel
theorem d_Gra_readsTape_17 : decode m_Gra_readsTape.2.1 17 = .ok (.putfield 35, 3) := by decide +kernel
theorem d_Gra_readsTape_20 : decode m_Gra_readsTape.2.1 20 = .ok (.aload_n 0, 1) := by decide +kernel
theorem d_Gra_readsTape_21 : decode m_Gra_readsTape.2.1 21 = .ok (.iconst (-1), 1) := by decide +kernel
theorem d_Gra_readsTape_22 : decode m_Gra_readsTape.2.1 22 = .ok (.putfield 18, 3) := by decide +kernel
theorem d_Gra_readsTape_25 : decode m_Gra_readsTape.2.1 25 = .ok (.aload_n 0, 1) := by decide +kernel
theorem d_Gra_readsTape_26 : decode m_Gra_readsTape.2.1 26 = .ok (.getfield 12, 3) := by decide +kernel
theorem d_Gra_readsTape_29 : decode m_Gra_readsTape.2.1 29 = .ok (.invokevirtual 42, 3) := by decide +kernel
theorem d_Gra_readsTape_32 : decode m_Gra_readsTape.2.1 32 = .ok (.aload_n 0, 1) := by decide +kernel
theorem d_Gra_readsTape_33 : decode m_Gra_readsTape.2.1 33 = .ok (.getfield 38, 3) := by decide +kernel
theorem d_Gra_readsTape_36 : decode m_Gra_readsTape.2.1 36 = .ok (.invokevirtual 45, 3) := by decide +kernel
theorem d_Gra_readsTape_39 : decode m_Gra_readsTape.2.1 39 = .ok (.aload_n 0, 1) := by decide +kernel
theorem d_Gra_readsTape_40 : decode m_Gra_readsTape.2.1 40 = .ok (.getfield 38, 3) := by decide +kernel
theorem d_Gra_readsTape_43 : decode m_Gra_readsTape.2.1 43 = .ok (.iconst 0, 1) := by decide +kernel
theorem d_Gra_readsTape_44 : decode m_Gra_readsTape.2.1 44 = .ok (.putfield 50, 3) := by decide +kernel
theorem d_Gra_readsTape_47 : decode m_Gra_readsTape.2.1 47 = .ok (.aload_n 0, 1) := by decide +kernel
theorem d_Gra_readsTape_48 : decode m_Gra_readsTape.2.1 48 = .ok (.aload_n 0, 1) := by decide +kernel
theorem d_Gra_readsTape_49 : decode m_Gra_readsTape.2.1 49 = .ok (.getfield 38, 3) := by decide +kernel
theorem d_Gra_readsTape_52 : decode m_Gra_readsTape.2.1 52 = .ok (.getfield 53, 3) := by decide +kernel
theorem d_Gra_readsTape_55 : decode m_Gra_readsTape.2.1 55 = .ok (.iconst 0, 1) := by decide +kernel
theorem d_Gra_readsTape_56 : decode m_Gra_readsTape.2.1 56 = .ok (.iaload, 1) := by decide +kernel
theorem d_Gra_readsTape_57 : decode m_Gra_readsTape.2.1 57 = .ok (.putfield 29, 3) := by decide +kernel
theorem d_Gra_readsTape_60 : decode m_Gra_readsTape.2.1 60 = .ok (.iconst 0, 1) := by decide +kernel
theorem d_Gra_readsTape_61 : decode m_Gra_readsTape.2.1 61 = .ok (.istore_n 2, 1) := by decide +kernel
theorem d_Gra_readsTape_62 : decode m_Gra_readsTape.2.1 62 = .ok (.iload_n 2, 1) := by decide +kernel
theorem d_Gra_readsTape_63 : decode m_Gra_readsTape.2.1 63 = .ok (.bipush 12, 2) := by decide +kernel
theorem d_Gra_readsTape_65 : decode m_Gra_readsTape.2.1 65 = .ok (.if_icmp .ge 41, 3) := by decide +kernel
theorem d_Gra_readsTape_68 : decode m_Gra_readsTape.2.1 68 = .ok (.aload_n 0, 1) := by decide +kernel
theorem d_Gra_readsTape_69 : decode m_Gra_readsTape.2.1 69 = .ok (.invokevirtual 57, 3) := by decide +kernel
theorem d_Gra_readsTape_72 : decode m_Gra_readsTape.2.1 72 = .ok (.ifCond .ne 5, 3) := by decide +kernel
theorem d_Gra_readsTape_75 : decode m_Gra_readsTape.2.1 75 = .ok (.iconst 0, 1) := by decide +kernel
theorem d_Gra_readsTape_76 : decode m_Gra_readsTape.2.1 76 = .ok (.ireturn, 1) := by decide +kernel
theorem d_Gra_readsTape_77 : decode m_Gra_readsTape.2.1 77 = .ok (.aload_n 0, 1) := by decide +kernel
theorem d_Gra_readsTape_78 : decode m_Gra_readsTape.2.1 78 = .ok (.getfield 29, 3) := by decide +kernel
theorem d_Gra_readsTape_81 : decode m_Gra_readsTape.2.1 81 = .ok (.sipush 302, 3) := by decide +kernel
theorem d_Gra_readsTape_84 : decode m_Gra_readsTape.2.1 84 = .ok (.if_icmp .ne 5, 3) := by decide +kernel
theorem d_Gra_readsTape_87 : decode m_Gra_readsTape.2.1 87 = .ok (.iconst 1, 1) := by decide +kernel
theorem d_Gra_readsTape_88 : decode m_Gra_readsTape.2.1 88 = .ok (.ireturn, 1) := by decide +kernel
theorem d_Gra_readsTape_89 : decode m_Gra_readsTape.2.1 89 = .ok (.aload_n 0, 1) := by decide +kernel
theorem d_Gra_readsTape_90 : decode m_Gra_readsTape.2.1 90 = .ok (.bipush 59, 2) := by decide +kernel
theorem d_Gra_readsTape_92 : decode m_Gra_readsTape.2.1 92 = .ok (.invokevirtual 61, 3) := by decide +kernel
theorem d_Gra_readsTape_95 : decode m_Gra_readsTape.2.1 95 = .ok (.ifCond .ne 5, 3) := by decide +kernel
theorem d_Gra_readsTape_98 : decode m_Gra_readsTape.2.1 98 = .ok (.iconst 0, 1) := by decide +kernel
theorem d_Gra_readsTape_99 : decode m_Gra_readsTape.2.1 99 = .ok (.ireturn, 1) := by decide +kernel
theorem d_Gra_readsTape_100 : decode m_Gra_readsTape.2.1 100 = .ok (.iinc 2 1, 3) := by decide +kernel
theorem d_Gra_readsTape_103 : decode m_Gra_readsTape.2.1 103 = .ok (.goto (-41), 3) := by decide +kernel
theorem d_Gra_readsTape_106 : decode m_Gra_readsTape.2.1 106 = .ok (.aload_n 0, 1) := by decide +kernel
theorem d_Gra_readsTape_107 : decode m_Gra_readsTape.2.1 107 = .ok (.invokevirtual 65, 3) := by decide +kernel
theorem d_Gra_readsTape_110 : decode m_Gra_readsTape.2.1 110 = .ok (.ireturn, 1) := by decide +kernel
theorem d_Gra_clause_0 : decode m_Gra_clause.2.1 0 = .ok (.aload_n 0, 1) := by decide +kernel
theorem d_Gra_clause_1 : decode m_Gra_clause.2.1 1 = .ok (.getfield 29, 3) := by decide +kernel
theorem d_Gra_clause_4 : decode m_Gra_clause.2.1 4 = .ok (.aload_n 0, 1) := by decide +kernel
theorem d_Gra_clause_5 : decode m_Gra_clause.2.1 5 = .ok (.getfield 22, 3) := by decide +kernel
theorem d_Gra_clause_8 : decode m_Gra_clause.2.1 8 = .ok (.ifCond .eq 9, 3) := by decide +kernel
theorem d_Gra_clause_11 : decode m_Gra_clause.2.1 11 = .ok (.sipush 260, 3) := by decide +kernel
theorem d_Gra_clause_14 : decode m_Gra_clause.2.1 14 = .ok (.goto 6, 3) := by decide +kernel
theorem d_Gra_clause_17 : decode m_Gra_clause.2.1 17 = .ok (.sipush 256, 3) := by decide +kernel
theorem d_Gra_clause_20 : decode m_Gra_clause.2.1 20 = .ok (.isub, 1) := by decide +kernel
theorem d_Gra_clause_21 : decode m_Gra_clause.2.1 21 = .ok (.istore_n 1, 1) := by decide +kernel
theorem d_Gra_clause_22 : decode m_Gra_clause.2.1 22 = .ok (.iload_n 1, 1) := by decide +kernel
theorem d_Gra_clause_23 : decode m_Gra_clause.2.1 23 = .ok (.ifCond .lt 8, 3) := by decide +kernel
theorem d_Gra_clause_26 : decode m_Gra_clause.2.1 26 = .ok (.iload_n 1, 1) := by decide +kernel
theorem d_Gra_clause_27 : decode m_Gra_clause.2.1 27 = .ok (.iconst 3, 1) := by decide +kernel
theorem d_Gra_clause_28 : decode m_Gra_clause.2.1 28 = .ok (.if_icmp .le 8, 3) := by decide +kernel
theorem d_Gra_clause_31 : decode m_Gra_clause.2.1 31 = .ok (.aload_n 0, 1) := by decide +kernel
theorem d_Gra_clause_32 : decode m_Gra_clause.2.1 32 = .ok (.invokevirtual 65, 3) := by decide +kernel
theorem d_Gra_clause_35 : decode m_Gra_clause.2.1 35 = .ok (.ireturn, 1) := by decide +kernel
theorem d_Gra_clause_36 : decode m_Gra_clause.2.1 36 = .ok (.aload_n 0, 1) := by decide +kernel
theorem d_Gra_clause_37 : decode m_Gra_clause.2.1 37 = .ok (.invokevirtual 74, 3) := by decide +kernel
theorem d_Gra_clause_40 : decode m_Gra_clause.2.1 40 = .ok (.aload_n 0, 1) := by decide +kernel
theorem d_Gra_clause_41 : decode m_Gra_clause.2.1 41 = .ok (.getfield 12, 3) := by decide +kernel
theorem d_Gra_clause_44 : decode m_Gra_clause.2.1 44 = .ok (.iload_n 1, 1) := by decide +kernel
theorem d_Gra_clause_45 : decode m_Gra_clause.2.1 45 = .ok (.invokevirtual 80, 3) := by decide +kernel
theorem d_Gra_clause_48 : decode m_Gra_clause.2.1 48 = .ok (.istore_n 2, 1) := by decide +kernel
theorem d_Gra_clause_49 : decode m_Gra_clause.2.1 49 = .ok (.aload_n 0, 1) := by decide +kernel
theorem d_Gra_clause_50 : decode m_Gra_clause.2.1 50 = .ok (.getfield 22, 3) := by decide +kernel
theorem d_Gra_clause_53 : decode m_Gra_clause.2.1 53 = .ok (.ifCond .eq 15, 3) := by decide +kernel
theorem d_Gra_clause_56 : decode m_Gra_clause.2.1 56 = .ok (.aload_n 0, 1) := by decide +kernel
theorem d_Gra_clause_57 : decode m_Gra_clause.2.1 57 = .ok (.iload_n 2, 1) := by decide +kernel
theorem d_Gra_clause_58 : decode m_Gra_clause.2.1 58 = .ok (.iload_n 1, 1) := by decide +kernel
theorem d_Gra_clause_59 : decode m_Gra_clause.2.1 59 = .ok (.invokevirtual 84, 3) := by decide +kernel
theorem d_Gra_clause_62 : decode m_Gra_clause.2.1 62 = .ok (.ifCond .ne 28, 3) := by decide +kernel
theorem d_Gra_clause_65 : decode m_Gra_clause.2.1 65 = .ok (.goto 23, 3) := by decide +kernel
theorem d_Gra_clause_68 : decode m_Gra_clause.2.1 68 = .ok (.iload_n 1, 1) := by decide +kernel
theorem d_Gra_clause_69 : decode m_Gra_clause.2.1 69 = .ok (.iconst 3, 1) := by decide +kernel
theorem d_Gra_clause_70 : decode m_Gra_clause.2.1 70 = .ok (.if_icmp .eq 20, 3) := by decide +kernel
theorem d_Gra_clause_73 : decode m_Gra_clause.2.1 73 = .ok (.aload_n 0, 1) := by decide +kernel
theorem d_Gra_clause_74 : decode m_Gra_clause.2.1 74 = .ok (.aload_n 0, 1) := by decide +kernel
theorem d_Gra_clause_75 : decode m_Gra_clause.2.1 75 = .ok (.getfield 12, 3) := by decide +kernel
theorem d_Gra_clause_78 : decode m_Gra_clause.2.1 78 = .ok (.getfield 88, 3) := by decide +kernel
theorem d_Gra_clause_81 : decode m_Gra_clause.2.1 81 = .ok (.iload_n 2, 1) := by decide +kernel
theorem d_Gra_clause_82 : decode m_Gra_clause.2.1 82 = .ok (.invokevirtual 91, 3) := by decide +kernel
theorem d_Gra_clause_85 : decode m_Gra_clause.2.1 85 = .ok (.ifCond .ne 5, 3) := by decide +kernel
theorem d_Gra_clause_88 : decode m_Gra_clause.2.1 88 = .ok (.iconst 0, 1) := by decide +kernel
theorem d_Gra_clause_89 : decode m_Gra_clause.2.1 89 = .ok (.ireturn, 1) := by decide +kernel
theorem d_Gra_clause_90 : decode m_Gra_clause.2.1 90 = .ok (.aload_n 0, 1) := by decide +kernel
theorem d_Gra_clause_91 : decode m_Gra_clause.2.1 91 = .ok (.getfield 29, 3) := by decide +kernel
theorem d_Gra_clause_94 : decode m_Gra_clause.2.1 94 = .ok (.sipush 264, 3) := by decide +kernel
theorem d_Gra_clause_97 : decode m_Gra_clause.2.1 97 = .ok (.if_icmp .eq 5, 3) := by decide +kernel
theorem d_Gra_clause_100 : decode m_Gra_clause.2.1 100 = .ok (.iconst 1, 1) := by decide +kernel
theorem d_Gra_clause_101 : decode m_Gra_clause.2.1 101 = .ok (.ireturn, 1) := by decide +kernel
theorem d_Gra_clause_102 : decode m_Gra_clause.2.1 102 = .ok (.aload_n 0, 1) := by decide +kernel
theorem d_Gra_clause_103 : decode m_Gra_clause.2.1 103 = .ok (.invokevirtual 74, 3) := by decide +kernel
theorem d_Gra_clause_106 : decode m_Gra_clause.2.1 106 = .ok (.aload_n 0, 1) := by decide +kernel
theorem d_Gra_clause_107 : decode m_Gra_clause.2.1 107 = .ok (.getfield 12, 3) := by decide +kernel
theorem d_Gra_clause_110 : decode m_Gra_clause.2.1 110 = .ok (.getfield 95, 3) := by decide +kernel
theorem d_Gra_clause_113 : decode m_Gra_clause.2.1 113 = .ok (.iload_n 2, 1) := by decide +kernel
theorem d_Gra_clause_114 : decode m_Gra_clause.2.1 114 = .ok (.aload_n 0, 1) := by decide +kernel
theorem d_Gra_clause_115 : decode m_Gra_clause.2.1 115 = .ok (.getfield 12, 3) := by decide +kernel
theorem d_Gra_clause_118 : decode m_Gra_clause.2.1 118 = .ok (.getfield 98, 3) := by decide +kernel
theorem d_Gra_clause_121 : decode m_Gra_clause.2.1 121 = .ok (.iastore, 1) := by decide +kernel
theorem d_Gra_clause_122 : decode m_Gra_clause.2.1 122 = .ok (.aload_n 0, 1) := by decide +kernel
theorem d_Gra_clause_123 : decode m_Gra_clause.2.1 123 = .ok (.invokevirtual 99, 3) := by decide +kernel
theorem d_Gra_clause_126 : decode m_Gra_clause.2.1 126 = .ok (.ifCond .ne 5, 3) := by decide +kernel
theorem d_Gra_clause_129 : decode m_Gra_clause.2.1 129 = .ok (.iconst 0, 1) := by decide +kernel
theorem d_Gra_clause_130 : decode m_Gra_clause.2.1 130 = .ok (.ireturn, 1) := by decide +kernel
theorem d_Gra_clause_131 : decode m_Gra_clause.2.1 131 = .ok (.aload_n 0, 1) := by decide +kernel
theorem d_Gra_clause_132 : decode m_Gra_clause.2.1 132 = .ok (.getfield 12, 3) := by decide +kernel
theorem d_Gra_clause_135 : decode m_Gra_clause.2.1 135 = .ok (.bipush 46, 2) := by decide +kernel
theorem d_Gra_clause_137 : decode m_Gra_clause.2.1 137 = .ok (.iconst 0, 1) := by decide +kernel
theorem d_Gra_clause_138 : decode m_Gra_clause.2.1 138 = .ok (.invokevirtual 102, 3) := by decide +kernel
theorem d_Gra_clause_141 : decode m_Gra_clause.2.1 141 = .ok (.pop, 1) := by decide +kernel
theorem d_Gra_clause_142 : decode m_Gra_clause.2.1 142 = .ok (.iconst 1, 1) := by decide +kernel
theorem d_Gra_clause_143 : decode m_Gra_clause.2.1 143 = .ok (.ireturn, 1) := by decide +kernel
theorem d_Gra_fail_0 : decode m_Gra_fail.2.1 0 = .ok (.aload_n 0, 1) := by decide +kernel
theorem d_Gra_fail_1 : decode m_Gra_fail.2.1 1 = .ok (.aload_n 0, 1) := by decide +kernel
theorem d_Gra_fail_2 : decode m_Gra_fail.2.1 2 = .ok (.getfield 38, 3) := by decide +kernel
theorem d_Gra_fail_5 : decode m_Gra_fail.2.1 5 = .ok (.getfield 71, 3) := by decide +kernel
theorem d_Gra_fail_8 : decode m_Gra_fail.2.1 8 = .ok (.aload_n 0, 1) := by decide +kernel
theorem d_Gra_fail_9 : decode m_Gra_fail.2.1 9 = .ok (.getfield 26, 3) := by decide +kernel
theorem d_Gra_fail_12 : decode m_Gra_fail.2.1 12 = .ok (.iaload, 1) := by decide +kernel
theorem d_Gra_fail_13 : decode m_Gra_fail.2.1 13 = .ok (.putfield 18, 3) := by decide +kernel
theorem d_Gra_fail_16 : decode m_Gra_fail.2.1 16 = .ok (.iconst 0, 1) := by decide +kernel
theorem d_Gra_fail_17 : decode m_Gra_fail.2.1 17 = .ok (.ireturn, 1) := by decide +kernel
theorem d_Gra_advance_0 : decode m_Gra_advance.2.1 0 = .ok (.aload_n 0, 1) := by decide +kernel
theorem d_Gra_advance_1 : decode m_Gra_advance.2.1 1 = .ok (.getfield 26, 3) := by decide +kernel
theorem d_Gra_advance_4 : decode m_Gra_advance.2.1 4 = .ok (.iconst 1, 1) := by decide +kernel
theorem d_Gra_advance_5 : decode m_Gra_advance.2.1 5 = .ok (.iadd, 1) := by decide +kernel
theorem d_Gra_advance_6 : decode m_Gra_advance.2.1 6 = .ok (.aload_n 0, 1) := by decide +kernel
theorem d_Gra_advance_7 : decode m_Gra_advance.2.1 7 = .ok (.getfield 38, 3) := by decide +kernel
theorem d_Gra_advance_10 : decode m_Gra_advance.2.1 10 = .ok (.getfield 68, 3) := by decide +kernel
theorem d_Gra_advance_13 : decode m_Gra_advance.2.1 13 = .ok (.if_icmp .ge 13, 3) := by decide +kernel
theorem d_Gra_advance_16 : decode m_Gra_advance.2.1 16 = .ok (.aload_n 0, 1) := by decide +kernel
theorem d_Gra_advance_17 : decode m_Gra_advance.2.1 17 = .ok (.dup, 1) := by decide +kernel
theorem d_Gra_advance_18 : decode m_Gra_advance.2.1 18 = .ok (.getfield 26, 3) := by decide +kernel
theorem d_Gra_advance_21 : decode m_Gra_advance.2.1 21 = .ok (.iconst 1, 1) := by decide +kernel
theorem d_Gra_advance_22 : decode m_Gra_advance.2.1 22 = .ok (.iadd, 1) := by decide +kernel
theorem d_Gra_advance_23 : decode m_Gra_advance.2.1 23 = .ok (.putfield 26, 3) := by decide +kernel
theorem d_Gra_advance_26 : decode m_Gra_advance.2.1 26 = .ok (.aload_n 0, 1) := by decide +kernel
theorem d_Gra_advance_27 : decode m_Gra_advance.2.1 27 = .ok (.aload_n 0, 1) := by decide +kernel
theorem d_Gra_advance_28 : decode m_Gra_advance.2.1 28 = .ok (.getfield 38, 3) := by decide +kernel
theorem d_Gra_advance_31 : decode m_Gra_advance.2.1 31 = .ok (.getfield 53, 3) := by decide +kernel
theorem d_Gra_advance_34 : decode m_Gra_advance.2.1 34 = .ok (.aload_n 0, 1) := by decide +kernel
theorem d_Gra_advance_35 : decode m_Gra_advance.2.1 35 = .ok (.getfield 26, 3) := by decide +kernel
theorem d_Gra_advance_38 : decode m_Gra_advance.2.1 38 = .ok (.iaload, 1) := by decide +kernel
theorem d_Gra_advance_39 : decode m_Gra_advance.2.1 39 = .ok (.putfield 29, 3) := by decide +kernel
theorem d_Gra_advance_42 : decode m_Gra_advance.2.1 42 = .ok (.return_, 1) := by decide +kernel
theorem d_Gra_order_0 : decode m_Gra_order.2.1 0 = .ok (.iload_n 2, 1) := by decide +kernel
theorem d_Gra_order_1 : decode m_Gra_order.2.1 1 = .ok (.iconst 3, 1) := by decide +kernel
theorem d_Gra_order_2 : decode m_Gra_order.2.1 2 = .ok (.if_icmp .eq 20, 3) := by decide +kernel
theorem d_Gra_order_5 : decode m_Gra_order.2.1 5 = .ok (.aload_n 0, 1) := by decide +kernel
theorem d_Gra_order_6 : decode m_Gra_order.2.1 6 = .ok (.aload_n 0, 1) := by decide +kernel
theorem d_Gra_order_7 : decode m_Gra_order.2.1 7 = .ok (.getfield 12, 3) := by decide +kernel
theorem d_Gra_order_10 : decode m_Gra_order.2.1 10 = .ok (.getfield 88, 3) := by decide +kernel
theorem d_Gra_order_13 : decode m_Gra_order.2.1 13 = .ok (.iload_n 1, 1) := by decide +kernel
theorem d_Gra_order_14 : decode m_Gra_order.2.1 14 = .ok (.invokevirtual 91, 3) := by decide +kernel
theorem d_Gra_order_17 : decode m_Gra_order.2.1 17 = .ok (.ifCond .ne 5, 3) := by decide +kernel
theorem d_Gra_order_20 : decode m_Gra_order.2.1 20 = .ok (.iconst 0, 1) := by decide +kernel
theorem d_Gra_order_21 : decode m_Gra_order.2.1 21 = .ok (.ireturn, 1) := by decide +kernel
theorem d_Gra_order_22 : decode m_Gra_order.2.1 22 = .ok (.iload_n 2, 1) := by decide +kernel
theorem d_Gra_order_23 : decode m_Gra_order.2.1 23 = .ok (.ifCond .ne 30, 3) := by decide +kernel
theorem d_Gra_order_26 : decode m_Gra_order.2.1 26 = .ok (.aload_n 0, 1) := by decide +kernel
theorem d_Gra_order_27 : decode m_Gra_order.2.1 27 = .ok (.sipush 268, 3) := by decide +kernel
theorem d_Gra_order_30 : decode m_Gra_order.2.1 30 = .ok (.invokevirtual 61, 3) := by decide +kernel
theorem d_Gra_order_33 : decode m_Gra_order.2.1 33 = .ok (.ifCond .eq 18, 3) := by decide +kernel
theorem d_Gra_order_36 : decode m_Gra_order.2.1 36 = .ok (.aload_n 0, 1) := by decide +kernel
theorem d_Gra_order_37 : decode m_Gra_order.2.1 37 = .ok (.aload_n 0, 1) := by decide +kernel
theorem d_Gra_order_38 : decode m_Gra_order.2.1 38 = .ok (.getfield 12, 3) := by decide +kernel
theorem d_Gra_order_41 : decode m_Gra_order.2.1 41 = .ok (.getfield 106, 3) := by decide +kernel
theorem d_Gra_order_44 : decode m_Gra_order.2.1 44 = .ok (.iload_n 1, 1) := by decide +kernel
theorem d_Gra_order_45 : decode m_Gra_order.2.1 45 = .ok (.invokevirtual 91, 3) := by decide +kernel
theorem d_Gra_order_48 : decode m_Gra_order.2.1 48 = .ok (.ifCond .ne 5, 3) := by decide +kernel
theorem d_Gra_order_51 : decode m_Gra_order.2.1 51 = .ok (.iconst 0, 1) := by decide +kernel
theorem d_Gra_order_52 : decode m_Gra_order.2.1 52 = .ok (.ireturn, 1) := by decide +kernel
theorem d_Gra_order_53 : decode m_Gra_order.2.1 53 = .ok (.iload_n 2, 1) := by decide +kernel
theorem d_Gra_order_54 : decode m_Gra_order.2.1 54 = .ok (.iconst 2, 1) := by decide +kernel
theorem d_Gra_order_55 : decode m_Gra_order.2.1 55 = .ok (.if_icmp .ne 30, 3) := by decide +kernel
theorem d_Gra_order_58 : decode m_Gra_order.2.1 58 = .ok (.aload_n 0, 1) := by decide +kernel
theorem d_Gra_order_59 : decode m_Gra_order.2.1 59 = .ok (.sipush 269, 3) := by decide +kernel
theorem d_Gra_order_62 : decode m_Gra_order.2.1 62 = .ok (.invokevirtual 61, 3) := by decide +kernel
theorem d_Gra_order_65 : decode m_Gra_order.2.1 65 = .ok (.ifCond .eq 18, 3) := by decide +kernel
theorem d_Gra_order_68 : decode m_Gra_order.2.1 68 = .ok (.aload_n 0, 1) := by decide +kernel
theorem d_Gra_order_69 : decode m_Gra_order.2.1 69 = .ok (.aload_n 0, 1) := by decide +kernel
theorem d_Gra_order_70 : decode m_Gra_order.2.1 70 = .ok (.getfield 12, 3) := by decide +kernel
theorem d_Gra_order_73 : decode m_Gra_order.2.1 73 = .ok (.getfield 106, 3) := by decide +kernel
theorem d_Gra_order_76 : decode m_Gra_order.2.1 76 = .ok (.iload_n 1, 1) := by decide +kernel
theorem d_Gra_order_77 : decode m_Gra_order.2.1 77 = .ok (.invokevirtual 91, 3) := by decide +kernel
theorem d_Gra_order_80 : decode m_Gra_order.2.1 80 = .ok (.ifCond .ne 5, 3) := by decide +kernel
theorem d_Gra_order_83 : decode m_Gra_order.2.1 83 = .ok (.iconst 0, 1) := by decide +kernel
theorem d_Gra_order_84 : decode m_Gra_order.2.1 84 = .ok (.ireturn, 1) := by decide +kernel
theorem d_Gra_order_85 : decode m_Gra_order.2.1 85 = .ok (.aload_n 0, 1) := by decide +kernel
theorem d_Gra_order_86 : decode m_Gra_order.2.1 86 = .ok (.getfield 29, 3) := by decide +kernel
theorem d_Gra_order_89 : decode m_Gra_order.2.1 89 = .ok (.sipush 270, 3) := by decide +kernel
theorem d_Gra_order_92 : decode m_Gra_order.2.1 92 = .ok (.if_icmp .ne 11, 3) := by decide +kernel
theorem d_Gra_order_95 : decode m_Gra_order.2.1 95 = .ok (.aload_n 0, 1) := by decide +kernel
theorem d_Gra_order_96 : decode m_Gra_order.2.1 96 = .ok (.iload_n 1, 1) := by decide +kernel
theorem d_Gra_order_97 : decode m_Gra_order.2.1 97 = .ok (.invokevirtual 109, 3) := by decide +kernel
theorem d_Gra_order_100 : decode m_Gra_order.2.1 100 = .ok (.ifCond .eq 7, 3) := by decide +kernel
theorem d_Gra_order_103 : decode m_Gra_order.2.1 103 = .ok (.iconst 1, 1) := by decide +kernel
theorem d_Gra_order_104 : decode m_Gra_order.2.1 104 = .ok (.goto 4, 3) := by decide +kernel
theorem d_Gra_order_107 : decode m_Gra_order.2.1 107 = .ok (.iconst 0, 1) := by decide +kernel
theorem d_Gra_order_108 : decode m_Gra_order.2.1 108 = .ok (.ireturn, 1) := by decide +kernel
theorem d_Gra_startedSum_0 : decode m_Gra_startedSum.2.1 0 = .ok (.aload_n 1, 1) := by decide +kernel
theorem d_Gra_startedSum_1 : decode m_Gra_startedSum.2.1 1 = .ok (.iload_n 2, 1) := by decide +kernel
theorem d_Gra_startedSum_2 : decode m_Gra_startedSum.2.1 2 = .ok (.aload_n 0, 1) := by decide +kernel
theorem d_Gra_startedSum_3 : decode m_Gra_startedSum.2.1 3 = .ok (.getfield 12, 3) := by decide +kernel
theorem d_Gra_startedSum_6 : decode m_Gra_startedSum.2.1 6 = .ok (.getfield 98, 3) := by decide +kernel
theorem d_Gra_startedSum_9 : decode m_Gra_startedSum.2.1 9 = .ok (.iastore, 1) := by decide +kernel
theorem d_Gra_startedSum_10 : decode m_Gra_startedSum.2.1 10 = .ok (.aload_n 0, 1) := by decide +kernel
theorem d_Gra_startedSum_11 : decode m_Gra_startedSum.2.1 11 = .ok (.invokevirtual 112, 3) := by decide +kernel
theorem d_Gra_startedSum_14 : decode m_Gra_startedSum.2.1 14 = .ok (.ifCond .ne 5, 3) := by decide +kernel
theorem d_Gra_startedSum_17 : decode m_Gra_startedSum.2.1 17 = .ok (.iconst 0, 1) := by decide +kernel
theorem d_Gra_startedSum_18 : decode m_Gra_startedSum.2.1 18 = .ok (.ireturn, 1) := by decide +kernel
theorem d_Gra_startedSum_19 : decode m_Gra_startedSum.2.1 19 = .ok (.aload_n 0, 1) := by decide +kernel
theorem d_Gra_startedSum_20 : decode m_Gra_startedSum.2.1 20 = .ok (.getfield 12, 3) := by decide +kernel
theorem d_Gra_startedSum_23 : decode m_Gra_startedSum.2.1 23 = .ok (.bipush 46, 2) := by decide +kernel
theorem d_Gra_startedSum_25 : decode m_Gra_startedSum.2.1 25 = .ok (.iconst 0, 1) := by decide +kernel
theorem d_Gra_startedSum_26 : decode m_Gra_startedSum.2.1 26 = .ok (.invokevirtual 102, 3) := by decide +kernel
theorem d_Gra_startedSum_29 : decode m_Gra_startedSum.2.1 29 = .ok (.pop, 1) := by decide +kernel
theorem d_Gra_startedSum_30 : decode m_Gra_startedSum.2.1 30 = .ok (.iconst 1, 1) := by decide +kernel
theorem d_Gra_startedSum_31 : decode m_Gra_startedSum.2.1 31 = .ok (.ireturn, 1) := by decide +kernel
theorem d_Gra_sum_0 : decode m_Gra_sum.2.1 0 = .ok (.aload_n 0, 1) := by decide +kernel
theorem d_Gra_sum_1 : decode m_Gra_sum.2.1 1 = .ok (.invokevirtual 133, 3) := by decide +kernel
theorem d_Gra_sum_4 : decode m_Gra_sum.2.1 4 = .ok (.ifCond .ne 5, 3) := by decide +kernel
theorem d_Gra_sum_7 : decode m_Gra_sum.2.1 7 = .ok (.iconst 0, 1) := by decide +kernel
theorem d_Gra_sum_8 : decode m_Gra_sum.2.1 8 = .ok (.ireturn, 1) := by decide +kernel
theorem d_Gra_sum_9 : decode m_Gra_sum.2.1 9 = .ok (.iconst 0, 1) := by decide +kernel
theorem d_Gra_sum_10 : decode m_Gra_sum.2.1 10 = .ok (.istore_n 1, 1) := by decide +kernel
theorem d_Gra_sum_11 : decode m_Gra_sum.2.1 11 = .ok (.iload_n 1, 1) := by decide +kernel
theorem d_Gra_sum_12 : decode m_Gra_sum.2.1 12 = .ok (.sipush 400, 3) := by decide +kernel
theorem d_Gra_sum_15 : decode m_Gra_sum.2.1 15 = .ok (.if_icmp .ge 55, 3) := by decide +kernel
theorem d_Gra_sum_18 : decode m_Gra_sum.2.1 18 = .ok (.aload_n 0, 1) := by decide +kernel
theorem d_Gra_sum_19 : decode m_Gra_sum.2.1 19 = .ok (.getfield 29, 3) := by decide +kernel
theorem d_Gra_sum_22 : decode m_Gra_sum.2.1 22 = .ok (.bipush 43, 2) := by decide +kernel
theorem d_Gra_sum_24 : decode m_Gra_sum.2.1 24 = .ok (.if_icmp .eq 12, 3) := by decide +kernel
theorem d_Gra_sum_27 : decode m_Gra_sum.2.1 27 = .ok (.aload_n 0, 1) := by decide +kernel
theorem d_Gra_sum_28 : decode m_Gra_sum.2.1 28 = .ok (.getfield 29, 3) := by decide +kernel
theorem d_Gra_sum_31 : decode m_Gra_sum.2.1 31 = .ok (.bipush 45, 2) := by decide +kernel
theorem d_Gra_sum_33 : decode m_Gra_sum.2.1 33 = .ok (.if_icmp .ne 37, 3) := by decide +kernel
theorem d_Gra_sum_36 : decode m_Gra_sum.2.1 36 = .ok (.aload_n 0, 1) := by decide +kernel
theorem d_Gra_sum_37 : decode m_Gra_sum.2.1 37 = .ok (.getfield 29, 3) := by decide +kernel
theorem d_Gra_sum_40 : decode m_Gra_sum.2.1 40 = .ok (.istore_n 2, 1) := by decide +kernel
theorem d_Gra_sum_41 : decode m_Gra_sum.2.1 41 = .ok (.aload_n 0, 1) := by decide +kernel
theorem d_Gra_sum_42 : decode m_Gra_sum.2.1 42 = .ok (.invokevirtual 74, 3) := by decide +kernel
theorem d_Gra_sum_45 : decode m_Gra_sum.2.1 45 = .ok (.aload_n 0, 1) := by decide +kernel
theorem d_Gra_sum_46 : decode m_Gra_sum.2.1 46 = .ok (.invokevirtual 133, 3) := by decide +kernel
theorem d_Gra_sum_49 : decode m_Gra_sum.2.1 49 = .ok (.ifCond .ne 5, 3) := by decide +kernel
theorem d_Gra_sum_52 : decode m_Gra_sum.2.1 52 = .ok (.iconst 0, 1) := by decide +kernel
theorem d_Gra_sum_53 : decode m_Gra_sum.2.1 53 = .ok (.ireturn, 1) := by decide +kernel
theorem d_Gra_sum_54 : decode m_Gra_sum.2.1 54 = .ok (.aload_n 0, 1) := by decide +kernel
theorem d_Gra_sum_55 : decode m_Gra_sum.2.1 55 = .ok (.getfield 12, 3) := by decide +kernel
theorem d_Gra_sum_58 : decode m_Gra_sum.2.1 58 = .ok (.iload_n 2, 1) := by decide +kernel
theorem d_Gra_sum_59 : decode m_Gra_sum.2.1 59 = .ok (.iconst 0, 1) := by decide +kernel
theorem d_Gra_sum_60 : decode m_Gra_sum.2.1 60 = .ok (.invokevirtual 102, 3) := by decide +kernel
theorem d_Gra_sum_63 : decode m_Gra_sum.2.1 63 = .ok (.pop, 1) := by decide +kernel
theorem d_Gra_sum_64 : decode m_Gra_sum.2.1 64 = .ok (.iinc 1 1, 3) := by decide +kernel
theorem d_Gra_sum_67 : decode m_Gra_sum.2.1 67 = .ok (.goto (-56), 3) := by decide +kernel
theorem d_Gra_sum_70 : decode m_Gra_sum.2.1 70 = .ok (.iconst 1, 1) := by decide +kernel
theorem d_Gra_sum_71 : decode m_Gra_sum.2.1 71 = .ok (.ireturn, 1) := by decide +kernel
theorem d_Gra_term_0 : decode m_Gra_term.2.1 0 = .ok (.aload_n 0, 1) := by decide +kernel
theorem d_Gra_term_1 : decode m_Gra_term.2.1 1 = .ok (.invokevirtual 136, 3) := by decide +kernel
theorem d_Gra_term_4 : decode m_Gra_term.2.1 4 = .ok (.ifCond .ne 5, 3) := by decide +kernel
theorem d_Gra_term_7 : decode m_Gra_term.2.1 7 = .ok (.iconst 0, 1) := by decide +kernel
theorem d_Gra_term_8 : decode m_Gra_term.2.1 8 = .ok (.ireturn, 1) := by decide +kernel
theorem d_Gra_term_9 : decode m_Gra_term.2.1 9 = .ok (.iconst 0, 1) := by decide +kernel
theorem d_Gra_term_10 : decode m_Gra_term.2.1 10 = .ok (.istore_n 1, 1) := by decide +kernel
theorem d_Gra_term_11 : decode m_Gra_term.2.1 11 = .ok (.iload_n 1, 1) := by decide +kernel
theorem d_Gra_term_12 : decode m_Gra_term.2.1 12 = .ok (.sipush 400, 3) := by decide +kernel
theorem d_Gra_term_15 : decode m_Gra_term.2.1 15 = .ok (.if_icmp .ge 64, 3) := by decide +kernel
theorem d_Gra_term_18 : decode m_Gra_term.2.1 18 = .ok (.aload_n 0, 1) := by decide +kernel
theorem d_Gra_term_19 : decode m_Gra_term.2.1 19 = .ok (.getfield 29, 3) := by decide +kernel
theorem d_Gra_term_22 : decode m_Gra_term.2.1 22 = .ok (.bipush 42, 2) := by decide +kernel
theorem d_Gra_term_24 : decode m_Gra_term.2.1 24 = .ok (.if_icmp .eq 21, 3) := by decide +kernel
theorem d_Gra_term_27 : decode m_Gra_term.2.1 27 = .ok (.aload_n 0, 1) := by decide +kernel
theorem d_Gra_term_28 : decode m_Gra_term.2.1 28 = .ok (.getfield 29, 3) := by decide +kernel
theorem d_Gra_term_31 : decode m_Gra_term.2.1 31 = .ok (.bipush 47, 2) := by decide +kernel
theorem d_Gra_term_33 : decode m_Gra_term.2.1 33 = .ok (.if_icmp .eq 12, 3) := by decide +kernel
theorem d_Gra_term_36 : decode m_Gra_term.2.1 36 = .ok (.aload_n 0, 1) := by decide +kernel
theorem d_Gra_term_37 : decode m_Gra_term.2.1 37 = .ok (.getfield 29, 3) := by decide +kernel
theorem d_Gra_term_40 : decode m_Gra_term.2.1 40 = .ok (.bipush 37, 2) := by decide +kernel
theorem d_Gra_term_42 : decode m_Gra_term.2.1 42 = .ok (.if_icmp .ne 37, 3) := by decide +kernel
theorem d_Gra_term_45 : decode m_Gra_term.2.1 45 = .ok (.aload_n 0, 1) := by decide +kernel
theorem d_Gra_term_46 : decode m_Gra_term.2.1 46 = .ok (.getfield 29, 3) := by decide +kernel
theorem d_Gra_term_49 : decode m_Gra_term.2.1 49 = .ok (.istore_n 2, 1) := by decide +kernel
theorem d_Gra_term_50 : decode m_Gra_term.2.1 50 = .ok (.aload_n 0, 1) := by decide +kernel
theorem d_Gra_term_51 : decode m_Gra_term.2.1 51 = .ok (.invokevirtual 74, 3) := by decide +kernel
theorem d_Gra_term_54 : decode m_Gra_term.2.1 54 = .ok (.aload_n 0, 1) := by decide +kernel
theorem d_Gra_term_55 : decode m_Gra_term.2.1 55 = .ok (.invokevirtual 136, 3) := by decide +kernel
theorem d_Gra_term_58 : decode m_Gra_term.2.1 58 = .ok (.ifCond .ne 5, 3) := by decide +kernel
theorem d_Gra_term_61 : decode m_Gra_term.2.1 61 = .ok (.iconst 0, 1) := by decide +kernel
theorem d_Gra_term_62 : decode m_Gra_term.2.1 62 = .ok (.ireturn, 1) := by decide +kernel
theorem d_Gra_term_63 : decode m_Gra_term.2.1 63 = .ok (.aload_n 0, 1) := by decide +kernel
theorem d_Gra_term_64 : decode m_Gra_term.2.1 64 = .ok (.getfield 12, 3) := by decide +kernel
theorem d_Gra_term_67 : decode m_Gra_term.2.1 67 = .ok (.iload_n 2, 1) := by decide +kernel
theorem d_Gra_term_68 : decode m_Gra_term.2.1 68 = .ok (.iconst 0, 1) := by decide +kernel
theorem d_Gra_term_69 : decode m_Gra_term.2.1 69 = .ok (.invokevirtual 102, 3) := by decide +kernel
theorem d_Gra_term_72 : decode m_Gra_term.2.1 72 = .ok (.pop, 1) := by decide +kernel
theorem d_Gra_term_73 : decode m_Gra_term.2.1 73 = .ok (.iinc 1 1, 3) := by decide +kernel
theorem d_Gra_term_76 : decode m_Gra_term.2.1 76 = .ok (.goto (-65), 3) := by decide +kernel
theorem d_Gra_term_79 : decode m_Gra_term.2.1 79 = .ok (.iconst 1, 1) := by decide +kernel
theorem d_Gra_term_80 : decode m_Gra_term.2.1 80 = .ok (.ireturn, 1) := by decide +kernel
theorem d_Gra_part_0 : decode m_Gra_part.2.1 0 = .ok (.aload_n 0, 1) := by decide +kernel
theorem d_Gra_part_1 : decode m_Gra_part.2.1 1 = .ok (.getfield 29, 3) := by decide +kernel
theorem d_Gra_part_4 : decode m_Gra_part.2.1 4 = .ok (.bipush 91, 2) := by decide +kernel
theorem d_Gra_part_6 : decode m_Gra_part.2.1 6 = .ok (.if_icmp .ne 44, 3) := by decide +kernel
theorem d_Gra_part_9 : decode m_Gra_part.2.1 9 = .ok (.aload_n 0, 1) := by decide +kernel
theorem d_Gra_part_10 : decode m_Gra_part.2.1 10 = .ok (.invokevirtual 127, 3) := by decide +kernel
theorem d_Gra_part_13 : decode m_Gra_part.2.1 13 = .ok (.ifCond .eq 23, 3) := by decide +kernel
theorem d_Gra_part_16 : decode m_Gra_part.2.1 16 = .ok (.aload_n 0, 1) := by decide +kernel
theorem d_Gra_part_17 : decode m_Gra_part.2.1 17 = .ok (.invokevirtual 112, 3) := by decide +kernel
theorem d_Gra_part_20 : decode m_Gra_part.2.1 20 = .ok (.ifCond .eq 16, 3) := by decide +kernel
theorem d_Gra_part_23 : decode m_Gra_part.2.1 23 = .ok (.aload_n 0, 1) := by decide +kernel
theorem d_Gra_part_24 : decode m_Gra_part.2.1 24 = .ok (.bipush 93, 2) := by decide +kernel
theorem d_Gra_part_26 : decode m_Gra_part.2.1 26 = .ok (.invokevirtual 61, 3) := by decide +kernel
theorem d_Gra_part_29 : decode m_Gra_part.2.1 29 = .ok (.ifCond .eq 7, 3) := by decide +kernel
theorem d_Gra_part_32 : decode m_Gra_part.2.1 32 = .ok (.iconst 1, 1) := by decide +kernel
theorem d_Gra_part_33 : decode m_Gra_part.2.1 33 = .ok (.goto 4, 3) := by decide +kernel
theorem d_Gra_part_36 : decode m_Gra_part.2.1 36 = .ok (.iconst 0, 1) := by decide +kernel
theorem d_Gra_part_37 : decode m_Gra_part.2.1 37 = .ok (.istore_n 1, 1) := by decide +kernel
theorem d_Gra_part_38 : decode m_Gra_part.2.1 38 = .ok (.aload_n 0, 1) := by decide +kernel
theorem d_Gra_part_39 : decode m_Gra_part.2.1 39 = .ok (.dup, 1) := by decide +kernel
theorem d_Gra_part_40 : decode m_Gra_part.2.1 40 = .ok (.getfield 35, 3) := by decide +kernel
theorem d_Gra_part_43 : decode m_Gra_part.2.1 43 = .ok (.iconst 1, 1) := by decide +kernel
theorem d_Gra_part_44 : decode m_Gra_part.2.1 44 = .ok (.isub, 1) := by decide +kernel
theorem d_Gra_part_45 : decode m_Gra_part.2.1 45 = .ok (.putfield 35, 3) := by decide +kernel
theorem d_Gra_part_48 : decode m_Gra_part.2.1 48 = .ok (.iload_n 1, 1) := by decide +kernel
theorem d_Gra_part_49 : decode m_Gra_part.2.1 49 = .ok (.ireturn, 1) := by decide +kernel
theorem d_Gra_part_50 : decode m_Gra_part.2.1 50 = .ok (.aload_n 0, 1) := by decide +kernel
theorem d_Gra_part_51 : decode m_Gra_part.2.1 51 = .ok (.getfield 32, 3) := by decide +kernel
theorem d_Gra_part_54 : decode m_Gra_part.2.1 54 = .ok (.bipush 50, 2) := by decide +kernel
theorem d_Gra_part_56 : decode m_Gra_part.2.1 56 = .ok (.if_icmp .lt 8, 3) := by decide +kernel
theorem d_Gra_part_59 : decode m_Gra_part.2.1 59 = .ok (.aload_n 0, 1) := by decide +kernel
theorem d_Gra_part_60 : decode m_Gra_part.2.1 60 = .ok (.invokevirtual 65, 3) := by decide +kernel
theorem d_Gra_part_63 : decode m_Gra_part.2.1 63 = .ok (.ireturn, 1) := by decide +kernel
theorem d_Gra_part_64 : decode m_Gra_part.2.1 64 = .ok (.aload_n 0, 1) := by decide +kernel
theorem d_Gra_part_65 : decode m_Gra_part.2.1 65 = .ok (.dup, 1) := by decide +kernel
theorem d_Gra_part_66 : decode m_Gra_part.2.1 66 = .ok (.getfield 32, 3) := by decide +kernel
theorem d_Gra_part_69 : decode m_Gra_part.2.1 69 = .ok (.iconst 1, 1) := by decide +kernel
theorem d_Gra_part_70 : decode m_Gra_part.2.1 70 = .ok (.iadd, 1) := by decide +kernel
theorem d_Gra_part_71 : decode m_Gra_part.2.1 71 = .ok (.putfield 32, 3) := by decide +kernel
theorem d_Gra_part_74 : decode m_Gra_part.2.1 74 = .ok (.aload_n 0, 1) := by decide +kernel
theorem d_Gra_part_75 : decode m_Gra_part.2.1 75 = .ok (.iconst 0, 1) := by decide +kernel
theorem d_Gra_part_76 : decode m_Gra_part.2.1 76 = .ok (.sipush 1000, 3) := by decide +kernel
theorem d_Gra_part_79 : decode m_Gra_part.2.1 79 = .ok (.invokevirtual 115, 3) := by decide +kernel
theorem d_Gra_part_82 : decode m_Gra_part.2.1 82 = .ok (.ifCond .eq 31, 3) := by decide +kernel
theorem d_Gra_part_85 : decode m_Gra_part.2.1 85 = .ok (.aload_n 0, 1) := by decide +kernel
theorem d_Gra_part_86 : decode m_Gra_part.2.1 86 = .ok (.getfield 12, 3) := by decide +kernel
theorem d_Gra_part_89 : decode m_Gra_part.2.1 89 = .ok (.bipush 110, 2) := by decide +kernel
theorem d_Gra_part_91 : decode m_Gra_part.2.1 91 = .ok (.aload_n 0, 1) := by decide +kernel
theorem d_Gra_part_92 : decode m_Gra_part.2.1 92 = .ok (.getfield 38, 3) := by decide +kernel
theorem d_Gra_part_95 : decode m_Gra_part.2.1 95 = .ok (.getfield 77, 3) := by decide +kernel
theorem d_Gra_part_98 : decode m_Gra_part.2.1 98 = .ok (.aload_n 0, 1) := by decide +kernel
theorem d_Gra_part_99 : decode m_Gra_part.2.1 99 = .ok (.getfield 26, 3) := by decide +kernel
theorem d_Gra_part_102 : decode m_Gra_part.2.1 102 = .ok (.iaload, 1) := by decide +kernel
theorem d_Gra_part_103 : decode m_Gra_part.2.1 103 = .ok (.invokevirtual 102, 3) := by decide +kernel
theorem d_Gra_part_106 : decode m_Gra_part.2.1 106 = .ok (.pop, 1) := by decide +kernel
theorem d_Gra_part_107 : decode m_Gra_part.2.1 107 = .ok (.aload_n 0, 1) := by decide +kernel
theorem d_Gra_part_108 : decode m_Gra_part.2.1 108 = .ok (.invokevirtual 74, 3) := by decide +kernel
theorem d_Gra_part_111 : decode m_Gra_part.2.1 111 = .ok (.iconst 1, 1) := by decide +kernel
theorem d_Gra_part_112 : decode m_Gra_part.2.1 112 = .ok (.ireturn, 1) := by decide +kernel
theorem d_Gra_part_113 : decode m_Gra_part.2.1 113 = .ok (.aload_n 0, 1) := by decide +kernel
theorem d_Gra_part_114 : decode m_Gra_part.2.1 114 = .ok (.getfield 22, 3) := by decide +kernel
theorem d_Gra_part_117 : decode m_Gra_part.2.1 117 = .ok (.ifCond .eq 30, 3) := by decide +kernel
theorem d_Gra_part_120 : decode m_Gra_part.2.1 120 = .ok (.aload_n 0, 1) := by decide +kernel
theorem d_Gra_part_121 : decode m_Gra_part.2.1 121 = .ok (.getfield 29, 3) := by decide +kernel
theorem d_Gra_part_124 : decode m_Gra_part.2.1 124 = .ok (.sipush 276, 3) := by decide +kernel
theorem d_Gra_part_127 : decode m_Gra_part.2.1 127 = .ok (.if_icmp .eq 13, 3) := by decide +kernel
theorem d_Gra_part_130 : decode m_Gra_part.2.1 130 = .ok (.aload_n 0, 1) := by decide +kernel
theorem d_Gra_part_131 : decode m_Gra_part.2.1 131 = .ok (.getfield 29, 3) := by decide +kernel
theorem d_Gra_part_134 : decode m_Gra_part.2.1 134 = .ok (.sipush 282, 3) := by decide +kernel
theorem d_Gra_part_137 : decode m_Gra_part.2.1 137 = .ok (.if_icmp .ne 10, 3) := by decide +kernel
theorem d_Gra_part_140 : decode m_Gra_part.2.1 140 = .ok (.aload_n 0, 1) := by decide +kernel
theorem d_Gra_part_141 : decode m_Gra_part.2.1 141 = .ok (.invokevirtual 139, 3) := by decide +kernel
theorem d_Gra_part_144 : decode m_Gra_part.2.1 144 = .ok (.goto 7, 3) := by decide +kernel
theorem d_Gra_part_147 : decode m_Gra_part.2.1 147 = .ok (.aload_n 0, 1) := by decide +kernel
theorem d_Gra_part_148 : decode m_Gra_part.2.1 148 = .ok (.invokevirtual 142, 3) := by decide +kernel
theorem d_Gra_part_151 : decode m_Gra_part.2.1 151 = .ok (.ireturn, 1) := by decide +kernel
theorem d_Gra_openBracket_0 : decode m_Gra_openBracket.2.1 0 = .ok (.aload_n 0, 1) := by decide +kernel
theorem d_Gra_openBracket_1 : decode m_Gra_openBracket.2.1 1 = .ok (.getfield 35, 3) := by decide +kernel
theorem d_Gra_openBracket_4 : decode m_Gra_openBracket.2.1 4 = .ok (.bipush 8, 2) := by decide +kernel
theorem d_Gra_openBracket_6 : decode m_Gra_openBracket.2.1 6 = .ok (.if_icmp .lt 8, 3) := by decide +kernel
theorem d_Gra_openBracket_9 : decode m_Gra_openBracket.2.1 9 = .ok (.aload_n 0, 1) := by decide +kernel
theorem d_Gra_openBracket_10 : decode m_Gra_openBracket.2.1 10 = .ok (.invokevirtual 65, 3) := by decide +kernel
theorem d_Gra_openBracket_13 : decode m_Gra_openBracket.2.1 13 = .ok (.ireturn, 1) := by decide +kernel
theorem d_Gra_openBracket_14 : decode m_Gra_openBracket.2.1 14 = .ok (.aload_n 0, 1) := by decide +kernel
theorem d_Gra_openBracket_15 : decode m_Gra_openBracket.2.1 15 = .ok (.dup, 1) := by decide +kernel
theorem d_Gra_openBracket_16 : decode m_Gra_openBracket.2.1 16 = .ok (.getfield 35, 3) := by decide +kernel
theorem d_Gra_openBracket_19 : decode m_Gra_openBracket.2.1 19 = .ok (.iconst 1, 1) := by decide +kernel
theorem d_Gra_openBracket_20 : decode m_Gra_openBracket.2.1 20 = .ok (.iadd, 1) := by decide +kernel
theorem d_Gra_openBracket_21 : decode m_Gra_openBracket.2.1 21 = .ok (.putfield 35, 3) := by decide +kernel
theorem d_Gra_openBracket_24 : decode m_Gra_openBracket.2.1 24 = .ok (.aload_n 0, 1) := by decide +kernel
theorem d_Gra_openBracket_25 : decode m_Gra_openBracket.2.1 25 = .ok (.invokevirtual 74, 3) := by decide +kernel
theorem d_Gra_openBracket_28 : decode m_Gra_openBracket.2.1 28 = .ok (.iconst 1, 1) := by decide +kernel
theorem d_Gra_openBracket_29 : decode m_Gra_openBracket.2.1 29 = .ok (.ireturn, 1) := by decide +kernel
theorem d_Gra_take_0 : decode m_Gra_take.2.1 0 = .ok (.aload_n 0, 1) := by decide +kernel
theorem d_Gra_take_1 : decode m_Gra_take.2.1 1 = .ok (.getfield 29, 3) := by decide +kernel
theorem d_Gra_take_4 : decode m_Gra_take.2.1 4 = .ok (.iload_n 1, 1) := by decide +kernel
theorem d_Gra_take_5 : decode m_Gra_take.2.1 5 = .ok (.if_icmp .eq 8, 3) := by decide +kernel
theorem d_Gra_take_8 : decode m_Gra_take.2.1 8 = .ok (.aload_n 0, 1) := by decide +kernel
theorem d_Gra_take_9 : decode m_Gra_take.2.1 9 = .ok (.invokevirtual 65, 3) := by decide +kernel
theorem d_Gra_take_12 : decode m_Gra_take.2.1 12 = .ok (.ireturn, 1) := by decide +kernel
theorem d_Gra_take_13 : decode m_Gra_take.2.1 13 = .ok (.aload_n 0, 1) := by decide +kernel
theorem d_Gra_take_14 : decode m_Gra_take.2.1 14 = .ok (.invokevirtual 74, 3) := by decide +kernel
theorem d_Gra_take_17 : decode m_Gra_take.2.1 17 = .ok (.iconst 1, 1) := by decide +kernel
theorem d_Gra_take_18 : decode m_Gra_take.2.1 18 = .ok (.ireturn, 1) := by decide +kernel
theorem d_Gra_isNumber_0 : decode m_Gra_isNumber.2.1 0 = .ok (.aload_n 0, 1) := by decide +kernel
theorem d_Gra_isNumber_1 : decode m_Gra_isNumber.2.1 1 = .ok (.getfield 29, 3) := by decide +kernel
theorem d_Gra_isNumber_4 : decode m_Gra_isNumber.2.1 4 = .ok (.sipush 301, 3) := by decide +kernel
theorem d_Gra_isNumber_7 : decode m_Gra_isNumber.2.1 7 = .ok (.if_icmp .ne 39, 3) := by decide +kernel
theorem d_Gra_isNumber_10 : decode m_Gra_isNumber.2.1 10 = .ok (.aload_n 0, 1) := by decide +kernel
theorem d_Gra_isNumber_11 : decode m_Gra_isNumber.2.1 11 = .ok (.getfield 38, 3) := by decide +kernel
theorem d_Gra_isNumber_14 : decode m_Gra_isNumber.2.1 14 = .ok (.getfield 77, 3) := by decide +kernel
theorem d_Gra_isNumber_17 : decode m_Gra_isNumber.2.1 17 = .ok (.aload_n 0, 1) := by decide +kernel
theorem d_Gra_isNumber_18 : decode m_Gra_isNumber.2.1 18 = .ok (.getfield 26, 3) := by decide +kernel
theorem d_Gra_isNumber_21 : decode m_Gra_isNumber.2.1 21 = .ok (.iaload, 1) := by decide +kernel
theorem d_Gra_isNumber_22 : decode m_Gra_isNumber.2.1 22 = .ok (.iload_n 1, 1) := by decide +kernel
theorem d_Gra_isNumber_23 : decode m_Gra_isNumber.2.1 23 = .ok (.if_icmp .lt 23, 3) := by decide +kernel
theorem d_Gra_isNumber_26 : decode m_Gra_isNumber.2.1 26 = .ok (.aload_n 0, 1) := by decide +kernel
theorem d_Gra_isNumber_27 : decode m_Gra_isNumber.2.1 27 = .ok (.getfield 38, 3) := by decide +kernel
theorem d_Gra_isNumber_30 : decode m_Gra_isNumber.2.1 30 = .ok (.getfield 77, 3) := by decide +kernel
theorem d_Gra_isNumber_33 : decode m_Gra_isNumber.2.1 33 = .ok (.aload_n 0, 1) := by decide +kernel
theorem d_Gra_isNumber_34 : decode m_Gra_isNumber.2.1 34 = .ok (.getfield 26, 3) := by decide +kernel
theorem d_Gra_isNumber_37 : decode m_Gra_isNumber.2.1 37 = .ok (.iaload, 1) := by decide +kernel
theorem d_Gra_isNumber_38 : decode m_Gra_isNumber.2.1 38 = .ok (.iload_n 2, 1) := by decide +kernel
theorem d_Gra_isNumber_39 : decode m_Gra_isNumber.2.1 39 = .ok (.if_icmp .gt 7, 3) := by decide +kernel
theorem d_Gra_isNumber_42 : decode m_Gra_isNumber.2.1 42 = .ok (.iconst 1, 1) := by decide +kernel
theorem d_Gra_isNumber_43 : decode m_Gra_isNumber.2.1 43 = .ok (.goto 4, 3) := by decide +kernel
theorem d_Gra_isNumber_46 : decode m_Gra_isNumber.2.1 46 = .ok (.iconst 0, 1) := by decide +kernel
theorem d_Gra_isNumber_47 : decode m_Gra_isNumber.2.1 47 = .ok (.ireturn, 1) := by decide +kernel
theorem d_Gra_placeWord_0 : decode m_Gra_placeWord.2.1 0 = .ok (.aload_n 0, 1) := by decide +kernel
theorem d_Gra_placeWord_1 : decode m_Gra_placeWord.2.1 1 = .ok (.getfield 29, 3) := by decide +kernel
theorem d_Gra_placeWord_4 : decode m_Gra_placeWord.2.1 4 = .ok (.sipush 276, 3) := by decide +kernel
theorem d_Gra_placeWord_7 : decode m_Gra_placeWord.2.1 7 = .ok (.if_icmp .ne 8, 3) := by decide +kernel
theorem d_Gra_placeWord_10 : decode m_Gra_placeWord.2.1 10 = .ok (.bipush 12, 2) := by decide +kernel
theorem d_Gra_placeWord_12 : decode m_Gra_placeWord.2.1 12 = .ok (.goto 5, 3) := by decide +kernel
theorem d_Gra_placeWord_15 : decode m_Gra_placeWord.2.1 15 = .ok (.bipush 32, 2) := by decide +kernel
theorem d_Gra_placeWord_17 : decode m_Gra_placeWord.2.1 17 = .ok (.istore_n 1, 1) := by decide +kernel
theorem d_Gra_placeWord_18 : decode m_Gra_placeWord.2.1 18 = .ok (.aload_n 0, 1) := by decide +kernel
theorem d_Gra_placeWord_19 : decode m_Gra_placeWord.2.1 19 = .ok (.invokevirtual 74, 3) := by decide +kernel
theorem d_Gra_placeWord_22 : decode m_Gra_placeWord.2.1 22 = .ok (.aload_n 0, 1) := by decide +kernel
theorem d_Gra_placeWord_23 : decode m_Gra_placeWord.2.1 23 = .ok (.iconst 0, 1) := by decide +kernel
theorem d_Gra_placeWord_24 : decode m_Gra_placeWord.2.1 24 = .ok (.bipush 19, 2) := by decide +kernel
theorem d_Gra_placeWord_26 : decode m_Gra_placeWord.2.1 26 = .ok (.invokevirtual 115, 3) := by decide +kernel
theorem d_Gra_placeWord_29 : decode m_Gra_placeWord.2.1 29 = .ok (.ifCond .ne 8, 3) := by decide +kernel
theorem d_Gra_placeWord_32 : decode m_Gra_placeWord.2.1 32 = .ok (.aload_n 0, 1) := by decide +kernel
theorem d_Gra_placeWord_33 : decode m_Gra_placeWord.2.1 33 = .ok (.invokevirtual 65, 3) := by decide +kernel
theorem d_Gra_placeWord_36 : decode m_Gra_placeWord.2.1 36 = .ok (.ireturn, 1) := by decide +kernel
theorem d_Gra_placeWord_37 : decode m_Gra_placeWord.2.1 37 = .ok (.aload_n 0, 1) := by decide +kernel
theorem d_Gra_placeWord_38 : decode m_Gra_placeWord.2.1 38 = .ok (.getfield 12, 3) := by decide +kernel
theorem d_Gra_placeWord_41 : decode m_Gra_placeWord.2.1 41 = .ok (.bipush 119, 2) := by decide +kernel
theorem d_Gra_placeWord_43 : decode m_Gra_placeWord.2.1 43 = .ok (.iload_n 1, 1) := by decide +kernel
theorem d_Gra_placeWord_44 : decode m_Gra_placeWord.2.1 44 = .ok (.aload_n 0, 1) := by decide +kernel
theorem d_Gra_placeWord_45 : decode m_Gra_placeWord.2.1 45 = .ok (.getfield 38, 3) := by decide +kernel
theorem d_Gra_placeWord_48 : decode m_Gra_placeWord.2.1 48 = .ok (.getfield 77, 3) := by decide +kernel
theorem d_Gra_placeWord_51 : decode m_Gra_placeWord.2.1 51 = .ok (.aload_n 0, 1) := by decide +kernel
theorem d_Gra_placeWord_52 : decode m_Gra_placeWord.2.1 52 = .ok (.getfield 26, 3) := by decide +kernel
theorem d_Gra_placeWord_55 : decode m_Gra_placeWord.2.1 55 = .ok (.iaload, 1) := by decide +kernel
theorem d_Gra_placeWord_56 : decode m_Gra_placeWord.2.1 56 = .ok (.iadd, 1) := by decide +kernel
theorem d_Gra_placeWord_57 : decode m_Gra_placeWord.2.1 57 = .ok (.invokevirtual 102, 3) := by decide +kernel
theorem d_Gra_placeWord_60 : decode m_Gra_placeWord.2.1 60 = .ok (.pop, 1) := by decide +kernel
theorem d_Gra_placeWord_61 : decode m_Gra_placeWord.2.1 61 = .ok (.aload_n 0, 1) := by decide +kernel
theorem d_Gra_placeWord_62 : decode m_Gra_placeWord.2.1 62 = .ok (.invokevirtual 74, 3) := by decide +kernel
theorem d_Gra_placeWord_65 : decode m_Gra_placeWord.2.1 65 = .ok (.iconst 1, 1) := by decide +kernel
theorem d_Gra_placeWord_66 : decode m_Gra_placeWord.2.1 66 = .ok (.ireturn, 1) := by decide +kernel
theorem d_Gra_word_0 : decode m_Gra_word.2.1 0 = .ok (.aload_n 0, 1) := by decide +kernel
theorem d_Gra_word_1 : decode m_Gra_word.2.1 1 = .ok (.getfield 22, 3) := by decide +kernel
theorem d_Gra_word_4 : decode m_Gra_word.2.1 4 = .ok (.ifCond .eq 9, 3) := by decide +kernel
theorem d_Gra_word_7 : decode m_Gra_word.2.1 7 = .ok (.sipush 276, 3) := by decide +kernel
theorem d_Gra_word_10 : decode m_Gra_word.2.1 10 = .ok (.goto 6, 3) := by decide +kernel
theorem d_Gra_word_13 : decode m_Gra_word.2.1 13 = .ok (.sipush 271, 3) := by decide +kernel
theorem d_Gra_word_16 : decode m_Gra_word.2.1 16 = .ok (.istore_n 1, 1) := by decide +kernel
theorem d_Gra_word_17 : decode m_Gra_word.2.1 17 = .ok (.aload_n 0, 1) := by decide +kernel
theorem d_Gra_word_18 : decode m_Gra_word.2.1 18 = .ok (.getfield 22, 3) := by decide +kernel
theorem d_Gra_word_21 : decode m_Gra_word.2.1 21 = .ok (.ifCond .eq 9, 3) := by decide +kernel
theorem d_Gra_word_24 : decode m_Gra_word.2.1 24 = .ok (.sipush 282, 3) := by decide +kernel
theorem d_Gra_word_27 : decode m_Gra_word.2.1 27 = .ok (.goto 6, 3) := by decide +kernel
theorem d_Gra_word_30 : decode m_Gra_word.2.1 30 = .ok (.sipush 278, 3) := by decide +kernel
theorem d_Gra_word_33 : decode m_Gra_word.2.1 33 = .ok (.istore_n 2, 1) := by decide +kernel
theorem d_Gra_word_34 : decode m_Gra_word.2.1 34 = .ok (.aload_n 0, 1) := by decide +kernel
theorem d_Gra_word_35 : decode m_Gra_word.2.1 35 = .ok (.getfield 29, 3) := by decide +kernel
theorem d_Gra_word_38 : decode m_Gra_word.2.1 38 = .ok (.iload_n 1, 1) := by decide +kernel
theorem d_Gra_word_39 : decode m_Gra_word.2.1 39 = .ok (.if_icmp .lt 11, 3) := by decide +kernel
theorem d_Gra_word_42 : decode m_Gra_word.2.1 42 = .ok (.aload_n 0, 1) := by decide +kernel
theorem d_Gra_word_43 : decode m_Gra_word.2.1 43 = .ok (.getfield 29, 3) := by decide +kernel
theorem d_Gra_word_46 : decode m_Gra_word.2.1 46 = .ok (.iload_n 2, 1) := by decide +kernel
theorem d_Gra_word_47 : decode m_Gra_word.2.1 47 = .ok (.if_icmp .le 8, 3) := by decide +kernel
theorem d_Gra_word_50 : decode m_Gra_word.2.1 50 = .ok (.aload_n 0, 1) := by decide +kernel
theorem d_Gra_word_51 : decode m_Gra_word.2.1 51 = .ok (.invokevirtual 65, 3) := by decide +kernel
theorem d_Gra_word_54 : decode m_Gra_word.2.1 54 = .ok (.ireturn, 1) := by decide +kernel
theorem d_Gra_word_55 : decode m_Gra_word.2.1 55 = .ok (.aload_n 0, 1) := by decide +kernel
theorem d_Gra_word_56 : decode m_Gra_word.2.1 56 = .ok (.getfield 12, 3) := by decide +kernel
theorem d_Gra_word_59 : decode m_Gra_word.2.1 59 = .ok (.bipush 119, 2) := by decide +kernel
theorem d_Gra_word_61 : decode m_Gra_word.2.1 61 = .ok (.aload_n 0, 1) := by decide +kernel
theorem d_Gra_word_62 : decode m_Gra_word.2.1 62 = .ok (.getfield 29, 3) := by decide +kernel
theorem d_Gra_word_65 : decode m_Gra_word.2.1 65 = .ok (.sipush 271, 3) := by decide +kernel
theorem d_Gra_word_68 : decode m_Gra_word.2.1 68 = .ok (.isub, 1) := by decide +kernel
theorem d_Gra_word_69 : decode m_Gra_word.2.1 69 = .ok (.invokevirtual 102, 3) := by decide +kernel
theorem d_Gra_word_72 : decode m_Gra_word.2.1 72 = .ok (.pop, 1) := by decide +kernel
theorem d_Gra_word_73 : decode m_Gra_word.2.1 73 = .ok (.aload_n 0, 1) := by decide +kernel
theorem d_Gra_word_74 : decode m_Gra_word.2.1 74 = .ok (.invokevirtual 74, 3) := by decide +kernel
theorem d_Gra_word_77 : decode m_Gra_word.2.1 77 = .ok (.iconst 1, 1) := by decide +kernel
theorem d_Gra_word_78 : decode m_Gra_word.2.1 78 = .ok (.ireturn, 1) := by decide +kernel
theorem d_Gra_times_0 : decode m_Gra_times.2.1 0 = .ok (.aload_n 0, 1) := by decide +kernel
theorem d_Gra_times_1 : decode m_Gra_times.2.1 1 = .ok (.invokevirtual 74, 3) := by decide +kernel
theorem d_Gra_times_4 : decode m_Gra_times.2.1 4 = .ok (.aload_n 0, 1) := by decide +kernel
theorem d_Gra_times_5 : decode m_Gra_times.2.1 5 = .ok (.iconst 1, 1) := by decide +kernel
theorem d_Gra_times_6 : decode m_Gra_times.2.1 6 = .ok (.bipush 20, 2) := by decide +kernel
theorem d_Gra_times_8 : decode m_Gra_times.2.1 8 = .ok (.invokevirtual 115, 3) := by decide +kernel
theorem d_Gra_times_11 : decode m_Gra_times.2.1 11 = .ok (.ifCond .ne 8, 3) := by decide +kernel
theorem d_Gra_times_14 : decode m_Gra_times.2.1 14 = .ok (.aload_n 0, 1) := by decide +kernel
theorem d_Gra_times_15 : decode m_Gra_times.2.1 15 = .ok (.invokevirtual 65, 3) := by decide +kernel
theorem d_Gra_times_18 : decode m_Gra_times.2.1 18 = .ok (.ireturn, 1) := by decide +kernel
theorem d_Gra_times_19 : decode m_Gra_times.2.1 19 = .ok (.aload_n 0, 1) := by decide +kernel
theorem d_Gra_times_20 : decode m_Gra_times.2.1 20 = .ok (.getfield 12, 3) := by decide +kernel
theorem d_Gra_times_23 : decode m_Gra_times.2.1 23 = .ok (.getfield 118, 3) := by decide +kernel
theorem d_Gra_times_26 : decode m_Gra_times.2.1 26 = .ok (.iload_n 1, 1) := by decide +kernel
theorem d_Gra_times_27 : decode m_Gra_times.2.1 27 = .ok (.aload_n 0, 1) := by decide +kernel
theorem d_Gra_times_28 : decode m_Gra_times.2.1 28 = .ok (.getfield 38, 3) := by decide +kernel
theorem d_Gra_times_31 : decode m_Gra_times.2.1 31 = .ok (.getfield 77, 3) := by decide +kernel
theorem d_Gra_times_34 : decode m_Gra_times.2.1 34 = .ok (.aload_n 0, 1) := by decide +kernel
theorem d_Gra_times_35 : decode m_Gra_times.2.1 35 = .ok (.getfield 26, 3) := by decide +kernel
theorem d_Gra_times_38 : decode m_Gra_times.2.1 38 = .ok (.iaload, 1) := by decide +kernel
theorem d_Gra_times_39 : decode m_Gra_times.2.1 39 = .ok (.iastore, 1) := by decide +kernel
theorem d_Gra_times_40 : decode m_Gra_times.2.1 40 = .ok (.aload_n 0, 1) := by decide +kernel
theorem d_Gra_times_41 : decode m_Gra_times.2.1 41 = .ok (.invokevirtual 74, 3) := by decide +kernel
theorem d_Gra_times_44 : decode m_Gra_times.2.1 44 = .ok (.iconst 1, 1) := by decide +kernel
theorem d_Gra_times_45 : decode m_Gra_times.2.1 45 = .ok (.ireturn, 1) := by decide +kernel
theorem d_Gra_test_0 : decode m_Gra_test.2.1 0 = .ok (.aload_n 0, 1) := by decide +kernel
theorem d_Gra_test_1 : decode m_Gra_test.2.1 1 = .ok (.invokevirtual 120, 3) := by decide +kernel
theorem d_Gra_test_4 : decode m_Gra_test.2.1 4 = .ok (.ifCond .ne 5, 3) := by decide +kernel
theorem d_Gra_test_7 : decode m_Gra_test.2.1 7 = .ok (.iconst 0, 1) := by decide +kernel
theorem d_Gra_test_8 : decode m_Gra_test.2.1 8 = .ok (.ireturn, 1) := by decide +kernel
theorem d_Gra_test_9 : decode m_Gra_test.2.1 9 = .ok (.iconst 0, 1) := by decide +kernel
theorem d_Gra_test_10 : decode m_Gra_test.2.1 10 = .ok (.istore_n 1, 1) := by decide +kernel
theorem d_Gra_test_11 : decode m_Gra_test.2.1 11 = .ok (.iload_n 1, 1) := by decide +kernel
theorem d_Gra_test_12 : decode m_Gra_test.2.1 12 = .ok (.sipush 400, 3) := by decide +kernel
theorem d_Gra_test_15 : decode m_Gra_test.2.1 15 = .ok (.if_icmp .ge 59, 3) := by decide +kernel
theorem d_Gra_test_18 : decode m_Gra_test.2.1 18 = .ok (.aload_n 0, 1) := by decide +kernel
theorem d_Gra_test_19 : decode m_Gra_test.2.1 19 = .ok (.getfield 29, 3) := by decide +kernel
theorem d_Gra_test_22 : decode m_Gra_test.2.1 22 = .ok (.sipush 265, 3) := by decide +kernel
theorem d_Gra_test_25 : decode m_Gra_test.2.1 25 = .ok (.if_icmp .ne 49, 3) := by decide +kernel
theorem d_Gra_test_28 : decode m_Gra_test.2.1 28 = .ok (.aload_n 0, 1) := by decide +kernel
theorem d_Gra_test_29 : decode m_Gra_test.2.1 29 = .ok (.getfield 12, 3) := by decide +kernel
theorem d_Gra_test_32 : decode m_Gra_test.2.1 32 = .ok (.bipush 124, 2) := by decide +kernel
theorem d_Gra_test_34 : decode m_Gra_test.2.1 34 = .ok (.iconst 0, 1) := by decide +kernel
theorem d_Gra_test_35 : decode m_Gra_test.2.1 35 = .ok (.invokevirtual 102, 3) := by decide +kernel
theorem d_Gra_test_38 : decode m_Gra_test.2.1 38 = .ok (.istore_n 2, 1) := by decide +kernel
theorem d_Gra_test_39 : decode m_Gra_test.2.1 39 = .ok (.aload_n 0, 1) := by decide +kernel
theorem d_Gra_test_40 : decode m_Gra_test.2.1 40 = .ok (.invokevirtual 74, 3) := by decide +kernel
theorem d_Gra_test_43 : decode m_Gra_test.2.1 43 = .ok (.aload_n 0, 1) := by decide +kernel
theorem d_Gra_test_44 : decode m_Gra_test.2.1 44 = .ok (.invokevirtual 120, 3) := by decide +kernel
theorem d_Gra_test_47 : decode m_Gra_test.2.1 47 = .ok (.ifCond .ne 5, 3) := by decide +kernel
theorem d_Gra_test_50 : decode m_Gra_test.2.1 50 = .ok (.iconst 0, 1) := by decide +kernel
theorem d_Gra_test_51 : decode m_Gra_test.2.1 51 = .ok (.ireturn, 1) := by decide +kernel
theorem d_Gra_test_52 : decode m_Gra_test.2.1 52 = .ok (.aload_n 0, 1) := by decide +kernel
theorem d_Gra_test_53 : decode m_Gra_test.2.1 53 = .ok (.getfield 12, 3) := by decide +kernel
theorem d_Gra_test_56 : decode m_Gra_test.2.1 56 = .ok (.getfield 123, 3) := by decide +kernel
theorem d_Gra_test_59 : decode m_Gra_test.2.1 59 = .ok (.iload_n 2, 1) := by decide +kernel
theorem d_Gra_test_60 : decode m_Gra_test.2.1 60 = .ok (.aload_n 0, 1) := by decide +kernel
theorem d_Gra_test_61 : decode m_Gra_test.2.1 61 = .ok (.getfield 12, 3) := by decide +kernel
theorem d_Gra_test_64 : decode m_Gra_test.2.1 64 = .ok (.getfield 98, 3) := by decide +kernel
theorem d_Gra_test_67 : decode m_Gra_test.2.1 67 = .ok (.iastore, 1) := by decide +kernel
theorem d_Gra_test_68 : decode m_Gra_test.2.1 68 = .ok (.iinc 1 1, 3) := by decide +kernel
theorem d_Gra_test_71 : decode m_Gra_test.2.1 71 = .ok (.goto (-60), 3) := by decide +kernel
theorem d_Gra_test_74 : decode m_Gra_test.2.1 74 = .ok (.iconst 1, 1) := by decide +kernel
theorem d_Gra_test_75 : decode m_Gra_test.2.1 75 = .ok (.ireturn, 1) := by decide +kernel
theorem d_Gra_both_0 : decode m_Gra_both.2.1 0 = .ok (.aload_n 0, 1) := by decide +kernel
theorem d_Gra_both_1 : decode m_Gra_both.2.1 1 = .ok (.invokevirtual 124, 3) := by decide +kernel
theorem d_Gra_both_4 : decode m_Gra_both.2.1 4 = .ok (.ifCond .ne 5, 3) := by decide +kernel
theorem d_Gra_both_7 : decode m_Gra_both.2.1 7 = .ok (.iconst 0, 1) := by decide +kernel
theorem d_Gra_both_8 : decode m_Gra_both.2.1 8 = .ok (.ireturn, 1) := by decide +kernel
theorem d_Gra_both_9 : decode m_Gra_both.2.1 9 = .ok (.iconst 0, 1) := by decide +kernel
theorem d_Gra_both_10 : decode m_Gra_both.2.1 10 = .ok (.istore_n 1, 1) := by decide +kernel
theorem d_Gra_both_11 : decode m_Gra_both.2.1 11 = .ok (.iload_n 1, 1) := by decide +kernel
theorem d_Gra_both_12 : decode m_Gra_both.2.1 12 = .ok (.sipush 400, 3) := by decide +kernel
theorem d_Gra_both_15 : decode m_Gra_both.2.1 15 = .ok (.if_icmp .ge 59, 3) := by decide +kernel
theorem d_Gra_both_18 : decode m_Gra_both.2.1 18 = .ok (.aload_n 0, 1) := by decide +kernel
theorem d_Gra_both_19 : decode m_Gra_both.2.1 19 = .ok (.getfield 29, 3) := by decide +kernel
theorem d_Gra_both_22 : decode m_Gra_both.2.1 22 = .ok (.sipush 266, 3) := by decide +kernel
theorem d_Gra_both_25 : decode m_Gra_both.2.1 25 = .ok (.if_icmp .ne 49, 3) := by decide +kernel
theorem d_Gra_both_28 : decode m_Gra_both.2.1 28 = .ok (.aload_n 0, 1) := by decide +kernel
theorem d_Gra_both_29 : decode m_Gra_both.2.1 29 = .ok (.getfield 12, 3) := by decide +kernel
theorem d_Gra_both_32 : decode m_Gra_both.2.1 32 = .ok (.bipush 38, 2) := by decide +kernel
theorem d_Gra_both_34 : decode m_Gra_both.2.1 34 = .ok (.iconst 0, 1) := by decide +kernel
theorem d_Gra_both_35 : decode m_Gra_both.2.1 35 = .ok (.invokevirtual 102, 3) := by decide +kernel
theorem d_Gra_both_38 : decode m_Gra_both.2.1 38 = .ok (.istore_n 2, 1) := by decide +kernel
theorem d_Gra_both_39 : decode m_Gra_both.2.1 39 = .ok (.aload_n 0, 1) := by decide +kernel
theorem d_Gra_both_40 : decode m_Gra_both.2.1 40 = .ok (.invokevirtual 74, 3) := by decide +kernel
theorem d_Gra_both_43 : decode m_Gra_both.2.1 43 = .ok (.aload_n 0, 1) := by decide +kernel
theorem d_Gra_both_44 : decode m_Gra_both.2.1 44 = .ok (.invokevirtual 124, 3) := by decide +kernel
theorem d_Gra_both_47 : decode m_Gra_both.2.1 47 = .ok (.ifCond .ne 5, 3) := by decide +kernel
theorem d_Gra_both_50 : decode m_Gra_both.2.1 50 = .ok (.iconst 0, 1) := by decide +kernel
theorem d_Gra_both_51 : decode m_Gra_both.2.1 51 = .ok (.ireturn, 1) := by decide +kernel
theorem d_Gra_both_52 : decode m_Gra_both.2.1 52 = .ok (.aload_n 0, 1) := by decide +kernel
theorem d_Gra_both_53 : decode m_Gra_both.2.1 53 = .ok (.getfield 12, 3) := by decide +kernel
theorem d_Gra_both_56 : decode m_Gra_both.2.1 56 = .ok (.getfield 123, 3) := by decide +kernel
theorem d_Gra_both_59 : decode m_Gra_both.2.1 59 = .ok (.iload_n 2, 1) := by decide +kernel
theorem d_Gra_both_60 : decode m_Gra_both.2.1 60 = .ok (.aload_n 0, 1) := by decide +kernel
theorem d_Gra_both_61 : decode m_Gra_both.2.1 61 = .ok (.getfield 12, 3) := by decide +kernel
theorem d_Gra_both_64 : decode m_Gra_both.2.1 64 = .ok (.getfield 98, 3) := by decide +kernel
theorem d_Gra_both_67 : decode m_Gra_both.2.1 67 = .ok (.iastore, 1) := by decide +kernel
theorem d_Gra_both_68 : decode m_Gra_both.2.1 68 = .ok (.iinc 1 1, 3) := by decide +kernel
theorem d_Gra_both_71 : decode m_Gra_both.2.1 71 = .ok (.goto (-60), 3) := by decide +kernel
theorem d_Gra_both_74 : decode m_Gra_both.2.1 74 = .ok (.iconst 1, 1) := by decide +kernel
theorem d_Gra_both_75 : decode m_Gra_both.2.1 75 = .ok (.ireturn, 1) := by decide +kernel
theorem d_Gra_plain_0 : decode m_Gra_plain.2.1 0 = .ok (.iconst 0, 1) := by decide +kernel
theorem d_Gra_plain_1 : decode m_Gra_plain.2.1 1 = .ok (.istore_n 1, 1) := by decide +kernel
theorem d_Gra_plain_2 : decode m_Gra_plain.2.1 2 = .ok (.iconst 0, 1) := by decide +kernel
theorem d_Gra_plain_3 : decode m_Gra_plain.2.1 3 = .ok (.istore_n 2, 1) := by decide +kernel
theorem d_Gra_plain_4 : decode m_Gra_plain.2.1 4 = .ok (.iload_n 2, 1) := by decide +kernel
theorem d_Gra_plain_5 : decode m_Gra_plain.2.1 5 = .ok (.sipush 400, 3) := by decide +kernel
theorem d_Gra_plain_8 : decode m_Gra_plain.2.1 8 = .ok (.if_icmp .ge 33, 3) := by decide +kernel
theorem d_Gra_plain_11 : decode m_Gra_plain.2.1 11 = .ok (.aload_n 0, 1) := by decide +kernel
theorem d_Gra_plain_12 : decode m_Gra_plain.2.1 12 = .ok (.getfield 29, 3) := by decide +kernel
theorem d_Gra_plain_15 : decode m_Gra_plain.2.1 15 = .ok (.sipush 267, 3) := by decide +kernel
theorem d_Gra_plain_18 : decode m_Gra_plain.2.1 18 = .ok (.if_icmp .ne 23, 3) := by decide +kernel
theorem d_Gra_plain_21 : decode m_Gra_plain.2.1 21 = .ok (.iload_n 1, 1) := by decide +kernel
theorem d_Gra_plain_22 : decode m_Gra_plain.2.1 22 = .ok (.ifCond .ne 7, 3) := by decide +kernel
theorem d_Gra_plain_25 : decode m_Gra_plain.2.1 25 = .ok (.iconst 1, 1) := by decide +kernel
theorem d_Gra_plain_26 : decode m_Gra_plain.2.1 26 = .ok (.goto 4, 3) := by decide +kernel
theorem d_Gra_plain_29 : decode m_Gra_plain.2.1 29 = .ok (.iconst 0, 1) := by decide +kernel
theorem d_Gra_plain_30 : decode m_Gra_plain.2.1 30 = .ok (.istore_n 1, 1) := by decide +kernel
theorem d_Gra_plain_31 : decode m_Gra_plain.2.1 31 = .ok (.aload_n 0, 1) := by decide +kernel
theorem d_Gra_plain_32 : decode m_Gra_plain.2.1 32 = .ok (.invokevirtual 74, 3) := by decide +kernel
theorem d_Gra_plain_35 : decode m_Gra_plain.2.1 35 = .ok (.iinc 2 1, 3) := by decide +kernel
theorem d_Gra_plain_38 : decode m_Gra_plain.2.1 38 = .ok (.goto (-34), 3) := by decide +kernel
theorem d_Gra_plain_41 : decode m_Gra_plain.2.1 41 = .ok (.aload_n 0, 1) := by decide +kernel
theorem d_Gra_plain_42 : decode m_Gra_plain.2.1 42 = .ok (.getfield 29, 3) := by decide +kernel
theorem d_Gra_plain_45 : decode m_Gra_plain.2.1 45 = .ok (.bipush 40, 2) := by decide +kernel
theorem d_Gra_plain_47 : decode m_Gra_plain.2.1 47 = .ok (.if_icmp .ne 45, 3) := by decide +kernel
theorem d_Gra_plain_50 : decode m_Gra_plain.2.1 50 = .ok (.aload_n 0, 1) := by decide +kernel
theorem d_Gra_plain_51 : decode m_Gra_plain.2.1 51 = .ok (.invokevirtual 127, 3) := by decide +kernel
theorem d_Gra_plain_54 : decode m_Gra_plain.2.1 54 = .ok (.ifCond .eq 23, 3) := by decide +kernel
theorem d_Gra_plain_57 : decode m_Gra_plain.2.1 57 = .ok (.aload_n 0, 1) := by decide +kernel
theorem d_Gra_plain_58 : decode m_Gra_plain.2.1 58 = .ok (.invokevirtual 99, 3) := by decide +kernel
theorem d_Gra_plain_61 : decode m_Gra_plain.2.1 61 = .ok (.ifCond .eq 16, 3) := by decide +kernel
theorem d_Gra_plain_64 : decode m_Gra_plain.2.1 64 = .ok (.aload_n 0, 1) := by decide +kernel
theorem d_Gra_plain_65 : decode m_Gra_plain.2.1 65 = .ok (.bipush 41, 2) := by decide +kernel
theorem d_Gra_plain_67 : decode m_Gra_plain.2.1 67 = .ok (.invokevirtual 61, 3) := by decide +kernel
theorem d_Gra_plain_70 : decode m_Gra_plain.2.1 70 = .ok (.ifCond .eq 7, 3) := by decide +kernel
theorem d_Gra_plain_73 : decode m_Gra_plain.2.1 73 = .ok (.iconst 1, 1) := by decide +kernel
theorem d_Gra_plain_74 : decode m_Gra_plain.2.1 74 = .ok (.goto 4, 3) := by decide +kernel
theorem d_Gra_plain_77 : decode m_Gra_plain.2.1 77 = .ok (.iconst 0, 1) := by decide +kernel
theorem d_Gra_plain_78 : decode m_Gra_plain.2.1 78 = .ok (.istore_n 2, 1) := by decide +kernel
theorem d_Gra_plain_79 : decode m_Gra_plain.2.1 79 = .ok (.aload_n 0, 1) := by decide +kernel
theorem d_Gra_plain_80 : decode m_Gra_plain.2.1 80 = .ok (.dup, 1) := by decide +kernel
theorem d_Gra_plain_81 : decode m_Gra_plain.2.1 81 = .ok (.getfield 35, 3) := by decide +kernel
theorem d_Gra_plain_84 : decode m_Gra_plain.2.1 84 = .ok (.iconst 1, 1) := by decide +kernel
theorem d_Gra_plain_85 : decode m_Gra_plain.2.1 85 = .ok (.isub, 1) := by decide +kernel
theorem d_Gra_plain_86 : decode m_Gra_plain.2.1 86 = .ok (.putfield 35, 3) := by decide +kernel
theorem d_Gra_plain_89 : decode m_Gra_plain.2.1 89 = .ok (.goto 8, 3) := by decide +kernel
theorem d_Gra_plain_92 : decode m_Gra_plain.2.1 92 = .ok (.aload_n 0, 1) := by decide +kernel
theorem d_Gra_plain_93 : decode m_Gra_plain.2.1 93 = .ok (.invokevirtual 130, 3) := by decide +kernel
theorem d_Gra_plain_96 : decode m_Gra_plain.2.1 96 = .ok (.istore_n 2, 1) := by decide +kernel
theorem d_Gra_plain_97 : decode m_Gra_plain.2.1 97 = .ok (.iload_n 2, 1) := by decide +kernel
theorem d_Gra_plain_98 : decode m_Gra_plain.2.1 98 = .ok (.ifCond .eq 18, 3) := by decide +kernel
theorem d_Gra_plain_101 : decode m_Gra_plain.2.1 101 = .ok (.iload_n 1, 1) := by decide +kernel
theorem d_Gra_plain_102 : decode m_Gra_plain.2.1 102 = .ok (.ifCond .eq 14, 3) := by decide +kernel
theorem d_Gra_plain_105 : decode m_Gra_plain.2.1 105 = .ok (.aload_n 0, 1) := by decide +kernel
theorem d_Gra_plain_106 : decode m_Gra_plain.2.1 106 = .ok (.getfield 12, 3) := by decide +kernel
theorem d_Gra_plain_109 : decode m_Gra_plain.2.1 109 = .ok (.bipush 33, 2) := by decide +kernel
theorem d_Gra_plain_111 : decode m_Gra_plain.2.1 111 = .ok (.iconst 0, 1) := by decide +kernel
theorem d_Gra_plain_112 : decode m_Gra_plain.2.1 112 = .ok (.invokevirtual 102, 3) := by decide +kernel
theorem d_Gra_plain_115 : decode m_Gra_plain.2.1 115 = .ok (.pop, 1) := by decide +kernel
theorem d_Gra_plain_116 : decode m_Gra_plain.2.1 116 = .ok (.iload_n 2, 1) := by decide +kernel
theorem d_Gra_plain_117 : decode m_Gra_plain.2.1 117 = .ok (.ireturn, 1) := by decide +kernel
theorem d_Gra_comparison_0 : decode m_Gra_comparison.2.1 0 = .ok (.aload_n 0, 1) := by decide +kernel
theorem d_Gra_comparison_1 : decode m_Gra_comparison.2.1 1 = .ok (.invokevirtual 112, 3) := by decide +kernel
theorem d_Gra_comparison_4 : decode m_Gra_comparison.2.1 4 = .ok (.ifCond .ne 5, 3) := by decide +kernel
theorem d_Gra_comparison_7 : decode m_Gra_comparison.2.1 7 = .ok (.iconst 0, 1) := by decide +kernel
theorem d_Gra_comparison_8 : decode m_Gra_comparison.2.1 8 = .ok (.ireturn, 1) := by decide +kernel
theorem d_Gra_comparison_9 : decode m_Gra_comparison.2.1 9 = .ok (.aload_n 0, 1) := by decide +kernel
theorem d_Gra_comparison_10 : decode m_Gra_comparison.2.1 10 = .ok (.getfield 29, 3) := by decide +kernel
theorem d_Gra_comparison_13 : decode m_Gra_comparison.2.1 13 = .ok (.istore_n 1, 1) := by decide +kernel
theorem d_Gra_comparison_14 : decode m_Gra_comparison.2.1 14 = .ok (.iload_n 1, 1) := by decide +kernel
theorem d_Gra_comparison_15 : decode m_Gra_comparison.2.1 15 = .ok (.bipush 60, 2) := by decide +kernel
theorem d_Gra_comparison_17 : decode m_Gra_comparison.2.1 17 = .ok (.if_icmp .eq 20, 3) := by decide +kernel
theorem d_Gra_comparison_20 : decode m_Gra_comparison.2.1 20 = .ok (.iload_n 1, 1) := by decide +kernel
theorem d_Gra_comparison_21 : decode m_Gra_comparison.2.1 21 = .ok (.bipush 62, 2) := by decide +kernel
theorem d_Gra_comparison_23 : decode m_Gra_comparison.2.1 23 = .ok (.if_icmp .eq 14, 3) := by decide +kernel
theorem d_Gra_comparison_26 : decode m_Gra_comparison.2.1 26 = .ok (.iload_n 1, 1) := by decide +kernel
theorem d_Gra_comparison_27 : decode m_Gra_comparison.2.1 27 = .ok (.bipush 61, 2) := by decide +kernel
theorem d_Gra_comparison_29 : decode m_Gra_comparison.2.1 29 = .ok (.if_icmp .eq 8, 3) := by decide +kernel
theorem d_Gra_comparison_32 : decode m_Gra_comparison.2.1 32 = .ok (.aload_n 0, 1) := by decide +kernel
theorem d_Gra_comparison_33 : decode m_Gra_comparison.2.1 33 = .ok (.invokevirtual 65, 3) := by decide +kernel
theorem d_Gra_comparison_36 : decode m_Gra_comparison.2.1 36 = .ok (.ireturn, 1) := by decide +kernel
theorem d_Gra_comparison_37 : decode m_Gra_comparison.2.1 37 = .ok (.aload_n 0, 1) := by decide +kernel
theorem d_Gra_comparison_38 : decode m_Gra_comparison.2.1 38 = .ok (.invokevirtual 74, 3) := by decide +kernel
theorem d_Gra_comparison_41 : decode m_Gra_comparison.2.1 41 = .ok (.aload_n 0, 1) := by decide +kernel
theorem d_Gra_comparison_42 : decode m_Gra_comparison.2.1 42 = .ok (.invokevirtual 112, 3) := by decide +kernel
theorem d_Gra_comparison_45 : decode m_Gra_comparison.2.1 45 = .ok (.ifCond .ne 5, 3) := by decide +kernel
theorem d_Gra_comparison_48 : decode m_Gra_comparison.2.1 48 = .ok (.iconst 0, 1) := by decide +kernel
theorem d_Gra_comparison_49 : decode m_Gra_comparison.2.1 49 = .ok (.ireturn, 1) := by decide +kernel
theorem d_Gra_comparison_50 : decode m_Gra_comparison.2.1 50 = .ok (.aload_n 0, 1) := by decide +kernel
theorem d_Gra_comparison_51 : decode m_Gra_comparison.2.1 51 = .ok (.getfield 12, 3) := by decide +kernel
theorem d_Gra_comparison_54 : decode m_Gra_comparison.2.1 54 = .ok (.iload_n 1, 1) := by decide +kernel
theorem d_Gra_comparison_55 : decode m_Gra_comparison.2.1 55 = .ok (.iconst 0, 1) := by decide +kernel
theorem d_Gra_comparison_56 : decode m_Gra_comparison.2.1 56 = .ok (.invokevirtual 102, 3) := by decide +kernel
theorem d_Gra_comparison_59 : decode m_Gra_comparison.2.1 59 = .ok (.pop, 1) := by decide +kernel
theorem d_Gra_comparison_60 : decode m_Gra_comparison.2.1 60 = .ok (.iconst 1, 1) := by decide +kernel
theorem d_Gra_comparison_61 : decode m_Gra_comparison.2.1 61 = .ok (.ireturn, 1) := by decide +kernel
theorem d_Tex_init_0 : decode m_Tex_init.2.1 0 = .ok (.aload_n 0, 1) := by decide +kernel
theorem d_Tex_init_1 : decode m_Tex_init.2.1 1 = .ok (.invokespecial 3, 3) := by decide +kernel
theorem d_Tex_init_4 : decode m_Tex_init.2.1 4 = .ok (.aload_n 0, 1) := by decide +kernel
theorem d_Tex_init_5 : decode m_Tex_init.2.1 5 = .ok (.iconst 0, 1) := by decide +kernel
theorem d_Tex_init_6 : decode m_Tex_init.2.1 6 = .ok (.putfield 9, 3) := by decide +kernel
theorem d_Tex_init_9 : decode m_Tex_init.2.1 9 = .ok (.aload_n 0, 1) := by decide +kernel
theorem d_Tex_init_10 : decode m_Tex_init.2.1 10 = .ok (.iconst 0, 1) := by decide +kernel
theorem d_Tex_init_11 : decode m_Tex_init.2.1 11 = .ok (.putfield 15, 3) := by decide +kernel
theorem d_Tex_init_14 : decode m_Tex_init.2.1 14 = .ok (.aload_n 0, 1) := by decide +kernel
theorem d_Tex_init_15 : decode m_Tex_init.2.1 15 = .ok (.bipush 12, 2) := by decide +kernel
theorem d_Tex_init_17 : decode m_Tex_init.2.1 17 = .ok (.newarray .int, 2) := by decide +kernel
theorem d_Tex_init_19 : decode m_Tex_init.2.1 19 = .ok (.putfield 18, 3) := by decide +kernel
theorem d_Tex_init_22 : decode m_Tex_init.2.1 22 = .ok (.aload_n 0, 1) := by decide +kernel
theorem d_Tex_init_23 : decode m_Tex_init.2.1 23 = .ok (.bipush 12, 2) := by decide +kernel
theorem d_Tex_init_25 : decode m_Tex_init.2.1 25 = .ok (.newarray .int, 2) := by decide +kernel
theorem d_Tex_init_27 : decode m_Tex_init.2.1 27 = .ok (.putfield 22, 3) := by decide +kernel
theorem d_Tex_init_30 : decode m_Tex_init.2.1 30 = .ok (.aload_n 0, 1) := by decide +kernel
theorem d_Tex_init_31 : decode m_Tex_init.2.1 31 = .ok (.bipush 12, 2) := by decide +kernel
theorem d_Tex_init_33 : decode m_Tex_init.2.1 33 = .ok (.newarray .int, 2) := by decide +kernel
theorem d_Tex_init_35 : decode m_Tex_init.2.1 35 = .ok (.putfield 25, 3) := by decide +kernel
theorem d_Tex_init_38 : decode m_Tex_init.2.1 38 = .ok (.aload_n 0, 1) := by decide +kernel
theorem d_Tex_init_39 : decode m_Tex_init.2.1 39 = .ok (.bipush 12, 2) := by decide +kernel
theorem d_Tex_init_41 : decode m_Tex_init.2.1 41 = .ok (.newarray .int, 2) := by decide +kernel
theorem d_Tex_init_43 : decode m_Tex_init.2.1 43 = .ok (.putfield 28, 3) := by decide +kernel
theorem d_Tex_init_46 : decode m_Tex_init.2.1 46 = .ok (.aload_n 0, 1) := by decide +kernel
theorem d_Tex_init_47 : decode m_Tex_init.2.1 47 = .ok (.bipush 12, 2) := by decide +kernel
theorem d_Tex_init_49 : decode m_Tex_init.2.1 49 = .ok (.newarray .int, 2) := by decide +kernel
theorem d_Tex_init_51 : decode m_Tex_init.2.1 51 = .ok (.putfield 31, 3) := by decide +kernel
theorem d_Tex_init_54 : decode m_Tex_init.2.1 54 = .ok (.aload_n 0, 1) := by decide +kernel
theorem d_Tex_init_55 : decode m_Tex_init.2.1 55 = .ok (.sipush 436, 3) := by decide +kernel
theorem d_Tex_init_58 : decode m_Tex_init.2.1 58 = .ok (.newarray .int, 2) := by decide +kernel
theorem d_Tex_init_60 : decode m_Tex_init.2.1 60 = .ok (.putfield 34, 3) := by decide +kernel
theorem d_Tex_init_63 : decode m_Tex_init.2.1 63 = .ok (.aload_n 0, 1) := by decide +kernel
theorem d_Tex_init_64 : decode m_Tex_init.2.1 64 = .ok (.sipush 436, 3) := by decide +kernel
theorem d_Tex_init_67 : decode m_Tex_init.2.1 67 = .ok (.newarray .int, 2) := by decide +kernel
theorem d_Tex_init_69 : decode m_Tex_init.2.1 69 = .ok (.putfield 37, 3) := by decide +kernel
theorem d_Tex_init_72 : decode m_Tex_init.2.1 72 = .ok (.return_, 1) := by decide +kernel
theorem d_Tex_clear_0 : decode m_Tex_clear.2.1 0 = .ok (.aload_n 0, 1) := by decide +kernel
theorem d_Tex_clear_1 : decode m_Tex_clear.2.1 1 = .ok (.iconst 0, 1) := by decide +kernel
theorem d_Tex_clear_2 : decode m_Tex_clear.2.1 2 = .ok (.putfield 9, 3) := by decide +kernel
theorem d_Tex_clear_5 : decode m_Tex_clear.2.1 5 = .ok (.aload_n 0, 1) := by decide +kernel
theorem d_Tex_clear_6 : decode m_Tex_clear.2.1 6 = .ok (.iconst 0, 1) := by decide +kernel
theorem d_Tex_clear_7 : decode m_Tex_clear.2.1 7 = .ok (.putfield 15, 3) := by decide +kernel
theorem d_Tex_clear_10 : decode m_Tex_clear.2.1 10 = .ok (.return_, 1) := by decide +kernel
theorem d_Tex_addClause_0 : decode m_Tex_addClause.2.1 0 = .ok (.aload_n 0, 1) := by decide +kernel
theorem d_Tex_addClause_1 : decode m_Tex_addClause.2.1 1 = .ok (.getfield 9, 3) := by decide +kernel
theorem d_Tex_addClause_4 : decode m_Tex_addClause.2.1 4 = .ok (.istore_n 2, 1) := by decide +kernel
theorem d_Tex_addClause_5 : decode m_Tex_addClause.2.1 5 = .ok (.aload_n 0, 1) := by decide +kernel
theorem d_Tex_addClause_6 : decode m_Tex_addClause.2.1 6 = .ok (.getfield 18, 3) := by decide +kernel
theorem d_Tex_addClause_9 : decode m_Tex_addClause.2.1 9 = .ok (.iload_n 2, 1) := by decide +kernel
theorem d_Tex_addClause_10 : decode m_Tex_addClause.2.1 10 = .ok (.iload_n 1, 1) := by decide +kernel
theorem d_Tex_addClause_11 : decode m_Tex_addClause.2.1 11 = .ok (.iastore, 1) := by decide +kernel
theorem d_Tex_addClause_12 : decode m_Tex_addClause.2.1 12 = .ok (.aload_n 0, 1) := by decide +kernel
theorem d_Tex_addClause_13 : decode m_Tex_addClause.2.1 13 = .ok (.getfield 22, 3) := by decide +kernel
theorem d_Tex_addClause_16 : decode m_Tex_addClause.2.1 16 = .ok (.iload_n 2, 1) := by decide +kernel
theorem d_Tex_addClause_17 : decode m_Tex_addClause.2.1 17 = .ok (.iconst (-1), 1) := by decide +kernel
theorem d_Tex_addClause_18 : decode m_Tex_addClause.2.1 18 = .ok (.iastore, 1) := by decide +kernel
theorem d_Tex_addClause_19 : decode m_Tex_addClause.2.1 19 = .ok (.aload_n 0, 1) := by decide +kernel
theorem d_Tex_addClause_20 : decode m_Tex_addClause.2.1 20 = .ok (.getfield 25, 3) := by decide +kernel
theorem d_Tex_addClause_23 : decode m_Tex_addClause.2.1 23 = .ok (.iload_n 2, 1) := by decide +kernel
theorem d_Tex_addClause_24 : decode m_Tex_addClause.2.1 24 = .ok (.iconst (-1), 1) := by decide +kernel
theorem d_Tex_addClause_25 : decode m_Tex_addClause.2.1 25 = .ok (.iastore, 1) := by decide +kernel
theorem d_Tex_addClause_26 : decode m_Tex_addClause.2.1 26 = .ok (.aload_n 0, 1) := by decide +kernel
theorem d_Tex_addClause_27 : decode m_Tex_addClause.2.1 27 = .ok (.getfield 28, 3) := by decide +kernel
theorem d_Tex_addClause_30 : decode m_Tex_addClause.2.1 30 = .ok (.iload_n 2, 1) := by decide +kernel
theorem d_Tex_addClause_31 : decode m_Tex_addClause.2.1 31 = .ok (.iconst (-1), 1) := by decide +kernel
theorem d_Tex_addClause_32 : decode m_Tex_addClause.2.1 32 = .ok (.iastore, 1) := by decide +kernel
theorem d_Tex_addClause_33 : decode m_Tex_addClause.2.1 33 = .ok (.aload_n 0, 1) := by decide +kernel
theorem d_Tex_addClause_34 : decode m_Tex_addClause.2.1 34 = .ok (.getfield 31, 3) := by decide +kernel
theorem d_Tex_addClause_37 : decode m_Tex_addClause.2.1 37 = .ok (.iload_n 2, 1) := by decide +kernel
theorem d_Tex_addClause_38 : decode m_Tex_addClause.2.1 38 = .ok (.iconst 1, 1) := by decide +kernel
theorem d_Tex_addClause_39 : decode m_Tex_addClause.2.1 39 = .ok (.iastore, 1) := by decide +kernel
theorem d_Tex_addClause_40 : decode m_Tex_addClause.2.1 40 = .ok (.aload_n 0, 1) := by decide +kernel
theorem d_Tex_addClause_41 : decode m_Tex_addClause.2.1 41 = .ok (.dup, 1) := by decide +kernel
theorem d_Tex_addClause_42 : decode m_Tex_addClause.2.1 42 = .ok (.getfield 9, 3) := by decide +kernel
theorem d_Tex_addClause_45 : decode m_Tex_addClause.2.1 45 = .ok (.iconst 1, 1) := by decide +kernel
theorem d_Tex_addClause_46 : decode m_Tex_addClause.2.1 46 = .ok (.iadd, 1) := by decide +kernel
theorem d_Tex_addClause_47 : decode m_Tex_addClause.2.1 47 = .ok (.putfield 9, 3) := by decide +kernel
theorem d_Tex_addClause_50 : decode m_Tex_addClause.2.1 50 = .ok (.iload_n 2, 1) := by decide +kernel
theorem d_Tex_addClause_51 : decode m_Tex_addClause.2.1 51 = .ok (.ireturn, 1) := by decide +kernel
theorem d_Tex_addStep_0 : decode m_Tex_addStep.2.1 0 = .ok (.aload_n 0, 1) := by decide +kernel
theorem d_Tex_addStep_1 : decode m_Tex_addStep.2.1 1 = .ok (.getfield 15, 3) := by decide +kernel
theorem d_Tex_addStep_4 : decode m_Tex_addStep.2.1 4 = .ok (.aload_n 0, 1) := by decide +kernel
theorem d_Tex_addStep_5 : decode m_Tex_addStep.2.1 5 = .ok (.getfield 34, 3) := by decide +kernel
theorem d_Tex_addStep_8 : decode m_Tex_addStep.2.1 8 = .ok (.arraylength, 1) := by decide +kernel
theorem d_Tex_addStep_9 : decode m_Tex_addStep.2.1 9 = .ok (.if_icmp .ge 10, 3) := by decide +kernel
theorem d_Tex_addStep_12 : decode m_Tex_addStep.2.1 12 = .ok (.aload_n 0, 1) := by decide +kernel
theorem d_Tex_addStep_13 : decode m_Tex_addStep.2.1 13 = .ok (.getfield 15, 3) := by decide +kernel
theorem d_Tex_addStep_16 : decode m_Tex_addStep.2.1 16 = .ok (.goto 10, 3) := by decide +kernel
theorem d_Tex_addStep_19 : decode m_Tex_addStep.2.1 19 = .ok (.aload_n 0, 1) := by decide +kernel
theorem d_Tex_addStep_20 : decode m_Tex_addStep.2.1 20 = .ok (.getfield 34, 3) := by decide +kernel
theorem d_Tex_addStep_23 : decode m_Tex_addStep.2.1 23 = .ok (.arraylength, 1) := by decide +kernel
theorem d_Tex_addStep_24 : decode m_Tex_addStep.2.1 24 = .ok (.iconst 1, 1) := by decide +kernel
theorem d_Tex_addStep_25 : decode m_Tex_addStep.2.1 25 = .ok (.isub, 1) := by decide +kernel
theorem d_Tex_addStep_26 : decode m_Tex_addStep.2.1 26 = .ok (.istore_n 3, 1) := by decide +kernel
theorem d_Tex_addStep_27 : decode m_Tex_addStep.2.1 27 = .ok (.aload_n 0, 1) := by decide +kernel
theorem d_Tex_addStep_28 : decode m_Tex_addStep.2.1 28 = .ok (.getfield 34, 3) := by decide +kernel
theorem d_Tex_addStep_31 : decode m_Tex_addStep.2.1 31 = .ok (.iload_n 3, 1) := by decide +kernel
theorem d_Tex_addStep_32 : decode m_Tex_addStep.2.1 32 = .ok (.iload_n 1, 1) := by decide +kernel
theorem d_Tex_addStep_33 : decode m_Tex_addStep.2.1 33 = .ok (.iastore, 1) := by decide +kernel
theorem d_Tex_addStep_34 : decode m_Tex_addStep.2.1 34 = .ok (.aload_n 0, 1) := by decide +kernel
theorem d_Tex_addStep_35 : decode m_Tex_addStep.2.1 35 = .ok (.getfield 37, 3) := by decide +kernel
theorem d_Tex_addStep_38 : decode m_Tex_addStep.2.1 38 = .ok (.iload_n 3, 1) := by decide +kernel
theorem d_Tex_addStep_39 : decode m_Tex_addStep.2.1 39 = .ok (.iload_n 2, 1) := by decide +kernel
theorem d_Tex_addStep_40 : decode m_Tex_addStep.2.1 40 = .ok (.iastore, 1) := by decide +kernel
theorem d_Tex_addStep_41 : decode m_Tex_addStep.2.1 41 = .ok (.aload_n 0, 1) := by decide +kernel
theorem d_Tex_addStep_42 : decode m_Tex_addStep.2.1 42 = .ok (.iload_n 3, 1) := by decide +kernel
theorem d_Tex_addStep_43 : decode m_Tex_addStep.2.1 43 = .ok (.iconst 1, 1) := by decide +kernel
theorem d_Tex_addStep_44 : decode m_Tex_addStep.2.1 44 = .ok (.iadd, 1) := by decide +kernel
theorem d_Tex_addStep_45 : decode m_Tex_addStep.2.1 45 = .ok (.putfield 15, 3) := by decide +kernel
theorem d_Tex_addStep_48 : decode m_Tex_addStep.2.1 48 = .ok (.iload_n 3, 1) := by decide +kernel
theorem d_Tex_addStep_49 : decode m_Tex_addStep.2.1 49 = .ok (.ireturn, 1) := by decide +kernel
theorem d_Tex_init2_0 : decode m_Tex_init2.2.1 0 = .ok (.aload_n 0, 1) := by decide +kernel
theorem d_Tex_init2_1 : decode m_Tex_init2.2.1 1 = .ok (.invokespecial 3, 3) := by decide +kernel
theorem d_Tex_init2_4 : decode m_Tex_init2.2.1 4 = .ok (.aload_n 0, 1) := by decide +kernel
theorem d_Tex_init2_5 : decode m_Tex_init2.2.1 5 = .ok (.iconst 0, 1) := by decide +kernel
theorem d_Tex_init2_6 : decode m_Tex_init2.2.1 6 = .ok (.putfield 9, 3) := by decide +kernel
theorem d_Tex_init2_9 : decode m_Tex_init2.2.1 9 = .ok (.aload_n 0, 1) := by decide +kernel
theorem d_Tex_init2_10 : decode m_Tex_init2.2.1 10 = .ok (.iconst 0, 1) := by decide +kernel
theorem d_Tex_init2_11 : decode m_Tex_init2.2.1 11 = .ok (.putfield 15, 3) := by decide +kernel
theorem d_Tex_init2_14 : decode m_Tex_init2.2.1 14 = .ok (.aload_n 0, 1) := by decide +kernel
theorem d_Tex_init2_15 : decode m_Tex_init2.2.1 15 = .ok (.aload_n 1, 1) := by decide +kernel
theorem d_Tex_init2_16 : decode m_Tex_init2.2.1 16 = .ok (.getfield 9, 3) := by decide +kernel
theorem d_Tex_init2_19 : decode m_Tex_init2.2.1 19 = .ok (.putfield 9, 3) := by decide +kernel
theorem d_Tex_init2_22 : decode m_Tex_init2.2.1 22 = .ok (.aload_n 0, 1) := by decide +kernel
theorem d_Tex_init2_23 : decode m_Tex_init2.2.1 23 = .ok (.aload_n 1, 1) := by decide +kernel
theorem d_Tex_init2_24 : decode m_Tex_init2.2.1 24 = .ok (.getfield 15, 3) := by decide +kernel
theorem d_Tex_init2_27 : decode m_Tex_init2.2.1 27 = .ok (.putfield 15, 3) := by decide +kernel
theorem d_Tex_init2_30 : decode m_Tex_init2.2.1 30 = .ok (.aload_n 0, 1) := by decide +kernel
theorem d_Tex_init2_31 : decode m_Tex_init2.2.1 31 = .ok (.aload_n 1, 1) := by decide +kernel
theorem d_Tex_init2_32 : decode m_Tex_init2.2.1 32 = .ok (.getfield 18, 3) := by decide +kernel
theorem d_Tex_init2_35 : decode m_Tex_init2.2.1 35 = .ok (.aload_n 0, 1) := by decide +kernel
theorem d_Tex_init2_36 : decode m_Tex_init2.2.1 36 = .ok (.getfield 9, 3) := by decide +kernel
theorem d_Tex_init2_39 : decode m_Tex_init2.2.1 39 = .ok (.invokestatic 40, 3) := by decide +kernel
theorem d_Tex_init2_42 : decode m_Tex_init2.2.1 42 = .ok (.putfield 18, 3) := by decide +kernel
theorem d_Tex_init2_45 : decode m_Tex_init2.2.1 45 = .ok (.aload_n 0, 1) := by decide +kernel
theorem d_Tex_init2_46 : decode m_Tex_init2.2.1 46 = .ok (.aload_n 1, 1) := by decide +kernel
theorem d_Tex_init2_47 : decode m_Tex_init2.2.1 47 = .ok (.getfield 22, 3) := by decide +kernel
theorem d_Tex_init2_50 : decode m_Tex_init2.2.1 50 = .ok (.aload_n 0, 1) := by decide +kernel
theorem d_Tex_init2_51 : decode m_Tex_init2.2.1 51 = .ok (.getfield 9, 3) := by decide +kernel
theorem d_Tex_init2_54 : decode m_Tex_init2.2.1 54 = .ok (.invokestatic 40, 3) := by decide +kernel
theorem d_Tex_init2_57 : decode m_Tex_init2.2.1 57 = .ok (.putfield 22, 3) := by decide +kernel
theorem d_Tex_init2_60 : decode m_Tex_init2.2.1 60 = .ok (.aload_n 0, 1) := by decide +kernel
theorem d_Tex_init2_61 : decode m_Tex_init2.2.1 61 = .ok (.aload_n 1, 1) := by decide +kernel
theorem d_Tex_init2_62 : decode m_Tex_init2.2.1 62 = .ok (.getfield 25, 3) := by decide +kernel
theorem d_Tex_init2_65 : decode m_Tex_init2.2.1 65 = .ok (.aload_n 0, 1) := by decide +kernel
theorem d_Tex_init2_66 : decode m_Tex_init2.2.1 66 = .ok (.getfield 9, 3) := by decide +kernel
theorem d_Tex_init2_69 : decode m_Tex_init2.2.1 69 = .ok (.invokestatic 40, 3) := by decide +kernel
theorem d_Tex_init2_72 : decode m_Tex_init2.2.1 72 = .ok (.putfield 25, 3) := by decide +kernel
theorem d_Tex_init2_75 : decode m_Tex_init2.2.1 75 = .ok (.aload_n 0, 1) := by decide +kernel
theorem d_Tex_init2_76 : decode m_Tex_init2.2.1 76 = .ok (.aload_n 1, 1) := by decide +kernel
theorem d_Tex_init2_77 : decode m_Tex_init2.2.1 77 = .ok (.getfield 28, 3) := by decide +kernel
theorem d_Tex_init2_80 : decode m_Tex_init2.2.1 80 = .ok (.aload_n 0, 1) := by decide +kernel
theorem d_Tex_init2_81 : decode m_Tex_init2.2.1 81 = .ok (.getfield 9, 3) := by decide +kernel
theorem d_Tex_init2_84 : decode m_Tex_init2.2.1 84 = .ok (.invokestatic 40, 3) := by decide +kernel
theorem d_Tex_init2_87 : decode m_Tex_init2.2.1 87 = .ok (.putfield 28, 3) := by decide +kernel
theorem d_Tex_init2_90 : decode m_Tex_init2.2.1 90 = .ok (.aload_n 0, 1) := by decide +kernel
theorem d_Tex_init2_91 : decode m_Tex_init2.2.1 91 = .ok (.aload_n 1, 1) := by decide +kernel
theorem d_Tex_init2_92 : decode m_Tex_init2.2.1 92 = .ok (.getfield 31, 3) := by decide +kernel
theorem d_Tex_init2_95 : decode m_Tex_init2.2.1 95 = .ok (.aload_n 0, 1) := by decide +kernel
theorem d_Tex_init2_96 : decode m_Tex_init2.2.1 96 = .ok (.getfield 9, 3) := by decide +kernel
theorem d_Tex_init2_99 : decode m_Tex_init2.2.1 99 = .ok (.invokestatic 40, 3) := by decide +kernel
theorem d_Tex_init2_102 : decode m_Tex_init2.2.1 102 = .ok (.putfield 31, 3) := by decide +kernel
theorem d_Tex_init2_105 : decode m_Tex_init2.2.1 105 = .ok (.aload_n 0, 1) := by decide +kernel
theorem d_Tex_init2_106 : decode m_Tex_init2.2.1 106 = .ok (.aload_n 1, 1) := by decide +kernel
theorem d_Tex_init2_107 : decode m_Tex_init2.2.1 107 = .ok (.getfield 34, 3) := by decide +kernel
theorem d_Tex_init2_110 : decode m_Tex_init2.2.1 110 = .ok (.aload_n 0, 1) := by decide +kernel
theorem d_Tex_init2_111 : decode m_Tex_init2.2.1 111 = .ok (.getfield 15, 3) := by decide +kernel
theorem d_Tex_init2_114 : decode m_Tex_init2.2.1 114 = .ok (.invokestatic 40, 3) := by decide +kernel
theorem d_Tex_init2_117 : decode m_Tex_init2.2.1 117 = .ok (.putfield 34, 3) := by decide +kernel
theorem d_Tex_init2_120 : decode m_Tex_init2.2.1 120 = .ok (.aload_n 0, 1) := by decide +kernel
theorem d_Tex_init2_121 : decode m_Tex_init2.2.1 121 = .ok (.aload_n 1, 1) := by decide +kernel
theorem d_Tex_init2_122 : decode m_Tex_init2.2.1 122 = .ok (.getfield 37, 3) := by decide +kernel
theorem d_Tex_init2_125 : decode m_Tex_init2.2.1 125 = .ok (.aload_n 0, 1) := by decide +kernel
theorem d_Tex_init2_126 : decode m_Tex_init2.2.1 126 = .ok (.getfield 15, 3) := by decide +kernel
theorem d_Tex_init2_129 : decode m_Tex_init2.2.1 129 = .ok (.invokestatic 40, 3) := by decide +kernel
theorem d_Tex_init2_132 : decode m_Tex_init2.2.1 132 = .ok (.putfield 37, 3) := by decide +kernel
theorem d_Tex_init2_135 : decode m_Tex_init2.2.1 135 = .ok (.return_, 1) := by decide +kernel
theorem d_Ask_init_0 : decode m_Ask_init.2.1 0 = .ok (.aload_n 0, 1) := by decide +kernel
theorem d_Ask_init_1 : decode m_Ask_init.2.1 1 = .ok (.invokespecial 3, 3) := by decide +kernel
theorem d_Ask_init_4 : decode m_Ask_init.2.1 4 = .ok (.aload_n 0, 1) := by decide +kernel
theorem d_Ask_init_5 : decode m_Ask_init.2.1 5 = .ok (.new 9, 3) := by decide +kernel
theorem d_Ask_init_8 : decode m_Ask_init.2.1 8 = .ok (.dup, 1) := by decide +kernel
theorem d_Ask_init_9 : decode m_Ask_init.2.1 9 = .ok (.invokespecial 11, 3) := by decide +kernel
theorem d_Ask_init_12 : decode m_Ask_init.2.1 12 = .ok (.putfield 12, 3) := by decide +kernel
theorem d_Ask_init_15 : decode m_Ask_init.2.1 15 = .ok (.aload_n 0, 1) := by decide +kernel
theorem d_Ask_init_16 : decode m_Ask_init.2.1 16 = .ok (.bipush 52, 2) := by decide +kernel
theorem d_Ask_init_18 : decode m_Ask_init.2.1 18 = .ok (.newarray .int, 2) := by decide +kernel
theorem d_Ask_init_20 : decode m_Ask_init.2.1 20 = .ok (.putfield 18, 3) := by decide +kernel
theorem d_Ask_init_23 : decode m_Ask_init.2.1 23 = .ok (.aload_n 0, 1) := by decide +kernel
theorem d_Ask_init_24 : decode m_Ask_init.2.1 24 = .ok (.iconst 0, 1) := by decide +kernel
theorem d_Ask_init_25 : decode m_Ask_init.2.1 25 = .ok (.putfield 22, 3) := by decide +kernel
theorem d_Ask_init_28 : decode m_Ask_init.2.1 28 = .ok (.return_, 1) := by decide +kernel
theorem d_Ask_isBarred_0 : decode m_Ask_isBarred.2.1 0 = .ok (.aload_n 2, 1) := by decide +kernel
theorem d_Ask_isBarred_1 : decode m_Ask_isBarred.2.1 1 = .ok (.ifnonnull 5, 3) := by decide +kernel
theorem d_Ask_isBarred_4 : decode m_Ask_isBarred.2.1 4 = .ok (.iconst 0, 1) := by decide +kernel
theorem d_Ask_isBarred_5 : decode m_Ask_isBarred.2.1 5 = .ok (.ireturn, 1) := by decide +kernel
theorem d_Ask_isBarred_6 : decode m_Ask_isBarred.2.1 6 = .ok (.aload_n 0, 1) := by decide +kernel
theorem d_Ask_isBarred_7 : decode m_Ask_isBarred.2.1 7 = .ok (.aload_n 1, 1) := by decide +kernel
theorem d_Ask_isBarred_8 : decode m_Ask_isBarred.2.1 8 = .ok (.iload_n 3, 1) := by decide +kernel
theorem d_Ask_isBarred_9 : decode m_Ask_isBarred.2.1 9 = .ok (.iload 4, 2) := by decide +kernel
theorem d_Ask_isBarred_11 : decode m_Ask_isBarred.2.1 11 = .ok (.invokevirtual 26, 3) := by decide +kernel
theorem d_Ask_isBarred_14 : decode m_Ask_isBarred.2.1 14 = .ok (.iconst 0, 1) := by decide +kernel
theorem d_Ask_isBarred_15 : decode m_Ask_isBarred.2.1 15 = .ok (.istore 5, 2) := by decide +kernel
theorem d_Ask_isBarred_17 : decode m_Ask_isBarred.2.1 17 = .ok (.iload 5, 2) := by decide +kernel
theorem d_Ask_isBarred_19 : decode m_Ask_isBarred.2.1 19 = .ok (.aload_n 2, 1) := by decide +kernel
theorem d_Ask_isBarred_20 : decode m_Ask_isBarred.2.1 20 = .ok (.getfield 30, 3) := by decide +kernel
theorem d_Ask_isBarred_23 : decode m_Ask_isBarred.2.1 23 = .ok (.if_icmp .ge 32, 3) := by decide +kernel
theorem d_Ask_isBarred_26 : decode m_Ask_isBarred.2.1 26 = .ok (.aload_n 2, 1) := by decide +kernel
theorem d_Ask_isBarred_27 : decode m_Ask_isBarred.2.1 27 = .ok (.getfield 35, 3) := by decide +kernel
theorem d_Ask_isBarred_30 : decode m_Ask_isBarred.2.1 30 = .ok (.iload 5, 2) := by decide +kernel
theorem d_Ask_isBarred_32 : decode m_Ask_isBarred.2.1 32 = .ok (.iaload, 1) := by decide +kernel
theorem d_Ask_isBarred_33 : decode m_Ask_isBarred.2.1 33 = .ok (.iconst 3, 1) := by decide +kernel
theorem d_Ask_isBarred_34 : decode m_Ask_isBarred.2.1 34 = .ok (.if_icmp .ne 15, 3) := by decide +kernel
theorem d_Ask_isBarred_37 : decode m_Ask_isBarred.2.1 37 = .ok (.aload_n 0, 1) := by decide +kernel
theorem d_Ask_isBarred_38 : decode m_Ask_isBarred.2.1 38 = .ok (.aload_n 2, 1) := by decide +kernel
theorem d_Ask_isBarred_39 : decode m_Ask_isBarred.2.1 39 = .ok (.iload 5, 2) := by decide +kernel
theorem d_Ask_isBarred_41 : decode m_Ask_isBarred.2.1 41 = .ok (.invokevirtual 38, 3) := by decide +kernel
theorem d_Ask_isBarred_44 : decode m_Ask_isBarred.2.1 44 = .ok (.ifCond .eq 5, 3) := by decide +kernel
theorem d_Ask_isBarred_47 : decode m_Ask_isBarred.2.1 47 = .ok (.iconst 1, 1) := by decide +kernel
theorem d_Ask_isBarred_48 : decode m_Ask_isBarred.2.1 48 = .ok (.ireturn, 1) := by decide +kernel
theorem d_Ask_isBarred_49 : decode m_Ask_isBarred.2.1 49 = .ok (.iinc 5 1, 3) := by decide +kernel
theorem d_Ask_isBarred_52 : decode m_Ask_isBarred.2.1 52 = .ok (.goto (-35), 3) := by decide +kernel
theorem d_Ask_isBarred_55 : decode m_Ask_isBarred.2.1 55 = .ok (.iconst 0, 1) := by decide +kernel
theorem d_Ask_isBarred_56 : decode m_Ask_isBarred.2.1 56 = .ok (.ireturn, 1) := by decide +kernel
theorem d_Ask_look_0 : decode m_Ask_look.2.1 0 = .ok (.aload_n 0, 1) := by decide +kernel
theorem d_Ask_look_1 : decode m_Ask_look.2.1 1 = .ok (.getfield 18, 3) := by decide +kernel
theorem d_Ask_look_4 : decode m_Ask_look.2.1 4 = .ok (.iconst 0, 1) := by decide +kernel
theorem d_Ask_look_5 : decode m_Ask_look.2.1 5 = .ok (.iload_n 2, 1) := by decide +kernel
theorem d_Ask_look_6 : decode m_Ask_look.2.1 6 = .ok (.invokestatic 51, 3) := by decide +kernel
theorem d_Ask_look_9 : decode m_Ask_look.2.1 9 = .ok (.iastore, 1) := by decide +kernel
theorem d_Ask_look_10 : decode m_Ask_look.2.1 10 = .ok (.aload_n 0, 1) := by decide +kernel
theorem d_Ask_look_11 : decode m_Ask_look.2.1 11 = .ok (.getfield 18, 3) := by decide +kernel
theorem d_Ask_look_14 : decode m_Ask_look.2.1 14 = .ok (.iconst 1, 1) := by decide +kernel
theorem d_Ask_look_15 : decode m_Ask_look.2.1 15 = .ok (.iload_n 2, 1) := by decide +kernel
theorem d_Ask_look_16 : decode m_Ask_look.2.1 16 = .ok (.invokestatic 57, 3) := by decide +kernel
theorem d_Ask_look_19 : decode m_Ask_look.2.1 19 = .ok (.ifCond .eq 7, 3) := by decide +kernel
theorem d_Ask_look_22 : decode m_Ask_look.2.1 22 = .ok (.iconst 1, 1) := by decide +kernel
theorem d_Ask_look_23 : decode m_Ask_look.2.1 23 = .ok (.goto 4, 3) := by decide +kernel
theorem d_Ask_look_26 : decode m_Ask_look.2.1 26 = .ok (.iconst 0, 1) := by decide +kernel
theorem d_Ask_look_27 : decode m_Ask_look.2.1 27 = .ok (.iastore, 1) := by decide +kernel
theorem d_Ask_look_28 : decode m_Ask_look.2.1 28 = .ok (.aload_n 0, 1) := by decide +kernel
theorem d_Ask_look_29 : decode m_Ask_look.2.1 29 = .ok (.getfield 18, 3) := by decide +kernel
theorem d_Ask_look_32 : decode m_Ask_look.2.1 32 = .ok (.iconst 2, 1) := by decide +kernel
theorem d_Ask_look_33 : decode m_Ask_look.2.1 33 = .ok (.iload_n 2, 1) := by decide +kernel
theorem d_Ask_look_34 : decode m_Ask_look.2.1 34 = .ok (.invokestatic 61, 3) := by decide +kernel
theorem d_Ask_look_37 : decode m_Ask_look.2.1 37 = .ok (.iastore, 1) := by decide +kernel
theorem d_Ask_look_38 : decode m_Ask_look.2.1 38 = .ok (.aload_n 0, 1) := by decide +kernel
theorem d_Ask_look_39 : decode m_Ask_look.2.1 39 = .ok (.getfield 18, 3) := by decide +kernel
theorem d_Ask_look_42 : decode m_Ask_look.2.1 42 = .ok (.iconst 3, 1) := by decide +kernel
theorem d_Ask_look_43 : decode m_Ask_look.2.1 43 = .ok (.iload_n 3, 1) := by decide +kernel
theorem d_Ask_look_44 : decode m_Ask_look.2.1 44 = .ok (.iastore, 1) := by decide +kernel
theorem d_Ask_look_45 : decode m_Ask_look.2.1 45 = .ok (.aload_n 0, 1) := by decide +kernel
theorem d_Ask_look_46 : decode m_Ask_look.2.1 46 = .ok (.getfield 18, 3) := by decide +kernel
theorem d_Ask_look_49 : decode m_Ask_look.2.1 49 = .ok (.iconst 4, 1) := by decide +kernel
theorem d_Ask_look_50 : decode m_Ask_look.2.1 50 = .ok (.aload_n 1, 1) := by decide +kernel
theorem d_Ask_look_51 : decode m_Ask_look.2.1 51 = .ok (.getfield 64, 3) := by decide +kernel
theorem d_Ask_look_54 : decode m_Ask_look.2.1 54 = .ok (.iconst 2, 1) := by decide +kernel
theorem d_Ask_look_55 : decode m_Ask_look.2.1 55 = .ok (.iaload, 1) := by decide +kernel
theorem d_Ask_look_56 : decode m_Ask_look.2.1 56 = .ok (.iastore, 1) := by decide +kernel
theorem d_Ask_look_57 : decode m_Ask_look.2.1 57 = .ok (.aload_n 0, 1) := by decide +kernel
theorem d_Ask_look_58 : decode m_Ask_look.2.1 58 = .ok (.getfield 18, 3) := by decide +kernel
theorem d_Ask_look_61 : decode m_Ask_look.2.1 61 = .ok (.iconst 5, 1) := by decide +kernel
theorem d_Ask_look_62 : decode m_Ask_look.2.1 62 = .ok (.iload_n 2, 1) := by decide +kernel
theorem d_Ask_look_63 : decode m_Ask_look.2.1 63 = .ok (.iastore, 1) := by decide +kernel
theorem d_Ask_look_64 : decode m_Ask_look.2.1 64 = .ok (.aload_n 0, 1) := by decide +kernel
theorem d_Ask_look_65 : decode m_Ask_look.2.1 65 = .ok (.getfield 18, 3) := by decide +kernel
theorem d_Ask_look_68 : decode m_Ask_look.2.1 68 = .ok (.bipush 6, 2) := by decide +kernel
theorem d_Ask_look_70 : decode m_Ask_look.2.1 70 = .ok (.aload_n 1, 1) := by decide +kernel
theorem d_Ask_look_71 : decode m_Ask_look.2.1 71 = .ok (.getfield 69, 3) := by decide +kernel
theorem d_Ask_look_74 : decode m_Ask_look.2.1 74 = .ok (.getfield 73, 3) := by decide +kernel
theorem d_Ask_look_77 : decode m_Ask_look.2.1 77 = .ok (.iastore, 1) := by decide +kernel
theorem d_Ask_look_78 : decode m_Ask_look.2.1 78 = .ok (.aload_n 0, 1) := by decide +kernel
theorem d_Ask_look_79 : decode m_Ask_look.2.1 79 = .ok (.getfield 18, 3) := by decide +kernel
theorem d_Ask_look_82 : decode m_Ask_look.2.1 82 = .ok (.bipush 7, 2) := by decide +kernel
theorem d_Ask_look_84 : decode m_Ask_look.2.1 84 = .ok (.aload_n 1, 1) := by decide +kernel
theorem d_Ask_look_85 : decode m_Ask_look.2.1 85 = .ok (.getfield 64, 3) := by decide +kernel
theorem d_Ask_look_88 : decode m_Ask_look.2.1 88 = .ok (.iconst 0, 1) := by decide +kernel
theorem d_Ask_look_89 : decode m_Ask_look.2.1 89 = .ok (.iaload, 1) := by decide +kernel
theorem d_Ask_look_90 : decode m_Ask_look.2.1 90 = .ok (.iastore, 1) := by decide +kernel
theorem d_Ask_look_91 : decode m_Ask_look.2.1 91 = .ok (.return_, 1) := by decide +kernel
theorem d_Ask_holds_0 : decode m_Ask_holds.2.1 0 = .ok (.aload_n 1, 1) := by decide +kernel
theorem d_Ask_holds_1 : decode m_Ask_holds.2.1 1 = .ok (.getfield 76, 3) := by decide +kernel
theorem d_Ask_holds_4 : decode m_Ask_holds.2.1 4 = .ok (.iload_n 2, 1) := by decide +kernel
theorem d_Ask_holds_5 : decode m_Ask_holds.2.1 5 = .ok (.iaload, 1) := by decide +kernel
theorem d_Ask_holds_6 : decode m_Ask_holds.2.1 6 = .ok (.iconst (-1), 1) := by decide +kernel
theorem d_Ask_holds_7 : decode m_Ask_holds.2.1 7 = .ok (.if_icmp .eq 26, 3) := by decide +kernel
theorem d_Ask_holds_10 : decode m_Ask_holds.2.1 10 = .ok (.aload_n 0, 1) := by decide +kernel
theorem d_Ask_holds_11 : decode m_Ask_holds.2.1 11 = .ok (.getfield 12, 3) := by decide +kernel
theorem d_Ask_holds_14 : decode m_Ask_holds.2.1 14 = .ok (.aload_n 1, 1) := by decide +kernel
theorem d_Ask_holds_15 : decode m_Ask_holds.2.1 15 = .ok (.aload_n 1, 1) := by decide +kernel
theorem d_Ask_holds_16 : decode m_Ask_holds.2.1 16 = .ok (.getfield 76, 3) := by decide +kernel
theorem d_Ask_holds_19 : decode m_Ask_holds.2.1 19 = .ok (.iload_n 2, 1) := by decide +kernel
theorem d_Ask_holds_20 : decode m_Ask_holds.2.1 20 = .ok (.iaload, 1) := by decide +kernel
theorem d_Ask_holds_21 : decode m_Ask_holds.2.1 21 = .ok (.aload_n 0, 1) := by decide +kernel
theorem d_Ask_holds_22 : decode m_Ask_holds.2.1 22 = .ok (.getfield 18, 3) := by decide +kernel
theorem d_Ask_holds_25 : decode m_Ask_holds.2.1 25 = .ok (.invokevirtual 79, 3) := by decide +kernel
theorem d_Ask_holds_28 : decode m_Ask_holds.2.1 28 = .ok (.ifCond .ne 5, 3) := by decide +kernel
theorem d_Ask_holds_31 : decode m_Ask_holds.2.1 31 = .ok (.iconst 0, 1) := by decide +kernel
theorem d_Ask_holds_32 : decode m_Ask_holds.2.1 32 = .ok (.ireturn, 1) := by decide +kernel
theorem d_Ask_holds_33 : decode m_Ask_holds.2.1 33 = .ok (.aload_n 1, 1) := by decide +kernel
theorem d_Ask_holds_34 : decode m_Ask_holds.2.1 34 = .ok (.getfield 83, 3) := by decide +kernel
theorem d_Ask_holds_37 : decode m_Ask_holds.2.1 37 = .ok (.iload_n 2, 1) := by decide +kernel
theorem d_Ask_holds_38 : decode m_Ask_holds.2.1 38 = .ok (.iaload, 1) := by decide +kernel
theorem d_Ask_holds_39 : decode m_Ask_holds.2.1 39 = .ok (.iconst (-1), 1) := by decide +kernel
theorem d_Ask_holds_40 : decode m_Ask_holds.2.1 40 = .ok (.if_icmp .ne 5, 3) := by decide +kernel
theorem d_Ask_holds_43 : decode m_Ask_holds.2.1 43 = .ok (.iconst 1, 1) := by decide +kernel
theorem d_Ask_holds_44 : decode m_Ask_holds.2.1 44 = .ok (.ireturn, 1) := by decide +kernel
theorem d_Ask_holds_45 : decode m_Ask_holds.2.1 45 = .ok (.aload_n 0, 1) := by decide +kernel
theorem d_Ask_holds_46 : decode m_Ask_holds.2.1 46 = .ok (.aload_n 0, 1) := by decide +kernel
theorem d_Ask_holds_47 : decode m_Ask_holds.2.1 47 = .ok (.getfield 12, 3) := by decide +kernel
theorem d_Ask_holds_50 : decode m_Ask_holds.2.1 50 = .ok (.aload_n 1, 1) := by decide +kernel
theorem d_Ask_holds_51 : decode m_Ask_holds.2.1 51 = .ok (.aload_n 1, 1) := by decide +kernel
theorem d_Ask_holds_52 : decode m_Ask_holds.2.1 52 = .ok (.getfield 83, 3) := by decide +kernel
theorem d_Ask_holds_55 : decode m_Ask_holds.2.1 55 = .ok (.iload_n 2, 1) := by decide +kernel
theorem d_Ask_holds_56 : decode m_Ask_holds.2.1 56 = .ok (.iaload, 1) := by decide +kernel
theorem d_Ask_holds_57 : decode m_Ask_holds.2.1 57 = .ok (.aload_n 0, 1) := by decide +kernel
theorem d_Ask_holds_58 : decode m_Ask_holds.2.1 58 = .ok (.getfield 18, 3) := by decide +kernel
theorem d_Ask_holds_61 : decode m_Ask_holds.2.1 61 = .ok (.invokevirtual 79, 3) := by decide +kernel
theorem d_Ask_holds_64 : decode m_Ask_holds.2.1 64 = .ok (.putfield 22, 3) := by decide +kernel
theorem d_Ask_holds_67 : decode m_Ask_holds.2.1 67 = .ok (.aload_n 0, 1) := by decide +kernel
theorem d_Ask_holds_68 : decode m_Ask_holds.2.1 68 = .ok (.getfield 12, 3) := by decide +kernel
theorem d_Ask_holds_71 : decode m_Ask_holds.2.1 71 = .ok (.getfield 86, 3) := by decide +kernel
theorem d_Ask_holds_74 : decode m_Ask_holds.2.1 74 = .ok (.ifCond .ne 7, 3) := by decide +kernel
theorem d_Ask_holds_77 : decode m_Ask_holds.2.1 77 = .ok (.iconst 1, 1) := by decide +kernel
theorem d_Ask_holds_78 : decode m_Ask_holds.2.1 78 = .ok (.goto 4, 3) := by decide +kernel
theorem d_Ask_holds_81 : decode m_Ask_holds.2.1 81 = .ok (.iconst 0, 1) := by decide +kernel
theorem d_Ask_holds_82 : decode m_Ask_holds.2.1 82 = .ok (.ireturn, 1) := by decide +kernel
theorem d_Ask_amount_0 : decode m_Ask_amount.2.1 0 = .ok (.aload_n 2, 1) := by decide +kernel
theorem d_Ask_amount_1 : decode m_Ask_amount.2.1 1 = .ok (.ifnonnull 5, 3) := by decide +kernel
theorem d_Ask_amount_4 : decode m_Ask_amount.2.1 4 = .ok (.iconst 1, 1) := by decide +kernel
theorem d_Ask_amount_5 : decode m_Ask_amount.2.1 5 = .ok (.ireturn, 1) := by decide +kernel
theorem d_Ask_amount_6 : decode m_Ask_amount.2.1 6 = .ok (.aload_n 0, 1) := by decide +kernel
theorem d_Ask_amount_7 : decode m_Ask_amount.2.1 7 = .ok (.aload_n 1, 1) := by decide +kernel
theorem d_Ask_amount_8 : decode m_Ask_amount.2.1 8 = .ok (.iload 4, 2) := by decide +kernel
theorem d_Ask_amount_10 : decode m_Ask_amount.2.1 10 = .ok (.iload 5, 2) := by decide +kernel
theorem d_Ask_amount_12 : decode m_Ask_amount.2.1 12 = .ok (.invokevirtual 26, 3) := by decide +kernel
theorem d_Ask_amount_15 : decode m_Ask_amount.2.1 15 = .ok (.aload_n 2, 1) := by decide +kernel
theorem d_Ask_amount_16 : decode m_Ask_amount.2.1 16 = .ok (.getfield 30, 3) := by decide +kernel
theorem d_Ask_amount_19 : decode m_Ask_amount.2.1 19 = .ok (.iconst 1, 1) := by decide +kernel
theorem d_Ask_amount_20 : decode m_Ask_amount.2.1 20 = .ok (.isub, 1) := by decide +kernel
theorem d_Ask_amount_21 : decode m_Ask_amount.2.1 21 = .ok (.istore 6, 2) := by decide +kernel
theorem d_Ask_amount_23 : decode m_Ask_amount.2.1 23 = .ok (.iload 6, 2) := by decide +kernel
theorem d_Ask_amount_25 : decode m_Ask_amount.2.1 25 = .ok (.ifCond .lt 44, 3) := by decide +kernel
theorem d_Ask_amount_28 : decode m_Ask_amount.2.1 28 = .ok (.aload_n 2, 1) := by decide +kernel
theorem d_Ask_amount_29 : decode m_Ask_amount.2.1 29 = .ok (.getfield 35, 3) := by decide +kernel
theorem d_Ask_amount_32 : decode m_Ask_amount.2.1 32 = .ok (.iload 6, 2) := by decide +kernel
theorem d_Ask_amount_34 : decode m_Ask_amount.2.1 34 = .ok (.iaload, 1) := by decide +kernel
theorem d_Ask_amount_35 : decode m_Ask_amount.2.1 35 = .ok (.iload_n 3, 1) := by decide +kernel
theorem d_Ask_amount_36 : decode m_Ask_amount.2.1 36 = .ok (.if_icmp .ne 27, 3) := by decide +kernel
theorem d_Ask_amount_39 : decode m_Ask_amount.2.1 39 = .ok (.aload_n 0, 1) := by decide +kernel
theorem d_Ask_amount_40 : decode m_Ask_amount.2.1 40 = .ok (.aload_n 2, 1) := by decide +kernel
theorem d_Ask_amount_41 : decode m_Ask_amount.2.1 41 = .ok (.iload 6, 2) := by decide +kernel
theorem d_Ask_amount_43 : decode m_Ask_amount.2.1 43 = .ok (.invokevirtual 38, 3) := by decide +kernel
theorem d_Ask_amount_46 : decode m_Ask_amount.2.1 46 = .ok (.ifCond .eq 17, 3) := by decide +kernel
theorem d_Ask_amount_49 : decode m_Ask_amount.2.1 49 = .ok (.iconst 0, 1) := by decide +kernel
theorem d_Ask_amount_50 : decode m_Ask_amount.2.1 50 = .ok (.bipush 99, 2) := by decide +kernel
theorem d_Ask_amount_52 : decode m_Ask_amount.2.1 52 = .ok (.aload_n 0, 1) := by decide +kernel
theorem d_Ask_amount_53 : decode m_Ask_amount.2.1 53 = .ok (.getfield 22, 3) := by decide +kernel
theorem d_Ask_amount_56 : decode m_Ask_amount.2.1 56 = .ok (.invokestatic 42, 3) := by decide +kernel
theorem d_Ask_amount_59 : decode m_Ask_amount.2.1 59 = .ok (.invokestatic 48, 3) := by decide +kernel
theorem d_Ask_amount_62 : decode m_Ask_amount.2.1 62 = .ok (.ireturn, 1) := by decide +kernel
theorem d_Ask_amount_63 : decode m_Ask_amount.2.1 63 = .ok (.iinc 6 (-1), 3) := by decide +kernel
theorem d_Ask_amount_66 : decode m_Ask_amount.2.1 66 = .ok (.goto (-43), 3) := by decide +kernel
theorem d_Ask_amount_69 : decode m_Ask_amount.2.1 69 = .ok (.iconst 1, 1) := by decide +kernel
theorem d_Ask_amount_70 : decode m_Ask_amount.2.1 70 = .ok (.ireturn, 1) := by decide +kernel
theorem d_Sum_init_0 : decode m_Sum_init.2.1 0 = .ok (.aload_n 0, 1) := by decide +kernel
theorem d_Sum_init_1 : decode m_Sum_init.2.1 1 = .ok (.invokespecial 3, 3) := by decide +kernel
theorem d_Sum_init_4 : decode m_Sum_init.2.1 4 = .ok (.aload_n 0, 1) := by decide +kernel
theorem d_Sum_init_5 : decode m_Sum_init.2.1 5 = .ok (.iconst 0, 1) := by decide +kernel
theorem d_Sum_init_6 : decode m_Sum_init.2.1 6 = .ok (.putfield 9, 3) := by decide +kernel
theorem d_Sum_init_9 : decode m_Sum_init.2.1 9 = .ok (.aload_n 0, 1) := by decide +kernel
theorem d_Sum_init_10 : decode m_Sum_init.2.1 10 = .ok (.bipush 51, 2) := by decide +kernel
theorem d_Sum_init_12 : decode m_Sum_init.2.1 12 = .ok (.newarray .int, 2) := by decide +kernel
theorem d_Sum_init_14 : decode m_Sum_init.2.1 14 = .ok (.putfield 15, 3) := by decide +kernel
theorem d_Sum_init_17 : decode m_Sum_init.2.1 17 = .ok (.return_, 1) := by decide +kernel
theorem d_Sum_of_0 : decode m_Sum_of.2.1 0 = .ok (.aload_n 0, 1) := by decide +kernel
theorem d_Sum_of_1 : decode m_Sum_of.2.1 1 = .ok (.iconst 0, 1) := by decide +kernel
theorem d_Sum_of_2 : decode m_Sum_of.2.1 2 = .ok (.putfield 9, 3) := by decide +kernel
theorem d_Sum_of_5 : decode m_Sum_of.2.1 5 = .ok (.iconst 0, 1) := by decide +kernel
theorem d_Sum_of_6 : decode m_Sum_of.2.1 6 = .ok (.istore 4, 2) := by decide +kernel
theorem d_Sum_of_8 : decode m_Sum_of.2.1 8 = .ok (.iload_n 2, 1) := by decide +kernel
theorem d_Sum_of_9 : decode m_Sum_of.2.1 9 = .ok (.istore 5, 2) := by decide +kernel
theorem d_Sum_of_11 : decode m_Sum_of.2.1 11 = .ok (.iload_n 2, 1) := by decide +kernel
theorem d_Sum_of_12 : decode m_Sum_of.2.1 12 = .ok (.istore 6, 2) := by decide +kernel
theorem d_Sum_of_14 : decode m_Sum_of.2.1 14 = .ok (.iload 6, 2) := by decide +kernel
theorem d_Sum_of_16 : decode m_Sum_of.2.1 16 = .ok (.aload_n 1, 1) := by decide +kernel
theorem d_Sum_of_17 : decode m_Sum_of.2.1 17 = .ok (.getfield 19, 3) := by decide +kernel
theorem d_Sum_of_20 : decode m_Sum_of.2.1 20 = .ok (.if_icmp .ge 289, 3) := by decide +kernel
theorem d_Sum_of_23 : decode m_Sum_of.2.1 23 = .ok (.aload_n 1, 1) := by decide +kernel
theorem d_Sum_of_24 : decode m_Sum_of.2.1 24 = .ok (.getfield 25, 3) := by decide +kernel
theorem d_Sum_of_27 : decode m_Sum_of.2.1 27 = .ok (.iload 6, 2) := by decide +kernel
theorem d_Sum_of_29 : decode m_Sum_of.2.1 29 = .ok (.iaload, 1) := by decide +kernel
theorem d_Sum_of_30 : decode m_Sum_of.2.1 30 = .ok (.istore 7, 2) := by decide +kernel
theorem d_Sum_of_32 : decode m_Sum_of.2.1 32 = .ok (.aload_n 1, 1) := by decide +kernel
theorem d_Sum_of_33 : decode m_Sum_of.2.1 33 = .ok (.getfield 28, 3) := by decide +kernel
theorem d_Sum_of_36 : decode m_Sum_of.2.1 36 = .ok (.iload 6, 2) := by decide +kernel
theorem d_Sum_of_38 : decode m_Sum_of.2.1 38 = .ok (.iaload, 1) := by decide +kernel
theorem d_Sum_of_39 : decode m_Sum_of.2.1 39 = .ok (.istore 8, 2) := by decide +kernel
theorem d_Sum_of_41 : decode m_Sum_of.2.1 41 = .ok (.iload 6, 2) := by decide +kernel
theorem d_Sum_of_43 : decode m_Sum_of.2.1 43 = .ok (.iload 5, 2) := by decide +kernel
theorem d_Sum_of_45 : decode m_Sum_of.2.1 45 = .ok (.if_icmp .ge 6, 3) := by decide +kernel
theorem d_Sum_of_48 : decode m_Sum_of.2.1 48 = .ok (.goto 255, 3) := by decide +kernel
theorem d_Sum_of_51 : decode m_Sum_of.2.1 51 = .ok (.iload 4, 2) := by decide +kernel
theorem d_Sum_of_53 : decode m_Sum_of.2.1 53 = .ok (.iload 7, 2) := by decide +kernel
theorem d_Sum_of_55 : decode m_Sum_of.2.1 55 = .ok (.invokestatic 31, 3) := by decide +kernel
theorem d_Sum_of_58 : decode m_Sum_of.2.1 58 = .ok (.if_icmp .lt 251, 3) := by decide +kernel
theorem d_Sum_of_61 : decode m_Sum_of.2.1 61 = .ok (.iload 4, 2) := by decide +kernel
theorem d_Sum_of_63 : decode m_Sum_of.2.1 63 = .ok (.aload_n 0, 1) := by decide +kernel
theorem d_Sum_of_64 : decode m_Sum_of.2.1 64 = .ok (.getfield 15, 3) := by decide +kernel
theorem d_Sum_of_67 : decode m_Sum_of.2.1 67 = .ok (.arraylength, 1) := by decide +kernel
theorem d_Sum_of_68 : decode m_Sum_of.2.1 68 = .ok (.if_icmp .lt 6, 3) := by decide +kernel
theorem d_Sum_of_71 : decode m_Sum_of.2.1 71 = .ok (.goto 238, 3) := by decide +kernel
theorem d_Sum_of_74 : decode m_Sum_of.2.1 74 = .ok (.iload 7, 2) := by decide +kernel
theorem d_Sum_of_76 : decode m_Sum_of.2.1 76 = .ok (.lookupswitch 162 #[(33, 102), (38, 125), (46, 60), (110, 70), (119, 85), (124, 125)], 60) := by decide +kernel
theorem d_Sum_of_136 : decode m_Sum_of.2.1 136 = .ok (.aload_n 0, 1) := by decide +kernel
theorem d_Sum_of_137 : decode m_Sum_of.2.1 137 = .ok (.getfield 15, 3) := by decide +kernel
theorem d_Sum_of_140 : decode m_Sum_of.2.1 140 = .ok (.iload 4, 2) := by decide +kernel
theorem d_Sum_of_142 : decode m_Sum_of.2.1 142 = .ok (.iconst 1, 1) := by decide +kernel
theorem d_Sum_of_143 : decode m_Sum_of.2.1 143 = .ok (.isub, 1) := by decide +kernel
theorem d_Sum_of_144 : decode m_Sum_of.2.1 144 = .ok (.iaload, 1) := by decide +kernel
theorem d_Sum_of_145 : decode m_Sum_of.2.1 145 = .ok (.ireturn, 1) := by decide +kernel
theorem d_Sum_of_146 : decode m_Sum_of.2.1 146 = .ok (.aload_n 0, 1) := by decide +kernel
theorem d_Sum_of_147 : decode m_Sum_of.2.1 147 = .ok (.getfield 15, 3) := by decide +kernel
theorem d_Sum_of_150 : decode m_Sum_of.2.1 150 = .ok (.iload 4, 2) := by decide +kernel
theorem d_Sum_of_152 : decode m_Sum_of.2.1 152 = .ok (.iload 8, 2) := by decide +kernel
theorem d_Sum_of_154 : decode m_Sum_of.2.1 154 = .ok (.iastore, 1) := by decide +kernel
theorem d_Sum_of_155 : decode m_Sum_of.2.1 155 = .ok (.iinc 4 1, 3) := by decide +kernel
theorem d_Sum_of_158 : decode m_Sum_of.2.1 158 = .ok (.goto 145, 3) := by decide +kernel
theorem d_Sum_of_161 : decode m_Sum_of.2.1 161 = .ok (.aload_n 0, 1) := by decide +kernel
theorem d_Sum_of_162 : decode m_Sum_of.2.1 162 = .ok (.getfield 15, 3) := by decide +kernel
theorem d_Sum_of_165 : decode m_Sum_of.2.1 165 = .ok (.iload 4, 2) := by decide +kernel
theorem d_Sum_of_167 : decode m_Sum_of.2.1 167 = .ok (.aload_n 3, 1) := by decide +kernel
theorem d_Sum_of_168 : decode m_Sum_of.2.1 168 = .ok (.iload 8, 2) := by decide +kernel
theorem d_Sum_of_170 : decode m_Sum_of.2.1 170 = .ok (.iaload, 1) := by decide +kernel
theorem d_Sum_of_171 : decode m_Sum_of.2.1 171 = .ok (.iastore, 1) := by decide +kernel
theorem d_Sum_of_172 : decode m_Sum_of.2.1 172 = .ok (.iinc 4 1, 3) := by decide +kernel
theorem d_Sum_of_175 : decode m_Sum_of.2.1 175 = .ok (.goto 128, 3) := by decide +kernel
theorem d_Sum_of_178 : decode m_Sum_of.2.1 178 = .ok (.aload_n 0, 1) := by decide +kernel
theorem d_Sum_of_179 : decode m_Sum_of.2.1 179 = .ok (.getfield 15, 3) := by decide +kernel
theorem d_Sum_of_182 : decode m_Sum_of.2.1 182 = .ok (.iload 4, 2) := by decide +kernel
theorem d_Sum_of_184 : decode m_Sum_of.2.1 184 = .ok (.iconst 1, 1) := by decide +kernel
theorem d_Sum_of_185 : decode m_Sum_of.2.1 185 = .ok (.isub, 1) := by decide +kernel
theorem d_Sum_of_186 : decode m_Sum_of.2.1 186 = .ok (.iconst 1, 1) := by decide +kernel
theorem d_Sum_of_187 : decode m_Sum_of.2.1 187 = .ok (.aload_n 0, 1) := by decide +kernel
theorem d_Sum_of_188 : decode m_Sum_of.2.1 188 = .ok (.getfield 15, 3) := by decide +kernel
theorem d_Sum_of_191 : decode m_Sum_of.2.1 191 = .ok (.iload 4, 2) := by decide +kernel
theorem d_Sum_of_193 : decode m_Sum_of.2.1 193 = .ok (.iconst 1, 1) := by decide +kernel
theorem d_Sum_of_194 : decode m_Sum_of.2.1 194 = .ok (.isub, 1) := by decide +kernel
theorem d_Sum_of_195 : decode m_Sum_of.2.1 195 = .ok (.iaload, 1) := by decide +kernel
theorem d_Sum_of_196 : decode m_Sum_of.2.1 196 = .ok (.isub, 1) := by decide +kernel
theorem d_Sum_of_197 : decode m_Sum_of.2.1 197 = .ok (.iastore, 1) := by decide +kernel
theorem d_Sum_of_198 : decode m_Sum_of.2.1 198 = .ok (.goto 105, 3) := by decide +kernel
theorem d_Sum_of_201 : decode m_Sum_of.2.1 201 = .ok (.aload_n 0, 1) := by decide +kernel
theorem d_Sum_of_202 : decode m_Sum_of.2.1 202 = .ok (.getfield 15, 3) := by decide +kernel
theorem d_Sum_of_205 : decode m_Sum_of.2.1 205 = .ok (.iload 4, 2) := by decide +kernel
theorem d_Sum_of_207 : decode m_Sum_of.2.1 207 = .ok (.iconst 1, 1) := by decide +kernel
theorem d_Sum_of_208 : decode m_Sum_of.2.1 208 = .ok (.isub, 1) := by decide +kernel
theorem d_Sum_of_209 : decode m_Sum_of.2.1 209 = .ok (.iaload, 1) := by decide +kernel
theorem d_Sum_of_210 : decode m_Sum_of.2.1 210 = .ok (.iload 7, 2) := by decide +kernel
theorem d_Sum_of_212 : decode m_Sum_of.2.1 212 = .ok (.bipush 124, 2) := by decide +kernel
theorem d_Sum_of_214 : decode m_Sum_of.2.1 214 = .ok (.if_icmp .ne 7, 3) := by decide +kernel
theorem d_Sum_of_217 : decode m_Sum_of.2.1 217 = .ok (.iconst 1, 1) := by decide +kernel
theorem d_Sum_of_218 : decode m_Sum_of.2.1 218 = .ok (.goto 4, 3) := by decide +kernel
theorem d_Sum_of_221 : decode m_Sum_of.2.1 221 = .ok (.iconst 0, 1) := by decide +kernel
theorem d_Sum_of_222 : decode m_Sum_of.2.1 222 = .ok (.if_icmp .ne 10, 3) := by decide +kernel
theorem d_Sum_of_225 : decode m_Sum_of.2.1 225 = .ok (.iload 8, 2) := by decide +kernel
theorem d_Sum_of_227 : decode m_Sum_of.2.1 227 = .ok (.istore 5, 2) := by decide +kernel
theorem d_Sum_of_229 : decode m_Sum_of.2.1 229 = .ok (.goto 74, 3) := by decide +kernel
theorem d_Sum_of_232 : decode m_Sum_of.2.1 232 = .ok (.iinc 4 (-1), 3) := by decide +kernel
theorem d_Sum_of_235 : decode m_Sum_of.2.1 235 = .ok (.goto 68, 3) := by decide +kernel
theorem d_Sum_of_238 : decode m_Sum_of.2.1 238 = .ok (.iinc 4 (-1), 3) := by decide +kernel
theorem d_Sum_of_241 : decode m_Sum_of.2.1 241 = .ok (.iload 7, 2) := by decide +kernel
theorem d_Sum_of_243 : decode m_Sum_of.2.1 243 = .ok (.aload_n 0, 1) := by decide +kernel
theorem d_Sum_of_244 : decode m_Sum_of.2.1 244 = .ok (.getfield 15, 3) := by decide +kernel
theorem d_Sum_of_247 : decode m_Sum_of.2.1 247 = .ok (.iload 4, 2) := by decide +kernel
theorem d_Sum_of_249 : decode m_Sum_of.2.1 249 = .ok (.iconst 1, 1) := by decide +kernel
theorem d_Sum_of_250 : decode m_Sum_of.2.1 250 = .ok (.isub, 1) := by decide +kernel
theorem d_Sum_of_251 : decode m_Sum_of.2.1 251 = .ok (.iaload, 1) := by decide +kernel
theorem d_Sum_of_252 : decode m_Sum_of.2.1 252 = .ok (.i2l, 1) := by decide +kernel
theorem d_Sum_of_253 : decode m_Sum_of.2.1 253 = .ok (.aload_n 0, 1) := by decide +kernel
theorem d_Sum_of_254 : decode m_Sum_of.2.1 254 = .ok (.getfield 15, 3) := by decide +kernel
theorem d_Sum_of_257 : decode m_Sum_of.2.1 257 = .ok (.iload 4, 2) := by decide +kernel
theorem d_Sum_of_259 : decode m_Sum_of.2.1 259 = .ok (.iaload, 1) := by decide +kernel
theorem d_Sum_of_260 : decode m_Sum_of.2.1 260 = .ok (.i2l, 1) := by decide +kernel
theorem d_Sum_of_261 : decode m_Sum_of.2.1 261 = .ok (.invokestatic 35, 3) := by decide +kernel
theorem d_Sum_of_264 : decode m_Sum_of.2.1 264 = .ok (.lstore 9, 2) := by decide +kernel
theorem d_Sum_of_266 : decode m_Sum_of.2.1 266 = .ok (.lload 9, 2) := by decide +kernel
theorem d_Sum_of_268 : decode m_Sum_of.2.1 268 = .ok (.ldc2_w 39, 3) := by decide +kernel
theorem d_Sum_of_271 : decode m_Sum_of.2.1 271 = .ok (.lcmp, 1) := by decide +kernel
theorem d_Sum_of_272 : decode m_Sum_of.2.1 272 = .ok (.ifCond .gt 12, 3) := by decide +kernel
theorem d_Sum_of_275 : decode m_Sum_of.2.1 275 = .ok (.lload 9, 2) := by decide +kernel
theorem d_Sum_of_277 : decode m_Sum_of.2.1 277 = .ok (.ldc2_w 41, 3) := by decide +kernel
theorem d_Sum_of_280 : decode m_Sum_of.2.1 280 = .ok (.lcmp, 1) := by decide +kernel
theorem d_Sum_of_281 : decode m_Sum_of.2.1 281 = .ok (.ifCond .ge 10, 3) := by decide +kernel
theorem d_Sum_of_284 : decode m_Sum_of.2.1 284 = .ok (.aload_n 0, 1) := by decide +kernel
theorem d_Sum_of_285 : decode m_Sum_of.2.1 285 = .ok (.iconst 1, 1) := by decide +kernel
theorem d_Sum_of_286 : decode m_Sum_of.2.1 286 = .ok (.putfield 9, 3) := by decide +kernel
theorem d_Sum_of_289 : decode m_Sum_of.2.1 289 = .ok (.iconst 0, 1) := by decide +kernel
theorem d_Sum_of_290 : decode m_Sum_of.2.1 290 = .ok (.ireturn, 1) := by decide +kernel
theorem d_Sum_of_291 : decode m_Sum_of.2.1 291 = .ok (.aload_n 0, 1) := by decide +kernel
theorem d_Sum_of_292 : decode m_Sum_of.2.1 292 = .ok (.getfield 15, 3) := by decide +kernel
theorem d_Sum_of_295 : decode m_Sum_of.2.1 295 = .ok (.iload 4, 2) := by decide +kernel
theorem d_Sum_of_297 : decode m_Sum_of.2.1 297 = .ok (.iconst 1, 1) := by decide +kernel
theorem d_Sum_of_298 : decode m_Sum_of.2.1 298 = .ok (.isub, 1) := by decide +kernel
theorem d_Sum_of_299 : decode m_Sum_of.2.1 299 = .ok (.lload 9, 2) := by decide +kernel
theorem d_Sum_of_301 : decode m_Sum_of.2.1 301 = .ok (.l2i, 1) := by decide +kernel
theorem d_Sum_of_302 : decode m_Sum_of.2.1 302 = .ok (.iastore, 1) := by decide +kernel
theorem d_Sum_of_303 : decode m_Sum_of.2.1 303 = .ok (.iinc 6 1, 3) := by decide +kernel
theorem d_Sum_of_306 : decode m_Sum_of.2.1 306 = .ok (.goto (-292), 3) := by decide +kernel
theorem d_Sum_of_309 : decode m_Sum_of.2.1 309 = .ok (.aload_n 0, 1) := by decide +kernel
theorem d_Sum_of_310 : decode m_Sum_of.2.1 310 = .ok (.iconst 1, 1) := by decide +kernel
theorem d_Sum_of_311 : decode m_Sum_of.2.1 311 = .ok (.putfield 9, 3) := by decide +kernel
theorem d_Sum_of_314 : decode m_Sum_of.2.1 314 = .ok (.iconst 0, 1) := by decide +kernel
theorem d_Sum_of_315 : decode m_Sum_of.2.1 315 = .ok (.ireturn, 1) := by decide +kernel
theorem d_Sum_taken_0 : decode m_Sum_taken.2.1 0 = .ok (.iload_n 0, 1) := by decide +kernel
theorem d_Sum_taken_1 : decode m_Sum_taken.2.1 1 = .ok (.lookupswitch 63 #[(33, 61), (38, 61), (46, 61), (110, 59), (119, 59), (124, 61)], 59) := by decide +kernel
theorem d_Sum_taken_60 : decode m_Sum_taken.2.1 60 = .ok (.iconst 0, 1) := by decide +kernel
theorem d_Sum_taken_61 : decode m_Sum_taken.2.1 61 = .ok (.ireturn, 1) := by decide +kernel
theorem d_Sum_taken_62 : decode m_Sum_taken.2.1 62 = .ok (.iconst 1, 1) := by decide +kernel
theorem d_Sum_taken_63 : decode m_Sum_taken.2.1 63 = .ok (.ireturn, 1) := by decide +kernel
theorem d_Sum_taken_64 : decode m_Sum_taken.2.1 64 = .ok (.iconst 2, 1) := by decide +kernel
theorem d_Sum_taken_65 : decode m_Sum_taken.2.1 65 = .ok (.ireturn, 1) := by decide +kernel
theorem d_Sum_combined_0 : decode m_Sum_combined.2.1 0 = .ok (.iload_n 0, 1) := by decide +kernel
theorem d_Sum_combined_1 : decode m_Sum_combined.2.1 1 = .ok (.lookupswitch 135 #[(37, 95), (42, 75), (43, 67), (45, 71), (47, 79), (60, 111), (62, 123)], 67) := by decide +kernel
theorem d_Sum_combined_68 : decode m_Sum_combined.2.1 68 = .ok (.lload_n 1, 1) := by decide +kernel
theorem d_Sum_combined_69 : decode m_Sum_combined.2.1 69 = .ok (.lload_n 3, 1) := by decide +kernel
theorem d_Sum_combined_70 : decode m_Sum_combined.2.1 70 = .ok (.ladd, 1) := by decide +kernel
theorem d_Sum_combined_71 : decode m_Sum_combined.2.1 71 = .ok (.lreturn, 1) := by decide +kernel
theorem d_Sum_combined_72 : decode m_Sum_combined.2.1 72 = .ok (.lload_n 1, 1) := by decide +kernel
theorem d_Sum_combined_73 : decode m_Sum_combined.2.1 73 = .ok (.lload_n 3, 1) := by decide +kernel
theorem d_Sum_combined_74 : decode m_Sum_combined.2.1 74 = .ok (.lsub, 1) := by decide +kernel
theorem d_Sum_combined_75 : decode m_Sum_combined.2.1 75 = .ok (.lreturn, 1) := by decide +kernel
theorem d_Sum_combined_76 : decode m_Sum_combined.2.1 76 = .ok (.lload_n 1, 1) := by decide +kernel
theorem d_Sum_combined_77 : decode m_Sum_combined.2.1 77 = .ok (.lload_n 3, 1) := by decide +kernel
theorem d_Sum_combined_78 : decode m_Sum_combined.2.1 78 = .ok (.lmul, 1) := by decide +kernel
theorem d_Sum_combined_79 : decode m_Sum_combined.2.1 79 = .ok (.lreturn, 1) := by decide +kernel
theorem d_Sum_combined_80 : decode m_Sum_combined.2.1 80 = .ok (.lload_n 3, 1) := by decide +kernel
theorem d_Sum_combined_81 : decode m_Sum_combined.2.1 81 = .ok (.lconst 0, 1) := by decide +kernel
theorem d_Sum_combined_82 : decode m_Sum_combined.2.1 82 = .ok (.lcmp, 1) := by decide +kernel
theorem d_Sum_combined_83 : decode m_Sum_combined.2.1 83 = .ok (.ifCond .ne 9, 3) := by decide +kernel
theorem d_Sum_combined_86 : decode m_Sum_combined.2.1 86 = .ok (.ldc2_w 43, 3) := by decide +kernel
theorem d_Sum_combined_89 : decode m_Sum_combined.2.1 89 = .ok (.goto 6, 3) := by decide +kernel
theorem d_Sum_combined_92 : decode m_Sum_combined.2.1 92 = .ok (.lload_n 1, 1) := by decide +kernel
theorem d_Sum_combined_93 : decode m_Sum_combined.2.1 93 = .ok (.lload_n 3, 1) := by decide +kernel
theorem d_Sum_combined_94 : decode m_Sum_combined.2.1 94 = .ok (.ldiv, 1) := by decide +kernel
theorem d_Sum_combined_95 : decode m_Sum_combined.2.1 95 = .ok (.lreturn, 1) := by decide +kernel
theorem d_Sum_combined_96 : decode m_Sum_combined.2.1 96 = .ok (.lload_n 3, 1) := by decide +kernel
theorem d_Sum_combined_97 : decode m_Sum_combined.2.1 97 = .ok (.lconst 0, 1) := by decide +kernel
theorem d_Sum_combined_98 : decode m_Sum_combined.2.1 98 = .ok (.lcmp, 1) := by decide +kernel
theorem d_Sum_combined_99 : decode m_Sum_combined.2.1 99 = .ok (.ifCond .ne 9, 3) := by decide +kernel
theorem d_Sum_combined_102 : decode m_Sum_combined.2.1 102 = .ok (.ldc2_w 43, 3) := by decide +kernel
theorem d_Sum_combined_105 : decode m_Sum_combined.2.1 105 = .ok (.goto 6, 3) := by decide +kernel
theorem d_Sum_combined_108 : decode m_Sum_combined.2.1 108 = .ok (.lload_n 1, 1) := by decide +kernel
theorem d_Sum_combined_109 : decode m_Sum_combined.2.1 109 = .ok (.lload_n 3, 1) := by decide +kernel
theorem d_Sum_combined_110 : decode m_Sum_combined.2.1 110 = .ok (.lrem, 1) := by decide +kernel
theorem d_Sum_combined_111 : decode m_Sum_combined.2.1 111 = .ok (.lreturn, 1) := by decide +kernel
theorem d_Sum_combined_112 : decode m_Sum_combined.2.1 112 = .ok (.lload_n 1, 1) := by decide +kernel
theorem d_Sum_combined_113 : decode m_Sum_combined.2.1 113 = .ok (.lload_n 3, 1) := by decide +kernel
theorem d_Sum_combined_114 : decode m_Sum_combined.2.1 114 = .ok (.lcmp, 1) := by decide +kernel
theorem d_Sum_combined_115 : decode m_Sum_combined.2.1 115 = .ok (.ifCond .ge 7, 3) := by decide +kernel
theorem d_Sum_combined_118 : decode m_Sum_combined.2.1 118 = .ok (.lconst 1, 1) := by decide +kernel
theorem d_Sum_combined_119 : decode m_Sum_combined.2.1 119 = .ok (.goto 4, 3) := by decide +kernel
theorem d_Sum_combined_122 : decode m_Sum_combined.2.1 122 = .ok (.lconst 0, 1) := by decide +kernel
theorem d_Sum_combined_123 : decode m_Sum_combined.2.1 123 = .ok (.lreturn, 1) := by decide +kernel
theorem d_Sum_combined_124 : decode m_Sum_combined.2.1 124 = .ok (.lload_n 1, 1) := by decide +kernel
theorem d_Sum_combined_125 : decode m_Sum_combined.2.1 125 = .ok (.lload_n 3, 1) := by decide +kernel
theorem d_Sum_combined_126 : decode m_Sum_combined.2.1 126 = .ok (.lcmp, 1) := by decide +kernel
theorem d_Sum_combined_127 : decode m_Sum_combined.2.1 127 = .ok (.ifCond .le 7, 3) := by decide +kernel
theorem d_Sum_combined_130 : decode m_Sum_combined.2.1 130 = .ok (.lconst 1, 1) := by decide +kernel
theorem d_Sum_combined_131 : decode m_Sum_combined.2.1 131 = .ok (.goto 4, 3) := by decide +kernel
theorem d_Sum_combined_134 : decode m_Sum_combined.2.1 134 = .ok (.lconst 0, 1) := by decide +kernel
theorem d_Sum_combined_135 : decode m_Sum_combined.2.1 135 = .ok (.lreturn, 1) := by decide +kernel
theorem d_Sum_combined_136 : decode m_Sum_combined.2.1 136 = .ok (.lload_n 1, 1) := by decide +kernel
theorem d_Sum_combined_137 : decode m_Sum_combined.2.1 137 = .ok (.lload_n 3, 1) := by decide +kernel
theorem d_Sum_combined_138 : decode m_Sum_combined.2.1 138 = .ok (.lcmp, 1) := by decide +kernel
theorem d_Sum_combined_139 : decode m_Sum_combined.2.1 139 = .ok (.ifCond .ne 7, 3) := by decide +kernel
theorem d_Sum_combined_142 : decode m_Sum_combined.2.1 142 = .ok (.lconst 1, 1) := by decide +kernel
theorem d_Sum_combined_143 : decode m_Sum_combined.2.1 143 = .ok (.goto 4, 3) := by decide +kernel
theorem d_Sum_combined_146 : decode m_Sum_combined.2.1 146 = .ok (.lconst 0, 1) := by decide +kernel
theorem d_Sum_combined_147 : decode m_Sum_combined.2.1 147 = .ok (.lreturn, 1) := by decide +kernel
theorem d_Dee_init_0 : decode m_Dee_init.2.1 0 = .ok (.aload_n 0, 1) := by decide +kernel
theorem d_Dee_init_1 : decode m_Dee_init.2.1 1 = .ok (.invokespecial 3, 3) := by decide +kernel
theorem d_Dee_init_4 : decode m_Dee_init.2.1 4 = .ok (.aload_n 0, 1) := by decide +kernel
theorem d_Dee_init_5 : decode m_Dee_init.2.1 5 = .ok (.iconst 0, 1) := by decide +kernel
theorem d_Dee_init_6 : decode m_Dee_init.2.1 6 = .ok (.putfield 9, 3) := by decide +kernel
theorem d_Dee_init_9 : decode m_Dee_init.2.1 9 = .ok (.aload_n 0, 1) := by decide +kernel
theorem d_Dee_init_10 : decode m_Dee_init.2.1 10 = .ok (.bipush 16, 2) := by decide +kernel
theorem d_Dee_init_12 : decode m_Dee_init.2.1 12 = .ok (.newarray .int, 2) := by decide +kernel
theorem d_Dee_init_14 : decode m_Dee_init.2.1 14 = .ok (.putfield 15, 3) := by decide +kernel
theorem d_Dee_init_17 : decode m_Dee_init.2.1 17 = .ok (.aload_n 0, 1) := by decide +kernel
theorem d_Dee_init_18 : decode m_Dee_init.2.1 18 = .ok (.bipush 16, 2) := by decide +kernel
theorem d_Dee_init_20 : decode m_Dee_init.2.1 20 = .ok (.newarray .int, 2) := by decide +kernel
theorem d_Dee_init_22 : decode m_Dee_init.2.1 22 = .ok (.putfield 19, 3) := by decide +kernel
theorem d_Dee_init_25 : decode m_Dee_init.2.1 25 = .ok (.aload_n 0, 1) := by decide +kernel
theorem d_Dee_init_26 : decode m_Dee_init.2.1 26 = .ok (.bipush 16, 2) := by decide +kernel
theorem d_Dee_init_28 : decode m_Dee_init.2.1 28 = .ok (.newarray .int, 2) := by decide +kernel
theorem d_Dee_init_30 : decode m_Dee_init.2.1 30 = .ok (.putfield 22, 3) := by decide +kernel
theorem d_Dee_init_33 : decode m_Dee_init.2.1 33 = .ok (.aload_n 0, 1) := by decide +kernel
theorem d_Dee_init_34 : decode m_Dee_init.2.1 34 = .ok (.aload_n 1, 1) := by decide +kernel
theorem d_Dee_init_35 : decode m_Dee_init.2.1 35 = .ok (.putfield 25, 3) := by decide +kernel
theorem d_Dee_init_38 : decode m_Dee_init.2.1 38 = .ok (.aload_n 0, 1) := by decide +kernel
theorem d_Dee_init_39 : decode m_Dee_init.2.1 39 = .ok (.aload_n 2, 1) := by decide +kernel
theorem d_Dee_init_40 : decode m_Dee_init.2.1 40 = .ok (.putfield 29, 3) := by decide +kernel
theorem d_Dee_init_43 : decode m_Dee_init.2.1 43 = .ok (.return_, 1) := by decide +kernel
theorem d_Dee_forget_0 : decode m_Dee_forget.2.1 0 = .ok (.aload_n 0, 1) := by decide +kernel
theorem d_Dee_forget_1 : decode m_Dee_forget.2.1 1 = .ok (.iconst 0, 1) := by decide +kernel
theorem d_Dee_forget_2 : decode m_Dee_forget.2.1 2 = .ok (.putfield 9, 3) := by decide +kernel
theorem d_Dee_forget_5 : decode m_Dee_forget.2.1 5 = .ok (.return_, 1) := by decide +kernel
theorem d_Dee_copyFrom_0 : decode m_Dee_copyFrom.2.1 0 = .ok (.aload_n 0, 1) := by decide +kernel
theorem d_Dee_copyFrom_1 : decode m_Dee_copyFrom.2.1 1 = .ok (.aload_n 1, 1) := by decide +kernel
theorem d_Dee_copyFrom_2 : decode m_Dee_copyFrom.2.1 2 = .ok (.getfield 9, 3) := by decide +kernel
theorem d_Dee_copyFrom_5 : decode m_Dee_copyFrom.2.1 5 = .ok (.putfield 9, 3) := by decide +kernel
theorem d_Dee_copyFrom_8 : decode m_Dee_copyFrom.2.1 8 = .ok (.aload_n 1, 1) := by decide +kernel
theorem d_Dee_copyFrom_9 : decode m_Dee_copyFrom.2.1 9 = .ok (.getfield 15, 3) := by decide +kernel
theorem d_Dee_copyFrom_12 : decode m_Dee_copyFrom.2.1 12 = .ok (.iconst 0, 1) := by decide +kernel
theorem d_Dee_copyFrom_13 : decode m_Dee_copyFrom.2.1 13 = .ok (.aload_n 0, 1) := by decide +kernel
theorem d_Dee_copyFrom_14 : decode m_Dee_copyFrom.2.1 14 = .ok (.getfield 15, 3) := by decide +kernel
theorem d_Dee_copyFrom_17 : decode m_Dee_copyFrom.2.1 17 = .ok (.iconst 0, 1) := by decide +kernel
theorem d_Dee_copyFrom_18 : decode m_Dee_copyFrom.2.1 18 = .ok (.bipush 16, 2) := by decide +kernel
theorem d_Dee_copyFrom_20 : decode m_Dee_copyFrom.2.1 20 = .ok (.invokestatic 33, 3) := by decide +kernel
theorem d_Dee_copyFrom_23 : decode m_Dee_copyFrom.2.1 23 = .ok (.aload_n 1, 1) := by decide +kernel
theorem d_Dee_copyFrom_24 : decode m_Dee_copyFrom.2.1 24 = .ok (.getfield 19, 3) := by decide +kernel
theorem d_Dee_copyFrom_27 : decode m_Dee_copyFrom.2.1 27 = .ok (.iconst 0, 1) := by decide +kernel
theorem d_Dee_copyFrom_28 : decode m_Dee_copyFrom.2.1 28 = .ok (.aload_n 0, 1) := by decide +kernel
theorem d_Dee_copyFrom_29 : decode m_Dee_copyFrom.2.1 29 = .ok (.getfield 19, 3) := by decide +kernel
theorem d_Dee_copyFrom_32 : decode m_Dee_copyFrom.2.1 32 = .ok (.iconst 0, 1) := by decide +kernel
theorem d_Dee_copyFrom_33 : decode m_Dee_copyFrom.2.1 33 = .ok (.bipush 16, 2) := by decide +kernel
theorem d_Dee_copyFrom_35 : decode m_Dee_copyFrom.2.1 35 = .ok (.invokestatic 33, 3) := by decide +kernel
theorem d_Dee_copyFrom_38 : decode m_Dee_copyFrom.2.1 38 = .ok (.aload_n 1, 1) := by decide +kernel
theorem d_Dee_copyFrom_39 : decode m_Dee_copyFrom.2.1 39 = .ok (.getfield 22, 3) := by decide +kernel
theorem d_Dee_copyFrom_42 : decode m_Dee_copyFrom.2.1 42 = .ok (.iconst 0, 1) := by decide +kernel
theorem d_Dee_copyFrom_43 : decode m_Dee_copyFrom.2.1 43 = .ok (.aload_n 0, 1) := by decide +kernel
theorem d_Dee_copyFrom_44 : decode m_Dee_copyFrom.2.1 44 = .ok (.getfield 22, 3) := by decide +kernel
theorem d_Dee_copyFrom_47 : decode m_Dee_copyFrom.2.1 47 = .ok (.iconst 0, 1) := by decide +kernel
theorem d_Dee_copyFrom_48 : decode m_Dee_copyFrom.2.1 48 = .ok (.bipush 16, 2) := by decide +kernel
theorem d_Dee_copyFrom_50 : decode m_Dee_copyFrom.2.1 50 = .ok (.invokestatic 33, 3) := by decide +kernel
theorem d_Dee_copyFrom_53 : decode m_Dee_copyFrom.2.1 53 = .ok (.return_, 1) := by decide +kernel
theorem d_Dee_putSign_0 : decode m_Dee_putSign.2.1 0 = .ok (.iload_n 1, 1) := by decide +kernel
theorem d_Dee_putSign_1 : decode m_Dee_putSign.2.1 1 = .ok (.ifCond .lt 9, 3) := by decide +kernel
theorem d_Dee_putSign_4 : decode m_Dee_putSign.2.1 4 = .ok (.iload_n 1, 1) := by decide +kernel
theorem d_Dee_putSign_5 : decode m_Dee_putSign.2.1 5 = .ok (.bipush 12, 2) := by decide +kernel
theorem d_Dee_putSign_7 : decode m_Dee_putSign.2.1 7 = .ok (.if_icmp .lt 5, 3) := by decide +kernel
theorem d_Dee_putSign_10 : decode m_Dee_putSign.2.1 10 = .ok (.iconst (-1), 1) := by decide +kernel
theorem d_Dee_putSign_11 : decode m_Dee_putSign.2.1 11 = .ok (.ireturn, 1) := by decide +kernel
theorem d_Dee_putSign_12 : decode m_Dee_putSign.2.1 12 = .ok (.iload_n 2, 1) := by decide +kernel
theorem d_Dee_putSign_13 : decode m_Dee_putSign.2.1 13 = .ok (.ifCond .lt 17, 3) := by decide +kernel
theorem d_Dee_putSign_16 : decode m_Dee_putSign.2.1 16 = .ok (.iload_n 2, 1) := by decide +kernel
theorem d_Dee_putSign_17 : decode m_Dee_putSign.2.1 17 = .ok (.aload_n 0, 1) := by decide +kernel
theorem d_Dee_putSign_18 : decode m_Dee_putSign.2.1 18 = .ok (.getfield 25, 3) := by decide +kernel
theorem d_Dee_putSign_21 : decode m_Dee_putSign.2.1 21 = .ok (.getfield 39, 3) := by decide +kernel
theorem d_Dee_putSign_24 : decode m_Dee_putSign.2.1 24 = .ok (.getfield 45, 3) := by decide +kernel
theorem d_Dee_putSign_27 : decode m_Dee_putSign.2.1 27 = .ok (.if_icmp .le 6, 3) := by decide +kernel
theorem d_Dee_putSign_30 : decode m_Dee_putSign.2.1 30 = .ok (.bipush (-2), 2) := by decide +kernel
theorem d_Dee_putSign_32 : decode m_Dee_putSign.2.1 32 = .ok (.ireturn, 1) := by decide +kernel
theorem d_Dee_putSign_33 : decode m_Dee_putSign.2.1 33 = .ok (.aload_n 0, 1) := by decide +kernel
theorem d_Dee_putSign_34 : decode m_Dee_putSign.2.1 34 = .ok (.getfield 25, 3) := by decide +kernel
theorem d_Dee_putSign_37 : decode m_Dee_putSign.2.1 37 = .ok (.aload_n 0, 1) := by decide +kernel
theorem d_Dee_putSign_38 : decode m_Dee_putSign.2.1 38 = .ok (.getfield 25, 3) := by decide +kernel
theorem d_Dee_putSign_41 : decode m_Dee_putSign.2.1 41 = .ok (.getfield 50, 3) := by decide +kernel
theorem d_Dee_putSign_44 : decode m_Dee_putSign.2.1 44 = .ok (.invokevirtual 53, 3) := by decide +kernel
theorem d_Dee_putSign_47 : decode m_Dee_putSign.2.1 47 = .ok (.astore_n 3, 1) := by decide +kernel
theorem d_Dee_putSign_48 : decode m_Dee_putSign.2.1 48 = .ok (.aload_n 0, 1) := by decide +kernel
theorem d_Dee_putSign_49 : decode m_Dee_putSign.2.1 49 = .ok (.getfield 29, 3) := by decide +kernel
theorem d_Dee_putSign_52 : decode m_Dee_putSign.2.1 52 = .ok (.aload_n 0, 1) := by decide +kernel
theorem d_Dee_putSign_53 : decode m_Dee_putSign.2.1 53 = .ok (.getfield 25, 3) := by decide +kernel
theorem d_Dee_putSign_56 : decode m_Dee_putSign.2.1 56 = .ok (.aload_n 3, 1) := by decide +kernel
theorem d_Dee_putSign_57 : decode m_Dee_putSign.2.1 57 = .ok (.iload_n 1, 1) := by decide +kernel
theorem d_Dee_putSign_58 : decode m_Dee_putSign.2.1 58 = .ok (.iload_n 2, 1) := by decide +kernel
theorem d_Dee_putSign_59 : decode m_Dee_putSign.2.1 59 = .ok (.invokevirtual 57, 3) := by decide +kernel
theorem d_Dee_putSign_62 : decode m_Dee_putSign.2.1 62 = .ok (.ifCond .eq 6, 3) := by decide +kernel
theorem d_Dee_putSign_65 : decode m_Dee_putSign.2.1 65 = .ok (.bipush (-3), 2) := by decide +kernel
theorem d_Dee_putSign_67 : decode m_Dee_putSign.2.1 67 = .ok (.ireturn, 1) := by decide +kernel
theorem d_Dee_putSign_68 : decode m_Dee_putSign.2.1 68 = .ok (.aload_n 0, 1) := by decide +kernel
theorem d_Dee_putSign_69 : decode m_Dee_putSign.2.1 69 = .ok (.getfield 25, 3) := by decide +kernel
theorem d_Dee_putSign_72 : decode m_Dee_putSign.2.1 72 = .ok (.getfield 39, 3) := by decide +kernel
theorem d_Dee_putSign_75 : decode m_Dee_putSign.2.1 75 = .ok (.getfield 45, 3) := by decide +kernel
theorem d_Dee_putSign_78 : decode m_Dee_putSign.2.1 78 = .ok (.bipush 20, 2) := by decide +kernel
theorem d_Dee_putSign_80 : decode m_Dee_putSign.2.1 80 = .ok (.if_icmp .lt 6, 3) := by decide +kernel
theorem d_Dee_putSign_83 : decode m_Dee_putSign.2.1 83 = .ok (.bipush (-5), 2) := by decide +kernel
theorem d_Dee_putSign_85 : decode m_Dee_putSign.2.1 85 = .ok (.ireturn, 1) := by decide +kernel
theorem d_Dee_putSign_86 : decode m_Dee_putSign.2.1 86 = .ok (.aload_n 0, 1) := by decide +kernel
theorem d_Dee_putSign_87 : decode m_Dee_putSign.2.1 87 = .ok (.getfield 29, 3) := by decide +kernel
theorem d_Dee_putSign_90 : decode m_Dee_putSign.2.1 90 = .ok (.aload_n 0, 1) := by decide +kernel
theorem d_Dee_putSign_91 : decode m_Dee_putSign.2.1 91 = .ok (.getfield 25, 3) := by decide +kernel
theorem d_Dee_putSign_94 : decode m_Dee_putSign.2.1 94 = .ok (.aload_n 3, 1) := by decide +kernel
theorem d_Dee_putSign_95 : decode m_Dee_putSign.2.1 95 = .ok (.iconst 0, 1) := by decide +kernel
theorem d_Dee_putSign_96 : decode m_Dee_putSign.2.1 96 = .ok (.iload_n 1, 1) := by decide +kernel
theorem d_Dee_putSign_97 : decode m_Dee_putSign.2.1 97 = .ok (.iload_n 2, 1) := by decide +kernel
theorem d_Dee_putSign_98 : decode m_Dee_putSign.2.1 98 = .ok (.invokevirtual 63, 3) := by decide +kernel
theorem d_Dee_putSign_101 : decode m_Dee_putSign.2.1 101 = .ok (.istore 4, 2) := by decide +kernel
theorem d_Dee_putSign_103 : decode m_Dee_putSign.2.1 103 = .ok (.aload_n 0, 1) := by decide +kernel
theorem d_Dee_putSign_104 : decode m_Dee_putSign.2.1 104 = .ok (.getfield 25, 3) := by decide +kernel
theorem d_Dee_putSign_107 : decode m_Dee_putSign.2.1 107 = .ok (.getfield 39, 3) := by decide +kernel
theorem d_Dee_putSign_110 : decode m_Dee_putSign.2.1 110 = .ok (.iload_n 1, 1) := by decide +kernel
theorem d_Dee_putSign_111 : decode m_Dee_putSign.2.1 111 = .ok (.iload_n 2, 1) := by decide +kernel
theorem d_Dee_putSign_112 : decode m_Dee_putSign.2.1 112 = .ok (.invokevirtual 67, 3) := by decide +kernel
theorem d_Dee_putSign_115 : decode m_Dee_putSign.2.1 115 = .ok (.aload_n 0, 1) := by decide +kernel
theorem d_Dee_putSign_116 : decode m_Dee_putSign.2.1 116 = .ok (.iconst 0, 1) := by decide +kernel
theorem d_Dee_putSign_117 : decode m_Dee_putSign.2.1 117 = .ok (.iload_n 2, 1) := by decide +kernel
theorem d_Dee_putSign_118 : decode m_Dee_putSign.2.1 118 = .ok (.iload_n 1, 1) := by decide +kernel
theorem d_Dee_putSign_119 : decode m_Dee_putSign.2.1 119 = .ok (.invokevirtual 71, 3) := by decide +kernel
theorem d_Dee_putSign_122 : decode m_Dee_putSign.2.1 122 = .ok (.iload 4, 2) := by decide +kernel
theorem d_Dee_putSign_124 : decode m_Dee_putSign.2.1 124 = .ok (.ireturn, 1) := by decide +kernel
theorem d_Dee_remember_0 : decode m_Dee_remember.2.1 0 = .ok (.aload_n 0, 1) := by decide +kernel
theorem d_Dee_remember_1 : decode m_Dee_remember.2.1 1 = .ok (.getfield 9, 3) := by decide +kernel
theorem d_Dee_remember_4 : decode m_Dee_remember.2.1 4 = .ok (.bipush 16, 2) := by decide +kernel
theorem d_Dee_remember_6 : decode m_Dee_remember.2.1 6 = .ok (.if_icmp .ne 64, 3) := by decide +kernel
theorem d_Dee_remember_9 : decode m_Dee_remember.2.1 9 = .ok (.aload_n 0, 1) := by decide +kernel
theorem d_Dee_remember_10 : decode m_Dee_remember.2.1 10 = .ok (.dup, 1) := by decide +kernel
theorem d_Dee_remember_11 : decode m_Dee_remember.2.1 11 = .ok (.getfield 9, 3) := by decide +kernel
theorem d_Dee_remember_14 : decode m_Dee_remember.2.1 14 = .ok (.iconst 1, 1) := by decide +kernel
theorem d_Dee_remember_15 : decode m_Dee_remember.2.1 15 = .ok (.isub, 1) := by decide +kernel
theorem d_Dee_remember_16 : decode m_Dee_remember.2.1 16 = .ok (.putfield 9, 3) := by decide +kernel
theorem d_Dee_remember_19 : decode m_Dee_remember.2.1 19 = .ok (.aload_n 0, 1) := by decide +kernel
theorem d_Dee_remember_20 : decode m_Dee_remember.2.1 20 = .ok (.getfield 15, 3) := by decide +kernel
theorem d_Dee_remember_23 : decode m_Dee_remember.2.1 23 = .ok (.iconst 1, 1) := by decide +kernel
theorem d_Dee_remember_24 : decode m_Dee_remember.2.1 24 = .ok (.aload_n 0, 1) := by decide +kernel
theorem d_Dee_remember_25 : decode m_Dee_remember.2.1 25 = .ok (.getfield 15, 3) := by decide +kernel
theorem d_Dee_remember_28 : decode m_Dee_remember.2.1 28 = .ok (.iconst 0, 1) := by decide +kernel
theorem d_Dee_remember_29 : decode m_Dee_remember.2.1 29 = .ok (.aload_n 0, 1) := by decide +kernel
theorem d_Dee_remember_30 : decode m_Dee_remember.2.1 30 = .ok (.getfield 9, 3) := by decide +kernel
theorem d_Dee_remember_33 : decode m_Dee_remember.2.1 33 = .ok (.invokestatic 33, 3) := by decide +kernel
theorem d_Dee_remember_36 : decode m_Dee_remember.2.1 36 = .ok (.aload_n 0, 1) := by decide +kernel
theorem d_Dee_remember_37 : decode m_Dee_remember.2.1 37 = .ok (.getfield 19, 3) := by decide +kernel
theorem d_Dee_remember_40 : decode m_Dee_remember.2.1 40 = .ok (.iconst 1, 1) := by decide +kernel
theorem d_Dee_remember_41 : decode m_Dee_remember.2.1 41 = .ok (.aload_n 0, 1) := by decide +kernel
theorem d_Dee_remember_42 : decode m_Dee_remember.2.1 42 = .ok (.getfield 19, 3) := by decide +kernel
theorem d_Dee_remember_45 : decode m_Dee_remember.2.1 45 = .ok (.iconst 0, 1) := by decide +kernel
theorem d_Dee_remember_46 : decode m_Dee_remember.2.1 46 = .ok (.aload_n 0, 1) := by decide +kernel
theorem d_Dee_remember_47 : decode m_Dee_remember.2.1 47 = .ok (.getfield 9, 3) := by decide +kernel
theorem d_Dee_remember_50 : decode m_Dee_remember.2.1 50 = .ok (.invokestatic 33, 3) := by decide +kernel
theorem d_Dee_remember_53 : decode m_Dee_remember.2.1 53 = .ok (.aload_n 0, 1) := by decide +kernel
theorem d_Dee_remember_54 : decode m_Dee_remember.2.1 54 = .ok (.getfield 22, 3) := by decide +kernel
theorem d_Dee_remember_57 : decode m_Dee_remember.2.1 57 = .ok (.iconst 1, 1) := by decide +kernel
theorem d_Dee_remember_58 : decode m_Dee_remember.2.1 58 = .ok (.aload_n 0, 1) := by decide +kernel
theorem d_Dee_remember_59 : decode m_Dee_remember.2.1 59 = .ok (.getfield 22, 3) := by decide +kernel
theorem d_Dee_remember_62 : decode m_Dee_remember.2.1 62 = .ok (.iconst 0, 1) := by decide +kernel
theorem d_Dee_remember_63 : decode m_Dee_remember.2.1 63 = .ok (.aload_n 0, 1) := by decide +kernel
theorem d_Dee_remember_64 : decode m_Dee_remember.2.1 64 = .ok (.getfield 9, 3) := by decide +kernel
theorem d_Dee_remember_67 : decode m_Dee_remember.2.1 67 = .ok (.invokestatic 33, 3) := by decide +kernel
theorem d_Dee_remember_70 : decode m_Dee_remember.2.1 70 = .ok (.aload_n 0, 1) := by decide +kernel
theorem d_Dee_remember_71 : decode m_Dee_remember.2.1 71 = .ok (.getfield 15, 3) := by decide +kernel
theorem d_Dee_remember_74 : decode m_Dee_remember.2.1 74 = .ok (.aload_n 0, 1) := by decide +kernel
theorem d_Dee_remember_75 : decode m_Dee_remember.2.1 75 = .ok (.getfield 9, 3) := by decide +kernel
theorem d_Dee_remember_78 : decode m_Dee_remember.2.1 78 = .ok (.iload_n 1, 1) := by decide +kernel
theorem d_Dee_remember_79 : decode m_Dee_remember.2.1 79 = .ok (.iastore, 1) := by decide +kernel
theorem d_Dee_remember_80 : decode m_Dee_remember.2.1 80 = .ok (.aload_n 0, 1) := by decide +kernel
theorem d_Dee_remember_81 : decode m_Dee_remember.2.1 81 = .ok (.getfield 19, 3) := by decide +kernel
theorem d_Dee_remember_84 : decode m_Dee_remember.2.1 84 = .ok (.aload_n 0, 1) := by decide +kernel
theorem d_Dee_remember_85 : decode m_Dee_remember.2.1 85 = .ok (.getfield 9, 3) := by decide +kernel
theorem d_Dee_remember_88 : decode m_Dee_remember.2.1 88 = .ok (.iload_n 2, 1) := by decide +kernel
theorem d_Dee_remember_89 : decode m_Dee_remember.2.1 89 = .ok (.iastore, 1) := by decide +kernel
theorem d_Dee_remember_90 : decode m_Dee_remember.2.1 90 = .ok (.aload_n 0, 1) := by decide +kernel
theorem d_Dee_remember_91 : decode m_Dee_remember.2.1 91 = .ok (.getfield 22, 3) := by decide +kernel
theorem d_Dee_remember_94 : decode m_Dee_remember.2.1 94 = .ok (.aload_n 0, 1) := by decide +kernel
theorem d_Dee_remember_95 : decode m_Dee_remember.2.1 95 = .ok (.getfield 9, 3) := by decide +kernel
theorem d_Dee_remember_98 : decode m_Dee_remember.2.1 98 = .ok (.iload_n 3, 1) := by decide +kernel
theorem d_Dee_remember_99 : decode m_Dee_remember.2.1 99 = .ok (.iastore, 1) := by decide +kernel
theorem d_Dee_remember_100 : decode m_Dee_remember.2.1 100 = .ok (.aload_n 0, 1) := by decide +kernel
theorem d_Dee_remember_101 : decode m_Dee_remember.2.1 101 = .ok (.dup, 1) := by decide +kernel
theorem d_Dee_remember_102 : decode m_Dee_remember.2.1 102 = .ok (.getfield 9, 3) := by decide +kernel
theorem d_Dee_remember_105 : decode m_Dee_remember.2.1 105 = .ok (.iconst 1, 1) := by decide +kernel
theorem d_Dee_remember_106 : decode m_Dee_remember.2.1 106 = .ok (.iadd, 1) := by decide +kernel
theorem d_Dee_remember_107 : decode m_Dee_remember.2.1 107 = .ok (.putfield 9, 3) := by decide +kernel
theorem d_Dee_remember_110 : decode m_Dee_remember.2.1 110 = .ok (.return_, 1) := by decide +kernel
theorem d_Dee_cutSign_0 : decode m_Dee_cutSign.2.1 0 = .ok (.aload_n 0, 1) := by decide +kernel
theorem d_Dee_cutSign_1 : decode m_Dee_cutSign.2.1 1 = .ok (.getfield 25, 3) := by decide +kernel
theorem d_Dee_cutSign_4 : decode m_Dee_cutSign.2.1 4 = .ok (.getfield 39, 3) := by decide +kernel
theorem d_Dee_cutSign_7 : decode m_Dee_cutSign.2.1 7 = .ok (.iload_n 1, 1) := by decide +kernel
theorem d_Dee_cutSign_8 : decode m_Dee_cutSign.2.1 8 = .ok (.invokevirtual 75, 3) := by decide +kernel
theorem d_Dee_cutSign_11 : decode m_Dee_cutSign.2.1 11 = .ok (.ifCond .ne 6, 3) := by decide +kernel
theorem d_Dee_cutSign_14 : decode m_Dee_cutSign.2.1 14 = .ok (.bipush (-2), 2) := by decide +kernel
theorem d_Dee_cutSign_16 : decode m_Dee_cutSign.2.1 16 = .ok (.ireturn, 1) := by decide +kernel
theorem d_Dee_cutSign_17 : decode m_Dee_cutSign.2.1 17 = .ok (.aload_n 0, 1) := by decide +kernel
theorem d_Dee_cutSign_18 : decode m_Dee_cutSign.2.1 18 = .ok (.getfield 25, 3) := by decide +kernel
theorem d_Dee_cutSign_21 : decode m_Dee_cutSign.2.1 21 = .ok (.getfield 39, 3) := by decide +kernel
theorem d_Dee_cutSign_24 : decode m_Dee_cutSign.2.1 24 = .ok (.getfield 79, 3) := by decide +kernel
theorem d_Dee_cutSign_27 : decode m_Dee_cutSign.2.1 27 = .ok (.iload_n 1, 1) := by decide +kernel
theorem d_Dee_cutSign_28 : decode m_Dee_cutSign.2.1 28 = .ok (.iaload, 1) := by decide +kernel
theorem d_Dee_cutSign_29 : decode m_Dee_cutSign.2.1 29 = .ok (.istore_n 2, 1) := by decide +kernel
theorem d_Dee_cutSign_30 : decode m_Dee_cutSign.2.1 30 = .ok (.aload_n 0, 1) := by decide +kernel
theorem d_Dee_cutSign_31 : decode m_Dee_cutSign.2.1 31 = .ok (.getfield 29, 3) := by decide +kernel
theorem d_Dee_cutSign_34 : decode m_Dee_cutSign.2.1 34 = .ok (.aload_n 0, 1) := by decide +kernel
theorem d_Dee_cutSign_35 : decode m_Dee_cutSign.2.1 35 = .ok (.getfield 25, 3) := by decide +kernel
theorem d_Dee_cutSign_38 : decode m_Dee_cutSign.2.1 38 = .ok (.aload_n 0, 1) := by decide +kernel
theorem d_Dee_cutSign_39 : decode m_Dee_cutSign.2.1 39 = .ok (.getfield 25, 3) := by decide +kernel
theorem d_Dee_cutSign_42 : decode m_Dee_cutSign.2.1 42 = .ok (.aload_n 0, 1) := by decide +kernel
theorem d_Dee_cutSign_43 : decode m_Dee_cutSign.2.1 43 = .ok (.getfield 25, 3) := by decide +kernel
theorem d_Dee_cutSign_46 : decode m_Dee_cutSign.2.1 46 = .ok (.getfield 50, 3) := by decide +kernel
theorem d_Dee_cutSign_49 : decode m_Dee_cutSign.2.1 49 = .ok (.invokevirtual 53, 3) := by decide +kernel
theorem d_Dee_cutSign_52 : decode m_Dee_cutSign.2.1 52 = .ok (.iconst 1, 1) := by decide +kernel
theorem d_Dee_cutSign_53 : decode m_Dee_cutSign.2.1 53 = .ok (.iload_n 2, 1) := by decide +kernel
theorem d_Dee_cutSign_54 : decode m_Dee_cutSign.2.1 54 = .ok (.iload_n 1, 1) := by decide +kernel
theorem d_Dee_cutSign_55 : decode m_Dee_cutSign.2.1 55 = .ok (.invokevirtual 63, 3) := by decide +kernel
theorem d_Dee_cutSign_58 : decode m_Dee_cutSign.2.1 58 = .ok (.istore_n 3, 1) := by decide +kernel
theorem d_Dee_cutSign_59 : decode m_Dee_cutSign.2.1 59 = .ok (.aload_n 0, 1) := by decide +kernel
theorem d_Dee_cutSign_60 : decode m_Dee_cutSign.2.1 60 = .ok (.getfield 25, 3) := by decide +kernel
theorem d_Dee_cutSign_63 : decode m_Dee_cutSign.2.1 63 = .ok (.getfield 39, 3) := by decide +kernel
theorem d_Dee_cutSign_66 : decode m_Dee_cutSign.2.1 66 = .ok (.iload_n 1, 1) := by decide +kernel
theorem d_Dee_cutSign_67 : decode m_Dee_cutSign.2.1 67 = .ok (.invokevirtual 80, 3) := by decide +kernel
theorem d_Dee_cutSign_70 : decode m_Dee_cutSign.2.1 70 = .ok (.aload_n 0, 1) := by decide +kernel
theorem d_Dee_cutSign_71 : decode m_Dee_cutSign.2.1 71 = .ok (.iconst 1, 1) := by decide +kernel
theorem d_Dee_cutSign_72 : decode m_Dee_cutSign.2.1 72 = .ok (.iload_n 1, 1) := by decide +kernel
theorem d_Dee_cutSign_73 : decode m_Dee_cutSign.2.1 73 = .ok (.iload_n 2, 1) := by decide +kernel
theorem d_Dee_cutSign_74 : decode m_Dee_cutSign.2.1 74 = .ok (.invokevirtual 71, 3) := by decide +kernel
theorem d_Dee_cutSign_77 : decode m_Dee_cutSign.2.1 77 = .ok (.iload_n 3, 1) := by decide +kernel
theorem d_Dee_cutSign_78 : decode m_Dee_cutSign.2.1 78 = .ok (.ireturn, 1) := by decide +kernel
theorem d_Dee_turnSign_0 : decode m_Dee_turnSign.2.1 0 = .ok (.iload_n 2, 1) := by decide +kernel
theorem d_Dee_turnSign_1 : decode m_Dee_turnSign.2.1 1 = .ok (.ifCond .lt 9, 3) := by decide +kernel
theorem d_Dee_turnSign_4 : decode m_Dee_turnSign.2.1 4 = .ok (.iload_n 2, 1) := by decide +kernel
theorem d_Dee_turnSign_5 : decode m_Dee_turnSign.2.1 5 = .ok (.bipush 12, 2) := by decide +kernel
theorem d_Dee_turnSign_7 : decode m_Dee_turnSign.2.1 7 = .ok (.if_icmp .lt 5, 3) := by decide +kernel
theorem d_Dee_turnSign_10 : decode m_Dee_turnSign.2.1 10 = .ok (.iconst (-1), 1) := by decide +kernel
theorem d_Dee_turnSign_11 : decode m_Dee_turnSign.2.1 11 = .ok (.ireturn, 1) := by decide +kernel
theorem d_Dee_turnSign_12 : decode m_Dee_turnSign.2.1 12 = .ok (.aload_n 0, 1) := by decide +kernel
theorem d_Dee_turnSign_13 : decode m_Dee_turnSign.2.1 13 = .ok (.getfield 25, 3) := by decide +kernel
theorem d_Dee_turnSign_16 : decode m_Dee_turnSign.2.1 16 = .ok (.getfield 39, 3) := by decide +kernel
theorem d_Dee_turnSign_19 : decode m_Dee_turnSign.2.1 19 = .ok (.iload_n 1, 1) := by decide +kernel
theorem d_Dee_turnSign_20 : decode m_Dee_turnSign.2.1 20 = .ok (.invokevirtual 75, 3) := by decide +kernel
theorem d_Dee_turnSign_23 : decode m_Dee_turnSign.2.1 23 = .ok (.ifCond .ne 6, 3) := by decide +kernel
theorem d_Dee_turnSign_26 : decode m_Dee_turnSign.2.1 26 = .ok (.bipush (-2), 2) := by decide +kernel
theorem d_Dee_turnSign_28 : decode m_Dee_turnSign.2.1 28 = .ok (.ireturn, 1) := by decide +kernel
theorem d_Dee_turnSign_29 : decode m_Dee_turnSign.2.1 29 = .ok (.aload_n 0, 1) := by decide +kernel
theorem d_Dee_turnSign_30 : decode m_Dee_turnSign.2.1 30 = .ok (.getfield 25, 3) := by decide +kernel
theorem d_Dee_turnSign_33 : decode m_Dee_turnSign.2.1 33 = .ok (.getfield 39, 3) := by decide +kernel
theorem d_Dee_turnSign_36 : decode m_Dee_turnSign.2.1 36 = .ok (.getfield 79, 3) := by decide +kernel
theorem d_Dee_turnSign_39 : decode m_Dee_turnSign.2.1 39 = .ok (.iload_n 1, 1) := by decide +kernel
theorem d_Dee_turnSign_40 : decode m_Dee_turnSign.2.1 40 = .ok (.iaload, 1) := by decide +kernel
theorem d_Dee_turnSign_41 : decode m_Dee_turnSign.2.1 41 = .ok (.istore_n 3, 1) := by decide +kernel
theorem d_Dee_turnSign_42 : decode m_Dee_turnSign.2.1 42 = .ok (.iload_n 3, 1) := by decide +kernel
theorem d_Dee_turnSign_43 : decode m_Dee_turnSign.2.1 43 = .ok (.iload_n 2, 1) := by decide +kernel
theorem d_Dee_turnSign_44 : decode m_Dee_turnSign.2.1 44 = .ok (.if_icmp .eq 33, 3) := by decide +kernel
theorem d_Dee_turnSign_47 : decode m_Dee_turnSign.2.1 47 = .ok (.aload_n 0, 1) := by decide +kernel
theorem d_Dee_turnSign_48 : decode m_Dee_turnSign.2.1 48 = .ok (.getfield 29, 3) := by decide +kernel
theorem d_Dee_turnSign_51 : decode m_Dee_turnSign.2.1 51 = .ok (.aload_n 0, 1) := by decide +kernel
theorem d_Dee_turnSign_52 : decode m_Dee_turnSign.2.1 52 = .ok (.getfield 25, 3) := by decide +kernel
theorem d_Dee_turnSign_55 : decode m_Dee_turnSign.2.1 55 = .ok (.aload_n 0, 1) := by decide +kernel
theorem d_Dee_turnSign_56 : decode m_Dee_turnSign.2.1 56 = .ok (.getfield 25, 3) := by decide +kernel
theorem d_Dee_turnSign_59 : decode m_Dee_turnSign.2.1 59 = .ok (.aload_n 0, 1) := by decide +kernel
theorem d_Dee_turnSign_60 : decode m_Dee_turnSign.2.1 60 = .ok (.getfield 25, 3) := by decide +kernel
theorem d_Dee_turnSign_63 : decode m_Dee_turnSign.2.1 63 = .ok (.getfield 50, 3) := by decide +kernel
theorem d_Dee_turnSign_66 : decode m_Dee_turnSign.2.1 66 = .ok (.invokevirtual 53, 3) := by decide +kernel
theorem d_Dee_turnSign_69 : decode m_Dee_turnSign.2.1 69 = .ok (.iload_n 2, 1) := by decide +kernel
theorem d_Dee_turnSign_70 : decode m_Dee_turnSign.2.1 70 = .ok (.iload_n 1, 1) := by decide +kernel
theorem d_Dee_turnSign_71 : decode m_Dee_turnSign.2.1 71 = .ok (.invokevirtual 57, 3) := by decide +kernel
theorem d_Dee_turnSign_74 : decode m_Dee_turnSign.2.1 74 = .ok (.ifCond .eq 6, 3) := by decide +kernel
theorem d_Dee_turnSign_77 : decode m_Dee_turnSign.2.1 77 = .ok (.bipush (-3), 2) := by decide +kernel
theorem d_Dee_turnSign_79 : decode m_Dee_turnSign.2.1 79 = .ok (.ireturn, 1) := by decide +kernel
theorem d_Dee_turnSign_80 : decode m_Dee_turnSign.2.1 80 = .ok (.aload_n 0, 1) := by decide +kernel
theorem d_Dee_turnSign_81 : decode m_Dee_turnSign.2.1 81 = .ok (.getfield 25, 3) := by decide +kernel
theorem d_Dee_turnSign_84 : decode m_Dee_turnSign.2.1 84 = .ok (.getfield 39, 3) := by decide +kernel
theorem d_Dee_turnSign_87 : decode m_Dee_turnSign.2.1 87 = .ok (.iload_n 1, 1) := by decide +kernel
theorem d_Dee_turnSign_88 : decode m_Dee_turnSign.2.1 88 = .ok (.iload_n 2, 1) := by decide +kernel
theorem d_Dee_turnSign_89 : decode m_Dee_turnSign.2.1 89 = .ok (.invokevirtual 84, 3) := by decide +kernel
theorem d_Dee_turnSign_92 : decode m_Dee_turnSign.2.1 92 = .ok (.aload_n 0, 1) := by decide +kernel
theorem d_Dee_turnSign_93 : decode m_Dee_turnSign.2.1 93 = .ok (.iconst 2, 1) := by decide +kernel
theorem d_Dee_turnSign_94 : decode m_Dee_turnSign.2.1 94 = .ok (.iload_n 1, 1) := by decide +kernel
theorem d_Dee_turnSign_95 : decode m_Dee_turnSign.2.1 95 = .ok (.iload_n 3, 1) := by decide +kernel
theorem d_Dee_turnSign_96 : decode m_Dee_turnSign.2.1 96 = .ok (.invokevirtual 71, 3) := by decide +kernel
theorem d_Dee_turnSign_99 : decode m_Dee_turnSign.2.1 99 = .ok (.iload_n 3, 1) := by decide +kernel
theorem d_Dee_turnSign_100 : decode m_Dee_turnSign.2.1 100 = .ok (.ireturn, 1) := by decide +kernel
theorem d_Dee_passPage_0 : decode m_Dee_passPage.2.1 0 = .ok (.aload_n 0, 1) := by decide +kernel
theorem d_Dee_passPage_1 : decode m_Dee_passPage.2.1 1 = .ok (.getfield 25, 3) := by decide +kernel
theorem d_Dee_passPage_4 : decode m_Dee_passPage.2.1 4 = .ok (.getfield 87, 3) := by decide +kernel
theorem d_Dee_passPage_7 : decode m_Dee_passPage.2.1 7 = .ok (.iconst 0, 1) := by decide +kernel
theorem d_Dee_passPage_8 : decode m_Dee_passPage.2.1 8 = .ok (.iaload, 1) := by decide +kernel
theorem d_Dee_passPage_9 : decode m_Dee_passPage.2.1 9 = .ok (.sipush 999, 3) := by decide +kernel
theorem d_Dee_passPage_12 : decode m_Dee_passPage.2.1 12 = .ok (.if_icmp .lt 6, 3) := by decide +kernel
theorem d_Dee_passPage_15 : decode m_Dee_passPage.2.1 15 = .ok (.bipush (-3), 2) := by decide +kernel
theorem d_Dee_passPage_17 : decode m_Dee_passPage.2.1 17 = .ok (.ireturn, 1) := by decide +kernel
theorem d_Dee_passPage_18 : decode m_Dee_passPage.2.1 18 = .ok (.aload_n 0, 1) := by decide +kernel
theorem d_Dee_passPage_19 : decode m_Dee_passPage.2.1 19 = .ok (.getfield 25, 3) := by decide +kernel
theorem d_Dee_passPage_22 : decode m_Dee_passPage.2.1 22 = .ok (.getfield 87, 3) := by decide +kernel
theorem d_Dee_passPage_25 : decode m_Dee_passPage.2.1 25 = .ok (.iconst 0, 1) := by decide +kernel
theorem d_Dee_passPage_26 : decode m_Dee_passPage.2.1 26 = .ok (.dup2, 1) := by decide +kernel
theorem d_Dee_passPage_27 : decode m_Dee_passPage.2.1 27 = .ok (.iaload, 1) := by decide +kernel
theorem d_Dee_passPage_28 : decode m_Dee_passPage.2.1 28 = .ok (.iconst 1, 1) := by decide +kernel
theorem d_Dee_passPage_29 : decode m_Dee_passPage.2.1 29 = .ok (.iadd, 1) := by decide +kernel
theorem d_Dee_passPage_30 : decode m_Dee_passPage.2.1 30 = .ok (.iastore, 1) := by decide +kernel
theorem d_Dee_passPage_31 : decode m_Dee_passPage.2.1 31 = .ok (.aload_n 0, 1) := by decide +kernel
theorem d_Dee_passPage_32 : decode m_Dee_passPage.2.1 32 = .ok (.iconst 3, 1) := by decide +kernel
theorem d_Dee_passPage_33 : decode m_Dee_passPage.2.1 33 = .ok (.iconst 0, 1) := by decide +kernel
theorem d_Dee_passPage_34 : decode m_Dee_passPage.2.1 34 = .ok (.iconst 0, 1) := by decide +kernel
theorem d_Dee_passPage_35 : decode m_Dee_passPage.2.1 35 = .ok (.invokevirtual 71, 3) := by decide +kernel
theorem d_Dee_passPage_38 : decode m_Dee_passPage.2.1 38 = .ok (.aload_n 0, 1) := by decide +kernel
theorem d_Dee_passPage_39 : decode m_Dee_passPage.2.1 39 = .ok (.getfield 25, 3) := by decide +kernel
theorem d_Dee_passPage_42 : decode m_Dee_passPage.2.1 42 = .ok (.getfield 87, 3) := by decide +kernel
theorem d_Dee_passPage_45 : decode m_Dee_passPage.2.1 45 = .ok (.iconst 0, 1) := by decide +kernel
theorem d_Dee_passPage_46 : decode m_Dee_passPage.2.1 46 = .ok (.iaload, 1) := by decide +kernel
theorem d_Dee_passPage_47 : decode m_Dee_passPage.2.1 47 = .ok (.ireturn, 1) := by decide +kernel
theorem d_Dee_undoLatest_0 : decode m_Dee_undoLatest.2.1 0 = .ok (.aload_n 0, 1) := by decide +kernel
theorem d_Dee_undoLatest_1 : decode m_Dee_undoLatest.2.1 1 = .ok (.getfield 9, 3) := by decide +kernel
theorem d_Dee_undoLatest_4 : decode m_Dee_undoLatest.2.1 4 = .ok (.ifCond .ne 6, 3) := by decide +kernel
theorem d_Dee_undoLatest_7 : decode m_Dee_undoLatest.2.1 7 = .ok (.bipush (-3), 2) := by decide +kernel
theorem d_Dee_undoLatest_9 : decode m_Dee_undoLatest.2.1 9 = .ok (.ireturn, 1) := by decide +kernel
theorem d_Dee_undoLatest_10 : decode m_Dee_undoLatest.2.1 10 = .ok (.aload_n 0, 1) := by decide +kernel
theorem d_Dee_undoLatest_11 : decode m_Dee_undoLatest.2.1 11 = .ok (.dup, 1) := by decide +kernel
theorem d_Dee_undoLatest_12 : decode m_Dee_undoLatest.2.1 12 = .ok (.getfield 9, 3) := by decide +kernel
theorem d_Dee_undoLatest_15 : decode m_Dee_undoLatest.2.1 15 = .ok (.iconst 1, 1) := by decide +kernel
theorem d_Dee_undoLatest_16 : decode m_Dee_undoLatest.2.1 16 = .ok (.isub, 1) := by decide +kernel
theorem d_Dee_undoLatest_17 : decode m_Dee_undoLatest.2.1 17 = .ok (.putfield 9, 3) := by decide +kernel
theorem d_Dee_undoLatest_20 : decode m_Dee_undoLatest.2.1 20 = .ok (.aload_n 0, 1) := by decide +kernel
theorem d_Dee_undoLatest_21 : decode m_Dee_undoLatest.2.1 21 = .ok (.getfield 15, 3) := by decide +kernel
theorem d_Dee_undoLatest_24 : decode m_Dee_undoLatest.2.1 24 = .ok (.aload_n 0, 1) := by decide +kernel
theorem d_Dee_undoLatest_25 : decode m_Dee_undoLatest.2.1 25 = .ok (.getfield 9, 3) := by decide +kernel
theorem d_Dee_undoLatest_28 : decode m_Dee_undoLatest.2.1 28 = .ok (.iaload, 1) := by decide +kernel
theorem d_Dee_undoLatest_29 : decode m_Dee_undoLatest.2.1 29 = .ok (.tableswitch 111 0 2 #[27, 49, 80], 27) := by decide +kernel
theorem d_Dee_undoLatest_56 : decode m_Dee_undoLatest.2.1 56 = .ok (.aload_n 0, 1) := by decide +kernel
theorem d_Dee_undoLatest_57 : decode m_Dee_undoLatest.2.1 57 = .ok (.getfield 25, 3) := by decide +kernel
theorem d_Dee_undoLatest_60 : decode m_Dee_undoLatest.2.1 60 = .ok (.getfield 39, 3) := by decide +kernel
theorem d_Dee_undoLatest_63 : decode m_Dee_undoLatest.2.1 63 = .ok (.aload_n 0, 1) := by decide +kernel
theorem d_Dee_undoLatest_64 : decode m_Dee_undoLatest.2.1 64 = .ok (.getfield 19, 3) := by decide +kernel
theorem d_Dee_undoLatest_67 : decode m_Dee_undoLatest.2.1 67 = .ok (.aload_n 0, 1) := by decide +kernel
theorem d_Dee_undoLatest_68 : decode m_Dee_undoLatest.2.1 68 = .ok (.getfield 9, 3) := by decide +kernel
theorem d_Dee_undoLatest_71 : decode m_Dee_undoLatest.2.1 71 = .ok (.iaload, 1) := by decide +kernel
theorem d_Dee_undoLatest_72 : decode m_Dee_undoLatest.2.1 72 = .ok (.invokevirtual 80, 3) := by decide +kernel
theorem d_Dee_undoLatest_75 : decode m_Dee_undoLatest.2.1 75 = .ok (.goto 78, 3) := by decide +kernel
theorem d_Dee_undoLatest_78 : decode m_Dee_undoLatest.2.1 78 = .ok (.aload_n 0, 1) := by decide +kernel
theorem d_Dee_undoLatest_79 : decode m_Dee_undoLatest.2.1 79 = .ok (.getfield 25, 3) := by decide +kernel
theorem d_Dee_undoLatest_82 : decode m_Dee_undoLatest.2.1 82 = .ok (.getfield 39, 3) := by decide +kernel
theorem d_Dee_undoLatest_85 : decode m_Dee_undoLatest.2.1 85 = .ok (.aload_n 0, 1) := by decide +kernel
theorem d_Dee_undoLatest_86 : decode m_Dee_undoLatest.2.1 86 = .ok (.getfield 22, 3) := by decide +kernel
theorem d_Dee_undoLatest_89 : decode m_Dee_undoLatest.2.1 89 = .ok (.aload_n 0, 1) := by decide +kernel
theorem d_Dee_undoLatest_90 : decode m_Dee_undoLatest.2.1 90 = .ok (.getfield 9, 3) := by decide +kernel
theorem d_Dee_undoLatest_93 : decode m_Dee_undoLatest.2.1 93 = .ok (.iaload, 1) := by decide +kernel
theorem d_Dee_undoLatest_94 : decode m_Dee_undoLatest.2.1 94 = .ok (.aload_n 0, 1) := by decide +kernel
theorem d_Dee_undoLatest_95 : decode m_Dee_undoLatest.2.1 95 = .ok (.getfield 19, 3) := by decide +kernel
theorem d_Dee_undoLatest_98 : decode m_Dee_undoLatest.2.1 98 = .ok (.aload_n 0, 1) := by decide +kernel
theorem d_Dee_undoLatest_99 : decode m_Dee_undoLatest.2.1 99 = .ok (.getfield 9, 3) := by decide +kernel
theorem d_Dee_undoLatest_102 : decode m_Dee_undoLatest.2.1 102 = .ok (.iaload, 1) := by decide +kernel
theorem d_Dee_undoLatest_103 : decode m_Dee_undoLatest.2.1 103 = .ok (.invokevirtual 67, 3) := by decide +kernel
theorem d_Dee_undoLatest_106 : decode m_Dee_undoLatest.2.1 106 = .ok (.goto 47, 3) := by decide +kernel
theorem d_Dee_undoLatest_109 : decode m_Dee_undoLatest.2.1 109 = .ok (.aload_n 0, 1) := by decide +kernel
theorem d_Dee_undoLatest_110 : decode m_Dee_undoLatest.2.1 110 = .ok (.getfield 25, 3) := by decide +kernel
theorem d_Dee_undoLatest_113 : decode m_Dee_undoLatest.2.1 113 = .ok (.getfield 39, 3) := by decide +kernel
theorem d_Dee_undoLatest_116 : decode m_Dee_undoLatest.2.1 116 = .ok (.aload_n 0, 1) := by decide +kernel
theorem d_Dee_undoLatest_117 : decode m_Dee_undoLatest.2.1 117 = .ok (.getfield 19, 3) := by decide +kernel
theorem d_Dee_undoLatest_120 : decode m_Dee_undoLatest.2.1 120 = .ok (.aload_n 0, 1) := by decide +kernel
theorem d_Dee_undoLatest_121 : decode m_Dee_undoLatest.2.1 121 = .ok (.getfield 9, 3) := by decide +kernel
theorem d_Dee_undoLatest_124 : decode m_Dee_undoLatest.2.1 124 = .ok (.iaload, 1) := by decide +kernel
theorem d_Dee_undoLatest_125 : decode m_Dee_undoLatest.2.1 125 = .ok (.aload_n 0, 1) := by decide +kernel
theorem d_Dee_undoLatest_126 : decode m_Dee_undoLatest.2.1 126 = .ok (.getfield 22, 3) := by decide +kernel
theorem d_Dee_undoLatest_129 : decode m_Dee_undoLatest.2.1 129 = .ok (.aload_n 0, 1) := by decide +kernel
theorem d_Dee_undoLatest_130 : decode m_Dee_undoLatest.2.1 130 = .ok (.getfield 9, 3) := by decide +kernel
theorem d_Dee_undoLatest_133 : decode m_Dee_undoLatest.2.1 133 = .ok (.iaload, 1) := by decide +kernel
theorem d_Dee_undoLatest_134 : decode m_Dee_undoLatest.2.1 134 = .ok (.invokevirtual 84, 3) := by decide +kernel
theorem d_Dee_undoLatest_137 : decode m_Dee_undoLatest.2.1 137 = .ok (.goto 16, 3) := by decide +kernel
theorem d_Dee_undoLatest_140 : decode m_Dee_undoLatest.2.1 140 = .ok (.aload_n 0, 1) := by decide +kernel
theorem d_Dee_undoLatest_141 : decode m_Dee_undoLatest.2.1 141 = .ok (.getfield 25, 3) := by decide +kernel
theorem d_Dee_undoLatest_144 : decode m_Dee_undoLatest.2.1 144 = .ok (.getfield 87, 3) := by decide +kernel
theorem d_Dee_undoLatest_147 : decode m_Dee_undoLatest.2.1 147 = .ok (.iconst 0, 1) := by decide +kernel
theorem d_Dee_undoLatest_148 : decode m_Dee_undoLatest.2.1 148 = .ok (.dup2, 1) := by decide +kernel
theorem d_Dee_undoLatest_149 : decode m_Dee_undoLatest.2.1 149 = .ok (.iaload, 1) := by decide +kernel
theorem d_Dee_undoLatest_150 : decode m_Dee_undoLatest.2.1 150 = .ok (.iconst 1, 1) := by decide +kernel
theorem d_Dee_undoLatest_151 : decode m_Dee_undoLatest.2.1 151 = .ok (.isub, 1) := by decide +kernel
theorem d_Dee_undoLatest_152 : decode m_Dee_undoLatest.2.1 152 = .ok (.iastore, 1) := by decide +kernel
theorem d_Dee_undoLatest_153 : decode m_Dee_undoLatest.2.1 153 = .ok (.aload_n 0, 1) := by decide +kernel
theorem d_Dee_undoLatest_154 : decode m_Dee_undoLatest.2.1 154 = .ok (.getfield 15, 3) := by decide +kernel
theorem d_Dee_undoLatest_157 : decode m_Dee_undoLatest.2.1 157 = .ok (.aload_n 0, 1) := by decide +kernel
theorem d_Dee_undoLatest_158 : decode m_Dee_undoLatest.2.1 158 = .ok (.getfield 9, 3) := by decide +kernel
theorem d_Dee_undoLatest_161 : decode m_Dee_undoLatest.2.1 161 = .ok (.iaload, 1) := by decide +kernel
theorem d_Dee_undoLatest_162 : decode m_Dee_undoLatest.2.1 162 = .ok (.ireturn, 1) := by decide +kernel
theorem d_Run_init_0 : decode m_Run_init.2.1 0 = .ok (.aload_n 0, 1) := by decide +kernel
theorem d_Run_init_1 : decode m_Run_init.2.1 1 = .ok (.invokespecial 3, 3) := by decide +kernel
theorem d_Run_init_4 : decode m_Run_init.2.1 4 = .ok (.aload_n 0, 1) := by decide +kernel
theorem d_Run_init_5 : decode m_Run_init.2.1 5 = .ok (.iconst 0, 1) := by decide +kernel
theorem d_Run_init_6 : decode m_Run_init.2.1 6 = .ok (.putfield 9, 3) := by decide +kernel
theorem d_Run_init_9 : decode m_Run_init.2.1 9 = .ok (.aload_n 0, 1) := by decide +kernel
theorem d_Run_init_10 : decode m_Run_init.2.1 10 = .ok (.new 15, 3) := by decide +kernel
theorem d_Run_init_13 : decode m_Run_init.2.1 13 = .ok (.dup, 1) := by decide +kernel
theorem d_Run_init_14 : decode m_Run_init.2.1 14 = .ok (.invokespecial 17, 3) := by decide +kernel
theorem d_Run_init_17 : decode m_Run_init.2.1 17 = .ok (.putfield 18, 3) := by decide +kernel
theorem d_Run_init_20 : decode m_Run_init.2.1 20 = .ok (.aload_n 0, 1) := by decide +kernel
theorem d_Run_init_21 : decode m_Run_init.2.1 21 = .ok (.new 22, 3) := by decide +kernel
theorem d_Run_init_24 : decode m_Run_init.2.1 24 = .ok (.dup, 1) := by decide +kernel
theorem d_Run_init_25 : decode m_Run_init.2.1 25 = .ok (.invokespecial 24, 3) := by decide +kernel
theorem d_Run_init_28 : decode m_Run_init.2.1 28 = .ok (.putfield 25, 3) := by decide +kernel
theorem d_Run_init_31 : decode m_Run_init.2.1 31 = .ok (.aload_n 0, 1) := by decide +kernel
theorem d_Run_init_32 : decode m_Run_init.2.1 32 = .ok (.bipush 52, 2) := by decide +kernel
theorem d_Run_init_34 : decode m_Run_init.2.1 34 = .ok (.newarray .int, 2) := by decide +kernel
theorem d_Run_init_36 : decode m_Run_init.2.1 36 = .ok (.putfield 29, 3) := by decide +kernel
theorem d_Run_init_39 : decode m_Run_init.2.1 39 = .ok (.aload_n 0, 1) := by decide +kernel
theorem d_Run_init_40 : decode m_Run_init.2.1 40 = .ok (.iconst (-1), 1) := by decide +kernel
theorem d_Run_init_41 : decode m_Run_init.2.1 41 = .ok (.putfield 33, 3) := by decide +kernel
theorem d_Run_init_44 : decode m_Run_init.2.1 44 = .ok (.aload_n 0, 1) := by decide +kernel
theorem d_Run_init_45 : decode m_Run_init.2.1 45 = .ok (.aload_n 1, 1) := by decide +kernel
theorem d_Run_init_46 : decode m_Run_init.2.1 46 = .ok (.putfield 36, 3) := by decide +kernel
theorem d_Run_init_49 : decode m_Run_init.2.1 49 = .ok (.aload_n 0, 1) := by decide +kernel
theorem d_Run_init_50 : decode m_Run_init.2.1 50 = .ok (.aload_n 2, 1) := by decide +kernel
theorem d_Run_init_51 : decode m_Run_init.2.1 51 = .ok (.putfield 39, 3) := by decide +kernel
theorem d_Run_init_54 : decode m_Run_init.2.1 54 = .ok (.aload_n 0, 1) := by decide +kernel
theorem d_Run_init_55 : decode m_Run_init.2.1 55 = .ok (.new 43, 3) := by decide +kernel
theorem d_Run_init_58 : decode m_Run_init.2.1 58 = .ok (.dup, 1) := by decide +kernel
theorem d_Run_init_59 : decode m_Run_init.2.1 59 = .ok (.aload_n 0, 1) := by decide +kernel
theorem d_Run_init_60 : decode m_Run_init.2.1 60 = .ok (.getfield 18, 3) := by decide +kernel
theorem d_Run_init_63 : decode m_Run_init.2.1 63 = .ok (.aload_n 2, 1) := by decide +kernel
theorem d_Run_init_64 : decode m_Run_init.2.1 64 = .ok (.getfield 45, 3) := by decide +kernel
theorem d_Run_init_67 : decode m_Run_init.2.1 67 = .ok (.invokespecial 49, 3) := by decide +kernel
theorem d_Run_init_70 : decode m_Run_init.2.1 70 = .ok (.putfield 52, 3) := by decide +kernel
theorem d_Run_init_73 : decode m_Run_init.2.1 73 = .ok (.return_, 1) := by decide +kernel
theorem d_Run_runWhole_0 : decode m_Run_runWhole.2.1 0 = .ok (.aload_n 0, 1) := by decide +kernel
theorem d_Run_runWhole_1 : decode m_Run_runWhole.2.1 1 = .ok (.getfield 18, 3) := by decide +kernel
theorem d_Run_runWhole_4 : decode m_Run_runWhole.2.1 4 = .ok (.aload_n 0, 1) := by decide +kernel
theorem d_Run_runWhole_5 : decode m_Run_runWhole.2.1 5 = .ok (.getfield 36, 3) := by decide +kernel
theorem d_Run_runWhole_8 : decode m_Run_runWhole.2.1 8 = .ok (.invokevirtual 55, 3) := by decide +kernel
theorem d_Run_runWhole_11 : decode m_Run_runWhole.2.1 11 = .ok (.aload_n 0, 1) := by decide +kernel
theorem d_Run_runWhole_12 : decode m_Run_runWhole.2.1 12 = .ok (.getfield 52, 3) := by decide +kernel
theorem d_Run_runWhole_15 : decode m_Run_runWhole.2.1 15 = .ok (.aload_n 0, 1) := by decide +kernel
theorem d_Run_runWhole_16 : decode m_Run_runWhole.2.1 16 = .ok (.getfield 39, 3) := by decide +kernel
theorem d_Run_runWhole_19 : decode m_Run_runWhole.2.1 19 = .ok (.invokevirtual 59, 3) := by decide +kernel
theorem d_Run_runWhole_22 : decode m_Run_runWhole.2.1 22 = .ok (.aload_n 0, 1) := by decide +kernel
theorem d_Run_runWhole_23 : decode m_Run_runWhole.2.1 23 = .ok (.iconst 0, 1) := by decide +kernel
theorem d_Run_runWhole_24 : decode m_Run_runWhole.2.1 24 = .ok (.putfield 9, 3) := by decide +kernel
theorem d_Run_runWhole_27 : decode m_Run_runWhole.2.1 27 = .ok (.aload_n 0, 1) := by decide +kernel
theorem d_Run_runWhole_28 : decode m_Run_runWhole.2.1 28 = .ok (.iconst (-1), 1) := by decide +kernel
theorem d_Run_runWhole_29 : decode m_Run_runWhole.2.1 29 = .ok (.putfield 33, 3) := by decide +kernel
theorem d_Run_runWhole_32 : decode m_Run_runWhole.2.1 32 = .ok (.iconst 0, 1) := by decide +kernel
theorem d_Run_runWhole_33 : decode m_Run_runWhole.2.1 33 = .ok (.istore_n 2, 1) := by decide +kernel
theorem d_Run_runWhole_34 : decode m_Run_runWhole.2.1 34 = .ok (.iload_n 2, 1) := by decide +kernel
theorem d_Run_runWhole_35 : decode m_Run_runWhole.2.1 35 = .ok (.aload_n 1, 1) := by decide +kernel
theorem d_Run_runWhole_36 : decode m_Run_runWhole.2.1 36 = .ok (.getfield 62, 3) := by decide +kernel
theorem d_Run_runWhole_39 : decode m_Run_runWhole.2.1 39 = .ok (.if_icmp .ge 60, 3) := by decide +kernel
theorem d_Run_runWhole_42 : decode m_Run_runWhole.2.1 42 = .ok (.iconst 0, 1) := by decide +kernel
theorem d_Run_runWhole_43 : decode m_Run_runWhole.2.1 43 = .ok (.istore_n 3, 1) := by decide +kernel
theorem d_Run_runWhole_44 : decode m_Run_runWhole.2.1 44 = .ok (.iload_n 3, 1) := by decide +kernel
theorem d_Run_runWhole_45 : decode m_Run_runWhole.2.1 45 = .ok (.aload_n 1, 1) := by decide +kernel
theorem d_Run_runWhole_46 : decode m_Run_runWhole.2.1 46 = .ok (.getfield 67, 3) := by decide +kernel
theorem d_Run_runWhole_49 : decode m_Run_runWhole.2.1 49 = .ok (.iload_n 2, 1) := by decide +kernel
theorem d_Run_runWhole_50 : decode m_Run_runWhole.2.1 50 = .ok (.iaload, 1) := by decide +kernel
theorem d_Run_runWhole_51 : decode m_Run_runWhole.2.1 51 = .ok (.if_icmp .ge 42, 3) := by decide +kernel
theorem d_Run_runWhole_54 : decode m_Run_runWhole.2.1 54 = .ok (.aload_n 0, 1) := by decide +kernel
theorem d_Run_runWhole_55 : decode m_Run_runWhole.2.1 55 = .ok (.aload_n 1, 1) := by decide +kernel
theorem d_Run_runWhole_56 : decode m_Run_runWhole.2.1 56 = .ok (.iload_n 2, 1) := by decide +kernel
theorem d_Run_runWhole_57 : decode m_Run_runWhole.2.1 57 = .ok (.invokevirtual 70, 3) := by decide +kernel
theorem d_Run_runWhole_60 : decode m_Run_runWhole.2.1 60 = .ok (.ifCond .ne 27, 3) := by decide +kernel
theorem d_Run_runWhole_63 : decode m_Run_runWhole.2.1 63 = .ok (.aload_n 0, 1) := by decide +kernel
theorem d_Run_runWhole_64 : decode m_Run_runWhole.2.1 64 = .ok (.getfield 36, 3) := by decide +kernel
theorem d_Run_runWhole_67 : decode m_Run_runWhole.2.1 67 = .ok (.aload_n 0, 1) := by decide +kernel
theorem d_Run_runWhole_68 : decode m_Run_runWhole.2.1 68 = .ok (.getfield 18, 3) := by decide +kernel
theorem d_Run_runWhole_71 : decode m_Run_runWhole.2.1 71 = .ok (.invokevirtual 55, 3) := by decide +kernel
theorem d_Run_runWhole_74 : decode m_Run_runWhole.2.1 74 = .ok (.aload_n 0, 1) := by decide +kernel
theorem d_Run_runWhole_75 : decode m_Run_runWhole.2.1 75 = .ok (.getfield 39, 3) := by decide +kernel
theorem d_Run_runWhole_78 : decode m_Run_runWhole.2.1 78 = .ok (.aload_n 0, 1) := by decide +kernel
theorem d_Run_runWhole_79 : decode m_Run_runWhole.2.1 79 = .ok (.getfield 52, 3) := by decide +kernel
theorem d_Run_runWhole_82 : decode m_Run_runWhole.2.1 82 = .ok (.invokevirtual 59, 3) := by decide +kernel
theorem d_Run_runWhole_85 : decode m_Run_runWhole.2.1 85 = .ok (.iload_n 2, 1) := by decide +kernel
theorem d_Run_runWhole_86 : decode m_Run_runWhole.2.1 86 = .ok (.ireturn, 1) := by decide +kernel
theorem d_Run_runWhole_87 : decode m_Run_runWhole.2.1 87 = .ok (.iinc 3 1, 3) := by decide +kernel
theorem d_Run_runWhole_90 : decode m_Run_runWhole.2.1 90 = .ok (.goto (-46), 3) := by decide +kernel
theorem d_Run_runWhole_93 : decode m_Run_runWhole.2.1 93 = .ok (.iinc 2 1, 3) := by decide +kernel
theorem d_Run_runWhole_96 : decode m_Run_runWhole.2.1 96 = .ok (.goto (-62), 3) := by decide +kernel
theorem d_Run_runWhole_99 : decode m_Run_runWhole.2.1 99 = .ok (.iconst (-1), 1) := by decide +kernel
theorem d_Run_runWhole_100 : decode m_Run_runWhole.2.1 100 = .ok (.ireturn, 1) := by decide +kernel
theorem d_Run_runOnce_0 : decode m_Run_runOnce.2.1 0 = .ok (.aload_n 0, 1) := by decide +kernel
theorem d_Run_runOnce_1 : decode m_Run_runOnce.2.1 1 = .ok (.invokevirtual 74, 3) := by decide +kernel
theorem d_Run_runOnce_4 : decode m_Run_runOnce.2.1 4 = .ok (.aload_n 1, 1) := by decide +kernel
theorem d_Run_runOnce_5 : decode m_Run_runOnce.2.1 5 = .ok (.getfield 77, 3) := by decide +kernel
theorem d_Run_runOnce_8 : decode m_Run_runOnce.2.1 8 = .ok (.iload_n 2, 1) := by decide +kernel
theorem d_Run_runOnce_9 : decode m_Run_runOnce.2.1 9 = .ok (.iaload, 1) := by decide +kernel
theorem d_Run_runOnce_10 : decode m_Run_runOnce.2.1 10 = .ok (.iconst (-1), 1) := by decide +kernel
theorem d_Run_runOnce_11 : decode m_Run_runOnce.2.1 11 = .ok (.if_icmp .eq 26, 3) := by decide +kernel
theorem d_Run_runOnce_14 : decode m_Run_runOnce.2.1 14 = .ok (.aload_n 0, 1) := by decide +kernel
theorem d_Run_runOnce_15 : decode m_Run_runOnce.2.1 15 = .ok (.getfield 25, 3) := by decide +kernel
theorem d_Run_runOnce_18 : decode m_Run_runOnce.2.1 18 = .ok (.aload_n 1, 1) := by decide +kernel
theorem d_Run_runOnce_19 : decode m_Run_runOnce.2.1 19 = .ok (.aload_n 1, 1) := by decide +kernel
theorem d_Run_runOnce_20 : decode m_Run_runOnce.2.1 20 = .ok (.getfield 77, 3) := by decide +kernel
theorem d_Run_runOnce_23 : decode m_Run_runOnce.2.1 23 = .ok (.iload_n 2, 1) := by decide +kernel
theorem d_Run_runOnce_24 : decode m_Run_runOnce.2.1 24 = .ok (.iaload, 1) := by decide +kernel
theorem d_Run_runOnce_25 : decode m_Run_runOnce.2.1 25 = .ok (.aload_n 0, 1) := by decide +kernel
theorem d_Run_runOnce_26 : decode m_Run_runOnce.2.1 26 = .ok (.getfield 29, 3) := by decide +kernel
theorem d_Run_runOnce_29 : decode m_Run_runOnce.2.1 29 = .ok (.invokevirtual 80, 3) := by decide +kernel
theorem d_Run_runOnce_32 : decode m_Run_runOnce.2.1 32 = .ok (.ifCond .ne 5, 3) := by decide +kernel
theorem d_Run_runOnce_35 : decode m_Run_runOnce.2.1 35 = .ok (.iconst 1, 1) := by decide +kernel
theorem d_Run_runOnce_36 : decode m_Run_runOnce.2.1 36 = .ok (.ireturn, 1) := by decide +kernel
theorem d_Run_runOnce_37 : decode m_Run_runOnce.2.1 37 = .ok (.aload_n 1, 1) := by decide +kernel
theorem d_Run_runOnce_38 : decode m_Run_runOnce.2.1 38 = .ok (.getfield 84, 3) := by decide +kernel
theorem d_Run_runOnce_41 : decode m_Run_runOnce.2.1 41 = .ok (.iload_n 2, 1) := by decide +kernel
theorem d_Run_runOnce_42 : decode m_Run_runOnce.2.1 42 = .ok (.iaload, 1) := by decide +kernel
theorem d_Run_runOnce_43 : decode m_Run_runOnce.2.1 43 = .ok (.iconst (-1), 1) := by decide +kernel
theorem d_Run_runOnce_44 : decode m_Run_runOnce.2.1 44 = .ok (.if_icmp .ne 7, 3) := by decide +kernel
theorem d_Run_runOnce_47 : decode m_Run_runOnce.2.1 47 = .ok (.iconst 0, 1) := by decide +kernel
theorem d_Run_runOnce_48 : decode m_Run_runOnce.2.1 48 = .ok (.goto 21, 3) := by decide +kernel
theorem d_Run_runOnce_51 : decode m_Run_runOnce.2.1 51 = .ok (.aload_n 0, 1) := by decide +kernel
theorem d_Run_runOnce_52 : decode m_Run_runOnce.2.1 52 = .ok (.getfield 25, 3) := by decide +kernel
theorem d_Run_runOnce_55 : decode m_Run_runOnce.2.1 55 = .ok (.aload_n 1, 1) := by decide +kernel
theorem d_Run_runOnce_56 : decode m_Run_runOnce.2.1 56 = .ok (.aload_n 1, 1) := by decide +kernel
theorem d_Run_runOnce_57 : decode m_Run_runOnce.2.1 57 = .ok (.getfield 84, 3) := by decide +kernel
theorem d_Run_runOnce_60 : decode m_Run_runOnce.2.1 60 = .ok (.iload_n 2, 1) := by decide +kernel
theorem d_Run_runOnce_61 : decode m_Run_runOnce.2.1 61 = .ok (.iaload, 1) := by decide +kernel
theorem d_Run_runOnce_62 : decode m_Run_runOnce.2.1 62 = .ok (.aload_n 0, 1) := by decide +kernel
theorem d_Run_runOnce_63 : decode m_Run_runOnce.2.1 63 = .ok (.getfield 29, 3) := by decide +kernel
theorem d_Run_runOnce_66 : decode m_Run_runOnce.2.1 66 = .ok (.invokevirtual 80, 3) := by decide +kernel
theorem d_Run_runOnce_69 : decode m_Run_runOnce.2.1 69 = .ok (.istore_n 3, 1) := by decide +kernel
theorem d_Run_runOnce_70 : decode m_Run_runOnce.2.1 70 = .ok (.aload_n 1, 1) := by decide +kernel
theorem d_Run_runOnce_71 : decode m_Run_runOnce.2.1 71 = .ok (.getfield 84, 3) := by decide +kernel
theorem d_Run_runOnce_74 : decode m_Run_runOnce.2.1 74 = .ok (.iload_n 2, 1) := by decide +kernel
theorem d_Run_runOnce_75 : decode m_Run_runOnce.2.1 75 = .ok (.iaload, 1) := by decide +kernel
theorem d_Run_runOnce_76 : decode m_Run_runOnce.2.1 76 = .ok (.iconst (-1), 1) := by decide +kernel
theorem d_Run_runOnce_77 : decode m_Run_runOnce.2.1 77 = .ok (.if_icmp .eq 15, 3) := by decide +kernel
theorem d_Run_runOnce_80 : decode m_Run_runOnce.2.1 80 = .ok (.aload_n 0, 1) := by decide +kernel
theorem d_Run_runOnce_81 : decode m_Run_runOnce.2.1 81 = .ok (.getfield 25, 3) := by decide +kernel
theorem d_Run_runOnce_84 : decode m_Run_runOnce.2.1 84 = .ok (.getfield 87, 3) := by decide +kernel
theorem d_Run_runOnce_87 : decode m_Run_runOnce.2.1 87 = .ok (.ifCond .eq 5, 3) := by decide +kernel
theorem d_Run_runOnce_90 : decode m_Run_runOnce.2.1 90 = .ok (.iconst 0, 1) := by decide +kernel
theorem d_Run_runOnce_91 : decode m_Run_runOnce.2.1 91 = .ok (.ireturn, 1) := by decide +kernel
theorem d_Run_runOnce_92 : decode m_Run_runOnce.2.1 92 = .ok (.aload_n 1, 1) := by decide +kernel
theorem d_Run_runOnce_93 : decode m_Run_runOnce.2.1 93 = .ok (.getfield 91, 3) := by decide +kernel
theorem d_Run_runOnce_96 : decode m_Run_runOnce.2.1 96 = .ok (.iload_n 2, 1) := by decide +kernel
theorem d_Run_runOnce_97 : decode m_Run_runOnce.2.1 97 = .ok (.iaload, 1) := by decide +kernel
theorem d_Run_runOnce_98 : decode m_Run_runOnce.2.1 98 = .ok (.iconst (-1), 1) := by decide +kernel
theorem d_Run_runOnce_99 : decode m_Run_runOnce.2.1 99 = .ok (.if_icmp .ne 7, 3) := by decide +kernel
theorem d_Run_runOnce_102 : decode m_Run_runOnce.2.1 102 = .ok (.iconst 0, 1) := by decide +kernel
theorem d_Run_runOnce_103 : decode m_Run_runOnce.2.1 103 = .ok (.goto 21, 3) := by decide +kernel
theorem d_Run_runOnce_106 : decode m_Run_runOnce.2.1 106 = .ok (.aload_n 0, 1) := by decide +kernel
theorem d_Run_runOnce_107 : decode m_Run_runOnce.2.1 107 = .ok (.getfield 25, 3) := by decide +kernel
theorem d_Run_runOnce_110 : decode m_Run_runOnce.2.1 110 = .ok (.aload_n 1, 1) := by decide +kernel
theorem d_Run_runOnce_111 : decode m_Run_runOnce.2.1 111 = .ok (.aload_n 1, 1) := by decide +kernel
theorem d_Run_runOnce_112 : decode m_Run_runOnce.2.1 112 = .ok (.getfield 91, 3) := by decide +kernel
theorem d_Run_runOnce_115 : decode m_Run_runOnce.2.1 115 = .ok (.iload_n 2, 1) := by decide +kernel
theorem d_Run_runOnce_116 : decode m_Run_runOnce.2.1 116 = .ok (.iaload, 1) := by decide +kernel
theorem d_Run_runOnce_117 : decode m_Run_runOnce.2.1 117 = .ok (.aload_n 0, 1) := by decide +kernel
theorem d_Run_runOnce_118 : decode m_Run_runOnce.2.1 118 = .ok (.getfield 29, 3) := by decide +kernel
theorem d_Run_runOnce_121 : decode m_Run_runOnce.2.1 121 = .ok (.invokevirtual 80, 3) := by decide +kernel
theorem d_Run_runOnce_124 : decode m_Run_runOnce.2.1 124 = .ok (.istore 4, 2) := by decide +kernel
theorem d_Run_runOnce_126 : decode m_Run_runOnce.2.1 126 = .ok (.aload_n 1, 1) := by decide +kernel
theorem d_Run_runOnce_127 : decode m_Run_runOnce.2.1 127 = .ok (.getfield 91, 3) := by decide +kernel
theorem d_Run_runOnce_130 : decode m_Run_runOnce.2.1 130 = .ok (.iload_n 2, 1) := by decide +kernel
theorem d_Run_runOnce_131 : decode m_Run_runOnce.2.1 131 = .ok (.iaload, 1) := by decide +kernel
theorem d_Run_runOnce_132 : decode m_Run_runOnce.2.1 132 = .ok (.iconst (-1), 1) := by decide +kernel
theorem d_Run_runOnce_133 : decode m_Run_runOnce.2.1 133 = .ok (.if_icmp .eq 15, 3) := by decide +kernel
theorem d_Run_runOnce_136 : decode m_Run_runOnce.2.1 136 = .ok (.aload_n 0, 1) := by decide +kernel
theorem d_Run_runOnce_137 : decode m_Run_runOnce.2.1 137 = .ok (.getfield 25, 3) := by decide +kernel
theorem d_Run_runOnce_140 : decode m_Run_runOnce.2.1 140 = .ok (.getfield 87, 3) := by decide +kernel
theorem d_Run_runOnce_143 : decode m_Run_runOnce.2.1 143 = .ok (.ifCond .eq 5, 3) := by decide +kernel
theorem d_Run_runOnce_146 : decode m_Run_runOnce.2.1 146 = .ok (.iconst 0, 1) := by decide +kernel
theorem d_Run_runOnce_147 : decode m_Run_runOnce.2.1 147 = .ok (.ireturn, 1) := by decide +kernel
theorem d_Run_runOnce_148 : decode m_Run_runOnce.2.1 148 = .ok (.aload_n 1, 1) := by decide +kernel
theorem d_Run_runOnce_149 : decode m_Run_runOnce.2.1 149 = .ok (.getfield 94, 3) := by decide +kernel
theorem d_Run_runOnce_152 : decode m_Run_runOnce.2.1 152 = .ok (.iload_n 2, 1) := by decide +kernel
theorem d_Run_runOnce_153 : decode m_Run_runOnce.2.1 153 = .ok (.iaload, 1) := by decide +kernel
theorem d_Run_runOnce_154 : decode m_Run_runOnce.2.1 154 = .ok (.tableswitch 75 0 2 #[26, 47, 60], 26) := by decide +kernel
theorem d_Run_runOnce_180 : decode m_Run_runOnce.2.1 180 = .ok (.aload_n 0, 1) := by decide +kernel
theorem d_Run_runOnce_181 : decode m_Run_runOnce.2.1 181 = .ok (.getfield 39, 3) := by decide +kernel
theorem d_Run_runOnce_184 : decode m_Run_runOnce.2.1 184 = .ok (.iload_n 3, 1) := by decide +kernel
theorem d_Run_runOnce_185 : decode m_Run_runOnce.2.1 185 = .ok (.iload 4, 2) := by decide +kernel
theorem d_Run_runOnce_187 : decode m_Run_runOnce.2.1 187 = .ok (.invokevirtual 97, 3) := by decide +kernel
theorem d_Run_runOnce_190 : decode m_Run_runOnce.2.1 190 = .ok (.istore 5, 2) := by decide +kernel
theorem d_Run_runOnce_192 : decode m_Run_runOnce.2.1 192 = .ok (.aload_n 0, 1) := by decide +kernel
theorem d_Run_runOnce_193 : decode m_Run_runOnce.2.1 193 = .ok (.iload 5, 2) := by decide +kernel
theorem d_Run_runOnce_195 : decode m_Run_runOnce.2.1 195 = .ok (.putfield 33, 3) := by decide +kernel
theorem d_Run_runOnce_198 : decode m_Run_runOnce.2.1 198 = .ok (.goto 40, 3) := by decide +kernel
theorem d_Run_runOnce_201 : decode m_Run_runOnce.2.1 201 = .ok (.aload_n 0, 1) := by decide +kernel
theorem d_Run_runOnce_202 : decode m_Run_runOnce.2.1 202 = .ok (.getfield 39, 3) := by decide +kernel
theorem d_Run_runOnce_205 : decode m_Run_runOnce.2.1 205 = .ok (.iload_n 3, 1) := by decide +kernel
theorem d_Run_runOnce_206 : decode m_Run_runOnce.2.1 206 = .ok (.invokevirtual 101, 3) := by decide +kernel
theorem d_Run_runOnce_209 : decode m_Run_runOnce.2.1 209 = .ok (.istore 5, 2) := by decide +kernel
theorem d_Run_runOnce_211 : decode m_Run_runOnce.2.1 211 = .ok (.goto 27, 3) := by decide +kernel
theorem d_Run_runOnce_214 : decode m_Run_runOnce.2.1 214 = .ok (.aload_n 0, 1) := by decide +kernel
theorem d_Run_runOnce_215 : decode m_Run_runOnce.2.1 215 = .ok (.getfield 39, 3) := by decide +kernel
theorem d_Run_runOnce_218 : decode m_Run_runOnce.2.1 218 = .ok (.iload_n 3, 1) := by decide +kernel
theorem d_Run_runOnce_219 : decode m_Run_runOnce.2.1 219 = .ok (.iload 4, 2) := by decide +kernel
theorem d_Run_runOnce_221 : decode m_Run_runOnce.2.1 221 = .ok (.invokevirtual 105, 3) := by decide +kernel
theorem d_Run_runOnce_224 : decode m_Run_runOnce.2.1 224 = .ok (.istore 5, 2) := by decide +kernel
theorem d_Run_runOnce_226 : decode m_Run_runOnce.2.1 226 = .ok (.goto 12, 3) := by decide +kernel
theorem d_Run_runOnce_229 : decode m_Run_runOnce.2.1 229 = .ok (.aload_n 0, 1) := by decide +kernel
theorem d_Run_runOnce_230 : decode m_Run_runOnce.2.1 230 = .ok (.getfield 39, 3) := by decide +kernel
theorem d_Run_runOnce_233 : decode m_Run_runOnce.2.1 233 = .ok (.invokevirtual 108, 3) := by decide +kernel
theorem d_Run_runOnce_236 : decode m_Run_runOnce.2.1 236 = .ok (.istore 5, 2) := by decide +kernel
theorem d_Run_runOnce_238 : decode m_Run_runOnce.2.1 238 = .ok (.aload_n 0, 1) := by decide +kernel
theorem d_Run_runOnce_239 : decode m_Run_runOnce.2.1 239 = .ok (.dup, 1) := by decide +kernel
theorem d_Run_runOnce_240 : decode m_Run_runOnce.2.1 240 = .ok (.getfield 9, 3) := by decide +kernel
theorem d_Run_runOnce_243 : decode m_Run_runOnce.2.1 243 = .ok (.iconst 1, 1) := by decide +kernel
theorem d_Run_runOnce_244 : decode m_Run_runOnce.2.1 244 = .ok (.iadd, 1) := by decide +kernel
theorem d_Run_runOnce_245 : decode m_Run_runOnce.2.1 245 = .ok (.putfield 9, 3) := by decide +kernel
theorem d_Run_runOnce_248 : decode m_Run_runOnce.2.1 248 = .ok (.iload 5, 2) := by decide +kernel
theorem d_Run_runOnce_250 : decode m_Run_runOnce.2.1 250 = .ok (.ifCond .lt 7, 3) := by decide +kernel
theorem d_Run_runOnce_253 : decode m_Run_runOnce.2.1 253 = .ok (.iconst 1, 1) := by decide +kernel
theorem d_Run_runOnce_254 : decode m_Run_runOnce.2.1 254 = .ok (.goto 4, 3) := by decide +kernel
theorem d_Run_runOnce_257 : decode m_Run_runOnce.2.1 257 = .ok (.iconst 0, 1) := by decide +kernel
theorem d_Run_runOnce_258 : decode m_Run_runOnce.2.1 258 = .ok (.ireturn, 1) := by decide +kernel
theorem d_Run_look_0 : decode m_Run_look.2.1 0 = .ok (.aload_n 0, 1) := by decide +kernel
theorem d_Run_look_1 : decode m_Run_look.2.1 1 = .ok (.getfield 29, 3) := by decide +kernel
theorem d_Run_look_4 : decode m_Run_look.2.1 4 = .ok (.bipush 6, 2) := by decide +kernel
theorem d_Run_look_6 : decode m_Run_look.2.1 6 = .ok (.aload_n 0, 1) := by decide +kernel
theorem d_Run_look_7 : decode m_Run_look.2.1 7 = .ok (.getfield 36, 3) := by decide +kernel
theorem d_Run_look_10 : decode m_Run_look.2.1 10 = .ok (.getfield 112, 3) := by decide +kernel
theorem d_Run_look_13 : decode m_Run_look.2.1 13 = .ok (.getfield 116, 3) := by decide +kernel
theorem d_Run_look_16 : decode m_Run_look.2.1 16 = .ok (.iastore, 1) := by decide +kernel
theorem d_Run_look_17 : decode m_Run_look.2.1 17 = .ok (.aload_n 0, 1) := by decide +kernel
theorem d_Run_look_18 : decode m_Run_look.2.1 18 = .ok (.getfield 29, 3) := by decide +kernel
theorem d_Run_look_21 : decode m_Run_look.2.1 21 = .ok (.bipush 7, 2) := by decide +kernel
theorem d_Run_look_23 : decode m_Run_look.2.1 23 = .ok (.aload_n 0, 1) := by decide +kernel
theorem d_Run_look_24 : decode m_Run_look.2.1 24 = .ok (.getfield 36, 3) := by decide +kernel
theorem d_Run_look_27 : decode m_Run_look.2.1 27 = .ok (.getfield 121, 3) := by decide +kernel
theorem d_Run_look_30 : decode m_Run_look.2.1 30 = .ok (.iconst 0, 1) := by decide +kernel
theorem d_Run_look_31 : decode m_Run_look.2.1 31 = .ok (.iaload, 1) := by decide +kernel
theorem d_Run_look_32 : decode m_Run_look.2.1 32 = .ok (.iastore, 1) := by decide +kernel
theorem d_Run_look_33 : decode m_Run_look.2.1 33 = .ok (.aload_n 0, 1) := by decide +kernel
theorem d_Run_look_34 : decode m_Run_look.2.1 34 = .ok (.getfield 29, 3) := by decide +kernel
theorem d_Run_look_37 : decode m_Run_look.2.1 37 = .ok (.bipush 8, 2) := by decide +kernel
theorem d_Run_look_39 : decode m_Run_look.2.1 39 = .ok (.aload_n 0, 1) := by decide +kernel
theorem d_Run_look_40 : decode m_Run_look.2.1 40 = .ok (.getfield 9, 3) := by decide +kernel
theorem d_Run_look_43 : decode m_Run_look.2.1 43 = .ok (.iastore, 1) := by decide +kernel
theorem d_Run_look_44 : decode m_Run_look.2.1 44 = .ok (.aload_n 0, 1) := by decide +kernel
theorem d_Run_look_45 : decode m_Run_look.2.1 45 = .ok (.getfield 29, 3) := by decide +kernel
theorem d_Run_look_48 : decode m_Run_look.2.1 48 = .ok (.bipush 9, 2) := by decide +kernel
theorem d_Run_look_50 : decode m_Run_look.2.1 50 = .ok (.aload_n 0, 1) := by decide +kernel
theorem d_Run_look_51 : decode m_Run_look.2.1 51 = .ok (.getfield 33, 3) := by decide +kernel
theorem d_Run_look_54 : decode m_Run_look.2.1 54 = .ok (.iastore, 1) := by decide +kernel
theorem d_Run_look_55 : decode m_Run_look.2.1 55 = .ok (.aload_n 0, 1) := by decide +kernel
theorem d_Run_look_56 : decode m_Run_look.2.1 56 = .ok (.getfield 29, 3) := by decide +kernel
theorem d_Run_look_59 : decode m_Run_look.2.1 59 = .ok (.bipush 10, 2) := by decide +kernel
theorem d_Run_look_61 : decode m_Run_look.2.1 61 = .ok (.aload_n 0, 1) := by decide +kernel
theorem d_Run_look_62 : decode m_Run_look.2.1 62 = .ok (.getfield 36, 3) := by decide +kernel
theorem d_Run_look_65 : decode m_Run_look.2.1 65 = .ok (.getfield 112, 3) := by decide +kernel
theorem d_Run_look_68 : decode m_Run_look.2.1 68 = .ok (.invokevirtual 124, 3) := by decide +kernel
theorem d_Run_look_71 : decode m_Run_look.2.1 71 = .ok (.iastore, 1) := by decide +kernel
theorem d_Run_look_72 : decode m_Run_look.2.1 72 = .ok (.iconst 0, 1) := by decide +kernel
theorem d_Run_look_73 : decode m_Run_look.2.1 73 = .ok (.istore_n 1, 1) := by decide +kernel
theorem d_Run_look_74 : decode m_Run_look.2.1 74 = .ok (.iload_n 1, 1) := by decide +kernel
theorem d_Run_look_75 : decode m_Run_look.2.1 75 = .ok (.bipush 20, 2) := by decide +kernel
theorem d_Run_look_77 : decode m_Run_look.2.1 77 = .ok (.if_icmp .ge 78, 3) := by decide +kernel
theorem d_Run_look_80 : decode m_Run_look.2.1 80 = .ok (.aload_n 0, 1) := by decide +kernel
theorem d_Run_look_81 : decode m_Run_look.2.1 81 = .ok (.getfield 36, 3) := by decide +kernel
theorem d_Run_look_84 : decode m_Run_look.2.1 84 = .ok (.getfield 112, 3) := by decide +kernel
theorem d_Run_look_87 : decode m_Run_look.2.1 87 = .ok (.iload_n 1, 1) := by decide +kernel
theorem d_Run_look_88 : decode m_Run_look.2.1 88 = .ok (.invokevirtual 127, 3) := by decide +kernel
theorem d_Run_look_91 : decode m_Run_look.2.1 91 = .ok (.istore_n 2, 1) := by decide +kernel
theorem d_Run_look_92 : decode m_Run_look.2.1 92 = .ok (.aload_n 0, 1) := by decide +kernel
theorem d_Run_look_93 : decode m_Run_look.2.1 93 = .ok (.getfield 29, 3) := by decide +kernel
theorem d_Run_look_96 : decode m_Run_look.2.1 96 = .ok (.bipush 12, 2) := by decide +kernel
theorem d_Run_look_98 : decode m_Run_look.2.1 98 = .ok (.iload_n 1, 1) := by decide +kernel
theorem d_Run_look_99 : decode m_Run_look.2.1 99 = .ok (.iadd, 1) := by decide +kernel
theorem d_Run_look_100 : decode m_Run_look.2.1 100 = .ok (.iload_n 2, 1) := by decide +kernel
theorem d_Run_look_101 : decode m_Run_look.2.1 101 = .ok (.ifCond .eq 18, 3) := by decide +kernel
theorem d_Run_look_104 : decode m_Run_look.2.1 104 = .ok (.aload_n 0, 1) := by decide +kernel
theorem d_Run_look_105 : decode m_Run_look.2.1 105 = .ok (.getfield 36, 3) := by decide +kernel
theorem d_Run_look_108 : decode m_Run_look.2.1 108 = .ok (.getfield 112, 3) := by decide +kernel
theorem d_Run_look_111 : decode m_Run_look.2.1 111 = .ok (.getfield 131, 3) := by decide +kernel
theorem d_Run_look_114 : decode m_Run_look.2.1 114 = .ok (.iload_n 1, 1) := by decide +kernel
theorem d_Run_look_115 : decode m_Run_look.2.1 115 = .ok (.iaload, 1) := by decide +kernel
theorem d_Run_look_116 : decode m_Run_look.2.1 116 = .ok (.goto 4, 3) := by decide +kernel
theorem d_Run_look_119 : decode m_Run_look.2.1 119 = .ok (.iconst (-1), 1) := by decide +kernel
theorem d_Run_look_120 : decode m_Run_look.2.1 120 = .ok (.iastore, 1) := by decide +kernel
theorem d_Run_look_121 : decode m_Run_look.2.1 121 = .ok (.aload_n 0, 1) := by decide +kernel
theorem d_Run_look_122 : decode m_Run_look.2.1 122 = .ok (.getfield 29, 3) := by decide +kernel
theorem d_Run_look_125 : decode m_Run_look.2.1 125 = .ok (.bipush 32, 2) := by decide +kernel
theorem d_Run_look_127 : decode m_Run_look.2.1 127 = .ok (.iload_n 1, 1) := by decide +kernel
theorem d_Run_look_128 : decode m_Run_look.2.1 128 = .ok (.iadd, 1) := by decide +kernel
theorem d_Run_look_129 : decode m_Run_look.2.1 129 = .ok (.iload_n 2, 1) := by decide +kernel
theorem d_Run_look_130 : decode m_Run_look.2.1 130 = .ok (.ifCond .eq 17, 3) := by decide +kernel
theorem d_Run_look_133 : decode m_Run_look.2.1 133 = .ok (.aload_n 0, 1) := by decide +kernel
theorem d_Run_look_134 : decode m_Run_look.2.1 134 = .ok (.getfield 36, 3) := by decide +kernel
theorem d_Run_look_137 : decode m_Run_look.2.1 137 = .ok (.getfield 112, 3) := by decide +kernel
theorem d_Run_look_140 : decode m_Run_look.2.1 140 = .ok (.iload_n 1, 1) := by decide +kernel
theorem d_Run_look_141 : decode m_Run_look.2.1 141 = .ok (.invokevirtual 134, 3) := by decide +kernel
theorem d_Run_look_144 : decode m_Run_look.2.1 144 = .ok (.goto 4, 3) := by decide +kernel
theorem d_Run_look_147 : decode m_Run_look.2.1 147 = .ok (.iconst (-1), 1) := by decide +kernel
theorem d_Run_look_148 : decode m_Run_look.2.1 148 = .ok (.iastore, 1) := by decide +kernel
theorem d_Run_look_149 : decode m_Run_look.2.1 149 = .ok (.iinc 1 1, 3) := by decide +kernel
theorem d_Run_look_152 : decode m_Run_look.2.1 152 = .ok (.goto (-78), 3) := by decide +kernel
theorem d_Run_look_155 : decode m_Run_look.2.1 155 = .ok (.return_, 1) := by decide +kernel
theorem d_Sta_init_0 : decode m_Sta_init.2.1 0 = .ok (.aload_n 0, 1) := by decide +kernel
theorem d_Sta_init_1 : decode m_Sta_init.2.1 1 = .ok (.invokespecial 3, 3) := by decide +kernel
theorem d_Sta_init_4 : decode m_Sta_init.2.1 4 = .ok (.aload_n 0, 1) := by decide +kernel
theorem d_Sta_init_5 : decode m_Sta_init.2.1 5 = .ok (.new 9, 3) := by decide +kernel
theorem d_Sta_init_8 : decode m_Sta_init.2.1 8 = .ok (.dup, 1) := by decide +kernel
theorem d_Sta_init_9 : decode m_Sta_init.2.1 9 = .ok (.invokespecial 11, 3) := by decide +kernel
theorem d_Sta_init_12 : decode m_Sta_init.2.1 12 = .ok (.putfield 12, 3) := by decide +kernel
theorem d_Sta_init_15 : decode m_Sta_init.2.1 15 = .ok (.aload_n 0, 1) := by decide +kernel
theorem d_Sta_init_16 : decode m_Sta_init.2.1 16 = .ok (.iconst 3, 1) := by decide +kernel
theorem d_Sta_init_17 : decode m_Sta_init.2.1 17 = .ok (.newarray .int, 2) := by decide +kernel
theorem d_Sta_init_19 : decode m_Sta_init.2.1 19 = .ok (.putfield 18, 3) := by decide +kernel
theorem d_Sta_init_22 : decode m_Sta_init.2.1 22 = .ok (.aload_n 0, 1) := by decide +kernel
theorem d_Sta_init_23 : decode m_Sta_init.2.1 23 = .ok (.bipush 6, 2) := by decide +kernel
theorem d_Sta_init_25 : decode m_Sta_init.2.1 25 = .ok (.anewarray 22, 3) := by decide +kernel
theorem d_Sta_init_28 : decode m_Sta_init.2.1 28 = .ok (.putfield 24, 3) := by decide +kernel
theorem d_Sta_init_31 : decode m_Sta_init.2.1 31 = .ok (.aload_n 0, 1) := by decide +kernel
theorem d_Sta_init_32 : decode m_Sta_init.2.1 32 = .ok (.iconst 0, 1) := by decide +kernel
theorem d_Sta_init_33 : decode m_Sta_init.2.1 33 = .ok (.putfield 28, 3) := by decide +kernel
theorem d_Sta_init_36 : decode m_Sta_init.2.1 36 = .ok (.aload_n 0, 1) := by decide +kernel
theorem d_Sta_init_37 : decode m_Sta_init.2.1 37 = .ok (.iconst (-1), 1) := by decide +kernel
theorem d_Sta_init_38 : decode m_Sta_init.2.1 38 = .ok (.putfield 32, 3) := by decide +kernel
theorem d_Sta_init_41 : decode m_Sta_init.2.1 41 = .ok (.getstatic 35, 3) := by decide +kernel
theorem d_Sta_init_44 : decode m_Sta_init.2.1 44 = .ok (.iconst 0, 1) := by decide +kernel
theorem d_Sta_init_45 : decode m_Sta_init.2.1 45 = .ok (.aload_n 0, 1) := by decide +kernel
theorem d_Sta_init_46 : decode m_Sta_init.2.1 46 = .ok (.getfield 18, 3) := by decide +kernel
theorem d_Sta_init_49 : decode m_Sta_init.2.1 49 = .ok (.iconst 0, 1) := by decide +kernel
theorem d_Sta_init_50 : decode m_Sta_init.2.1 50 = .ok (.iconst 3, 1) := by decide +kernel
theorem d_Sta_init_51 : decode m_Sta_init.2.1 51 = .ok (.invokestatic 38, 3) := by decide +kernel
theorem d_Sta_init_54 : decode m_Sta_init.2.1 54 = .ok (.return_, 1) := by decide +kernel
theorem d_Sta_copyFrom_0 : decode m_Sta_copyFrom.2.1 0 = .ok (.aload_n 0, 1) := by decide +kernel
theorem d_Sta_copyFrom_1 : decode m_Sta_copyFrom.2.1 1 = .ok (.getfield 12, 3) := by decide +kernel
theorem d_Sta_copyFrom_4 : decode m_Sta_copyFrom.2.1 4 = .ok (.aload_n 1, 1) := by decide +kernel
theorem d_Sta_copyFrom_5 : decode m_Sta_copyFrom.2.1 5 = .ok (.getfield 12, 3) := by decide +kernel
theorem d_Sta_copyFrom_8 : decode m_Sta_copyFrom.2.1 8 = .ok (.invokevirtual 44, 3) := by decide +kernel
theorem d_Sta_copyFrom_11 : decode m_Sta_copyFrom.2.1 11 = .ok (.aload_n 1, 1) := by decide +kernel
theorem d_Sta_copyFrom_12 : decode m_Sta_copyFrom.2.1 12 = .ok (.getfield 18, 3) := by decide +kernel
theorem d_Sta_copyFrom_15 : decode m_Sta_copyFrom.2.1 15 = .ok (.iconst 0, 1) := by decide +kernel
theorem d_Sta_copyFrom_16 : decode m_Sta_copyFrom.2.1 16 = .ok (.aload_n 0, 1) := by decide +kernel
theorem d_Sta_copyFrom_17 : decode m_Sta_copyFrom.2.1 17 = .ok (.getfield 18, 3) := by decide +kernel
theorem d_Sta_copyFrom_20 : decode m_Sta_copyFrom.2.1 20 = .ok (.iconst 0, 1) := by decide +kernel
theorem d_Sta_copyFrom_21 : decode m_Sta_copyFrom.2.1 21 = .ok (.iconst 3, 1) := by decide +kernel
theorem d_Sta_copyFrom_22 : decode m_Sta_copyFrom.2.1 22 = .ok (.invokestatic 38, 3) := by decide +kernel
theorem d_Sta_copyFrom_25 : decode m_Sta_copyFrom.2.1 25 = .ok (.iconst 0, 1) := by decide +kernel
theorem d_Sta_copyFrom_26 : decode m_Sta_copyFrom.2.1 26 = .ok (.istore_n 2, 1) := by decide +kernel
theorem d_Sta_copyFrom_27 : decode m_Sta_copyFrom.2.1 27 = .ok (.iload_n 2, 1) := by decide +kernel
theorem d_Sta_copyFrom_28 : decode m_Sta_copyFrom.2.1 28 = .ok (.bipush 6, 2) := by decide +kernel
theorem d_Sta_copyFrom_30 : decode m_Sta_copyFrom.2.1 30 = .ok (.if_icmp .ge 21, 3) := by decide +kernel
theorem d_Sta_copyFrom_33 : decode m_Sta_copyFrom.2.1 33 = .ok (.aload_n 0, 1) := by decide +kernel
theorem d_Sta_copyFrom_34 : decode m_Sta_copyFrom.2.1 34 = .ok (.getfield 24, 3) := by decide +kernel
theorem d_Sta_copyFrom_37 : decode m_Sta_copyFrom.2.1 37 = .ok (.iload_n 2, 1) := by decide +kernel
theorem d_Sta_copyFrom_38 : decode m_Sta_copyFrom.2.1 38 = .ok (.aload_n 1, 1) := by decide +kernel
theorem d_Sta_copyFrom_39 : decode m_Sta_copyFrom.2.1 39 = .ok (.getfield 24, 3) := by decide +kernel
theorem d_Sta_copyFrom_42 : decode m_Sta_copyFrom.2.1 42 = .ok (.iload_n 2, 1) := by decide +kernel
theorem d_Sta_copyFrom_43 : decode m_Sta_copyFrom.2.1 43 = .ok (.aaload, 1) := by decide +kernel
theorem d_Sta_copyFrom_44 : decode m_Sta_copyFrom.2.1 44 = .ok (.aastore, 1) := by decide +kernel
theorem d_Sta_copyFrom_45 : decode m_Sta_copyFrom.2.1 45 = .ok (.iinc 2 1, 3) := by decide +kernel
theorem d_Sta_copyFrom_48 : decode m_Sta_copyFrom.2.1 48 = .ok (.goto (-21), 3) := by decide +kernel
theorem d_Sta_copyFrom_51 : decode m_Sta_copyFrom.2.1 51 = .ok (.aload_n 0, 1) := by decide +kernel
theorem d_Sta_copyFrom_52 : decode m_Sta_copyFrom.2.1 52 = .ok (.aload_n 1, 1) := by decide +kernel
theorem d_Sta_copyFrom_53 : decode m_Sta_copyFrom.2.1 53 = .ok (.getfield 28, 3) := by decide +kernel
theorem d_Sta_copyFrom_56 : decode m_Sta_copyFrom.2.1 56 = .ok (.putfield 28, 3) := by decide +kernel
theorem d_Sta_copyFrom_59 : decode m_Sta_copyFrom.2.1 59 = .ok (.aload_n 0, 1) := by decide +kernel
theorem d_Sta_copyFrom_60 : decode m_Sta_copyFrom.2.1 60 = .ok (.aload_n 1, 1) := by decide +kernel
theorem d_Sta_copyFrom_61 : decode m_Sta_copyFrom.2.1 61 = .ok (.getfield 32, 3) := by decide +kernel
theorem d_Sta_copyFrom_64 : decode m_Sta_copyFrom.2.1 64 = .ok (.putfield 32, 3) := by decide +kernel
theorem d_Sta_copyFrom_67 : decode m_Sta_copyFrom.2.1 67 = .ok (.return_, 1) := by decide +kernel
theorem d_Sta_lawOf_0 : decode m_Sta_lawOf.2.1 0 = .ok (.iload_n 1, 1) := by decide +kernel
theorem d_Sta_lawOf_1 : decode m_Sta_lawOf.2.1 1 = .ok (.ifCond .lt 20, 3) := by decide +kernel
theorem d_Sta_lawOf_4 : decode m_Sta_lawOf.2.1 4 = .ok (.iload_n 1, 1) := by decide +kernel
theorem d_Sta_lawOf_5 : decode m_Sta_lawOf.2.1 5 = .ok (.aload_n 0, 1) := by decide +kernel
theorem d_Sta_lawOf_6 : decode m_Sta_lawOf.2.1 6 = .ok (.getfield 28, 3) := by decide +kernel
theorem d_Sta_lawOf_9 : decode m_Sta_lawOf.2.1 9 = .ok (.if_icmp .ge 12, 3) := by decide +kernel
theorem d_Sta_lawOf_12 : decode m_Sta_lawOf.2.1 12 = .ok (.aload_n 0, 1) := by decide +kernel
theorem d_Sta_lawOf_13 : decode m_Sta_lawOf.2.1 13 = .ok (.getfield 24, 3) := by decide +kernel
theorem d_Sta_lawOf_16 : decode m_Sta_lawOf.2.1 16 = .ok (.iload_n 1, 1) := by decide +kernel
theorem d_Sta_lawOf_17 : decode m_Sta_lawOf.2.1 17 = .ok (.aaload, 1) := by decide +kernel
theorem d_Sta_lawOf_18 : decode m_Sta_lawOf.2.1 18 = .ok (.goto 4, 3) := by decide +kernel
theorem d_Sta_lawOf_21 : decode m_Sta_lawOf.2.1 21 = .ok (.aconst_null, 1) := by decide +kernel
theorem d_Sta_lawOf_22 : decode m_Sta_lawOf.2.1 22 = .ok (.areturn, 1) := by decide +kernel
theorem d_Sta_hasLaw_0 : decode m_Sta_hasLaw.2.1 0 = .ok (.iload_n 1, 1) := by decide +kernel
theorem d_Sta_hasLaw_1 : decode m_Sta_hasLaw.2.1 1 = .ok (.iconst (-1), 1) := by decide +kernel
theorem d_Sta_hasLaw_2 : decode m_Sta_hasLaw.2.1 2 = .ok (.if_icmp .lt 15, 3) := by decide +kernel
theorem d_Sta_hasLaw_5 : decode m_Sta_hasLaw.2.1 5 = .ok (.iload_n 1, 1) := by decide +kernel
theorem d_Sta_hasLaw_6 : decode m_Sta_hasLaw.2.1 6 = .ok (.aload_n 0, 1) := by decide +kernel
theorem d_Sta_hasLaw_7 : decode m_Sta_hasLaw.2.1 7 = .ok (.getfield 28, 3) := by decide +kernel
theorem d_Sta_hasLaw_10 : decode m_Sta_hasLaw.2.1 10 = .ok (.if_icmp .ge 7, 3) := by decide +kernel
theorem d_Sta_hasLaw_13 : decode m_Sta_hasLaw.2.1 13 = .ok (.iconst 1, 1) := by decide +kernel
theorem d_Sta_hasLaw_14 : decode m_Sta_hasLaw.2.1 14 = .ok (.goto 4, 3) := by decide +kernel
theorem d_Sta_hasLaw_17 : decode m_Sta_hasLaw.2.1 17 = .ok (.iconst 0, 1) := by decide +kernel
theorem d_Sta_hasLaw_18 : decode m_Sta_hasLaw.2.1 18 = .ok (.ireturn, 1) := by decide +kernel
theorem d_Arr_copyOf_0 : decode m_Arr_copyOf.2.1 0 = .ok (.iload_n 1, 1) := by decide +kernel
theorem d_Arr_copyOf_1 : decode m_Arr_copyOf.2.1 1 = .ok (.aload_n 0, 1) := by decide +kernel
theorem d_Arr_copyOf_2 : decode m_Arr_copyOf.2.1 2 = .ok (.arraylength, 1) := by decide +kernel
theorem d_Arr_copyOf_3 : decode m_Arr_copyOf.2.1 3 = .ok (.if_icmp .ne 11, 3) := by decide +kernel
theorem d_Arr_copyOf_6 : decode m_Arr_copyOf.2.1 6 = .ok (.aload_n 0, 1) := by decide +kernel
theorem d_Arr_copyOf_7 : decode m_Arr_copyOf.2.1 7 = .ok (.invokevirtual 316, 3) := by decide +kernel
theorem d_Arr_copyOf_10 : decode m_Arr_copyOf.2.1 10 = .ok (.checkcast 317, 3) := by decide +kernel
theorem d_Arr_copyOf_13 : decode m_Arr_copyOf.2.1 13 = .ok (.areturn, 1) := by decide +kernel
theorem d_Arr_copyOf_14 : decode m_Arr_copyOf.2.1 14 = .ok (.iload_n 1, 1) := by decide +kernel
theorem d_Arr_copyOf_15 : decode m_Arr_copyOf.2.1 15 = .ok (.newarray .int, 2) := by decide +kernel
theorem d_Arr_copyOf_17 : decode m_Arr_copyOf.2.1 17 = .ok (.astore_n 2, 1) := by decide +kernel
theorem d_Arr_copyOf_18 : decode m_Arr_copyOf.2.1 18 = .ok (.aload_n 0, 1) := by decide +kernel
theorem d_Arr_copyOf_19 : decode m_Arr_copyOf.2.1 19 = .ok (.iconst 0, 1) := by decide +kernel
theorem d_Arr_copyOf_20 : decode m_Arr_copyOf.2.1 20 = .ok (.aload_n 2, 1) := by decide +kernel
theorem d_Arr_copyOf_21 : decode m_Arr_copyOf.2.1 21 = .ok (.iconst 0, 1) := by decide +kernel
theorem d_Arr_copyOf_22 : decode m_Arr_copyOf.2.1 22 = .ok (.aload_n 0, 1) := by decide +kernel
theorem d_Arr_copyOf_23 : decode m_Arr_copyOf.2.1 23 = .ok (.arraylength, 1) := by decide +kernel
theorem d_Arr_copyOf_24 : decode m_Arr_copyOf.2.1 24 = .ok (.iload_n 1, 1) := by decide +kernel
theorem d_Arr_copyOf_25 : decode m_Arr_copyOf.2.1 25 = .ok (.invokestatic 304, 3) := by decide +kernel
theorem d_Arr_copyOf_28 : decode m_Arr_copyOf.2.1 28 = .ok (.invokestatic 150, 3) := by decide +kernel
theorem d_Arr_copyOf_31 : decode m_Arr_copyOf.2.1 31 = .ok (.aload_n 2, 1) := by decide +kernel
theorem d_Arr_copyOf_32 : decode m_Arr_copyOf.2.1 32 = .ok (.areturn, 1) := by decide +kernel
theorem d_Arr_fill_0 : decode m_Arr_fill.2.1 0 = .ok (.iconst 0, 1) := by decide +kernel
theorem d_Arr_fill_1 : decode m_Arr_fill.2.1 1 = .ok (.istore_n 3, 1) := by decide +kernel
theorem d_Arr_fill_2 : decode m_Arr_fill.2.1 2 = .ok (.aload_n 0, 1) := by decide +kernel
theorem d_Arr_fill_3 : decode m_Arr_fill.2.1 3 = .ok (.arraylength, 1) := by decide +kernel
theorem d_Arr_fill_4 : decode m_Arr_fill.2.1 4 = .ok (.istore 4, 2) := by decide +kernel
theorem d_Arr_fill_6 : decode m_Arr_fill.2.1 6 = .ok (.iload_n 3, 1) := by decide +kernel
theorem d_Arr_fill_7 : decode m_Arr_fill.2.1 7 = .ok (.iload 4, 2) := by decide +kernel
theorem d_Arr_fill_9 : decode m_Arr_fill.2.1 9 = .ok (.if_icmp .ge 13, 3) := by decide +kernel
theorem d_Arr_fill_12 : decode m_Arr_fill.2.1 12 = .ok (.aload_n 0, 1) := by decide +kernel
theorem d_Arr_fill_13 : decode m_Arr_fill.2.1 13 = .ok (.iload_n 3, 1) := by decide +kernel
theorem d_Arr_fill_14 : decode m_Arr_fill.2.1 14 = .ok (.lload_n 1, 1) := by decide +kernel
theorem d_Arr_fill_15 : decode m_Arr_fill.2.1 15 = .ok (.lastore, 1) := by decide +kernel
theorem d_Arr_fill_16 : decode m_Arr_fill.2.1 16 = .ok (.iinc 3 1, 3) := by decide +kernel
theorem d_Arr_fill_19 : decode m_Arr_fill.2.1 19 = .ok (.goto (-13), 3) := by decide +kernel
theorem d_Arr_fill_22 : decode m_Arr_fill.2.1 22 = .ok (.return_, 1) := by decide +kernel
