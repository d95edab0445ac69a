theorem d_Pap_init_0 : decode m_Pap_init.2.1 0 = .ok (.aload_n 0, 1) := by decide +kernel
theorem d_Pap_init_1 : decode m_Pap_init.2.1 1 = .ok (.invokespecial 3, 3) := by decide +kernel
theorem d_Pap_init_4 : decode m_Pap_init.2.1 4 = .ok (.aload_n 0, 1) := by decide +kernel
theorem d_Pap_init_5 : decode m_Pap_init.2.1 5 = .ok (.iconst 0, 1) := by decide +kernel
theorem d_Pap_init_6 : decode m_Pap_init.2.1 6 = .ok (.putfield 9, 3) := by decide +kernel
theorem d_Pap_init_9 : decode m_Pap_init.2.1 9 = .ok (.aload_n 0, 1) := by decide +kernel
theorem d_Pap_init_10 : decode m_Pap_init.2.1 10 = .ok (.iconst 0, 1) := by decide +kernel
theorem d_Pap_init_11 : decode m_Pap_init.2.1 11 = .ok (.putfield 15, 3) := by decide +kernel
theorem d_Pap_init_14 : decode m_Pap_init.2.1 14 = .ok (.aload_n 0, 1) := by decide +kernel
theorem d_Pap_init_15 : decode m_Pap_init.2.1 15 = .ok (.iconst 0, 1) := by decide +kernel
theorem d_Pap_init_16 : decode m_Pap_init.2.1 16 = .ok (.putfield 18, 3) := by decide +kernel
theorem d_Pap_init_19 : decode m_Pap_init.2.1 19 = .ok (.aload_n 0, 1) := by decide +kernel
theorem d_Pap_init_20 : decode m_Pap_init.2.1 20 = .ok (.iconst (-1), 1) := by decide +kernel
theorem d_Pap_init_21 : decode m_Pap_init.2.1 21 = .ok (.putfield 21, 3) := by decide +kernel
theorem d_Pap_init_24 : decode m_Pap_init.2.1 24 = .ok (.aload_n 0, 1) := by decide +kernel
theorem d_Pap_init_25 : decode m_Pap_init.2.1 25 = .ok (.iconst 0, 1) := by decide +kernel
theorem d_Pap_init_26 : decode m_Pap_init.2.1 26 = .ok (.putfield 24, 3) := by decide +kernel
theorem d_Pap_init_29 : decode m_Pap_init.2.1 29 = .ok (.aload_n 0, 1) := by decide +kernel
theorem d_Pap_init_30 : decode m_Pap_init.2.1 30 = .ok (.iconst 0, 1) := by decide +kernel
theorem d_Pap_init_31 : decode m_Pap_init.2.1 31 = .ok (.putfield 27, 3) := by decide +kernel
theorem d_Pap_init_34 : decode m_Pap_init.2.1 34 = .ok (.aload_n 0, 1) := by decide +kernel
theorem d_Pap_init_35 : decode m_Pap_init.2.1 35 = .ok (.iconst 0, 1) := by decide +kernel
theorem d_Pap_init_36 : decode m_Pap_init.2.1 36 = .ok (.putfield 30, 3) := by decide +kernel
theorem d_Pap_init_39 : decode m_Pap_init.2.1 39 = .ok (.aload_n 0, 1) := by decide +kernel
theorem d_Pap_init_40 : decode m_Pap_init.2.1 40 = .ok (.iconst 0, 1) := by decide +kernel
theorem d_Pap_init_41 : decode m_Pap_init.2.1 41 = .ok (.putfield 33, 3) := by decide +kernel
theorem d_Pap_init_44 : decode m_Pap_init.2.1 44 = .ok (.aload_n 0, 1) := by decide +kernel
theorem d_Pap_init_45 : decode m_Pap_init.2.1 45 = .ok (.iconst 0, 1) := by decide +kernel
theorem d_Pap_init_46 : decode m_Pap_init.2.1 46 = .ok (.putfield 36, 3) := by decide +kernel
theorem d_Pap_init_49 : decode m_Pap_init.2.1 49 = .ok (.aload_n 0, 1) := by decide +kernel
theorem d_Pap_init_50 : decode m_Pap_init.2.1 50 = .ok (.iconst 0, 1) := by decide +kernel
theorem d_Pap_init_51 : decode m_Pap_init.2.1 51 = .ok (.putfield 39, 3) := by decide +kernel
theorem d_Pap_init_54 : decode m_Pap_init.2.1 54 = .ok (.aload_n 0, 1) := by decide +kernel
theorem d_Pap_init_55 : decode m_Pap_init.2.1 55 = .ok (.bipush 20, 2) := by decide +kernel
theorem d_Pap_init_57 : decode m_Pap_init.2.1 57 = .ok (.newarray .boolean, 2) := by decide +kernel
theorem d_Pap_init_59 : decode m_Pap_init.2.1 59 = .ok (.putfield 42, 3) := by decide +kernel
theorem d_Pap_init_62 : decode m_Pap_init.2.1 62 = .ok (.aload_n 0, 1) := by decide +kernel
theorem d_Pap_init_63 : decode m_Pap_init.2.1 63 = .ok (.new 46, 3) := by decide +kernel
theorem d_Pap_init_66 : decode m_Pap_init.2.1 66 = .ok (.dup, 1) := by decide +kernel
theorem d_Pap_init_67 : decode m_Pap_init.2.1 67 = .ok (.invokespecial 48, 3) := by decide +kernel
theorem d_Pap_init_70 : decode m_Pap_init.2.1 70 = .ok (.putfield 49, 3) := by decide +kernel
theorem d_Pap_init_73 : decode m_Pap_init.2.1 73 = .ok (.aload_n 0, 1) := by decide +kernel
theorem d_Pap_init_74 : decode m_Pap_init.2.1 74 = .ok (.bipush 6, 2) := by decide +kernel
theorem d_Pap_init_76 : decode m_Pap_init.2.1 76 = .ok (.bipush 21, 2) := by decide +kernel
theorem d_Pap_init_78 : decode m_Pap_init.2.1 78 = .ok (.multianewarray 53 2, 4) := by decide +kernel
theorem d_Pap_init_82 : decode m_Pap_init.2.1 82 = .ok (.putfield 55, 3) := by decide +kernel
theorem d_Pap_init_85 : decode m_Pap_init.2.1 85 = .ok (.aload_n 0, 1) := by decide +kernel
theorem d_Pap_init_86 : decode m_Pap_init.2.1 86 = .ok (.bipush 22, 2) := by decide +kernel
theorem d_Pap_init_88 : decode m_Pap_init.2.1 88 = .ok (.bipush 22, 2) := by decide +kernel
theorem d_Pap_init_90 : decode m_Pap_init.2.1 90 = .ok (.multianewarray 53 2, 4) := by decide +kernel
theorem d_Pap_init_94 : decode m_Pap_init.2.1 94 = .ok (.putfield 58, 3) := by decide +kernel
theorem d_Pap_init_97 : decode m_Pap_init.2.1 97 = .ok (.aload_n 0, 1) := by decide +kernel
theorem d_Pap_init_98 : decode m_Pap_init.2.1 98 = .ok (.bipush 20, 2) := by decide +kernel
theorem d_Pap_init_100 : decode m_Pap_init.2.1 100 = .ok (.newarray .int, 2) := by decide +kernel
theorem d_Pap_init_102 : decode m_Pap_init.2.1 102 = .ok (.putfield 61, 3) := by decide +kernel
theorem d_Pap_init_105 : decode m_Pap_init.2.1 105 = .ok (.aload_n 0, 1) := by decide +kernel
theorem d_Pap_init_106 : decode m_Pap_init.2.1 106 = .ok (.bipush 20, 2) := by decide +kernel
theorem d_Pap_init_108 : decode m_Pap_init.2.1 108 = .ok (.newarray .int, 2) := by decide +kernel
theorem d_Pap_init_110 : decode m_Pap_init.2.1 110 = .ok (.putfield 65, 3) := by decide +kernel
theorem d_Pap_init_113 : decode m_Pap_init.2.1 113 = .ok (.aload_n 0, 1) := by decide +kernel
theorem d_Pap_init_114 : decode m_Pap_init.2.1 114 = .ok (.aload_n 1, 1) := by decide +kernel
theorem d_Pap_init_115 : decode m_Pap_init.2.1 115 = .ok (.putfield 68, 3) := by decide +kernel
theorem d_Pap_init_118 : decode m_Pap_init.2.1 118 = .ok (.return_, 1) := by decide +kernel
theorem d_Pap_mends_0 : decode m_Pap_mends.2.1 0 = .ok (.aload_n 0, 1) := by decide +kernel
theorem d_Pap_mends_1 : decode m_Pap_mends.2.1 1 = .ok (.aload_n 1, 1) := by decide +kernel
theorem d_Pap_mends_2 : decode m_Pap_mends.2.1 2 = .ok (.aload_n 2, 1) := by decide +kernel
theorem d_Pap_mends_3 : decode m_Pap_mends.2.1 3 = .ok (.invokevirtual 101, 3) := by decide +kernel
theorem d_Pap_mends_6 : decode m_Pap_mends.2.1 6 = .ok (.aload_n 1, 1) := by decide +kernel
theorem d_Pap_mends_7 : decode m_Pap_mends.2.1 7 = .ok (.getfield 72, 3) := by decide +kernel
theorem d_Pap_mends_10 : decode m_Pap_mends.2.1 10 = .ok (.getfield 77, 3) := by decide +kernel
theorem d_Pap_mends_13 : decode m_Pap_mends.2.1 13 = .ok (.istore_n 3, 1) := by decide +kernel
theorem d_Pap_mends_14 : decode m_Pap_mends.2.1 14 = .ok (.iconst 0, 1) := by decide +kernel
theorem d_Pap_mends_15 : decode m_Pap_mends.2.1 15 = .ok (.istore 4, 2) := by decide +kernel
theorem d_Pap_mends_17 : decode m_Pap_mends.2.1 17 = .ok (.iload 4, 2) := by decide +kernel
theorem d_Pap_mends_19 : decode m_Pap_mends.2.1 19 = .ok (.iload_n 3, 1) := by decide +kernel
theorem d_Pap_mends_20 : decode m_Pap_mends.2.1 20 = .ok (.if_icmp .gt 62, 3) := by decide +kernel
theorem d_Pap_mends_23 : decode m_Pap_mends.2.1 23 = .ok (.aload_n 0, 1) := by decide +kernel
theorem d_Pap_mends_24 : decode m_Pap_mends.2.1 24 = .ok (.getfield 58, 3) := by decide +kernel
theorem d_Pap_mends_27 : decode m_Pap_mends.2.1 27 = .ok (.iload 4, 2) := by decide +kernel
theorem d_Pap_mends_29 : decode m_Pap_mends.2.1 29 = .ok (.aaload, 1) := by decide +kernel
theorem d_Pap_mends_30 : decode m_Pap_mends.2.1 30 = .ok (.iload 4, 2) := by decide +kernel
theorem d_Pap_mends_32 : decode m_Pap_mends.2.1 32 = .ok (.iconst 0, 1) := by decide +kernel
theorem d_Pap_mends_33 : decode m_Pap_mends.2.1 33 = .ok (.iastore, 1) := by decide +kernel
theorem d_Pap_mends_34 : decode m_Pap_mends.2.1 34 = .ok (.iload 4, 2) := by decide +kernel
theorem d_Pap_mends_36 : decode m_Pap_mends.2.1 36 = .ok (.iconst 1, 1) := by decide +kernel
theorem d_Pap_mends_37 : decode m_Pap_mends.2.1 37 = .ok (.isub, 1) := by decide +kernel
theorem d_Pap_mends_38 : decode m_Pap_mends.2.1 38 = .ok (.istore 5, 2) := by decide +kernel
theorem d_Pap_mends_40 : decode m_Pap_mends.2.1 40 = .ok (.iload 5, 2) := by decide +kernel
theorem d_Pap_mends_42 : decode m_Pap_mends.2.1 42 = .ok (.ifCond .lt 34, 3) := by decide +kernel
theorem d_Pap_mends_45 : decode m_Pap_mends.2.1 45 = .ok (.aload_n 0, 1) := by decide +kernel
theorem d_Pap_mends_46 : decode m_Pap_mends.2.1 46 = .ok (.getfield 58, 3) := by decide +kernel
theorem d_Pap_mends_49 : decode m_Pap_mends.2.1 49 = .ok (.iload 5, 2) := by decide +kernel
theorem d_Pap_mends_51 : decode m_Pap_mends.2.1 51 = .ok (.aaload, 1) := by decide +kernel
theorem d_Pap_mends_52 : decode m_Pap_mends.2.1 52 = .ok (.iload 4, 2) := by decide +kernel
theorem d_Pap_mends_54 : decode m_Pap_mends.2.1 54 = .ok (.aload_n 0, 1) := by decide +kernel
theorem d_Pap_mends_55 : decode m_Pap_mends.2.1 55 = .ok (.aload_n 1, 1) := by decide +kernel
theorem d_Pap_mends_56 : decode m_Pap_mends.2.1 56 = .ok (.getfield 72, 3) := by decide +kernel
theorem d_Pap_mends_59 : decode m_Pap_mends.2.1 59 = .ok (.getfield 98, 3) := by decide +kernel
theorem d_Pap_mends_62 : decode m_Pap_mends.2.1 62 = .ok (.iload 5, 2) := by decide +kernel
theorem d_Pap_mends_64 : decode m_Pap_mends.2.1 64 = .ok (.iload 4, 2) := by decide +kernel
theorem d_Pap_mends_66 : decode m_Pap_mends.2.1 66 = .ok (.invokevirtual 105, 3) := by decide +kernel
theorem d_Pap_mends_69 : decode m_Pap_mends.2.1 69 = .ok (.iastore, 1) := by decide +kernel
theorem d_Pap_mends_70 : decode m_Pap_mends.2.1 70 = .ok (.iinc 5 (-1), 3) := by decide +kernel
theorem d_Pap_mends_73 : decode m_Pap_mends.2.1 73 = .ok (.goto (-33), 3) := by decide +kernel
theorem d_Pap_mends_76 : decode m_Pap_mends.2.1 76 = .ok (.iinc 4 1, 3) := by decide +kernel
theorem d_Pap_mends_79 : decode m_Pap_mends.2.1 79 = .ok (.goto (-62), 3) := by decide +kernel
theorem d_Pap_mends_82 : decode m_Pap_mends.2.1 82 = .ok (.aload_n 0, 1) := by decide +kernel
theorem d_Pap_mends_83 : decode m_Pap_mends.2.1 83 = .ok (.aload_n 0, 1) := by decide +kernel
theorem d_Pap_mends_84 : decode m_Pap_mends.2.1 84 = .ok (.getfield 58, 3) := by decide +kernel
theorem d_Pap_mends_87 : decode m_Pap_mends.2.1 87 = .ok (.iconst 0, 1) := by decide +kernel
theorem d_Pap_mends_88 : decode m_Pap_mends.2.1 88 = .ok (.aaload, 1) := by decide +kernel
theorem d_Pap_mends_89 : decode m_Pap_mends.2.1 89 = .ok (.iload_n 3, 1) := by decide +kernel
theorem d_Pap_mends_90 : decode m_Pap_mends.2.1 90 = .ok (.iaload, 1) := by decide +kernel
theorem d_Pap_mends_91 : decode m_Pap_mends.2.1 91 = .ok (.bipush 100, 2) := by decide +kernel
theorem d_Pap_mends_93 : decode m_Pap_mends.2.1 93 = .ok (.idiv, 1) := by decide +kernel
theorem d_Pap_mends_94 : decode m_Pap_mends.2.1 94 = .ok (.putfield 9, 3) := by decide +kernel
theorem d_Pap_mends_97 : decode m_Pap_mends.2.1 97 = .ok (.aload_n 0, 1) := by decide +kernel
theorem d_Pap_mends_98 : decode m_Pap_mends.2.1 98 = .ok (.aload_n 0, 1) := by decide +kernel
theorem d_Pap_mends_99 : decode m_Pap_mends.2.1 99 = .ok (.getfield 58, 3) := by decide +kernel
theorem d_Pap_mends_102 : decode m_Pap_mends.2.1 102 = .ok (.iconst 0, 1) := by decide +kernel
theorem d_Pap_mends_103 : decode m_Pap_mends.2.1 103 = .ok (.aaload, 1) := by decide +kernel
theorem d_Pap_mends_104 : decode m_Pap_mends.2.1 104 = .ok (.iload_n 3, 1) := by decide +kernel
theorem d_Pap_mends_105 : decode m_Pap_mends.2.1 105 = .ok (.iaload, 1) := by decide +kernel
theorem d_Pap_mends_106 : decode m_Pap_mends.2.1 106 = .ok (.bipush 100, 2) := by decide +kernel
theorem d_Pap_mends_108 : decode m_Pap_mends.2.1 108 = .ok (.irem, 1) := by decide +kernel
theorem d_Pap_mends_109 : decode m_Pap_mends.2.1 109 = .ok (.putfield 15, 3) := by decide +kernel
theorem d_Pap_mends_112 : decode m_Pap_mends.2.1 112 = .ok (.aload_n 0, 1) := by decide +kernel
theorem d_Pap_mends_113 : decode m_Pap_mends.2.1 113 = .ok (.getfield 58, 3) := by decide +kernel
theorem d_Pap_mends_116 : decode m_Pap_mends.2.1 116 = .ok (.iconst 0, 1) := by decide +kernel
theorem d_Pap_mends_117 : decode m_Pap_mends.2.1 117 = .ok (.aaload, 1) := by decide +kernel
theorem d_Pap_mends_118 : decode m_Pap_mends.2.1 118 = .ok (.iload_n 3, 1) := by decide +kernel
theorem d_Pap_mends_119 : decode m_Pap_mends.2.1 119 = .ok (.iaload, 1) := by decide +kernel
theorem d_Pap_mends_120 : decode m_Pap_mends.2.1 120 = .ok (.ldc 86, 2) := by decide +kernel
theorem d_Pap_mends_122 : decode m_Pap_mends.2.1 122 = .ok (.if_icmp .ge 7, 3) := by decide +kernel
theorem d_Pap_mends_125 : decode m_Pap_mends.2.1 125 = .ok (.iconst 1, 1) := by decide +kernel
theorem d_Pap_mends_126 : decode m_Pap_mends.2.1 126 = .ok (.goto 4, 3) := by decide +kernel
theorem d_Pap_mends_129 : decode m_Pap_mends.2.1 129 = .ok (.iconst 0, 1) := by decide +kernel
theorem d_Pap_mends_130 : decode m_Pap_mends.2.1 130 = .ok (.ireturn, 1) := by decide +kernel
theorem d_Pap_priceAll_0 : decode m_Pap_priceAll.2.1 0 = .ok (.iconst 0, 1) := by decide +kernel
theorem d_Pap_priceAll_1 : decode m_Pap_priceAll.2.1 1 = .ok (.istore_n 3, 1) := by decide +kernel
theorem d_Pap_priceAll_2 : decode m_Pap_priceAll.2.1 2 = .ok (.iload_n 3, 1) := by decide +kernel
theorem d_Pap_priceAll_3 : decode m_Pap_priceAll.2.1 3 = .ok (.bipush 6, 2) := by decide +kernel
theorem d_Pap_priceAll_5 : decode m_Pap_priceAll.2.1 5 = .ok (.if_icmp .ge 72, 3) := by decide +kernel
theorem d_Pap_priceAll_8 : decode m_Pap_priceAll.2.1 8 = .ok (.iconst 0, 1) := by decide +kernel
theorem d_Pap_priceAll_9 : decode m_Pap_priceAll.2.1 9 = .ok (.istore 4, 2) := by decide +kernel
theorem d_Pap_priceAll_11 : decode m_Pap_priceAll.2.1 11 = .ok (.iload 4, 2) := by decide +kernel
theorem d_Pap_priceAll_13 : decode m_Pap_priceAll.2.1 13 = .ok (.aload_n 1, 1) := by decide +kernel
theorem d_Pap_priceAll_14 : decode m_Pap_priceAll.2.1 14 = .ok (.getfield 72, 3) := by decide +kernel
theorem d_Pap_priceAll_17 : decode m_Pap_priceAll.2.1 17 = .ok (.getfield 77, 3) := by decide +kernel
theorem d_Pap_priceAll_20 : decode m_Pap_priceAll.2.1 20 = .ok (.if_icmp .gt 51, 3) := by decide +kernel
theorem d_Pap_priceAll_23 : decode m_Pap_priceAll.2.1 23 = .ok (.aload_n 0, 1) := by decide +kernel
theorem d_Pap_priceAll_24 : decode m_Pap_priceAll.2.1 24 = .ok (.getfield 55, 3) := by decide +kernel
theorem d_Pap_priceAll_27 : decode m_Pap_priceAll.2.1 27 = .ok (.iload_n 3, 1) := by decide +kernel
theorem d_Pap_priceAll_28 : decode m_Pap_priceAll.2.1 28 = .ok (.aaload, 1) := by decide +kernel
theorem d_Pap_priceAll_29 : decode m_Pap_priceAll.2.1 29 = .ok (.iload 4, 2) := by decide +kernel
theorem d_Pap_priceAll_31 : decode m_Pap_priceAll.2.1 31 = .ok (.aload_n 0, 1) := by decide +kernel
theorem d_Pap_priceAll_32 : decode m_Pap_priceAll.2.1 32 = .ok (.getfield 68, 3) := by decide +kernel
theorem d_Pap_priceAll_35 : decode m_Pap_priceAll.2.1 35 = .ok (.aload_n 1, 1) := by decide +kernel
theorem d_Pap_priceAll_36 : decode m_Pap_priceAll.2.1 36 = .ok (.aload_n 2, 1) := by decide +kernel
theorem d_Pap_priceAll_37 : decode m_Pap_priceAll.2.1 37 = .ok (.iload_n 3, 1) := by decide +kernel
theorem d_Pap_priceAll_38 : decode m_Pap_priceAll.2.1 38 = .ok (.iload 4, 2) := by decide +kernel
theorem d_Pap_priceAll_40 : decode m_Pap_priceAll.2.1 40 = .ok (.invokevirtual 80, 3) := by decide +kernel
theorem d_Pap_priceAll_43 : decode m_Pap_priceAll.2.1 43 = .ok (.ifCond .eq 8, 3) := by decide +kernel
theorem d_Pap_priceAll_46 : decode m_Pap_priceAll.2.1 46 = .ok (.ldc 86, 2) := by decide +kernel
theorem d_Pap_priceAll_48 : decode m_Pap_priceAll.2.1 48 = .ok (.goto 16, 3) := by decide +kernel
theorem d_Pap_priceAll_51 : decode m_Pap_priceAll.2.1 51 = .ok (.aload_n 0, 1) := by decide +kernel
theorem d_Pap_priceAll_52 : decode m_Pap_priceAll.2.1 52 = .ok (.getfield 68, 3) := by decide +kernel
theorem d_Pap_priceAll_55 : decode m_Pap_priceAll.2.1 55 = .ok (.aload_n 1, 1) := by decide +kernel
theorem d_Pap_priceAll_56 : decode m_Pap_priceAll.2.1 56 = .ok (.aload_n 2, 1) := by decide +kernel
theorem d_Pap_priceAll_57 : decode m_Pap_priceAll.2.1 57 = .ok (.iconst 0, 1) := by decide +kernel
theorem d_Pap_priceAll_58 : decode m_Pap_priceAll.2.1 58 = .ok (.iload_n 3, 1) := by decide +kernel
theorem d_Pap_priceAll_59 : decode m_Pap_priceAll.2.1 59 = .ok (.iload 4, 2) := by decide +kernel
theorem d_Pap_priceAll_61 : decode m_Pap_priceAll.2.1 61 = .ok (.invokevirtual 87, 3) := by decide +kernel
theorem d_Pap_priceAll_64 : decode m_Pap_priceAll.2.1 64 = .ok (.iastore, 1) := by decide +kernel
theorem d_Pap_priceAll_65 : decode m_Pap_priceAll.2.1 65 = .ok (.iinc 4 1, 3) := by decide +kernel
theorem d_Pap_priceAll_68 : decode m_Pap_priceAll.2.1 68 = .ok (.goto (-57), 3) := by decide +kernel
theorem d_Pap_priceAll_71 : decode m_Pap_priceAll.2.1 71 = .ok (.iinc 3 1, 3) := by decide +kernel
theorem d_Pap_priceAll_74 : decode m_Pap_priceAll.2.1 74 = .ok (.goto (-72), 3) := by decide +kernel
theorem d_Pap_priceAll_77 : decode m_Pap_priceAll.2.1 77 = .ok (.return_, 1) := by decide +kernel
theorem d_Pap_mendRun_0 : decode m_Pap_mendRun.2.1 0 = .ok (.aload_n 1, 1) := by decide +kernel
theorem d_Pap_mendRun_1 : decode m_Pap_mendRun.2.1 1 = .ok (.iload_n 2, 1) := by decide +kernel
theorem d_Pap_mendRun_2 : decode m_Pap_mendRun.2.1 2 = .ok (.iaload, 1) := by decide +kernel
theorem d_Pap_mendRun_3 : decode m_Pap_mendRun.2.1 3 = .ok (.istore 4, 2) := by decide +kernel
theorem d_Pap_mendRun_5 : decode m_Pap_mendRun.2.1 5 = .ok (.ldc 86, 2) := by decide +kernel
theorem d_Pap_mendRun_7 : decode m_Pap_mendRun.2.1 7 = .ok (.istore 5, 2) := by decide +kernel
theorem d_Pap_mendRun_9 : decode m_Pap_mendRun.2.1 9 = .ok (.iload 4, 2) := by decide +kernel
theorem d_Pap_mendRun_11 : decode m_Pap_mendRun.2.1 11 = .ok (.invokestatic 109, 3) := by decide +kernel
theorem d_Pap_mendRun_14 : decode m_Pap_mendRun.2.1 14 = .ok (.ifCond .eq 18, 3) := by decide +kernel
theorem d_Pap_mendRun_17 : decode m_Pap_mendRun.2.1 17 = .ok (.aload_n 0, 1) := by decide +kernel
theorem d_Pap_mendRun_18 : decode m_Pap_mendRun.2.1 18 = .ok (.getfield 58, 3) := by decide +kernel
theorem d_Pap_mendRun_21 : decode m_Pap_mendRun.2.1 21 = .ok (.iload_n 2, 1) := by decide +kernel
theorem d_Pap_mendRun_22 : decode m_Pap_mendRun.2.1 22 = .ok (.iconst 1, 1) := by decide +kernel
theorem d_Pap_mendRun_23 : decode m_Pap_mendRun.2.1 23 = .ok (.iadd, 1) := by decide +kernel
theorem d_Pap_mendRun_24 : decode m_Pap_mendRun.2.1 24 = .ok (.aaload, 1) := by decide +kernel
theorem d_Pap_mendRun_25 : decode m_Pap_mendRun.2.1 25 = .ok (.iload_n 3, 1) := by decide +kernel
theorem d_Pap_mendRun_26 : decode m_Pap_mendRun.2.1 26 = .ok (.iaload, 1) := by decide +kernel
theorem d_Pap_mendRun_27 : decode m_Pap_mendRun.2.1 27 = .ok (.istore 5, 2) := by decide +kernel
theorem d_Pap_mendRun_29 : decode m_Pap_mendRun.2.1 29 = .ok (.goto 20, 3) := by decide +kernel
theorem d_Pap_mendRun_32 : decode m_Pap_mendRun.2.1 32 = .ok (.iload 4, 2) := by decide +kernel
theorem d_Pap_mendRun_34 : decode m_Pap_mendRun.2.1 34 = .ok (.invokestatic 113, 3) := by decide +kernel
theorem d_Pap_mendRun_37 : decode m_Pap_mendRun.2.1 37 = .ok (.ifCond .eq 12, 3) := by decide +kernel
theorem d_Pap_mendRun_40 : decode m_Pap_mendRun.2.1 40 = .ok (.aload_n 0, 1) := by decide +kernel
theorem d_Pap_mendRun_41 : decode m_Pap_mendRun.2.1 41 = .ok (.aload_n 1, 1) := by decide +kernel
theorem d_Pap_mendRun_42 : decode m_Pap_mendRun.2.1 42 = .ok (.iload_n 2, 1) := by decide +kernel
theorem d_Pap_mendRun_43 : decode m_Pap_mendRun.2.1 43 = .ok (.iload_n 3, 1) := by decide +kernel
theorem d_Pap_mendRun_44 : decode m_Pap_mendRun.2.1 44 = .ok (.invokevirtual 116, 3) := by decide +kernel
theorem d_Pap_mendRun_47 : decode m_Pap_mendRun.2.1 47 = .ok (.istore 5, 2) := by decide +kernel
theorem d_Pap_mendRun_49 : decode m_Pap_mendRun.2.1 49 = .ok (.iload_n 2, 1) := by decide +kernel
theorem d_Pap_mendRun_50 : decode m_Pap_mendRun.2.1 50 = .ok (.istore 6, 2) := by decide +kernel
theorem d_Pap_mendRun_52 : decode m_Pap_mendRun.2.1 52 = .ok (.iload 6, 2) := by decide +kernel
theorem d_Pap_mendRun_54 : decode m_Pap_mendRun.2.1 54 = .ok (.iload_n 3, 1) := by decide +kernel
theorem d_Pap_mendRun_55 : decode m_Pap_mendRun.2.1 55 = .ok (.if_icmp .ge 64, 3) := by decide +kernel
theorem d_Pap_mendRun_58 : decode m_Pap_mendRun.2.1 58 = .ok (.aload_n 1, 1) := by decide +kernel
theorem d_Pap_mendRun_59 : decode m_Pap_mendRun.2.1 59 = .ok (.iload 6, 2) := by decide +kernel
theorem d_Pap_mendRun_61 : decode m_Pap_mendRun.2.1 61 = .ok (.iaload, 1) := by decide +kernel
theorem d_Pap_mendRun_62 : decode m_Pap_mendRun.2.1 62 = .ok (.invokestatic 119, 3) := by decide +kernel
theorem d_Pap_mendRun_65 : decode m_Pap_mendRun.2.1 65 = .ok (.ifCond .eq 48, 3) := by decide +kernel
theorem d_Pap_mendRun_68 : decode m_Pap_mendRun.2.1 68 = .ok (.aload_n 0, 1) := by decide +kernel
theorem d_Pap_mendRun_69 : decode m_Pap_mendRun.2.1 69 = .ok (.aload_n 1, 1) := by decide +kernel
theorem d_Pap_mendRun_70 : decode m_Pap_mendRun.2.1 70 = .ok (.iload 6, 2) := by decide +kernel
theorem d_Pap_mendRun_72 : decode m_Pap_mendRun.2.1 72 = .ok (.iaload, 1) := by decide +kernel
theorem d_Pap_mendRun_73 : decode m_Pap_mendRun.2.1 73 = .ok (.invokestatic 122, 3) := by decide +kernel
theorem d_Pap_mendRun_76 : decode m_Pap_mendRun.2.1 76 = .ok (.iload_n 2, 1) := by decide +kernel
theorem d_Pap_mendRun_77 : decode m_Pap_mendRun.2.1 77 = .ok (.invokevirtual 126, 3) := by decide +kernel
theorem d_Pap_mendRun_80 : decode m_Pap_mendRun.2.1 80 = .ok (.istore 7, 2) := by decide +kernel
theorem d_Pap_mendRun_82 : decode m_Pap_mendRun.2.1 82 = .ok (.iload 5, 2) := by decide +kernel
theorem d_Pap_mendRun_84 : decode m_Pap_mendRun.2.1 84 = .ok (.iload 7, 2) := by decide +kernel
theorem d_Pap_mendRun_86 : decode m_Pap_mendRun.2.1 86 = .ok (.aload_n 0, 1) := by decide +kernel
theorem d_Pap_mendRun_87 : decode m_Pap_mendRun.2.1 87 = .ok (.getfield 58, 3) := by decide +kernel
theorem d_Pap_mendRun_90 : decode m_Pap_mendRun.2.1 90 = .ok (.iload_n 2, 1) := by decide +kernel
theorem d_Pap_mendRun_91 : decode m_Pap_mendRun.2.1 91 = .ok (.aaload, 1) := by decide +kernel
theorem d_Pap_mendRun_92 : decode m_Pap_mendRun.2.1 92 = .ok (.iload 6, 2) := by decide +kernel
theorem d_Pap_mendRun_94 : decode m_Pap_mendRun.2.1 94 = .ok (.iaload, 1) := by decide +kernel
theorem d_Pap_mendRun_95 : decode m_Pap_mendRun.2.1 95 = .ok (.iadd, 1) := by decide +kernel
theorem d_Pap_mendRun_96 : decode m_Pap_mendRun.2.1 96 = .ok (.aload_n 0, 1) := by decide +kernel
theorem d_Pap_mendRun_97 : decode m_Pap_mendRun.2.1 97 = .ok (.getfield 58, 3) := by decide +kernel
theorem d_Pap_mendRun_100 : decode m_Pap_mendRun.2.1 100 = .ok (.iload 6, 2) := by decide +kernel
theorem d_Pap_mendRun_102 : decode m_Pap_mendRun.2.1 102 = .ok (.iconst 1, 1) := by decide +kernel
theorem d_Pap_mendRun_103 : decode m_Pap_mendRun.2.1 103 = .ok (.iadd, 1) := by decide +kernel
theorem d_Pap_mendRun_104 : decode m_Pap_mendRun.2.1 104 = .ok (.aaload, 1) := by decide +kernel
theorem d_Pap_mendRun_105 : decode m_Pap_mendRun.2.1 105 = .ok (.iload_n 3, 1) := by decide +kernel
theorem d_Pap_mendRun_106 : decode m_Pap_mendRun.2.1 106 = .ok (.iaload, 1) := by decide +kernel
theorem d_Pap_mendRun_107 : decode m_Pap_mendRun.2.1 107 = .ok (.iadd, 1) := by decide +kernel
theorem d_Pap_mendRun_108 : decode m_Pap_mendRun.2.1 108 = .ok (.invokestatic 130, 3) := by decide +kernel
theorem d_Pap_mendRun_111 : decode m_Pap_mendRun.2.1 111 = .ok (.istore 5, 2) := by decide +kernel
theorem d_Pap_mendRun_113 : decode m_Pap_mendRun.2.1 113 = .ok (.iinc 6 1, 3) := by decide +kernel
theorem d_Pap_mendRun_116 : decode m_Pap_mendRun.2.1 116 = .ok (.goto (-64), 3) := by decide +kernel
theorem d_Pap_mendRun_119 : decode m_Pap_mendRun.2.1 119 = .ok (.iload 5, 2) := by decide +kernel
theorem d_Pap_mendRun_121 : decode m_Pap_mendRun.2.1 121 = .ok (.ldc 86, 2) := by decide +kernel
theorem d_Pap_mendRun_123 : decode m_Pap_mendRun.2.1 123 = .ok (.invokestatic 130, 3) := by decide +kernel
theorem d_Pap_mendRun_126 : decode m_Pap_mendRun.2.1 126 = .ok (.ireturn, 1) := by decide +kernel
theorem d_Pap_mendOpening_0 : decode m_Pap_mendOpening.2.1 0 = .ok (.aload_n 1, 1) := by decide +kernel
theorem d_Pap_mendOpening_1 : decode m_Pap_mendOpening.2.1 1 = .ok (.iload_n 2, 1) := by decide +kernel
theorem d_Pap_mendOpening_2 : decode m_Pap_mendOpening.2.1 2 = .ok (.iaload, 1) := by decide +kernel
theorem d_Pap_mendOpening_3 : decode m_Pap_mendOpening.2.1 3 = .ok (.iconst 3, 1) := by decide +kernel
theorem d_Pap_mendOpening_4 : decode m_Pap_mendOpening.2.1 4 = .ok (.iadd, 1) := by decide +kernel
theorem d_Pap_mendOpening_5 : decode m_Pap_mendOpening.2.1 5 = .ok (.istore 4, 2) := by decide +kernel
theorem d_Pap_mendOpening_7 : decode m_Pap_mendOpening.2.1 7 = .ok (.ldc 86, 2) := by decide +kernel
theorem d_Pap_mendOpening_9 : decode m_Pap_mendOpening.2.1 9 = .ok (.istore 5, 2) := by decide +kernel
theorem d_Pap_mendOpening_11 : decode m_Pap_mendOpening.2.1 11 = .ok (.iload_n 2, 1) := by decide +kernel
theorem d_Pap_mendOpening_12 : decode m_Pap_mendOpening.2.1 12 = .ok (.iconst 1, 1) := by decide +kernel
theorem d_Pap_mendOpening_13 : decode m_Pap_mendOpening.2.1 13 = .ok (.iadd, 1) := by decide +kernel
theorem d_Pap_mendOpening_14 : decode m_Pap_mendOpening.2.1 14 = .ok (.istore 6, 2) := by decide +kernel
theorem d_Pap_mendOpening_16 : decode m_Pap_mendOpening.2.1 16 = .ok (.iload 6, 2) := by decide +kernel
theorem d_Pap_mendOpening_18 : decode m_Pap_mendOpening.2.1 18 = .ok (.iload_n 3, 1) := by decide +kernel
theorem d_Pap_mendOpening_19 : decode m_Pap_mendOpening.2.1 19 = .ok (.if_icmp .gt 86, 3) := by decide +kernel
theorem d_Pap_mendOpening_22 : decode m_Pap_mendOpening.2.1 22 = .ok (.aload_n 0, 1) := by decide +kernel
theorem d_Pap_mendOpening_23 : decode m_Pap_mendOpening.2.1 23 = .ok (.getfield 58, 3) := by decide +kernel
theorem d_Pap_mendOpening_26 : decode m_Pap_mendOpening.2.1 26 = .ok (.iload_n 2, 1) := by decide +kernel
theorem d_Pap_mendOpening_27 : decode m_Pap_mendOpening.2.1 27 = .ok (.iconst 1, 1) := by decide +kernel
theorem d_Pap_mendOpening_28 : decode m_Pap_mendOpening.2.1 28 = .ok (.iadd, 1) := by decide +kernel
theorem d_Pap_mendOpening_29 : decode m_Pap_mendOpening.2.1 29 = .ok (.aaload, 1) := by decide +kernel
theorem d_Pap_mendOpening_30 : decode m_Pap_mendOpening.2.1 30 = .ok (.iload 6, 2) := by decide +kernel
theorem d_Pap_mendOpening_32 : decode m_Pap_mendOpening.2.1 32 = .ok (.iaload, 1) := by decide +kernel
theorem d_Pap_mendOpening_33 : decode m_Pap_mendOpening.2.1 33 = .ok (.istore 7, 2) := by decide +kernel
theorem d_Pap_mendOpening_35 : decode m_Pap_mendOpening.2.1 35 = .ok (.iload 5, 2) := by decide +kernel
theorem d_Pap_mendOpening_37 : decode m_Pap_mendOpening.2.1 37 = .ok (.iload 7, 2) := by decide +kernel
theorem d_Pap_mendOpening_39 : decode m_Pap_mendOpening.2.1 39 = .ok (.aload_n 0, 1) := by decide +kernel
theorem d_Pap_mendOpening_40 : decode m_Pap_mendOpening.2.1 40 = .ok (.iload 4, 2) := by decide +kernel
theorem d_Pap_mendOpening_42 : decode m_Pap_mendOpening.2.1 42 = .ok (.iload 6, 2) := by decide +kernel
theorem d_Pap_mendOpening_44 : decode m_Pap_mendOpening.2.1 44 = .ok (.invokevirtual 126, 3) := by decide +kernel
theorem d_Pap_mendOpening_47 : decode m_Pap_mendOpening.2.1 47 = .ok (.iadd, 1) := by decide +kernel
theorem d_Pap_mendOpening_48 : decode m_Pap_mendOpening.2.1 48 = .ok (.aload_n 0, 1) := by decide +kernel
theorem d_Pap_mendOpening_49 : decode m_Pap_mendOpening.2.1 49 = .ok (.getfield 58, 3) := by decide +kernel
theorem d_Pap_mendOpening_52 : decode m_Pap_mendOpening.2.1 52 = .ok (.iload 6, 2) := by decide +kernel
theorem d_Pap_mendOpening_54 : decode m_Pap_mendOpening.2.1 54 = .ok (.aaload, 1) := by decide +kernel
theorem d_Pap_mendOpening_55 : decode m_Pap_mendOpening.2.1 55 = .ok (.iload_n 3, 1) := by decide +kernel
theorem d_Pap_mendOpening_56 : decode m_Pap_mendOpening.2.1 56 = .ok (.iaload, 1) := by decide +kernel
theorem d_Pap_mendOpening_57 : decode m_Pap_mendOpening.2.1 57 = .ok (.iadd, 1) := by decide +kernel
theorem d_Pap_mendOpening_58 : decode m_Pap_mendOpening.2.1 58 = .ok (.invokestatic 130, 3) := by decide +kernel
theorem d_Pap_mendOpening_61 : decode m_Pap_mendOpening.2.1 61 = .ok (.istore 5, 2) := by decide +kernel
theorem d_Pap_mendOpening_63 : decode m_Pap_mendOpening.2.1 63 = .ok (.iload 6, 2) := by decide +kernel
theorem d_Pap_mendOpening_65 : decode m_Pap_mendOpening.2.1 65 = .ok (.iload_n 3, 1) := by decide +kernel
theorem d_Pap_mendOpening_66 : decode m_Pap_mendOpening.2.1 66 = .ok (.if_icmp .ge 33, 3) := by decide +kernel
theorem d_Pap_mendOpening_69 : decode m_Pap_mendOpening.2.1 69 = .ok (.aload_n 1, 1) := by decide +kernel
theorem d_Pap_mendOpening_70 : decode m_Pap_mendOpening.2.1 70 = .ok (.iload 6, 2) := by decide +kernel
theorem d_Pap_mendOpening_72 : decode m_Pap_mendOpening.2.1 72 = .ok (.iaload, 1) := by decide +kernel
theorem d_Pap_mendOpening_73 : decode m_Pap_mendOpening.2.1 73 = .ok (.iload 4, 2) := by decide +kernel
theorem d_Pap_mendOpening_75 : decode m_Pap_mendOpening.2.1 75 = .ok (.if_icmp .ne 24, 3) := by decide +kernel
theorem d_Pap_mendOpening_78 : decode m_Pap_mendOpening.2.1 78 = .ok (.iload 5, 2) := by decide +kernel
theorem d_Pap_mendOpening_80 : decode m_Pap_mendOpening.2.1 80 = .ok (.iload 7, 2) := by decide +kernel
theorem d_Pap_mendOpening_82 : decode m_Pap_mendOpening.2.1 82 = .ok (.aload_n 0, 1) := by decide +kernel
theorem d_Pap_mendOpening_83 : decode m_Pap_mendOpening.2.1 83 = .ok (.getfield 58, 3) := by decide +kernel
theorem d_Pap_mendOpening_86 : decode m_Pap_mendOpening.2.1 86 = .ok (.iload 6, 2) := by decide +kernel
theorem d_Pap_mendOpening_88 : decode m_Pap_mendOpening.2.1 88 = .ok (.iconst 1, 1) := by decide +kernel
theorem d_Pap_mendOpening_89 : decode m_Pap_mendOpening.2.1 89 = .ok (.iadd, 1) := by decide +kernel
theorem d_Pap_mendOpening_90 : decode m_Pap_mendOpening.2.1 90 = .ok (.aaload, 1) := by decide +kernel
theorem d_Pap_mendOpening_91 : decode m_Pap_mendOpening.2.1 91 = .ok (.iload_n 3, 1) := by decide +kernel
theorem d_Pap_mendOpening_92 : decode m_Pap_mendOpening.2.1 92 = .ok (.iaload, 1) := by decide +kernel
theorem d_Pap_mendOpening_93 : decode m_Pap_mendOpening.2.1 93 = .ok (.iadd, 1) := by decide +kernel
theorem d_Pap_mendOpening_94 : decode m_Pap_mendOpening.2.1 94 = .ok (.invokestatic 130, 3) := by decide +kernel
theorem d_Pap_mendOpening_97 : decode m_Pap_mendOpening.2.1 97 = .ok (.istore 5, 2) := by decide +kernel
theorem d_Pap_mendOpening_99 : decode m_Pap_mendOpening.2.1 99 = .ok (.iinc 6 1, 3) := by decide +kernel
theorem d_Pap_mendOpening_102 : decode m_Pap_mendOpening.2.1 102 = .ok (.goto (-86), 3) := by decide +kernel
theorem d_Pap_mendOpening_105 : decode m_Pap_mendOpening.2.1 105 = .ok (.iload 5, 2) := by decide +kernel
theorem d_Pap_mendOpening_107 : decode m_Pap_mendOpening.2.1 107 = .ok (.ireturn, 1) := by decide +kernel
theorem d_Pap_newSign_0 : decode m_Pap_newSign.2.1 0 = .ok (.aload_n 0, 1) := by decide +kernel
theorem d_Pap_newSign_1 : decode m_Pap_newSign.2.1 1 = .ok (.getfield 55, 3) := by decide +kernel
theorem d_Pap_newSign_4 : decode m_Pap_newSign.2.1 4 = .ok (.iload_n 1, 1) := by decide +kernel
theorem d_Pap_newSign_5 : decode m_Pap_newSign.2.1 5 = .ok (.aaload, 1) := by decide +kernel
theorem d_Pap_newSign_6 : decode m_Pap_newSign.2.1 6 = .ok (.iload_n 2, 1) := by decide +kernel
theorem d_Pap_newSign_7 : decode m_Pap_newSign.2.1 7 = .ok (.iaload, 1) := by decide +kernel
theorem d_Pap_newSign_8 : decode m_Pap_newSign.2.1 8 = .ok (.ldc 86, 2) := by decide +kernel
theorem d_Pap_newSign_10 : decode m_Pap_newSign.2.1 10 = .ok (.if_icmp .ne 8, 3) := by decide +kernel
theorem d_Pap_newSign_13 : decode m_Pap_newSign.2.1 13 = .ok (.ldc 86, 2) := by decide +kernel
theorem d_Pap_newSign_15 : decode m_Pap_newSign.2.1 15 = .ok (.goto 16, 3) := by decide +kernel
theorem d_Pap_newSign_18 : decode m_Pap_newSign.2.1 18 = .ok (.aload_n 0, 1) := by decide +kernel
theorem d_Pap_newSign_19 : decode m_Pap_newSign.2.1 19 = .ok (.getfield 55, 3) := by decide +kernel
theorem d_Pap_newSign_22 : decode m_Pap_newSign.2.1 22 = .ok (.iload_n 1, 1) := by decide +kernel
theorem d_Pap_newSign_23 : decode m_Pap_newSign.2.1 23 = .ok (.aaload, 1) := by decide +kernel
theorem d_Pap_newSign_24 : decode m_Pap_newSign.2.1 24 = .ok (.iload_n 2, 1) := by decide +kernel
theorem d_Pap_newSign_25 : decode m_Pap_newSign.2.1 25 = .ok (.iaload, 1) := by decide +kernel
theorem d_Pap_newSign_26 : decode m_Pap_newSign.2.1 26 = .ok (.bipush 100, 2) := by decide +kernel
theorem d_Pap_newSign_28 : decode m_Pap_newSign.2.1 28 = .ok (.imul, 1) := by decide +kernel
theorem d_Pap_newSign_29 : decode m_Pap_newSign.2.1 29 = .ok (.iconst 1, 1) := by decide +kernel
theorem d_Pap_newSign_30 : decode m_Pap_newSign.2.1 30 = .ok (.iadd, 1) := by decide +kernel
theorem d_Pap_newSign_31 : decode m_Pap_newSign.2.1 31 = .ok (.ireturn, 1) := by decide +kernel
theorem d_Pap_strikes_0 : decode m_Pap_strikes.2.1 0 = .ok (.aload_n 0, 1) := by decide +kernel
theorem d_Pap_strikes_1 : decode m_Pap_strikes.2.1 1 = .ok (.aload_n 1, 1) := by decide +kernel
theorem d_Pap_strikes_2 : decode m_Pap_strikes.2.1 2 = .ok (.iconst 1, 1) := by decide +kernel
theorem d_Pap_strikes_3 : decode m_Pap_strikes.2.1 3 = .ok (.invokevirtual 135, 3) := by decide +kernel
theorem d_Pap_strikes_6 : decode m_Pap_strikes.2.1 6 = .ok (.aload_n 1, 1) := by decide +kernel
theorem d_Pap_strikes_7 : decode m_Pap_strikes.2.1 7 = .ok (.getfield 72, 3) := by decide +kernel
theorem d_Pap_strikes_10 : decode m_Pap_strikes.2.1 10 = .ok (.getfield 77, 3) := by decide +kernel
theorem d_Pap_strikes_13 : decode m_Pap_strikes.2.1 13 = .ok (.istore_n 2, 1) := by decide +kernel
theorem d_Pap_strikes_14 : decode m_Pap_strikes.2.1 14 = .ok (.iconst 0, 1) := by decide +kernel
theorem d_Pap_strikes_15 : decode m_Pap_strikes.2.1 15 = .ok (.istore_n 3, 1) := by decide +kernel
theorem d_Pap_strikes_16 : decode m_Pap_strikes.2.1 16 = .ok (.iload_n 3, 1) := by decide +kernel
theorem d_Pap_strikes_17 : decode m_Pap_strikes.2.1 17 = .ok (.iload_n 2, 1) := by decide +kernel
theorem d_Pap_strikes_18 : decode m_Pap_strikes.2.1 18 = .ok (.if_icmp .gt 57, 3) := by decide +kernel
theorem d_Pap_strikes_21 : decode m_Pap_strikes.2.1 21 = .ok (.aload_n 0, 1) := by decide +kernel
theorem d_Pap_strikes_22 : decode m_Pap_strikes.2.1 22 = .ok (.getfield 58, 3) := by decide +kernel
theorem d_Pap_strikes_25 : decode m_Pap_strikes.2.1 25 = .ok (.iload_n 3, 1) := by decide +kernel
theorem d_Pap_strikes_26 : decode m_Pap_strikes.2.1 26 = .ok (.aaload, 1) := by decide +kernel
theorem d_Pap_strikes_27 : decode m_Pap_strikes.2.1 27 = .ok (.iload_n 3, 1) := by decide +kernel
theorem d_Pap_strikes_28 : decode m_Pap_strikes.2.1 28 = .ok (.iconst 0, 1) := by decide +kernel
theorem d_Pap_strikes_29 : decode m_Pap_strikes.2.1 29 = .ok (.iastore, 1) := by decide +kernel
theorem d_Pap_strikes_30 : decode m_Pap_strikes.2.1 30 = .ok (.iload_n 3, 1) := by decide +kernel
theorem d_Pap_strikes_31 : decode m_Pap_strikes.2.1 31 = .ok (.iconst 1, 1) := by decide +kernel
theorem d_Pap_strikes_32 : decode m_Pap_strikes.2.1 32 = .ok (.isub, 1) := by decide +kernel
theorem d_Pap_strikes_33 : decode m_Pap_strikes.2.1 33 = .ok (.istore 4, 2) := by decide +kernel
theorem d_Pap_strikes_35 : decode m_Pap_strikes.2.1 35 = .ok (.iload 4, 2) := by decide +kernel
theorem d_Pap_strikes_37 : decode m_Pap_strikes.2.1 37 = .ok (.ifCond .lt 32, 3) := by decide +kernel
theorem d_Pap_strikes_40 : decode m_Pap_strikes.2.1 40 = .ok (.aload_n 0, 1) := by decide +kernel
theorem d_Pap_strikes_41 : decode m_Pap_strikes.2.1 41 = .ok (.getfield 58, 3) := by decide +kernel
theorem d_Pap_strikes_44 : decode m_Pap_strikes.2.1 44 = .ok (.iload 4, 2) := by decide +kernel
theorem d_Pap_strikes_46 : decode m_Pap_strikes.2.1 46 = .ok (.aaload, 1) := by decide +kernel
theorem d_Pap_strikes_47 : decode m_Pap_strikes.2.1 47 = .ok (.iload_n 3, 1) := by decide +kernel
theorem d_Pap_strikes_48 : decode m_Pap_strikes.2.1 48 = .ok (.aload_n 0, 1) := by decide +kernel
theorem d_Pap_strikes_49 : decode m_Pap_strikes.2.1 49 = .ok (.aload_n 1, 1) := by decide +kernel
theorem d_Pap_strikes_50 : decode m_Pap_strikes.2.1 50 = .ok (.getfield 72, 3) := by decide +kernel
theorem d_Pap_strikes_53 : decode m_Pap_strikes.2.1 53 = .ok (.getfield 98, 3) := by decide +kernel
theorem d_Pap_strikes_56 : decode m_Pap_strikes.2.1 56 = .ok (.iload 4, 2) := by decide +kernel
theorem d_Pap_strikes_58 : decode m_Pap_strikes.2.1 58 = .ok (.iload_n 3, 1) := by decide +kernel
theorem d_Pap_strikes_59 : decode m_Pap_strikes.2.1 59 = .ok (.invokevirtual 139, 3) := by decide +kernel
theorem d_Pap_strikes_62 : decode m_Pap_strikes.2.1 62 = .ok (.iastore, 1) := by decide +kernel
theorem d_Pap_strikes_63 : decode m_Pap_strikes.2.1 63 = .ok (.iinc 4 (-1), 3) := by decide +kernel
theorem d_Pap_strikes_66 : decode m_Pap_strikes.2.1 66 = .ok (.goto (-31), 3) := by decide +kernel
theorem d_Pap_strikes_69 : decode m_Pap_strikes.2.1 69 = .ok (.iinc 3 1, 3) := by decide +kernel
theorem d_Pap_strikes_72 : decode m_Pap_strikes.2.1 72 = .ok (.goto (-56), 3) := by decide +kernel
theorem d_Pap_strikes_75 : decode m_Pap_strikes.2.1 75 = .ok (.aload_n 0, 1) := by decide +kernel
theorem d_Pap_strikes_76 : decode m_Pap_strikes.2.1 76 = .ok (.getfield 58, 3) := by decide +kernel
theorem d_Pap_strikes_79 : decode m_Pap_strikes.2.1 79 = .ok (.iconst 0, 1) := by decide +kernel
theorem d_Pap_strikes_80 : decode m_Pap_strikes.2.1 80 = .ok (.aaload, 1) := by decide +kernel
theorem d_Pap_strikes_81 : decode m_Pap_strikes.2.1 81 = .ok (.iload_n 2, 1) := by decide +kernel
theorem d_Pap_strikes_82 : decode m_Pap_strikes.2.1 82 = .ok (.iaload, 1) := by decide +kernel
theorem d_Pap_strikes_83 : decode m_Pap_strikes.2.1 83 = .ok (.ireturn, 1) := by decide +kernel
theorem d_Pap_stakeAll_0 : decode m_Pap_stakeAll.2.1 0 = .ok (.aload_n 1, 1) := by decide +kernel
theorem d_Pap_stakeAll_1 : decode m_Pap_stakeAll.2.1 1 = .ok (.aload_n 1, 1) := by decide +kernel
theorem d_Pap_stakeAll_2 : decode m_Pap_stakeAll.2.1 2 = .ok (.getfield 91, 3) := by decide +kernel
theorem d_Pap_stakeAll_5 : decode m_Pap_stakeAll.2.1 5 = .ok (.invokevirtual 94, 3) := by decide +kernel
theorem d_Pap_stakeAll_8 : decode m_Pap_stakeAll.2.1 8 = .ok (.astore_n 3, 1) := by decide +kernel
theorem d_Pap_stakeAll_9 : decode m_Pap_stakeAll.2.1 9 = .ok (.iconst 0, 1) := by decide +kernel
theorem d_Pap_stakeAll_10 : decode m_Pap_stakeAll.2.1 10 = .ok (.istore 4, 2) := by decide +kernel
theorem d_Pap_stakeAll_12 : decode m_Pap_stakeAll.2.1 12 = .ok (.iload 4, 2) := by decide +kernel
theorem d_Pap_stakeAll_14 : decode m_Pap_stakeAll.2.1 14 = .ok (.aload_n 1, 1) := by decide +kernel
theorem d_Pap_stakeAll_15 : decode m_Pap_stakeAll.2.1 15 = .ok (.getfield 72, 3) := by decide +kernel
theorem d_Pap_stakeAll_18 : decode m_Pap_stakeAll.2.1 18 = .ok (.getfield 77, 3) := by decide +kernel
theorem d_Pap_stakeAll_21 : decode m_Pap_stakeAll.2.1 21 = .ok (.if_icmp .ge 38, 3) := by decide +kernel
theorem d_Pap_stakeAll_24 : decode m_Pap_stakeAll.2.1 24 = .ok (.aload_n 0, 1) := by decide +kernel
theorem d_Pap_stakeAll_25 : decode m_Pap_stakeAll.2.1 25 = .ok (.getfield 61, 3) := by decide +kernel
theorem d_Pap_stakeAll_28 : decode m_Pap_stakeAll.2.1 28 = .ok (.iload 4, 2) := by decide +kernel
theorem d_Pap_stakeAll_30 : decode m_Pap_stakeAll.2.1 30 = .ok (.aload_n 0, 1) := by decide +kernel
theorem d_Pap_stakeAll_31 : decode m_Pap_stakeAll.2.1 31 = .ok (.getfield 68, 3) := by decide +kernel
theorem d_Pap_stakeAll_34 : decode m_Pap_stakeAll.2.1 34 = .ok (.aload_n 1, 1) := by decide +kernel
theorem d_Pap_stakeAll_35 : decode m_Pap_stakeAll.2.1 35 = .ok (.aload_n 3, 1) := by decide +kernel
theorem d_Pap_stakeAll_36 : decode m_Pap_stakeAll.2.1 36 = .ok (.iload_n 2, 1) := by decide +kernel
theorem d_Pap_stakeAll_37 : decode m_Pap_stakeAll.2.1 37 = .ok (.aload_n 1, 1) := by decide +kernel
theorem d_Pap_stakeAll_38 : decode m_Pap_stakeAll.2.1 38 = .ok (.getfield 72, 3) := by decide +kernel
theorem d_Pap_stakeAll_41 : decode m_Pap_stakeAll.2.1 41 = .ok (.getfield 98, 3) := by decide +kernel
theorem d_Pap_stakeAll_44 : decode m_Pap_stakeAll.2.1 44 = .ok (.iload 4, 2) := by decide +kernel
theorem d_Pap_stakeAll_46 : decode m_Pap_stakeAll.2.1 46 = .ok (.iaload, 1) := by decide +kernel
theorem d_Pap_stakeAll_47 : decode m_Pap_stakeAll.2.1 47 = .ok (.iload 4, 2) := by decide +kernel
theorem d_Pap_stakeAll_49 : decode m_Pap_stakeAll.2.1 49 = .ok (.invokevirtual 87, 3) := by decide +kernel
theorem d_Pap_stakeAll_52 : decode m_Pap_stakeAll.2.1 52 = .ok (.iastore, 1) := by decide +kernel
theorem d_Pap_stakeAll_53 : decode m_Pap_stakeAll.2.1 53 = .ok (.iinc 4 1, 3) := by decide +kernel
theorem d_Pap_stakeAll_56 : decode m_Pap_stakeAll.2.1 56 = .ok (.goto (-44), 3) := by decide +kernel
theorem d_Pap_stakeAll_59 : decode m_Pap_stakeAll.2.1 59 = .ok (.return_, 1) := by decide +kernel
theorem d_Pap_strikeRun_0 : decode m_Pap_strikeRun.2.1 0 = .ok (.aload_n 0, 1) := by decide +kernel
theorem d_Pap_strikeRun_1 : decode m_Pap_strikeRun.2.1 1 = .ok (.getfield 58, 3) := by decide +kernel
theorem d_Pap_strikeRun_4 : decode m_Pap_strikeRun.2.1 4 = .ok (.iload_n 2, 1) := by decide +kernel
theorem d_Pap_strikeRun_5 : decode m_Pap_strikeRun.2.1 5 = .ok (.iconst 1, 1) := by decide +kernel
theorem d_Pap_strikeRun_6 : decode m_Pap_strikeRun.2.1 6 = .ok (.iadd, 1) := by decide +kernel
theorem d_Pap_strikeRun_7 : decode m_Pap_strikeRun.2.1 7 = .ok (.aaload, 1) := by decide +kernel
theorem d_Pap_strikeRun_8 : decode m_Pap_strikeRun.2.1 8 = .ok (.iload_n 3, 1) := by decide +kernel
theorem d_Pap_strikeRun_9 : decode m_Pap_strikeRun.2.1 9 = .ok (.iaload, 1) := by decide +kernel
theorem d_Pap_strikeRun_10 : decode m_Pap_strikeRun.2.1 10 = .ok (.aload_n 1, 1) := by decide +kernel
theorem d_Pap_strikeRun_11 : decode m_Pap_strikeRun.2.1 11 = .ok (.iload_n 2, 1) := by decide +kernel
theorem d_Pap_strikeRun_12 : decode m_Pap_strikeRun.2.1 12 = .ok (.iaload, 1) := by decide +kernel
theorem d_Pap_strikeRun_13 : decode m_Pap_strikeRun.2.1 13 = .ok (.invokestatic 109, 3) := by decide +kernel
theorem d_Pap_strikeRun_16 : decode m_Pap_strikeRun.2.1 16 = .ok (.ifCond .eq 7, 3) := by decide +kernel
theorem d_Pap_strikeRun_19 : decode m_Pap_strikeRun.2.1 19 = .ok (.iconst 0, 1) := by decide +kernel
theorem d_Pap_strikeRun_20 : decode m_Pap_strikeRun.2.1 20 = .ok (.goto 9, 3) := by decide +kernel
theorem d_Pap_strikeRun_23 : decode m_Pap_strikeRun.2.1 23 = .ok (.aload_n 0, 1) := by decide +kernel
theorem d_Pap_strikeRun_24 : decode m_Pap_strikeRun.2.1 24 = .ok (.getfield 61, 3) := by decide +kernel
theorem d_Pap_strikeRun_27 : decode m_Pap_strikeRun.2.1 27 = .ok (.iload_n 2, 1) := by decide +kernel
theorem d_Pap_strikeRun_28 : decode m_Pap_strikeRun.2.1 28 = .ok (.iaload, 1) := by decide +kernel
theorem d_Pap_strikeRun_29 : decode m_Pap_strikeRun.2.1 29 = .ok (.iadd, 1) := by decide +kernel
theorem d_Pap_strikeRun_30 : decode m_Pap_strikeRun.2.1 30 = .ok (.istore 4, 2) := by decide +kernel
theorem d_Pap_strikeRun_32 : decode m_Pap_strikeRun.2.1 32 = .ok (.aload_n 1, 1) := by decide +kernel
theorem d_Pap_strikeRun_33 : decode m_Pap_strikeRun.2.1 33 = .ok (.iload_n 2, 1) := by decide +kernel
theorem d_Pap_strikeRun_34 : decode m_Pap_strikeRun.2.1 34 = .ok (.iaload, 1) := by decide +kernel
theorem d_Pap_strikeRun_35 : decode m_Pap_strikeRun.2.1 35 = .ok (.invokestatic 113, 3) := by decide +kernel
theorem d_Pap_strikeRun_38 : decode m_Pap_strikeRun.2.1 38 = .ok (.ifCond .eq 62, 3) := by decide +kernel
theorem d_Pap_strikeRun_41 : decode m_Pap_strikeRun.2.1 41 = .ok (.iload_n 2, 1) := by decide +kernel
theorem d_Pap_strikeRun_42 : decode m_Pap_strikeRun.2.1 42 = .ok (.iconst 1, 1) := by decide +kernel
theorem d_Pap_strikeRun_43 : decode m_Pap_strikeRun.2.1 43 = .ok (.iadd, 1) := by decide +kernel
theorem d_Pap_strikeRun_44 : decode m_Pap_strikeRun.2.1 44 = .ok (.istore 5, 2) := by decide +kernel
theorem d_Pap_strikeRun_46 : decode m_Pap_strikeRun.2.1 46 = .ok (.iload 5, 2) := by decide +kernel
theorem d_Pap_strikeRun_48 : decode m_Pap_strikeRun.2.1 48 = .ok (.iload_n 3, 1) := by decide +kernel
theorem d_Pap_strikeRun_49 : decode m_Pap_strikeRun.2.1 49 = .ok (.if_icmp .ge 51, 3) := by decide +kernel
theorem d_Pap_strikeRun_52 : decode m_Pap_strikeRun.2.1 52 = .ok (.aload_n 1, 1) := by decide +kernel
theorem d_Pap_strikeRun_53 : decode m_Pap_strikeRun.2.1 53 = .ok (.iload 5, 2) := by decide +kernel
theorem d_Pap_strikeRun_55 : decode m_Pap_strikeRun.2.1 55 = .ok (.iaload, 1) := by decide +kernel
theorem d_Pap_strikeRun_56 : decode m_Pap_strikeRun.2.1 56 = .ok (.aload_n 1, 1) := by decide +kernel
theorem d_Pap_strikeRun_57 : decode m_Pap_strikeRun.2.1 57 = .ok (.iload_n 2, 1) := by decide +kernel
theorem d_Pap_strikeRun_58 : decode m_Pap_strikeRun.2.1 58 = .ok (.iaload, 1) := by decide +kernel
theorem d_Pap_strikeRun_59 : decode m_Pap_strikeRun.2.1 59 = .ok (.iconst 3, 1) := by decide +kernel
theorem d_Pap_strikeRun_60 : decode m_Pap_strikeRun.2.1 60 = .ok (.iadd, 1) := by decide +kernel
theorem d_Pap_strikeRun_61 : decode m_Pap_strikeRun.2.1 61 = .ok (.if_icmp .ne 33, 3) := by decide +kernel
theorem d_Pap_strikeRun_64 : decode m_Pap_strikeRun.2.1 64 = .ok (.iload 4, 2) := by decide +kernel
theorem d_Pap_strikeRun_66 : decode m_Pap_strikeRun.2.1 66 = .ok (.aload_n 0, 1) := by decide +kernel
theorem d_Pap_strikeRun_67 : decode m_Pap_strikeRun.2.1 67 = .ok (.getfield 58, 3) := by decide +kernel
theorem d_Pap_strikeRun_70 : decode m_Pap_strikeRun.2.1 70 = .ok (.iload_n 2, 1) := by decide +kernel
theorem d_Pap_strikeRun_71 : decode m_Pap_strikeRun.2.1 71 = .ok (.iconst 1, 1) := by decide +kernel
theorem d_Pap_strikeRun_72 : decode m_Pap_strikeRun.2.1 72 = .ok (.iadd, 1) := by decide +kernel
theorem d_Pap_strikeRun_73 : decode m_Pap_strikeRun.2.1 73 = .ok (.aaload, 1) := by decide +kernel
theorem d_Pap_strikeRun_74 : decode m_Pap_strikeRun.2.1 74 = .ok (.iload 5, 2) := by decide +kernel
theorem d_Pap_strikeRun_76 : decode m_Pap_strikeRun.2.1 76 = .ok (.iaload, 1) := by decide +kernel
theorem d_Pap_strikeRun_77 : decode m_Pap_strikeRun.2.1 77 = .ok (.aload_n 0, 1) := by decide +kernel
theorem d_Pap_strikeRun_78 : decode m_Pap_strikeRun.2.1 78 = .ok (.getfield 58, 3) := by decide +kernel
theorem d_Pap_strikeRun_81 : decode m_Pap_strikeRun.2.1 81 = .ok (.iload 5, 2) := by decide +kernel
theorem d_Pap_strikeRun_83 : decode m_Pap_strikeRun.2.1 83 = .ok (.iconst 1, 1) := by decide +kernel
theorem d_Pap_strikeRun_84 : decode m_Pap_strikeRun.2.1 84 = .ok (.iadd, 1) := by decide +kernel
theorem d_Pap_strikeRun_85 : decode m_Pap_strikeRun.2.1 85 = .ok (.aaload, 1) := by decide +kernel
theorem d_Pap_strikeRun_86 : decode m_Pap_strikeRun.2.1 86 = .ok (.iload_n 3, 1) := by decide +kernel
theorem d_Pap_strikeRun_87 : decode m_Pap_strikeRun.2.1 87 = .ok (.iaload, 1) := by decide +kernel
theorem d_Pap_strikeRun_88 : decode m_Pap_strikeRun.2.1 88 = .ok (.iadd, 1) := by decide +kernel
theorem d_Pap_strikeRun_89 : decode m_Pap_strikeRun.2.1 89 = .ok (.invokestatic 130, 3) := by decide +kernel
theorem d_Pap_strikeRun_92 : decode m_Pap_strikeRun.2.1 92 = .ok (.istore 4, 2) := by decide +kernel
theorem d_Pap_strikeRun_94 : decode m_Pap_strikeRun.2.1 94 = .ok (.iinc 5 1, 3) := by decide +kernel
theorem d_Pap_strikeRun_97 : decode m_Pap_strikeRun.2.1 97 = .ok (.goto (-51), 3) := by decide +kernel
theorem d_Pap_strikeRun_100 : decode m_Pap_strikeRun.2.1 100 = .ok (.iload 4, 2) := by decide +kernel
theorem d_Pap_strikeRun_102 : decode m_Pap_strikeRun.2.1 102 = .ok (.ireturn, 1) := by decide +kernel
theorem d_Pap_chooseStruck_0 : decode m_Pap_chooseStruck.2.1 0 = .ok (.iconst 0, 1) := by decide +kernel
theorem d_Pap_chooseStruck_1 : decode m_Pap_chooseStruck.2.1 1 = .ok (.istore_n 2, 1) := by decide +kernel
theorem d_Pap_chooseStruck_2 : decode m_Pap_chooseStruck.2.1 2 = .ok (.aload_n 1, 1) := by decide +kernel
theorem d_Pap_chooseStruck_3 : decode m_Pap_chooseStruck.2.1 3 = .ok (.getfield 77, 3) := by decide +kernel
theorem d_Pap_chooseStruck_6 : decode m_Pap_chooseStruck.2.1 6 = .ok (.istore_n 3, 1) := by decide +kernel
theorem d_Pap_chooseStruck_7 : decode m_Pap_chooseStruck.2.1 7 = .ok (.iconst 0, 1) := by decide +kernel
theorem d_Pap_chooseStruck_8 : decode m_Pap_chooseStruck.2.1 8 = .ok (.istore 4, 2) := by decide +kernel
theorem d_Pap_chooseStruck_10 : decode m_Pap_chooseStruck.2.1 10 = .ok (.iload 4, 2) := by decide +kernel
theorem d_Pap_chooseStruck_12 : decode m_Pap_chooseStruck.2.1 12 = .ok (.aload_n 1, 1) := by decide +kernel
theorem d_Pap_chooseStruck_13 : decode m_Pap_chooseStruck.2.1 13 = .ok (.getfield 77, 3) := by decide +kernel
theorem d_Pap_chooseStruck_16 : decode m_Pap_chooseStruck.2.1 16 = .ok (.if_icmp .ge 116, 3) := by decide +kernel
theorem d_Pap_chooseStruck_19 : decode m_Pap_chooseStruck.2.1 19 = .ok (.aload_n 0, 1) := by decide +kernel
theorem d_Pap_chooseStruck_20 : decode m_Pap_chooseStruck.2.1 20 = .ok (.getfield 42, 3) := by decide +kernel
theorem d_Pap_chooseStruck_23 : decode m_Pap_chooseStruck.2.1 23 = .ok (.iload 4, 2) := by decide +kernel
theorem d_Pap_chooseStruck_25 : decode m_Pap_chooseStruck.2.1 25 = .ok (.iconst 0, 1) := by decide +kernel
theorem d_Pap_chooseStruck_26 : decode m_Pap_chooseStruck.2.1 26 = .ok (.bastore, 1) := by decide +kernel
theorem d_Pap_chooseStruck_27 : decode m_Pap_chooseStruck.2.1 27 = .ok (.iload 4, 2) := by decide +kernel
theorem d_Pap_chooseStruck_29 : decode m_Pap_chooseStruck.2.1 29 = .ok (.iload_n 3, 1) := by decide +kernel
theorem d_Pap_chooseStruck_30 : decode m_Pap_chooseStruck.2.1 30 = .ok (.if_icmp .ne 20, 3) := by decide +kernel
theorem d_Pap_chooseStruck_33 : decode m_Pap_chooseStruck.2.1 33 = .ok (.iload_n 2, 1) := by decide +kernel
theorem d_Pap_chooseStruck_34 : decode m_Pap_chooseStruck.2.1 34 = .ok (.ifCond .le 16, 3) := by decide +kernel
theorem d_Pap_chooseStruck_37 : decode m_Pap_chooseStruck.2.1 37 = .ok (.iinc 2 (-1), 3) := by decide +kernel
theorem d_Pap_chooseStruck_40 : decode m_Pap_chooseStruck.2.1 40 = .ok (.aload_n 0, 1) := by decide +kernel
theorem d_Pap_chooseStruck_41 : decode m_Pap_chooseStruck.2.1 41 = .ok (.getfield 65, 3) := by decide +kernel
theorem d_Pap_chooseStruck_44 : decode m_Pap_chooseStruck.2.1 44 = .ok (.iload_n 2, 1) := by decide +kernel
theorem d_Pap_chooseStruck_45 : decode m_Pap_chooseStruck.2.1 45 = .ok (.iaload, 1) := by decide +kernel
theorem d_Pap_chooseStruck_46 : decode m_Pap_chooseStruck.2.1 46 = .ok (.istore_n 3, 1) := by decide +kernel
theorem d_Pap_chooseStruck_47 : decode m_Pap_chooseStruck.2.1 47 = .ok (.goto 79, 3) := by decide +kernel
theorem d_Pap_chooseStruck_50 : decode m_Pap_chooseStruck.2.1 50 = .ok (.aload_n 1, 1) := by decide +kernel
theorem d_Pap_chooseStruck_51 : decode m_Pap_chooseStruck.2.1 51 = .ok (.getfield 98, 3) := by decide +kernel
theorem d_Pap_chooseStruck_54 : decode m_Pap_chooseStruck.2.1 54 = .ok (.iload 4, 2) := by decide +kernel
theorem d_Pap_chooseStruck_56 : decode m_Pap_chooseStruck.2.1 56 = .ok (.iaload, 1) := by decide +kernel
theorem d_Pap_chooseStruck_57 : decode m_Pap_chooseStruck.2.1 57 = .ok (.invokestatic 113, 3) := by decide +kernel
theorem d_Pap_chooseStruck_60 : decode m_Pap_chooseStruck.2.1 60 = .ok (.ifCond .eq 49, 3) := by decide +kernel
theorem d_Pap_chooseStruck_63 : decode m_Pap_chooseStruck.2.1 63 = .ok (.aload_n 0, 1) := by decide +kernel
theorem d_Pap_chooseStruck_64 : decode m_Pap_chooseStruck.2.1 64 = .ok (.aload_n 1, 1) := by decide +kernel
theorem d_Pap_chooseStruck_65 : decode m_Pap_chooseStruck.2.1 65 = .ok (.getfield 98, 3) := by decide +kernel
theorem d_Pap_chooseStruck_68 : decode m_Pap_chooseStruck.2.1 68 = .ok (.iload 4, 2) := by decide +kernel
theorem d_Pap_chooseStruck_70 : decode m_Pap_chooseStruck.2.1 70 = .ok (.iload_n 3, 1) := by decide +kernel
theorem d_Pap_chooseStruck_71 : decode m_Pap_chooseStruck.2.1 71 = .ok (.invokevirtual 142, 3) := by decide +kernel
theorem d_Pap_chooseStruck_74 : decode m_Pap_chooseStruck.2.1 74 = .ok (.istore 5, 2) := by decide +kernel
theorem d_Pap_chooseStruck_76 : decode m_Pap_chooseStruck.2.1 76 = .ok (.iload 5, 2) := by decide +kernel
theorem d_Pap_chooseStruck_78 : decode m_Pap_chooseStruck.2.1 78 = .ok (.iconst (-1), 1) := by decide +kernel
theorem d_Pap_chooseStruck_79 : decode m_Pap_chooseStruck.2.1 79 = .ok (.if_icmp .ne 14, 3) := by decide +kernel
theorem d_Pap_chooseStruck_82 : decode m_Pap_chooseStruck.2.1 82 = .ok (.aload_n 0, 1) := by decide +kernel
theorem d_Pap_chooseStruck_83 : decode m_Pap_chooseStruck.2.1 83 = .ok (.getfield 42, 3) := by decide +kernel
theorem d_Pap_chooseStruck_86 : decode m_Pap_chooseStruck.2.1 86 = .ok (.iload 4, 2) := by decide +kernel
theorem d_Pap_chooseStruck_88 : decode m_Pap_chooseStruck.2.1 88 = .ok (.iconst 1, 1) := by decide +kernel
theorem d_Pap_chooseStruck_89 : decode m_Pap_chooseStruck.2.1 89 = .ok (.bastore, 1) := by decide +kernel
theorem d_Pap_chooseStruck_90 : decode m_Pap_chooseStruck.2.1 90 = .ok (.goto 16, 3) := by decide +kernel
theorem d_Pap_chooseStruck_93 : decode m_Pap_chooseStruck.2.1 93 = .ok (.aload_n 0, 1) := by decide +kernel
theorem d_Pap_chooseStruck_94 : decode m_Pap_chooseStruck.2.1 94 = .ok (.getfield 65, 3) := by decide +kernel
theorem d_Pap_chooseStruck_97 : decode m_Pap_chooseStruck.2.1 97 = .ok (.iload_n 2, 1) := by decide +kernel
theorem d_Pap_chooseStruck_98 : decode m_Pap_chooseStruck.2.1 98 = .ok (.iload_n 3, 1) := by decide +kernel
theorem d_Pap_chooseStruck_99 : decode m_Pap_chooseStruck.2.1 99 = .ok (.iastore, 1) := by decide +kernel
theorem d_Pap_chooseStruck_100 : decode m_Pap_chooseStruck.2.1 100 = .ok (.iinc 2 1, 3) := by decide +kernel
theorem d_Pap_chooseStruck_103 : decode m_Pap_chooseStruck.2.1 103 = .ok (.iload 5, 2) := by decide +kernel
theorem d_Pap_chooseStruck_105 : decode m_Pap_chooseStruck.2.1 105 = .ok (.istore_n 3, 1) := by decide +kernel
theorem d_Pap_chooseStruck_106 : decode m_Pap_chooseStruck.2.1 106 = .ok (.goto 20, 3) := by decide +kernel
theorem d_Pap_chooseStruck_109 : decode m_Pap_chooseStruck.2.1 109 = .ok (.aload_n 0, 1) := by decide +kernel
theorem d_Pap_chooseStruck_110 : decode m_Pap_chooseStruck.2.1 110 = .ok (.getfield 42, 3) := by decide +kernel
theorem d_Pap_chooseStruck_113 : decode m_Pap_chooseStruck.2.1 113 = .ok (.iload 4, 2) := by decide +kernel
theorem d_Pap_chooseStruck_115 : decode m_Pap_chooseStruck.2.1 115 = .ok (.aload_n 1, 1) := by decide +kernel
theorem d_Pap_chooseStruck_116 : decode m_Pap_chooseStruck.2.1 116 = .ok (.getfield 98, 3) := by decide +kernel
theorem d_Pap_chooseStruck_119 : decode m_Pap_chooseStruck.2.1 119 = .ok (.iload 4, 2) := by decide +kernel
theorem d_Pap_chooseStruck_121 : decode m_Pap_chooseStruck.2.1 121 = .ok (.iaload, 1) := by decide +kernel
theorem d_Pap_chooseStruck_122 : decode m_Pap_chooseStruck.2.1 122 = .ok (.invokestatic 119, 3) := by decide +kernel
theorem d_Pap_chooseStruck_125 : decode m_Pap_chooseStruck.2.1 125 = .ok (.bastore, 1) := by decide +kernel
theorem d_Pap_chooseStruck_126 : decode m_Pap_chooseStruck.2.1 126 = .ok (.iinc 4 1, 3) := by decide +kernel
theorem d_Pap_chooseStruck_129 : decode m_Pap_chooseStruck.2.1 129 = .ok (.goto (-119), 3) := by decide +kernel
theorem d_Pap_chooseStruck_132 : decode m_Pap_chooseStruck.2.1 132 = .ok (.return_, 1) := by decide +kernel
theorem d_Pap_chooseMate_0 : decode m_Pap_chooseMate.2.1 0 = .ok (.iload_n 2, 1) := by decide +kernel
theorem d_Pap_chooseMate_1 : decode m_Pap_chooseMate.2.1 1 = .ok (.iconst 1, 1) := by decide +kernel
theorem d_Pap_chooseMate_2 : decode m_Pap_chooseMate.2.1 2 = .ok (.iadd, 1) := by decide +kernel
theorem d_Pap_chooseMate_3 : decode m_Pap_chooseMate.2.1 3 = .ok (.istore 4, 2) := by decide +kernel
theorem d_Pap_chooseMate_5 : decode m_Pap_chooseMate.2.1 5 = .ok (.iload 4, 2) := by decide +kernel
theorem d_Pap_chooseMate_7 : decode m_Pap_chooseMate.2.1 7 = .ok (.iload_n 3, 1) := by decide +kernel
theorem d_Pap_chooseMate_8 : decode m_Pap_chooseMate.2.1 8 = .ok (.if_icmp .ge 58, 3) := by decide +kernel
theorem d_Pap_chooseMate_11 : decode m_Pap_chooseMate.2.1 11 = .ok (.aload_n 1, 1) := by decide +kernel
theorem d_Pap_chooseMate_12 : decode m_Pap_chooseMate.2.1 12 = .ok (.iload 4, 2) := by decide +kernel
theorem d_Pap_chooseMate_14 : decode m_Pap_chooseMate.2.1 14 = .ok (.iaload, 1) := by decide +kernel
theorem d_Pap_chooseMate_15 : decode m_Pap_chooseMate.2.1 15 = .ok (.aload_n 1, 1) := by decide +kernel
theorem d_Pap_chooseMate_16 : decode m_Pap_chooseMate.2.1 16 = .ok (.iload_n 2, 1) := by decide +kernel
theorem d_Pap_chooseMate_17 : decode m_Pap_chooseMate.2.1 17 = .ok (.iaload, 1) := by decide +kernel
theorem d_Pap_chooseMate_18 : decode m_Pap_chooseMate.2.1 18 = .ok (.iconst 3, 1) := by decide +kernel
theorem d_Pap_chooseMate_19 : decode m_Pap_chooseMate.2.1 19 = .ok (.iadd, 1) := by decide +kernel
theorem d_Pap_chooseMate_20 : decode m_Pap_chooseMate.2.1 20 = .ok (.if_icmp .ne 40, 3) := by decide +kernel
theorem d_Pap_chooseMate_23 : decode m_Pap_chooseMate.2.1 23 = .ok (.aload_n 0, 1) := by decide +kernel
theorem d_Pap_chooseMate_24 : decode m_Pap_chooseMate.2.1 24 = .ok (.getfield 58, 3) := by decide +kernel
theorem d_Pap_chooseMate_27 : decode m_Pap_chooseMate.2.1 27 = .ok (.iload_n 2, 1) := by decide +kernel
theorem d_Pap_chooseMate_28 : decode m_Pap_chooseMate.2.1 28 = .ok (.iconst 1, 1) := by decide +kernel
theorem d_Pap_chooseMate_29 : decode m_Pap_chooseMate.2.1 29 = .ok (.iadd, 1) := by decide +kernel
theorem d_Pap_chooseMate_30 : decode m_Pap_chooseMate.2.1 30 = .ok (.aaload, 1) := by decide +kernel
theorem d_Pap_chooseMate_31 : decode m_Pap_chooseMate.2.1 31 = .ok (.iload 4, 2) := by decide +kernel
theorem d_Pap_chooseMate_33 : decode m_Pap_chooseMate.2.1 33 = .ok (.iaload, 1) := by decide +kernel
theorem d_Pap_chooseMate_34 : decode m_Pap_chooseMate.2.1 34 = .ok (.aload_n 0, 1) := by decide +kernel
theorem d_Pap_chooseMate_35 : decode m_Pap_chooseMate.2.1 35 = .ok (.getfield 58, 3) := by decide +kernel
theorem d_Pap_chooseMate_38 : decode m_Pap_chooseMate.2.1 38 = .ok (.iload 4, 2) := by decide +kernel
theorem d_Pap_chooseMate_40 : decode m_Pap_chooseMate.2.1 40 = .ok (.iconst 1, 1) := by decide +kernel
theorem d_Pap_chooseMate_41 : decode m_Pap_chooseMate.2.1 41 = .ok (.iadd, 1) := by decide +kernel
theorem d_Pap_chooseMate_42 : decode m_Pap_chooseMate.2.1 42 = .ok (.aaload, 1) := by decide +kernel
theorem d_Pap_chooseMate_43 : decode m_Pap_chooseMate.2.1 43 = .ok (.iload_n 3, 1) := by decide +kernel
theorem d_Pap_chooseMate_44 : decode m_Pap_chooseMate.2.1 44 = .ok (.iaload, 1) := by decide +kernel
theorem d_Pap_chooseMate_45 : decode m_Pap_chooseMate.2.1 45 = .ok (.iadd, 1) := by decide +kernel
theorem d_Pap_chooseMate_46 : decode m_Pap_chooseMate.2.1 46 = .ok (.aload_n 0, 1) := by decide +kernel
theorem d_Pap_chooseMate_47 : decode m_Pap_chooseMate.2.1 47 = .ok (.getfield 58, 3) := by decide +kernel
theorem d_Pap_chooseMate_50 : decode m_Pap_chooseMate.2.1 50 = .ok (.iload_n 2, 1) := by decide +kernel
theorem d_Pap_chooseMate_51 : decode m_Pap_chooseMate.2.1 51 = .ok (.aaload, 1) := by decide +kernel
theorem d_Pap_chooseMate_52 : decode m_Pap_chooseMate.2.1 52 = .ok (.iload_n 3, 1) := by decide +kernel
theorem d_Pap_chooseMate_53 : decode m_Pap_chooseMate.2.1 53 = .ok (.iaload, 1) := by decide +kernel
theorem d_Pap_chooseMate_54 : decode m_Pap_chooseMate.2.1 54 = .ok (.if_icmp .ne 6, 3) := by decide +kernel
theorem d_Pap_chooseMate_57 : decode m_Pap_chooseMate.2.1 57 = .ok (.iload 4, 2) := by decide +kernel
theorem d_Pap_chooseMate_59 : decode m_Pap_chooseMate.2.1 59 = .ok (.ireturn, 1) := by decide +kernel
theorem d_Pap_chooseMate_60 : decode m_Pap_chooseMate.2.1 60 = .ok (.iinc 4 1, 3) := by decide +kernel
theorem d_Pap_chooseMate_63 : decode m_Pap_chooseMate.2.1 63 = .ok (.goto (-58), 3) := by decide +kernel
theorem d_Pap_chooseMate_66 : decode m_Pap_chooseMate.2.1 66 = .ok (.iconst (-1), 1) := by decide +kernel
theorem d_Pap_chooseMate_67 : decode m_Pap_chooseMate.2.1 67 = .ok (.ireturn, 1) := by decide +kernel
theorem d_Pap_findRun_0 : decode m_Pap_findRun.2.1 0 = .ok (.aload_n 0, 1) := by decide +kernel
theorem d_Pap_findRun_1 : decode m_Pap_findRun.2.1 1 = .ok (.iconst 0, 1) := by decide +kernel
theorem d_Pap_findRun_2 : decode m_Pap_findRun.2.1 2 = .ok (.putfield 18, 3) := by decide +kernel
theorem d_Pap_findRun_5 : decode m_Pap_findRun.2.1 5 = .ok (.aload_n 0, 1) := by decide +kernel
theorem d_Pap_findRun_6 : decode m_Pap_findRun.2.1 6 = .ok (.iconst (-1), 1) := by decide +kernel
theorem d_Pap_findRun_7 : decode m_Pap_findRun.2.1 7 = .ok (.putfield 21, 3) := by decide +kernel
theorem d_Pap_findRun_10 : decode m_Pap_findRun.2.1 10 = .ok (.iconst 0, 1) := by decide +kernel
theorem d_Pap_findRun_11 : decode m_Pap_findRun.2.1 11 = .ok (.istore_n 2, 1) := by decide +kernel
theorem d_Pap_findRun_12 : decode m_Pap_findRun.2.1 12 = .ok (.iload_n 2, 1) := by decide +kernel
theorem d_Pap_findRun_13 : decode m_Pap_findRun.2.1 13 = .ok (.aload_n 1, 1) := by decide +kernel
theorem d_Pap_findRun_14 : decode m_Pap_findRun.2.1 14 = .ok (.getfield 77, 3) := by decide +kernel
theorem d_Pap_findRun_17 : decode m_Pap_findRun.2.1 17 = .ok (.if_icmp .ge 55, 3) := by decide +kernel
theorem d_Pap_findRun_20 : decode m_Pap_findRun.2.1 20 = .ok (.aload_n 1, 1) := by decide +kernel
theorem d_Pap_findRun_21 : decode m_Pap_findRun.2.1 21 = .ok (.getfield 77, 3) := by decide +kernel
theorem d_Pap_findRun_24 : decode m_Pap_findRun.2.1 24 = .ok (.iconst 1, 1) := by decide +kernel
theorem d_Pap_findRun_25 : decode m_Pap_findRun.2.1 25 = .ok (.isub, 1) := by decide +kernel
theorem d_Pap_findRun_26 : decode m_Pap_findRun.2.1 26 = .ok (.istore_n 3, 1) := by decide +kernel
theorem d_Pap_findRun_27 : decode m_Pap_findRun.2.1 27 = .ok (.iload_n 3, 1) := by decide +kernel
theorem d_Pap_findRun_28 : decode m_Pap_findRun.2.1 28 = .ok (.iload_n 2, 1) := by decide +kernel
theorem d_Pap_findRun_29 : decode m_Pap_findRun.2.1 29 = .ok (.isub, 1) := by decide +kernel
theorem d_Pap_findRun_30 : decode m_Pap_findRun.2.1 30 = .ok (.aload_n 0, 1) := by decide +kernel
theorem d_Pap_findRun_31 : decode m_Pap_findRun.2.1 31 = .ok (.getfield 18, 3) := by decide +kernel
theorem d_Pap_findRun_34 : decode m_Pap_findRun.2.1 34 = .ok (.if_icmp .lt 32, 3) := by decide +kernel
theorem d_Pap_findRun_37 : decode m_Pap_findRun.2.1 37 = .ok (.aload_n 1, 1) := by decide +kernel
theorem d_Pap_findRun_38 : decode m_Pap_findRun.2.1 38 = .ok (.iload_n 2, 1) := by decide +kernel
theorem d_Pap_findRun_39 : decode m_Pap_findRun.2.1 39 = .ok (.iload_n 3, 1) := by decide +kernel
theorem d_Pap_findRun_40 : decode m_Pap_findRun.2.1 40 = .ok (.invokevirtual 145, 3) := by decide +kernel
theorem d_Pap_findRun_43 : decode m_Pap_findRun.2.1 43 = .ok (.ifCond .eq 17, 3) := by decide +kernel
theorem d_Pap_findRun_46 : decode m_Pap_findRun.2.1 46 = .ok (.aload_n 0, 1) := by decide +kernel
theorem d_Pap_findRun_47 : decode m_Pap_findRun.2.1 47 = .ok (.iload_n 3, 1) := by decide +kernel
theorem d_Pap_findRun_48 : decode m_Pap_findRun.2.1 48 = .ok (.iload_n 2, 1) := by decide +kernel
theorem d_Pap_findRun_49 : decode m_Pap_findRun.2.1 49 = .ok (.isub, 1) := by decide +kernel
theorem d_Pap_findRun_50 : decode m_Pap_findRun.2.1 50 = .ok (.iconst 1, 1) := by decide +kernel
theorem d_Pap_findRun_51 : decode m_Pap_findRun.2.1 51 = .ok (.iadd, 1) := by decide +kernel
theorem d_Pap_findRun_52 : decode m_Pap_findRun.2.1 52 = .ok (.putfield 18, 3) := by decide +kernel
theorem d_Pap_findRun_55 : decode m_Pap_findRun.2.1 55 = .ok (.aload_n 0, 1) := by decide +kernel
theorem d_Pap_findRun_56 : decode m_Pap_findRun.2.1 56 = .ok (.iload_n 2, 1) := by decide +kernel
theorem d_Pap_findRun_57 : decode m_Pap_findRun.2.1 57 = .ok (.putfield 21, 3) := by decide +kernel
theorem d_Pap_findRun_60 : decode m_Pap_findRun.2.1 60 = .ok (.iinc 3 (-1), 3) := by decide +kernel
theorem d_Pap_findRun_63 : decode m_Pap_findRun.2.1 63 = .ok (.goto (-36), 3) := by decide +kernel
theorem d_Pap_findRun_66 : decode m_Pap_findRun.2.1 66 = .ok (.iinc 2 1, 3) := by decide +kernel
theorem d_Pap_findRun_69 : decode m_Pap_findRun.2.1 69 = .ok (.goto (-57), 3) := by decide +kernel
theorem d_Pap_findRun_72 : decode m_Pap_findRun.2.1 72 = .ok (.return_, 1) := by decide +kernel
theorem d_Pap_fitting_0 : decode m_Pap_fitting.2.1 0 = .ok (.aload_n 0, 1) := by decide +kernel
theorem d_Pap_fitting_1 : decode m_Pap_fitting.2.1 1 = .ok (.getfield 49, 3) := by decide +kernel
theorem d_Pap_fitting_4 : decode m_Pap_fitting.2.1 4 = .ok (.aload_n 1, 1) := by decide +kernel
theorem d_Pap_fitting_5 : decode m_Pap_fitting.2.1 5 = .ok (.invokevirtual 149, 3) := by decide +kernel
theorem d_Pap_fitting_8 : decode m_Pap_fitting.2.1 8 = .ok (.iconst 0, 1) := by decide +kernel
theorem d_Pap_fitting_9 : decode m_Pap_fitting.2.1 9 = .ok (.istore_n 3, 1) := by decide +kernel
theorem d_Pap_fitting_10 : decode m_Pap_fitting.2.1 10 = .ok (.iconst 0, 1) := by decide +kernel
theorem d_Pap_fitting_11 : decode m_Pap_fitting.2.1 11 = .ok (.istore 4, 2) := by decide +kernel
theorem d_Pap_fitting_13 : decode m_Pap_fitting.2.1 13 = .ok (.iload 4, 2) := by decide +kernel
theorem d_Pap_fitting_15 : decode m_Pap_fitting.2.1 15 = .ok (.bipush 6, 2) := by decide +kernel
theorem d_Pap_fitting_17 : decode m_Pap_fitting.2.1 17 = .ok (.if_icmp .ge 46, 3) := by decide +kernel
theorem d_Pap_fitting_20 : decode m_Pap_fitting.2.1 20 = .ok (.aload_n 0, 1) := by decide +kernel
theorem d_Pap_fitting_21 : decode m_Pap_fitting.2.1 21 = .ok (.getfield 49, 3) := by decide +kernel
theorem d_Pap_fitting_24 : decode m_Pap_fitting.2.1 24 = .ok (.iload_n 2, 1) := by decide +kernel
theorem d_Pap_fitting_25 : decode m_Pap_fitting.2.1 25 = .ok (.iload 4, 2) := by decide +kernel
theorem d_Pap_fitting_27 : decode m_Pap_fitting.2.1 27 = .ok (.invokevirtual 153, 3) := by decide +kernel
theorem d_Pap_fitting_30 : decode m_Pap_fitting.2.1 30 = .ok (.aload_n 0, 1) := by decide +kernel
theorem d_Pap_fitting_31 : decode m_Pap_fitting.2.1 31 = .ok (.getfield 49, 3) := by decide +kernel
theorem d_Pap_fitting_34 : decode m_Pap_fitting.2.1 34 = .ok (.iconst 0, 1) := by decide +kernel
theorem d_Pap_fitting_35 : decode m_Pap_fitting.2.1 35 = .ok (.aload_n 0, 1) := by decide +kernel
theorem d_Pap_fitting_36 : decode m_Pap_fitting.2.1 36 = .ok (.getfield 49, 3) := by decide +kernel
theorem d_Pap_fitting_39 : decode m_Pap_fitting.2.1 39 = .ok (.getfield 77, 3) := by decide +kernel
theorem d_Pap_fitting_42 : decode m_Pap_fitting.2.1 42 = .ok (.iconst 1, 1) := by decide +kernel
theorem d_Pap_fitting_43 : decode m_Pap_fitting.2.1 43 = .ok (.isub, 1) := by decide +kernel
theorem d_Pap_fitting_44 : decode m_Pap_fitting.2.1 44 = .ok (.invokevirtual 145, 3) := by decide +kernel
theorem d_Pap_fitting_47 : decode m_Pap_fitting.2.1 47 = .ok (.ifCond .eq 10, 3) := by decide +kernel
theorem d_Pap_fitting_50 : decode m_Pap_fitting.2.1 50 = .ok (.iload_n 3, 1) := by decide +kernel
theorem d_Pap_fitting_51 : decode m_Pap_fitting.2.1 51 = .ok (.iconst 1, 1) := by decide +kernel
theorem d_Pap_fitting_52 : decode m_Pap_fitting.2.1 52 = .ok (.iload 4, 2) := by decide +kernel
theorem d_Pap_fitting_54 : decode m_Pap_fitting.2.1 54 = .ok (.ishl, 1) := by decide +kernel
theorem d_Pap_fitting_55 : decode m_Pap_fitting.2.1 55 = .ok (.ior, 1) := by decide +kernel
theorem d_Pap_fitting_56 : decode m_Pap_fitting.2.1 56 = .ok (.istore_n 3, 1) := by decide +kernel
theorem d_Pap_fitting_57 : decode m_Pap_fitting.2.1 57 = .ok (.iinc 4 1, 3) := by decide +kernel
theorem d_Pap_fitting_60 : decode m_Pap_fitting.2.1 60 = .ok (.goto (-47), 3) := by decide +kernel
theorem d_Pap_fitting_63 : decode m_Pap_fitting.2.1 63 = .ok (.iload_n 3, 1) := by decide +kernel
theorem d_Pap_fitting_64 : decode m_Pap_fitting.2.1 64 = .ok (.ireturn, 1) := by decide +kernel
theorem d_Pap_play_0 : decode m_Pap_play.2.1 0 = .ok (.aload_n 0, 1) := by decide +kernel
theorem d_Pap_play_1 : decode m_Pap_play.2.1 1 = .ok (.aload_n 1, 1) := by decide +kernel
theorem d_Pap_play_2 : decode m_Pap_play.2.1 2 = .ok (.iconst 2, 1) := by decide +kernel
theorem d_Pap_play_3 : decode m_Pap_play.2.1 3 = .ok (.invokevirtual 135, 3) := by decide +kernel
theorem d_Pap_play_6 : decode m_Pap_play.2.1 6 = .ok (.aload_n 1, 1) := by decide +kernel
theorem d_Pap_play_7 : decode m_Pap_play.2.1 7 = .ok (.getfield 72, 3) := by decide +kernel
theorem d_Pap_play_10 : decode m_Pap_play.2.1 10 = .ok (.getfield 77, 3) := by decide +kernel
theorem d_Pap_play_13 : decode m_Pap_play.2.1 13 = .ok (.istore_n 2, 1) := by decide +kernel
theorem d_Pap_play_14 : decode m_Pap_play.2.1 14 = .ok (.aload_n 0, 1) := by decide +kernel
theorem d_Pap_play_15 : decode m_Pap_play.2.1 15 = .ok (.iconst 0, 1) := by decide +kernel
theorem d_Pap_play_16 : decode m_Pap_play.2.1 16 = .ok (.putfield 27, 3) := by decide +kernel
theorem d_Pap_play_19 : decode m_Pap_play.2.1 19 = .ok (.iconst 0, 1) := by decide +kernel
theorem d_Pap_play_20 : decode m_Pap_play.2.1 20 = .ok (.istore_n 3, 1) := by decide +kernel
theorem d_Pap_play_21 : decode m_Pap_play.2.1 21 = .ok (.iload_n 3, 1) := by decide +kernel
theorem d_Pap_play_22 : decode m_Pap_play.2.1 22 = .ok (.iload_n 2, 1) := by decide +kernel
theorem d_Pap_play_23 : decode m_Pap_play.2.1 23 = .ok (.if_icmp .gt 109, 3) := by decide +kernel
theorem d_Pap_play_26 : decode m_Pap_play.2.1 26 = .ok (.aload_n 0, 1) := by decide +kernel
theorem d_Pap_play_27 : decode m_Pap_play.2.1 27 = .ok (.getfield 58, 3) := by decide +kernel
theorem d_Pap_play_30 : decode m_Pap_play.2.1 30 = .ok (.iload_n 3, 1) := by decide +kernel
theorem d_Pap_play_31 : decode m_Pap_play.2.1 31 = .ok (.aaload, 1) := by decide +kernel
theorem d_Pap_play_32 : decode m_Pap_play.2.1 32 = .ok (.iload_n 3, 1) := by decide +kernel
theorem d_Pap_play_33 : decode m_Pap_play.2.1 33 = .ok (.iconst 0, 1) := by decide +kernel
theorem d_Pap_play_34 : decode m_Pap_play.2.1 34 = .ok (.iastore, 1) := by decide +kernel
theorem d_Pap_play_35 : decode m_Pap_play.2.1 35 = .ok (.iload_n 3, 1) := by decide +kernel
theorem d_Pap_play_36 : decode m_Pap_play.2.1 36 = .ok (.iconst 1, 1) := by decide +kernel
theorem d_Pap_play_37 : decode m_Pap_play.2.1 37 = .ok (.isub, 1) := by decide +kernel
theorem d_Pap_play_38 : decode m_Pap_play.2.1 38 = .ok (.istore 4, 2) := by decide +kernel
theorem d_Pap_play_40 : decode m_Pap_play.2.1 40 = .ok (.iload 4, 2) := by decide +kernel
theorem d_Pap_play_42 : decode m_Pap_play.2.1 42 = .ok (.ifCond .lt 84, 3) := by decide +kernel
theorem d_Pap_play_45 : decode m_Pap_play.2.1 45 = .ok (.aload_n 0, 1) := by decide +kernel
theorem d_Pap_play_46 : decode m_Pap_play.2.1 46 = .ok (.getfield 61, 3) := by decide +kernel
theorem d_Pap_play_49 : decode m_Pap_play.2.1 49 = .ok (.iload 4, 2) := by decide +kernel
theorem d_Pap_play_51 : decode m_Pap_play.2.1 51 = .ok (.iaload, 1) := by decide +kernel
theorem d_Pap_play_52 : decode m_Pap_play.2.1 52 = .ok (.aload_n 0, 1) := by decide +kernel
theorem d_Pap_play_53 : decode m_Pap_play.2.1 53 = .ok (.getfield 58, 3) := by decide +kernel
theorem d_Pap_play_56 : decode m_Pap_play.2.1 56 = .ok (.iload 4, 2) := by decide +kernel
theorem d_Pap_play_58 : decode m_Pap_play.2.1 58 = .ok (.iconst 1, 1) := by decide +kernel
theorem d_Pap_play_59 : decode m_Pap_play.2.1 59 = .ok (.iadd, 1) := by decide +kernel
theorem d_Pap_play_60 : decode m_Pap_play.2.1 60 = .ok (.aaload, 1) := by decide +kernel
theorem d_Pap_play_61 : decode m_Pap_play.2.1 61 = .ok (.iload_n 3, 1) := by decide +kernel
theorem d_Pap_play_62 : decode m_Pap_play.2.1 62 = .ok (.iaload, 1) := by decide +kernel
theorem d_Pap_play_63 : decode m_Pap_play.2.1 63 = .ok (.isub, 1) := by decide +kernel
theorem d_Pap_play_64 : decode m_Pap_play.2.1 64 = .ok (.istore 5, 2) := by decide +kernel
theorem d_Pap_play_66 : decode m_Pap_play.2.1 66 = .ok (.aload_n 0, 1) := by decide +kernel
theorem d_Pap_play_67 : decode m_Pap_play.2.1 67 = .ok (.getfield 61, 3) := by decide +kernel
theorem d_Pap_play_70 : decode m_Pap_play.2.1 70 = .ok (.iload_n 3, 1) := by decide +kernel
theorem d_Pap_play_71 : decode m_Pap_play.2.1 71 = .ok (.iconst 1, 1) := by decide +kernel
theorem d_Pap_play_72 : decode m_Pap_play.2.1 72 = .ok (.isub, 1) := by decide +kernel
theorem d_Pap_play_73 : decode m_Pap_play.2.1 73 = .ok (.iaload, 1) := by decide +kernel
theorem d_Pap_play_74 : decode m_Pap_play.2.1 74 = .ok (.aload_n 0, 1) := by decide +kernel
theorem d_Pap_play_75 : decode m_Pap_play.2.1 75 = .ok (.getfield 58, 3) := by decide +kernel
theorem d_Pap_play_78 : decode m_Pap_play.2.1 78 = .ok (.iload 4, 2) := by decide +kernel
theorem d_Pap_play_80 : decode m_Pap_play.2.1 80 = .ok (.aaload, 1) := by decide +kernel
theorem d_Pap_play_81 : decode m_Pap_play.2.1 81 = .ok (.iload_n 3, 1) := by decide +kernel
theorem d_Pap_play_82 : decode m_Pap_play.2.1 82 = .ok (.iconst 1, 1) := by decide +kernel
theorem d_Pap_play_83 : decode m_Pap_play.2.1 83 = .ok (.isub, 1) := by decide +kernel
theorem d_Pap_play_84 : decode m_Pap_play.2.1 84 = .ok (.iaload, 1) := by decide +kernel
theorem d_Pap_play_85 : decode m_Pap_play.2.1 85 = .ok (.isub, 1) := by decide +kernel
theorem d_Pap_play_86 : decode m_Pap_play.2.1 86 = .ok (.istore 6, 2) := by decide +kernel
theorem d_Pap_play_88 : decode m_Pap_play.2.1 88 = .ok (.aload_n 0, 1) := by decide +kernel
theorem d_Pap_play_89 : decode m_Pap_play.2.1 89 = .ok (.getfield 58, 3) := by decide +kernel
theorem d_Pap_play_92 : decode m_Pap_play.2.1 92 = .ok (.iload 4, 2) := by decide +kernel
theorem d_Pap_play_94 : decode m_Pap_play.2.1 94 = .ok (.aaload, 1) := by decide +kernel
theorem d_Pap_play_95 : decode m_Pap_play.2.1 95 = .ok (.iload_n 3, 1) := by decide +kernel
theorem d_Pap_play_96 : decode m_Pap_play.2.1 96 = .ok (.iload 5, 2) := by decide +kernel
theorem d_Pap_play_98 : decode m_Pap_play.2.1 98 = .ok (.iload 6, 2) := by decide +kernel
theorem d_Pap_play_100 : decode m_Pap_play.2.1 100 = .ok (.invokestatic 157, 3) := by decide +kernel
theorem d_Pap_play_103 : decode m_Pap_play.2.1 103 = .ok (.iastore, 1) := by decide +kernel
theorem d_Pap_play_104 : decode m_Pap_play.2.1 104 = .ok (.aload_n 0, 1) := by decide +kernel
theorem d_Pap_play_105 : decode m_Pap_play.2.1 105 = .ok (.iload 6, 2) := by decide +kernel
theorem d_Pap_play_107 : decode m_Pap_play.2.1 107 = .ok (.iload 5, 2) := by decide +kernel
theorem d_Pap_play_109 : decode m_Pap_play.2.1 109 = .ok (.if_icmp .le 7, 3) := by decide +kernel
theorem d_Pap_play_112 : decode m_Pap_play.2.1 112 = .ok (.iconst 1, 1) := by decide +kernel
theorem d_Pap_play_113 : decode m_Pap_play.2.1 113 = .ok (.goto 4, 3) := by decide +kernel
theorem d_Pap_play_116 : decode m_Pap_play.2.1 116 = .ok (.iconst 0, 1) := by decide +kernel
theorem d_Pap_play_117 : decode m_Pap_play.2.1 117 = .ok (.putfield 27, 3) := by decide +kernel
theorem d_Pap_play_120 : decode m_Pap_play.2.1 120 = .ok (.iinc 4 (-1), 3) := by decide +kernel
theorem d_Pap_play_123 : decode m_Pap_play.2.1 123 = .ok (.goto (-83), 3) := by decide +kernel
theorem d_Pap_play_126 : decode m_Pap_play.2.1 126 = .ok (.iinc 3 1, 3) := by decide +kernel
theorem d_Pap_play_129 : decode m_Pap_play.2.1 129 = .ok (.goto (-108), 3) := by decide +kernel
theorem d_Pap_play_132 : decode m_Pap_play.2.1 132 = .ok (.aload_n 0, 1) := by decide +kernel
theorem d_Pap_play_133 : decode m_Pap_play.2.1 133 = .ok (.aload_n 0, 1) := by decide +kernel
theorem d_Pap_play_134 : decode m_Pap_play.2.1 134 = .ok (.getfield 58, 3) := by decide +kernel
theorem d_Pap_play_137 : decode m_Pap_play.2.1 137 = .ok (.iconst 0, 1) := by decide +kernel
theorem d_Pap_play_138 : decode m_Pap_play.2.1 138 = .ok (.aaload, 1) := by decide +kernel
theorem d_Pap_play_139 : decode m_Pap_play.2.1 139 = .ok (.iload_n 2, 1) := by decide +kernel
theorem d_Pap_play_140 : decode m_Pap_play.2.1 140 = .ok (.iaload, 1) := by decide +kernel
theorem d_Pap_play_141 : decode m_Pap_play.2.1 141 = .ok (.putfield 24, 3) := by decide +kernel
theorem d_Pap_play_144 : decode m_Pap_play.2.1 144 = .ok (.return_, 1) := by decide +kernel
theorem d_Pap_hides_0 : decode m_Pap_hides.2.1 0 = .ok (.aload_n 1, 1) := by decide +kernel
theorem d_Pap_hides_1 : decode m_Pap_hides.2.1 1 = .ok (.getfield 72, 3) := by decide +kernel
theorem d_Pap_hides_4 : decode m_Pap_hides.2.1 4 = .ok (.astore_n 3, 1) := by decide +kernel
theorem d_Pap_hides_5 : decode m_Pap_hides.2.1 5 = .ok (.aload_n 3, 1) := by decide +kernel
theorem d_Pap_hides_6 : decode m_Pap_hides.2.1 6 = .ok (.getfield 77, 3) := by decide +kernel
theorem d_Pap_hides_9 : decode m_Pap_hides.2.1 9 = .ok (.istore 4, 2) := by decide +kernel
theorem d_Pap_hides_11 : decode m_Pap_hides.2.1 11 = .ok (.iconst (-1), 1) := by decide +kernel
theorem d_Pap_hides_12 : decode m_Pap_hides.2.1 12 = .ok (.istore 5, 2) := by decide +kernel
theorem d_Pap_hides_14 : decode m_Pap_hides.2.1 14 = .ok (.iconst 0, 1) := by decide +kernel
theorem d_Pap_hides_15 : decode m_Pap_hides.2.1 15 = .ok (.istore 6, 2) := by decide +kernel
theorem d_Pap_hides_17 : decode m_Pap_hides.2.1 17 = .ok (.iload 6, 2) := by decide +kernel
theorem d_Pap_hides_19 : decode m_Pap_hides.2.1 19 = .ok (.aload_n 3, 1) := by decide +kernel
theorem d_Pap_hides_20 : decode m_Pap_hides.2.1 20 = .ok (.getfield 77, 3) := by decide +kernel
theorem d_Pap_hides_23 : decode m_Pap_hides.2.1 23 = .ok (.if_icmp .ge 45, 3) := by decide +kernel
theorem d_Pap_hides_26 : decode m_Pap_hides.2.1 26 = .ok (.iload_n 2, 1) := by decide +kernel
theorem d_Pap_hides_27 : decode m_Pap_hides.2.1 27 = .ok (.aload_n 3, 1) := by decide +kernel
theorem d_Pap_hides_28 : decode m_Pap_hides.2.1 28 = .ok (.getfield 98, 3) := by decide +kernel
theorem d_Pap_hides_31 : decode m_Pap_hides.2.1 31 = .ok (.iload 6, 2) := by decide +kernel
theorem d_Pap_hides_33 : decode m_Pap_hides.2.1 33 = .ok (.iaload, 1) := by decide +kernel
theorem d_Pap_hides_34 : decode m_Pap_hides.2.1 34 = .ok (.invokestatic 160, 3) := by decide +kernel
theorem d_Pap_hides_37 : decode m_Pap_hides.2.1 37 = .ok (.ifCond .eq 25, 3) := by decide +kernel
theorem d_Pap_hides_40 : decode m_Pap_hides.2.1 40 = .ok (.aload_n 3, 1) := by decide +kernel
theorem d_Pap_hides_41 : decode m_Pap_hides.2.1 41 = .ok (.iload 6, 2) := by decide +kernel
theorem d_Pap_hides_43 : decode m_Pap_hides.2.1 43 = .ok (.invokevirtual 163, 3) := by decide +kernel
theorem d_Pap_hides_46 : decode m_Pap_hides.2.1 46 = .ok (.ifCond .ne 16, 3) := by decide +kernel
theorem d_Pap_hides_49 : decode m_Pap_hides.2.1 49 = .ok (.iload 4, 2) := by decide +kernel
theorem d_Pap_hides_51 : decode m_Pap_hides.2.1 51 = .ok (.iload 6, 2) := by decide +kernel
theorem d_Pap_hides_53 : decode m_Pap_hides.2.1 53 = .ok (.invokestatic 130, 3) := by decide +kernel
theorem d_Pap_hides_56 : decode m_Pap_hides.2.1 56 = .ok (.istore 4, 2) := by decide +kernel
theorem d_Pap_hides_58 : decode m_Pap_hides.2.1 58 = .ok (.iload 6, 2) := by decide +kernel
theorem d_Pap_hides_60 : decode m_Pap_hides.2.1 60 = .ok (.istore 5, 2) := by decide +kernel
theorem d_Pap_hides_62 : decode m_Pap_hides.2.1 62 = .ok (.iinc 6 1, 3) := by decide +kernel
theorem d_Pap_hides_65 : decode m_Pap_hides.2.1 65 = .ok (.goto (-48), 3) := by decide +kernel
theorem d_Pap_hides_68 : decode m_Pap_hides.2.1 68 = .ok (.iload 5, 2) := by decide +kernel
theorem d_Pap_hides_70 : decode m_Pap_hides.2.1 70 = .ok (.iconst (-1), 1) := by decide +kernel
theorem d_Pap_hides_71 : decode m_Pap_hides.2.1 71 = .ok (.if_icmp .ne 5, 3) := by decide +kernel
theorem d_Pap_hides_74 : decode m_Pap_hides.2.1 74 = .ok (.iconst 0, 1) := by decide +kernel
theorem d_Pap_hides_75 : decode m_Pap_hides.2.1 75 = .ok (.ireturn, 1) := by decide +kernel
theorem d_Pap_hides_76 : decode m_Pap_hides.2.1 76 = .ok (.aload_n 0, 1) := by decide +kernel
theorem d_Pap_hides_77 : decode m_Pap_hides.2.1 77 = .ok (.aload_n 1, 1) := by decide +kernel
theorem d_Pap_hides_78 : decode m_Pap_hides.2.1 78 = .ok (.aload_n 1, 1) := by decide +kernel
theorem d_Pap_hides_79 : decode m_Pap_hides.2.1 79 = .ok (.aload_n 1, 1) := by decide +kernel
theorem d_Pap_hides_80 : decode m_Pap_hides.2.1 80 = .ok (.getfield 91, 3) := by decide +kernel
theorem d_Pap_hides_83 : decode m_Pap_hides.2.1 83 = .ok (.invokevirtual 94, 3) := by decide +kernel
theorem d_Pap_hides_86 : decode m_Pap_hides.2.1 86 = .ok (.invokevirtual 101, 3) := by decide +kernel
theorem d_Pap_hides_89 : decode m_Pap_hides.2.1 89 = .ok (.aload_n 0, 1) := by decide +kernel
theorem d_Pap_hides_90 : decode m_Pap_hides.2.1 90 = .ok (.ldc 86, 2) := by decide +kernel
theorem d_Pap_hides_92 : decode m_Pap_hides.2.1 92 = .ok (.putfield 30, 3) := by decide +kernel
theorem d_Pap_hides_95 : decode m_Pap_hides.2.1 95 = .ok (.iconst 0, 1) := by decide +kernel
theorem d_Pap_hides_96 : decode m_Pap_hides.2.1 96 = .ok (.istore 6, 2) := by decide +kernel
theorem d_Pap_hides_98 : decode m_Pap_hides.2.1 98 = .ok (.iload 6, 2) := by decide +kernel
theorem d_Pap_hides_100 : decode m_Pap_hides.2.1 100 = .ok (.iload 4, 2) := by decide +kernel
theorem d_Pap_hides_102 : decode m_Pap_hides.2.1 102 = .ok (.if_icmp .gt 51, 3) := by decide +kernel
theorem d_Pap_hides_105 : decode m_Pap_hides.2.1 105 = .ok (.iload 5, 2) := by decide +kernel
theorem d_Pap_hides_107 : decode m_Pap_hides.2.1 107 = .ok (.iconst 1, 1) := by decide +kernel
theorem d_Pap_hides_108 : decode m_Pap_hides.2.1 108 = .ok (.iadd, 1) := by decide +kernel
theorem d_Pap_hides_109 : decode m_Pap_hides.2.1 109 = .ok (.istore 7, 2) := by decide +kernel
theorem d_Pap_hides_111 : decode m_Pap_hides.2.1 111 = .ok (.iload 7, 2) := by decide +kernel
theorem d_Pap_hides_113 : decode m_Pap_hides.2.1 113 = .ok (.aload_n 3, 1) := by decide +kernel
theorem d_Pap_hides_114 : decode m_Pap_hides.2.1 114 = .ok (.getfield 77, 3) := by decide +kernel
theorem d_Pap_hides_117 : decode m_Pap_hides.2.1 117 = .ok (.if_icmp .gt 30, 3) := by decide +kernel
theorem d_Pap_hides_120 : decode m_Pap_hides.2.1 120 = .ok (.aload_n 3, 1) := by decide +kernel
theorem d_Pap_hides_121 : decode m_Pap_hides.2.1 121 = .ok (.iload 6, 2) := by decide +kernel
theorem d_Pap_hides_123 : decode m_Pap_hides.2.1 123 = .ok (.iload 7, 2) := by decide +kernel
theorem d_Pap_hides_125 : decode m_Pap_hides.2.1 125 = .ok (.iconst 1, 1) := by decide +kernel
theorem d_Pap_hides_126 : decode m_Pap_hides.2.1 126 = .ok (.isub, 1) := by decide +kernel
theorem d_Pap_hides_127 : decode m_Pap_hides.2.1 127 = .ok (.invokevirtual 145, 3) := by decide +kernel
theorem d_Pap_hides_130 : decode m_Pap_hides.2.1 130 = .ok (.ifCond .eq 11, 3) := by decide +kernel
theorem d_Pap_hides_133 : decode m_Pap_hides.2.1 133 = .ok (.aload_n 0, 1) := by decide +kernel
theorem d_Pap_hides_134 : decode m_Pap_hides.2.1 134 = .ok (.iload 6, 2) := by decide +kernel
theorem d_Pap_hides_136 : decode m_Pap_hides.2.1 136 = .ok (.iload 7, 2) := by decide +kernel
theorem d_Pap_hides_138 : decode m_Pap_hides.2.1 138 = .ok (.invokevirtual 166, 3) := by decide +kernel
theorem d_Pap_hides_141 : decode m_Pap_hides.2.1 141 = .ok (.iinc 7 1, 3) := by decide +kernel
theorem d_Pap_hides_144 : decode m_Pap_hides.2.1 144 = .ok (.goto (-33), 3) := by decide +kernel
theorem d_Pap_hides_147 : decode m_Pap_hides.2.1 147 = .ok (.iinc 6 1, 3) := by decide +kernel
theorem d_Pap_hides_150 : decode m_Pap_hides.2.1 150 = .ok (.goto (-52), 3) := by decide +kernel
theorem d_Pap_hides_153 : decode m_Pap_hides.2.1 153 = .ok (.aload_n 0, 1) := by decide +kernel
theorem d_Pap_hides_154 : decode m_Pap_hides.2.1 154 = .ok (.getfield 30, 3) := by decide +kernel
theorem d_Pap_hides_157 : decode m_Pap_hides.2.1 157 = .ok (.ldc 86, 2) := by decide +kernel
theorem d_Pap_hides_159 : decode m_Pap_hides.2.1 159 = .ok (.if_icmp .ge 7, 3) := by decide +kernel
theorem d_Pap_hides_162 : decode m_Pap_hides.2.1 162 = .ok (.iconst 1, 1) := by decide +kernel
theorem d_Pap_hides_163 : decode m_Pap_hides.2.1 163 = .ok (.goto 4, 3) := by decide +kernel
theorem d_Pap_hides_166 : decode m_Pap_hides.2.1 166 = .ok (.iconst 0, 1) := by decide +kernel
theorem d_Pap_hides_167 : decode m_Pap_hides.2.1 167 = .ok (.ireturn, 1) := by decide +kernel
theorem d_Pap_isOneOf_0 : decode m_Pap_isOneOf.2.1 0 = .ok (.iload_n 1, 1) := by decide +kernel
theorem d_Pap_isOneOf_1 : decode m_Pap_isOneOf.2.1 1 = .ok (.invokestatic 109, 3) := by decide +kernel
theorem d_Pap_isOneOf_4 : decode m_Pap_isOneOf.2.1 4 = .ok (.ifCond .eq 19, 3) := by decide +kernel
theorem d_Pap_isOneOf_7 : decode m_Pap_isOneOf.2.1 7 = .ok (.iload_n 0, 1) := by decide +kernel
theorem d_Pap_isOneOf_8 : decode m_Pap_isOneOf.2.1 8 = .ok (.iload_n 1, 1) := by decide +kernel
theorem d_Pap_isOneOf_9 : decode m_Pap_isOneOf.2.1 9 = .ok (.invokestatic 169, 3) := by decide +kernel
theorem d_Pap_isOneOf_12 : decode m_Pap_isOneOf.2.1 12 = .ok (.ishr, 1) := by decide +kernel
theorem d_Pap_isOneOf_13 : decode m_Pap_isOneOf.2.1 13 = .ok (.iconst 1, 1) := by decide +kernel
theorem d_Pap_isOneOf_14 : decode m_Pap_isOneOf.2.1 14 = .ok (.iand, 1) := by decide +kernel
theorem d_Pap_isOneOf_15 : decode m_Pap_isOneOf.2.1 15 = .ok (.iconst 1, 1) := by decide +kernel
theorem d_Pap_isOneOf_16 : decode m_Pap_isOneOf.2.1 16 = .ok (.if_icmp .ne 7, 3) := by decide +kernel
theorem d_Pap_isOneOf_19 : decode m_Pap_isOneOf.2.1 19 = .ok (.iconst 1, 1) := by decide +kernel
theorem d_Pap_isOneOf_20 : decode m_Pap_isOneOf.2.1 20 = .ok (.goto 4, 3) := by decide +kernel
theorem d_Pap_isOneOf_23 : decode m_Pap_isOneOf.2.1 23 = .ok (.iconst 0, 1) := by decide +kernel
theorem d_Pap_isOneOf_24 : decode m_Pap_isOneOf.2.1 24 = .ok (.ireturn, 1) := by decide +kernel
theorem d_Pap_tryHiding_0 : decode m_Pap_tryHiding.2.1 0 = .ok (.iconst 0, 1) := by decide +kernel
theorem d_Pap_tryHiding_1 : decode m_Pap_tryHiding.2.1 1 = .ok (.istore_n 3, 1) := by decide +kernel
theorem d_Pap_tryHiding_2 : decode m_Pap_tryHiding.2.1 2 = .ok (.iload_n 3, 1) := by decide +kernel
theorem d_Pap_tryHiding_3 : decode m_Pap_tryHiding.2.1 3 = .ok (.iconst 3, 1) := by decide +kernel
theorem d_Pap_tryHiding_4 : decode m_Pap_tryHiding.2.1 4 = .ok (.if_icmp .ge 77, 3) := by decide +kernel
theorem d_Pap_tryHiding_7 : decode m_Pap_tryHiding.2.1 7 = .ok (.aload_n 0, 1) := by decide +kernel
theorem d_Pap_tryHiding_8 : decode m_Pap_tryHiding.2.1 8 = .ok (.getfield 55, 3) := by decide +kernel
theorem d_Pap_tryHiding_11 : decode m_Pap_tryHiding.2.1 11 = .ok (.iload_n 3, 1) := by decide +kernel
theorem d_Pap_tryHiding_12 : decode m_Pap_tryHiding.2.1 12 = .ok (.aaload, 1) := by decide +kernel
theorem d_Pap_tryHiding_13 : decode m_Pap_tryHiding.2.1 13 = .ok (.iload_n 1, 1) := by decide +kernel
theorem d_Pap_tryHiding_14 : decode m_Pap_tryHiding.2.1 14 = .ok (.iaload, 1) := by decide +kernel
theorem d_Pap_tryHiding_15 : decode m_Pap_tryHiding.2.1 15 = .ok (.aload_n 0, 1) := by decide +kernel
theorem d_Pap_tryHiding_16 : decode m_Pap_tryHiding.2.1 16 = .ok (.getfield 55, 3) := by decide +kernel
theorem d_Pap_tryHiding_19 : decode m_Pap_tryHiding.2.1 19 = .ok (.iload_n 3, 1) := by decide +kernel
theorem d_Pap_tryHiding_20 : decode m_Pap_tryHiding.2.1 20 = .ok (.iconst 3, 1) := by decide +kernel
theorem d_Pap_tryHiding_21 : decode m_Pap_tryHiding.2.1 21 = .ok (.iadd, 1) := by decide +kernel
theorem d_Pap_tryHiding_22 : decode m_Pap_tryHiding.2.1 22 = .ok (.aaload, 1) := by decide +kernel
theorem d_Pap_tryHiding_23 : decode m_Pap_tryHiding.2.1 23 = .ok (.iload_n 2, 1) := by decide +kernel
theorem d_Pap_tryHiding_24 : decode m_Pap_tryHiding.2.1 24 = .ok (.iaload, 1) := by decide +kernel
theorem d_Pap_tryHiding_25 : decode m_Pap_tryHiding.2.1 25 = .ok (.iadd, 1) := by decide +kernel
theorem d_Pap_tryHiding_26 : decode m_Pap_tryHiding.2.1 26 = .ok (.istore 4, 2) := by decide +kernel
theorem d_Pap_tryHiding_28 : decode m_Pap_tryHiding.2.1 28 = .ok (.iload 4, 2) := by decide +kernel
theorem d_Pap_tryHiding_30 : decode m_Pap_tryHiding.2.1 30 = .ok (.aload_n 0, 1) := by decide +kernel
theorem d_Pap_tryHiding_31 : decode m_Pap_tryHiding.2.1 31 = .ok (.getfield 30, 3) := by decide +kernel
theorem d_Pap_tryHiding_34 : decode m_Pap_tryHiding.2.1 34 = .ok (.if_icmp .lt 20, 3) := by decide +kernel
theorem d_Pap_tryHiding_37 : decode m_Pap_tryHiding.2.1 37 = .ok (.iload 4, 2) := by decide +kernel
theorem d_Pap_tryHiding_39 : decode m_Pap_tryHiding.2.1 39 = .ok (.aload_n 0, 1) := by decide +kernel
theorem d_Pap_tryHiding_40 : decode m_Pap_tryHiding.2.1 40 = .ok (.getfield 30, 3) := by decide +kernel
theorem d_Pap_tryHiding_43 : decode m_Pap_tryHiding.2.1 43 = .ok (.if_icmp .ne 32, 3) := by decide +kernel
theorem d_Pap_tryHiding_46 : decode m_Pap_tryHiding.2.1 46 = .ok (.iload_n 3, 1) := by decide +kernel
theorem d_Pap_tryHiding_47 : decode m_Pap_tryHiding.2.1 47 = .ok (.aload_n 0, 1) := by decide +kernel
theorem d_Pap_tryHiding_48 : decode m_Pap_tryHiding.2.1 48 = .ok (.getfield 33, 3) := by decide +kernel
theorem d_Pap_tryHiding_51 : decode m_Pap_tryHiding.2.1 51 = .ok (.if_icmp .ge 24, 3) := by decide +kernel
theorem d_Pap_tryHiding_54 : decode m_Pap_tryHiding.2.1 54 = .ok (.aload_n 0, 1) := by decide +kernel
theorem d_Pap_tryHiding_55 : decode m_Pap_tryHiding.2.1 55 = .ok (.iload 4, 2) := by decide +kernel
theorem d_Pap_tryHiding_57 : decode m_Pap_tryHiding.2.1 57 = .ok (.putfield 30, 3) := by decide +kernel
theorem d_Pap_tryHiding_60 : decode m_Pap_tryHiding.2.1 60 = .ok (.aload_n 0, 1) := by decide +kernel
theorem d_Pap_tryHiding_61 : decode m_Pap_tryHiding.2.1 61 = .ok (.iload_n 3, 1) := by decide +kernel
theorem d_Pap_tryHiding_62 : decode m_Pap_tryHiding.2.1 62 = .ok (.putfield 33, 3) := by decide +kernel
theorem d_Pap_tryHiding_65 : decode m_Pap_tryHiding.2.1 65 = .ok (.aload_n 0, 1) := by decide +kernel
theorem d_Pap_tryHiding_66 : decode m_Pap_tryHiding.2.1 66 = .ok (.iload_n 1, 1) := by decide +kernel
theorem d_Pap_tryHiding_67 : decode m_Pap_tryHiding.2.1 67 = .ok (.putfield 36, 3) := by decide +kernel
theorem d_Pap_tryHiding_70 : decode m_Pap_tryHiding.2.1 70 = .ok (.aload_n 0, 1) := by decide +kernel
theorem d_Pap_tryHiding_71 : decode m_Pap_tryHiding.2.1 71 = .ok (.iload_n 2, 1) := by decide +kernel
theorem d_Pap_tryHiding_72 : decode m_Pap_tryHiding.2.1 72 = .ok (.putfield 39, 3) := by decide +kernel
theorem d_Pap_tryHiding_75 : decode m_Pap_tryHiding.2.1 75 = .ok (.iinc 3 1, 3) := by decide +kernel
theorem d_Pap_tryHiding_78 : decode m_Pap_tryHiding.2.1 78 = .ok (.goto (-76), 3) := by decide +kernel
theorem d_Pap_tryHiding_81 : decode m_Pap_tryHiding.2.1 81 = .ok (.return_, 1) := by decide +kernel
theorem d_Num_init_0 : decode m_Num_init.2.1 0 = .ok (.aload_n 0, 1) := by decide +kernel
theorem d_Num_init_1 : decode m_Num_init.2.1 1 = .ok (.invokespecial 3, 3) := by decide +kernel
theorem d_Num_init_4 : decode m_Num_init.2.1 4 = .ok (.aload_n 0, 1) := by decide +kernel
theorem d_Num_init_5 : decode m_Num_init.2.1 5 = .ok (.bipush 25, 2) := by decide +kernel
theorem d_Num_init_7 : decode m_Num_init.2.1 7 = .ok (.bipush 14, 2) := by decide +kernel
theorem d_Num_init_9 : decode m_Num_init.2.1 9 = .ok (.multianewarray 9 2, 4) := by decide +kernel
theorem d_Num_init_13 : decode m_Num_init.2.1 13 = .ok (.putfield 11, 3) := by decide +kernel
theorem d_Num_init_16 : decode m_Num_init.2.1 16 = .ok (.aload_n 0, 1) := by decide +kernel
theorem d_Num_init_17 : decode m_Num_init.2.1 17 = .ok (.bipush 13, 2) := by decide +kernel
theorem d_Num_init_19 : decode m_Num_init.2.1 19 = .ok (.newarray .int, 2) := by decide +kernel
theorem d_Num_init_21 : decode m_Num_init.2.1 21 = .ok (.putfield 16, 3) := by decide +kernel
theorem d_Num_init_24 : decode m_Num_init.2.1 24 = .ok (.aload_n 0, 1) := by decide +kernel
theorem d_Num_init_25 : decode m_Num_init.2.1 25 = .ok (.bipush 62, 2) := by decide +kernel
theorem d_Num_init_27 : decode m_Num_init.2.1 27 = .ok (.newarray .long, 2) := by decide +kernel
theorem d_Num_init_29 : decode m_Num_init.2.1 29 = .ok (.putfield 20, 3) := by decide +kernel
theorem d_Num_init_32 : decode m_Num_init.2.1 32 = .ok (.aload_n 0, 1) := by decide +kernel
theorem d_Num_init_33 : decode m_Num_init.2.1 33 = .ok (.bipush 62, 2) := by decide +kernel
theorem d_Num_init_35 : decode m_Num_init.2.1 35 = .ok (.newarray .long, 2) := by decide +kernel
theorem d_Num_init_37 : decode m_Num_init.2.1 37 = .ok (.putfield 24, 3) := by decide +kernel
theorem d_Num_init_40 : decode m_Num_init.2.1 40 = .ok (.return_, 1) := by decide +kernel
theorem d_Num_howMany_0 : decode m_Num_howMany.2.1 0 = .ok (.aload_n 0, 1) := by decide +kernel
theorem d_Num_howMany_1 : decode m_Num_howMany.2.1 1 = .ok (.iconst 2, 1) := by decide +kernel
theorem d_Num_howMany_2 : decode m_Num_howMany.2.1 2 = .ok (.iload_n 1, 1) := by decide +kernel
theorem d_Num_howMany_3 : decode m_Num_howMany.2.1 3 = .ok (.imul, 1) := by decide +kernel
theorem d_Num_howMany_4 : decode m_Num_howMany.2.1 4 = .ok (.iload_n 2, 1) := by decide +kernel
theorem d_Num_howMany_5 : decode m_Num_howMany.2.1 5 = .ok (.invokevirtual 35, 3) := by decide +kernel
theorem d_Num_howMany_8 : decode m_Num_howMany.2.1 8 = .ok (.aload_n 0, 1) := by decide +kernel
theorem d_Num_howMany_9 : decode m_Num_howMany.2.1 9 = .ok (.getfield 11, 3) := by decide +kernel
theorem d_Num_howMany_12 : decode m_Num_howMany.2.1 12 = .ok (.iconst 2, 1) := by decide +kernel
theorem d_Num_howMany_13 : decode m_Num_howMany.2.1 13 = .ok (.iload_n 1, 1) := by decide +kernel
theorem d_Num_howMany_14 : decode m_Num_howMany.2.1 14 = .ok (.imul, 1) := by decide +kernel
theorem d_Num_howMany_15 : decode m_Num_howMany.2.1 15 = .ok (.aaload, 1) := by decide +kernel
theorem d_Num_howMany_16 : decode m_Num_howMany.2.1 16 = .ok (.iconst 0, 1) := by decide +kernel
theorem d_Num_howMany_17 : decode m_Num_howMany.2.1 17 = .ok (.laload, 1) := by decide +kernel
theorem d_Num_howMany_18 : decode m_Num_howMany.2.1 18 = .ok (.lreturn, 1) := by decide +kernel
theorem d_Num_findWays_0 : decode m_Num_findWays.2.1 0 = .ok (.aload_n 0, 1) := by decide +kernel
theorem d_Num_findWays_1 : decode m_Num_findWays.2.1 1 = .ok (.getfield 11, 3) := by decide +kernel
theorem d_Num_findWays_4 : decode m_Num_findWays.2.1 4 = .ok (.iconst 0, 1) := by decide +kernel
theorem d_Num_findWays_5 : decode m_Num_findWays.2.1 5 = .ok (.aaload, 1) := by decide +kernel
theorem d_Num_findWays_6 : decode m_Num_findWays.2.1 6 = .ok (.lconst 0, 1) := by decide +kernel
theorem d_Num_findWays_7 : decode m_Num_findWays.2.1 7 = .ok (.invokestatic 27, 3) := by decide +kernel
theorem d_Num_findWays_10 : decode m_Num_findWays.2.1 10 = .ok (.aload_n 0, 1) := by decide +kernel
theorem d_Num_findWays_11 : decode m_Num_findWays.2.1 11 = .ok (.getfield 11, 3) := by decide +kernel
theorem d_Num_findWays_14 : decode m_Num_findWays.2.1 14 = .ok (.iconst 0, 1) := by decide +kernel
theorem d_Num_findWays_15 : decode m_Num_findWays.2.1 15 = .ok (.aaload, 1) := by decide +kernel
theorem d_Num_findWays_16 : decode m_Num_findWays.2.1 16 = .ok (.iconst 0, 1) := by decide +kernel
theorem d_Num_findWays_17 : decode m_Num_findWays.2.1 17 = .ok (.lconst 1, 1) := by decide +kernel
theorem d_Num_findWays_18 : decode m_Num_findWays.2.1 18 = .ok (.lastore, 1) := by decide +kernel
theorem d_Num_findWays_19 : decode m_Num_findWays.2.1 19 = .ok (.iconst 1, 1) := by decide +kernel
theorem d_Num_findWays_20 : decode m_Num_findWays.2.1 20 = .ok (.istore_n 3, 1) := by decide +kernel
theorem d_Num_findWays_21 : decode m_Num_findWays.2.1 21 = .ok (.iload_n 3, 1) := by decide +kernel
theorem d_Num_findWays_22 : decode m_Num_findWays.2.1 22 = .ok (.iload_n 1, 1) := by decide +kernel
theorem d_Num_findWays_23 : decode m_Num_findWays.2.1 23 = .ok (.if_icmp .gt 91, 3) := by decide +kernel
theorem d_Num_findWays_26 : decode m_Num_findWays.2.1 26 = .ok (.iconst 0, 1) := by decide +kernel
theorem d_Num_findWays_27 : decode m_Num_findWays.2.1 27 = .ok (.istore 4, 2) := by decide +kernel
theorem d_Num_findWays_29 : decode m_Num_findWays.2.1 29 = .ok (.iload 4, 2) := by decide +kernel
theorem d_Num_findWays_31 : decode m_Num_findWays.2.1 31 = .ok (.iload_n 2, 1) := by decide +kernel
theorem d_Num_findWays_32 : decode m_Num_findWays.2.1 32 = .ok (.if_icmp .gt 76, 3) := by decide +kernel
theorem d_Num_findWays_35 : decode m_Num_findWays.2.1 35 = .ok (.iload 4, 2) := by decide +kernel
theorem d_Num_findWays_37 : decode m_Num_findWays.2.1 37 = .ok (.iload_n 2, 1) := by decide +kernel
theorem d_Num_findWays_38 : decode m_Num_findWays.2.1 38 = .ok (.if_icmp .ge 23, 3) := by decide +kernel
theorem d_Num_findWays_41 : decode m_Num_findWays.2.1 41 = .ok (.ldc2_w 33, 3) := by decide +kernel
theorem d_Num_findWays_44 : decode m_Num_findWays.2.1 44 = .ok (.aload_n 0, 1) := by decide +kernel
theorem d_Num_findWays_45 : decode m_Num_findWays.2.1 45 = .ok (.getfield 11, 3) := by decide +kernel
theorem d_Num_findWays_48 : decode m_Num_findWays.2.1 48 = .ok (.iload_n 3, 1) := by decide +kernel
theorem d_Num_findWays_49 : decode m_Num_findWays.2.1 49 = .ok (.iconst 1, 1) := by decide +kernel
theorem d_Num_findWays_50 : decode m_Num_findWays.2.1 50 = .ok (.isub, 1) := by decide +kernel
theorem d_Num_findWays_51 : decode m_Num_findWays.2.1 51 = .ok (.aaload, 1) := by decide +kernel
theorem d_Num_findWays_52 : decode m_Num_findWays.2.1 52 = .ok (.iload 4, 2) := by decide +kernel
theorem d_Num_findWays_54 : decode m_Num_findWays.2.1 54 = .ok (.iconst 1, 1) := by decide +kernel
theorem d_Num_findWays_55 : decode m_Num_findWays.2.1 55 = .ok (.iadd, 1) := by decide +kernel
theorem d_Num_findWays_56 : decode m_Num_findWays.2.1 56 = .ok (.laload, 1) := by decide +kernel
theorem d_Num_findWays_57 : decode m_Num_findWays.2.1 57 = .ok (.lmul, 1) := by decide +kernel
theorem d_Num_findWays_58 : decode m_Num_findWays.2.1 58 = .ok (.goto 4, 3) := by decide +kernel
theorem d_Num_findWays_61 : decode m_Num_findWays.2.1 61 = .ok (.lconst 0, 1) := by decide +kernel
theorem d_Num_findWays_62 : decode m_Num_findWays.2.1 62 = .ok (.lstore 5, 2) := by decide +kernel
theorem d_Num_findWays_64 : decode m_Num_findWays.2.1 64 = .ok (.iload 4, 2) := by decide +kernel
theorem d_Num_findWays_66 : decode m_Num_findWays.2.1 66 = .ok (.ifCond .le 19, 3) := by decide +kernel
theorem d_Num_findWays_69 : decode m_Num_findWays.2.1 69 = .ok (.aload_n 0, 1) := by decide +kernel
theorem d_Num_findWays_70 : decode m_Num_findWays.2.1 70 = .ok (.getfield 11, 3) := by decide +kernel
theorem d_Num_findWays_73 : decode m_Num_findWays.2.1 73 = .ok (.iload_n 3, 1) := by decide +kernel
theorem d_Num_findWays_74 : decode m_Num_findWays.2.1 74 = .ok (.iconst 1, 1) := by decide +kernel
theorem d_Num_findWays_75 : decode m_Num_findWays.2.1 75 = .ok (.isub, 1) := by decide +kernel
theorem d_Num_findWays_76 : decode m_Num_findWays.2.1 76 = .ok (.aaload, 1) := by decide +kernel
theorem d_Num_findWays_77 : decode m_Num_findWays.2.1 77 = .ok (.iload 4, 2) := by decide +kernel
theorem d_Num_findWays_79 : decode m_Num_findWays.2.1 79 = .ok (.iconst 1, 1) := by decide +kernel
theorem d_Num_findWays_80 : decode m_Num_findWays.2.1 80 = .ok (.isub, 1) := by decide +kernel
theorem d_Num_findWays_81 : decode m_Num_findWays.2.1 81 = .ok (.laload, 1) := by decide +kernel
theorem d_Num_findWays_82 : decode m_Num_findWays.2.1 82 = .ok (.goto 4, 3) := by decide +kernel
theorem d_Num_findWays_85 : decode m_Num_findWays.2.1 85 = .ok (.lconst 0, 1) := by decide +kernel
theorem d_Num_findWays_86 : decode m_Num_findWays.2.1 86 = .ok (.lstore 7, 2) := by decide +kernel
theorem d_Num_findWays_88 : decode m_Num_findWays.2.1 88 = .ok (.aload_n 0, 1) := by decide +kernel
theorem d_Num_findWays_89 : decode m_Num_findWays.2.1 89 = .ok (.getfield 11, 3) := by decide +kernel
theorem d_Num_findWays_92 : decode m_Num_findWays.2.1 92 = .ok (.iload_n 3, 1) := by decide +kernel
theorem d_Num_findWays_93 : decode m_Num_findWays.2.1 93 = .ok (.aaload, 1) := by decide +kernel
theorem d_Num_findWays_94 : decode m_Num_findWays.2.1 94 = .ok (.iload 4, 2) := by decide +kernel
theorem d_Num_findWays_96 : decode m_Num_findWays.2.1 96 = .ok (.lload 5, 2) := by decide +kernel
theorem d_Num_findWays_98 : decode m_Num_findWays.2.1 98 = .ok (.lload 7, 2) := by decide +kernel
theorem d_Num_findWays_100 : decode m_Num_findWays.2.1 100 = .ok (.ladd, 1) := by decide +kernel
theorem d_Num_findWays_101 : decode m_Num_findWays.2.1 101 = .ok (.lastore, 1) := by decide +kernel
theorem d_Num_findWays_102 : decode m_Num_findWays.2.1 102 = .ok (.iinc 4 1, 3) := by decide +kernel
theorem d_Num_findWays_105 : decode m_Num_findWays.2.1 105 = .ok (.goto (-76), 3) := by decide +kernel
theorem d_Num_findWays_108 : decode m_Num_findWays.2.1 108 = .ok (.iinc 3 1, 3) := by decide +kernel
theorem d_Num_findWays_111 : decode m_Num_findWays.2.1 111 = .ok (.goto (-90), 3) := by decide +kernel
theorem d_Num_findWays_114 : decode m_Num_findWays.2.1 114 = .ok (.return_, 1) := by decide +kernel
theorem d_Num_signOf_0 : decode m_Num_signOf.2.1 0 = .ok (.lload_n 3, 1) := by decide +kernel
theorem d_Num_signOf_1 : decode m_Num_signOf.2.1 1 = .ok (.lconst 0, 1) := by decide +kernel
theorem d_Num_signOf_2 : decode m_Num_signOf.2.1 2 = .ok (.lcmp, 1) := by decide +kernel
theorem d_Num_signOf_3 : decode m_Num_signOf.2.1 3 = .ok (.ifCond .lt 14, 3) := by decide +kernel
theorem d_Num_signOf_6 : decode m_Num_signOf.2.1 6 = .ok (.lload_n 3, 1) := by decide +kernel
theorem d_Num_signOf_7 : decode m_Num_signOf.2.1 7 = .ok (.aload_n 0, 1) := by decide +kernel
theorem d_Num_signOf_8 : decode m_Num_signOf.2.1 8 = .ok (.iload_n 1, 1) := by decide +kernel
theorem d_Num_signOf_9 : decode m_Num_signOf.2.1 9 = .ok (.iload_n 2, 1) := by decide +kernel
theorem d_Num_signOf_10 : decode m_Num_signOf.2.1 10 = .ok (.invokevirtual 39, 3) := by decide +kernel
theorem d_Num_signOf_13 : decode m_Num_signOf.2.1 13 = .ok (.lcmp, 1) := by decide +kernel
theorem d_Num_signOf_14 : decode m_Num_signOf.2.1 14 = .ok (.ifCond .lt 5, 3) := by decide +kernel
theorem d_Num_signOf_17 : decode m_Num_signOf.2.1 17 = .ok (.iconst (-1), 1) := by decide +kernel
theorem d_Num_signOf_18 : decode m_Num_signOf.2.1 18 = .ok (.ireturn, 1) := by decide +kernel
theorem d_Num_signOf_19 : decode m_Num_signOf.2.1 19 = .ok (.lload_n 3, 1) := by decide +kernel
theorem d_Num_signOf_20 : decode m_Num_signOf.2.1 20 = .ok (.lstore 6, 2) := by decide +kernel
theorem d_Num_signOf_22 : decode m_Num_signOf.2.1 22 = .ok (.iconst 0, 1) := by decide +kernel
theorem d_Num_signOf_23 : decode m_Num_signOf.2.1 23 = .ok (.istore 8, 2) := by decide +kernel
theorem d_Num_signOf_25 : decode m_Num_signOf.2.1 25 = .ok (.iconst (-1), 1) := by decide +kernel
theorem d_Num_signOf_26 : decode m_Num_signOf.2.1 26 = .ok (.istore 9, 2) := by decide +kernel
theorem d_Num_signOf_28 : decode m_Num_signOf.2.1 28 = .ok (.iconst 0, 1) := by decide +kernel
theorem d_Num_signOf_29 : decode m_Num_signOf.2.1 29 = .ok (.istore 10, 2) := by decide +kernel
theorem d_Num_signOf_31 : decode m_Num_signOf.2.1 31 = .ok (.iload 10, 2) := by decide +kernel
theorem d_Num_signOf_33 : decode m_Num_signOf.2.1 33 = .ok (.iload 5, 2) := by decide +kernel
theorem d_Num_signOf_35 : decode m_Num_signOf.2.1 35 = .ok (.if_icmp .gt 122, 3) := by decide +kernel
theorem d_Num_signOf_38 : decode m_Num_signOf.2.1 38 = .ok (.iload 8, 2) := by decide +kernel
theorem d_Num_signOf_40 : decode m_Num_signOf.2.1 40 = .ok (.iload_n 2, 1) := by decide +kernel
theorem d_Num_signOf_41 : decode m_Num_signOf.2.1 41 = .ok (.if_icmp .ge 24, 3) := by decide +kernel
theorem d_Num_signOf_44 : decode m_Num_signOf.2.1 44 = .ok (.aload_n 0, 1) := by decide +kernel
theorem d_Num_signOf_45 : decode m_Num_signOf.2.1 45 = .ok (.getfield 11, 3) := by decide +kernel
theorem d_Num_signOf_48 : decode m_Num_signOf.2.1 48 = .ok (.iconst 2, 1) := by decide +kernel
theorem d_Num_signOf_49 : decode m_Num_signOf.2.1 49 = .ok (.iload_n 1, 1) := by decide +kernel
theorem d_Num_signOf_50 : decode m_Num_signOf.2.1 50 = .ok (.imul, 1) := by decide +kernel
theorem d_Num_signOf_51 : decode m_Num_signOf.2.1 51 = .ok (.iload 10, 2) := by decide +kernel
theorem d_Num_signOf_53 : decode m_Num_signOf.2.1 53 = .ok (.isub, 1) := by decide +kernel
theorem d_Num_signOf_54 : decode m_Num_signOf.2.1 54 = .ok (.iconst 1, 1) := by decide +kernel
theorem d_Num_signOf_55 : decode m_Num_signOf.2.1 55 = .ok (.isub, 1) := by decide +kernel
theorem d_Num_signOf_56 : decode m_Num_signOf.2.1 56 = .ok (.aaload, 1) := by decide +kernel
theorem d_Num_signOf_57 : decode m_Num_signOf.2.1 57 = .ok (.iload 8, 2) := by decide +kernel
theorem d_Num_signOf_59 : decode m_Num_signOf.2.1 59 = .ok (.iconst 1, 1) := by decide +kernel
theorem d_Num_signOf_60 : decode m_Num_signOf.2.1 60 = .ok (.iadd, 1) := by decide +kernel
theorem d_Num_signOf_61 : decode m_Num_signOf.2.1 61 = .ok (.laload, 1) := by decide +kernel
theorem d_Num_signOf_62 : decode m_Num_signOf.2.1 62 = .ok (.goto 4, 3) := by decide +kernel
theorem d_Num_signOf_65 : decode m_Num_signOf.2.1 65 = .ok (.lconst 0, 1) := by decide +kernel
theorem d_Num_signOf_66 : decode m_Num_signOf.2.1 66 = .ok (.lstore 11, 2) := by decide +kernel
theorem d_Num_signOf_68 : decode m_Num_signOf.2.1 68 = .ok (.lload 11, 2) := by decide +kernel
theorem d_Num_signOf_70 : decode m_Num_signOf.2.1 70 = .ok (.lconst 0, 1) := by decide +kernel
theorem d_Num_signOf_71 : decode m_Num_signOf.2.1 71 = .ok (.lcmp, 1) := by decide +kernel
theorem d_Num_signOf_72 : decode m_Num_signOf.2.1 72 = .ok (.ifCond .le 49, 3) := by decide +kernel
theorem d_Num_signOf_75 : decode m_Num_signOf.2.1 75 = .ok (.lload 6, 2) := by decide +kernel
theorem d_Num_signOf_77 : decode m_Num_signOf.2.1 77 = .ok (.ldc2_w 33, 3) := by decide +kernel
theorem d_Num_signOf_80 : decode m_Num_signOf.2.1 80 = .ok (.lload 11, 2) := by decide +kernel
theorem d_Num_signOf_82 : decode m_Num_signOf.2.1 82 = .ok (.lmul, 1) := by decide +kernel
theorem d_Num_signOf_83 : decode m_Num_signOf.2.1 83 = .ok (.lcmp, 1) := by decide +kernel
theorem d_Num_signOf_84 : decode m_Num_signOf.2.1 84 = .ok (.ifCond .ge 37, 3) := by decide +kernel
theorem d_Num_signOf_87 : decode m_Num_signOf.2.1 87 = .ok (.lload 6, 2) := by decide +kernel
theorem d_Num_signOf_89 : decode m_Num_signOf.2.1 89 = .ok (.lload 11, 2) := by decide +kernel
theorem d_Num_signOf_91 : decode m_Num_signOf.2.1 91 = .ok (.ldiv, 1) := by decide +kernel
theorem d_Num_signOf_92 : decode m_Num_signOf.2.1 92 = .ok (.l2i, 1) := by decide +kernel
theorem d_Num_signOf_93 : decode m_Num_signOf.2.1 93 = .ok (.istore 9, 2) := by decide +kernel
theorem d_Num_signOf_95 : decode m_Num_signOf.2.1 95 = .ok (.lload 6, 2) := by decide +kernel
theorem d_Num_signOf_97 : decode m_Num_signOf.2.1 97 = .ok (.iload 9, 2) := by decide +kernel
theorem d_Num_signOf_99 : decode m_Num_signOf.2.1 99 = .ok (.i2l, 1) := by decide +kernel
theorem d_Num_signOf_100 : decode m_Num_signOf.2.1 100 = .ok (.lload 11, 2) := by decide +kernel
theorem d_Num_signOf_102 : decode m_Num_signOf.2.1 102 = .ok (.lmul, 1) := by decide +kernel
theorem d_Num_signOf_103 : decode m_Num_signOf.2.1 103 = .ok (.lsub, 1) := by decide +kernel
theorem d_Num_signOf_104 : decode m_Num_signOf.2.1 104 = .ok (.lstore 6, 2) := by decide +kernel
theorem d_Num_signOf_106 : decode m_Num_signOf.2.1 106 = .ok (.aload_n 0, 1) := by decide +kernel
theorem d_Num_signOf_107 : decode m_Num_signOf.2.1 107 = .ok (.getfield 16, 3) := by decide +kernel
theorem d_Num_signOf_110 : decode m_Num_signOf.2.1 110 = .ok (.iload 8, 2) := by decide +kernel
theorem d_Num_signOf_112 : decode m_Num_signOf.2.1 112 = .ok (.iload 9, 2) := by decide +kernel
theorem d_Num_signOf_114 : decode m_Num_signOf.2.1 114 = .ok (.iastore, 1) := by decide +kernel
theorem d_Num_signOf_115 : decode m_Num_signOf.2.1 115 = .ok (.iinc 8 1, 3) := by decide +kernel
theorem d_Num_signOf_118 : decode m_Num_signOf.2.1 118 = .ok (.goto 33, 3) := by decide +kernel
theorem d_Num_signOf_121 : decode m_Num_signOf.2.1 121 = .ok (.iload 8, 2) := by decide +kernel
theorem d_Num_signOf_123 : decode m_Num_signOf.2.1 123 = .ok (.ifCond .le 28, 3) := by decide +kernel
theorem d_Num_signOf_126 : decode m_Num_signOf.2.1 126 = .ok (.lload 6, 2) := by decide +kernel
theorem d_Num_signOf_128 : decode m_Num_signOf.2.1 128 = .ok (.ldc2_w 33, 3) := by decide +kernel
theorem d_Num_signOf_131 : decode m_Num_signOf.2.1 131 = .ok (.lload 11, 2) := by decide +kernel
theorem d_Num_signOf_133 : decode m_Num_signOf.2.1 133 = .ok (.lmul, 1) := by decide +kernel
theorem d_Num_signOf_134 : decode m_Num_signOf.2.1 134 = .ok (.lsub, 1) := by decide +kernel
theorem d_Num_signOf_135 : decode m_Num_signOf.2.1 135 = .ok (.lstore 6, 2) := by decide +kernel
theorem d_Num_signOf_137 : decode m_Num_signOf.2.1 137 = .ok (.iinc 8 (-1), 3) := by decide +kernel
theorem d_Num_signOf_140 : decode m_Num_signOf.2.1 140 = .ok (.aload_n 0, 1) := by decide +kernel
theorem d_Num_signOf_141 : decode m_Num_signOf.2.1 141 = .ok (.getfield 16, 3) := by decide +kernel
theorem d_Num_signOf_144 : decode m_Num_signOf.2.1 144 = .ok (.iload 8, 2) := by decide +kernel
theorem d_Num_signOf_146 : decode m_Num_signOf.2.1 146 = .ok (.iaload, 1) := by decide +kernel
theorem d_Num_signOf_147 : decode m_Num_signOf.2.1 147 = .ok (.iconst 3, 1) := by decide +kernel
theorem d_Num_signOf_148 : decode m_Num_signOf.2.1 148 = .ok (.iadd, 1) := by decide +kernel
theorem d_Num_signOf_149 : decode m_Num_signOf.2.1 149 = .ok (.istore 9, 2) := by decide +kernel
theorem d_Num_signOf_151 : decode m_Num_signOf.2.1 151 = .ok (.iinc 10 1, 3) := by decide +kernel
theorem d_Num_signOf_154 : decode m_Num_signOf.2.1 154 = .ok (.goto (-123), 3) := by decide +kernel
theorem d_Num_signOf_157 : decode m_Num_signOf.2.1 157 = .ok (.iload 9, 2) := by decide +kernel
theorem d_Num_signOf_159 : decode m_Num_signOf.2.1 159 = .ok (.ireturn, 1) := by decide +kernel
theorem d_Num_numberOf_0 : decode m_Num_numberOf.2.1 0 = .ok (.aload_n 1, 1) := by decide +kernel
theorem d_Num_numberOf_1 : decode m_Num_numberOf.2.1 1 = .ok (.invokevirtual 43, 3) := by decide +kernel
theorem d_Num_numberOf_4 : decode m_Num_numberOf.2.1 4 = .ok (.ifCond .ne 7, 3) := by decide +kernel
theorem d_Num_numberOf_7 : decode m_Num_numberOf.2.1 7 = .ok (.ldc2_w 49, 3) := by decide +kernel
theorem d_Num_numberOf_10 : decode m_Num_numberOf.2.1 10 = .ok (.lreturn, 1) := by decide +kernel
theorem d_Num_numberOf_11 : decode m_Num_numberOf.2.1 11 = .ok (.aload_n 0, 1) := by decide +kernel
theorem d_Num_numberOf_12 : decode m_Num_numberOf.2.1 12 = .ok (.aload_n 1, 1) := by decide +kernel
theorem d_Num_numberOf_13 : decode m_Num_numberOf.2.1 13 = .ok (.getfield 51, 3) := by decide +kernel
theorem d_Num_numberOf_16 : decode m_Num_numberOf.2.1 16 = .ok (.iload_n 2, 1) := by decide +kernel
theorem d_Num_numberOf_17 : decode m_Num_numberOf.2.1 17 = .ok (.invokevirtual 35, 3) := by decide +kernel
theorem d_Num_numberOf_20 : decode m_Num_numberOf.2.1 20 = .ok (.lconst 0, 1) := by decide +kernel
theorem d_Num_numberOf_21 : decode m_Num_numberOf.2.1 21 = .ok (.lstore_n 3, 1) := by decide +kernel
theorem d_Num_numberOf_22 : decode m_Num_numberOf.2.1 22 = .ok (.iconst 0, 1) := by decide +kernel
theorem d_Num_numberOf_23 : decode m_Num_numberOf.2.1 23 = .ok (.istore 5, 2) := by decide +kernel
theorem d_Num_numberOf_25 : decode m_Num_numberOf.2.1 25 = .ok (.iconst 0, 1) := by decide +kernel
theorem d_Num_numberOf_26 : decode m_Num_numberOf.2.1 26 = .ok (.istore 6, 2) := by decide +kernel
theorem d_Num_numberOf_28 : decode m_Num_numberOf.2.1 28 = .ok (.iload 6, 2) := by decide +kernel
theorem d_Num_numberOf_30 : decode m_Num_numberOf.2.1 30 = .ok (.aload_n 1, 1) := by decide +kernel
theorem d_Num_numberOf_31 : decode m_Num_numberOf.2.1 31 = .ok (.getfield 51, 3) := by decide +kernel
theorem d_Num_numberOf_34 : decode m_Num_numberOf.2.1 34 = .ok (.if_icmp .ge 106, 3) := by decide +kernel
theorem d_Num_numberOf_37 : decode m_Num_numberOf.2.1 37 = .ok (.aload_n 1, 1) := by decide +kernel
theorem d_Num_numberOf_38 : decode m_Num_numberOf.2.1 38 = .ok (.getfield 55, 3) := by decide +kernel
theorem d_Num_numberOf_41 : decode m_Num_numberOf.2.1 41 = .ok (.iload 6, 2) := by decide +kernel
theorem d_Num_numberOf_43 : decode m_Num_numberOf.2.1 43 = .ok (.iaload, 1) := by decide +kernel
theorem d_Num_numberOf_44 : decode m_Num_numberOf.2.1 44 = .ok (.istore 7, 2) := by decide +kernel
theorem d_Num_numberOf_46 : decode m_Num_numberOf.2.1 46 = .ok (.iload 5, 2) := by decide +kernel
theorem d_Num_numberOf_48 : decode m_Num_numberOf.2.1 48 = .ok (.iload_n 2, 1) := by decide +kernel
theorem d_Num_numberOf_49 : decode m_Num_numberOf.2.1 49 = .ok (.if_icmp .ge 25, 3) := by decide +kernel
theorem d_Num_numberOf_52 : decode m_Num_numberOf.2.1 52 = .ok (.aload_n 0, 1) := by decide +kernel
theorem d_Num_numberOf_53 : decode m_Num_numberOf.2.1 53 = .ok (.getfield 11, 3) := by decide +kernel
theorem d_Num_numberOf_56 : decode m_Num_numberOf.2.1 56 = .ok (.aload_n 1, 1) := by decide +kernel
theorem d_Num_numberOf_57 : decode m_Num_numberOf.2.1 57 = .ok (.getfield 51, 3) := by decide +kernel
theorem d_Num_numberOf_60 : decode m_Num_numberOf.2.1 60 = .ok (.iload 6, 2) := by decide +kernel
theorem d_Num_numberOf_62 : decode m_Num_numberOf.2.1 62 = .ok (.isub, 1) := by decide +kernel
theorem d_Num_numberOf_63 : decode m_Num_numberOf.2.1 63 = .ok (.iconst 1, 1) := by decide +kernel
theorem d_Num_numberOf_64 : decode m_Num_numberOf.2.1 64 = .ok (.isub, 1) := by decide +kernel
theorem d_Num_numberOf_65 : decode m_Num_numberOf.2.1 65 = .ok (.aaload, 1) := by decide +kernel
theorem d_Num_numberOf_66 : decode m_Num_numberOf.2.1 66 = .ok (.iload 5, 2) := by decide +kernel
theorem d_Num_numberOf_68 : decode m_Num_numberOf.2.1 68 = .ok (.iconst 1, 1) := by decide +kernel
theorem d_Num_numberOf_69 : decode m_Num_numberOf.2.1 69 = .ok (.iadd, 1) := by decide +kernel
theorem d_Num_numberOf_70 : decode m_Num_numberOf.2.1 70 = .ok (.laload, 1) := by decide +kernel
theorem d_Num_numberOf_71 : decode m_Num_numberOf.2.1 71 = .ok (.goto 4, 3) := by decide +kernel
theorem d_Num_numberOf_74 : decode m_Num_numberOf.2.1 74 = .ok (.lconst 0, 1) := by decide +kernel
theorem d_Num_numberOf_75 : decode m_Num_numberOf.2.1 75 = .ok (.lstore 8, 2) := by decide +kernel
theorem d_Num_numberOf_77 : decode m_Num_numberOf.2.1 77 = .ok (.iload 7, 2) := by decide +kernel
theorem d_Num_numberOf_79 : decode m_Num_numberOf.2.1 79 = .ok (.invokestatic 58, 3) := by decide +kernel
theorem d_Num_numberOf_82 : decode m_Num_numberOf.2.1 82 = .ok (.ifCond .ne 17, 3) := by decide +kernel
theorem d_Num_numberOf_85 : decode m_Num_numberOf.2.1 85 = .ok (.iload 7, 2) := by decide +kernel
theorem d_Num_numberOf_87 : decode m_Num_numberOf.2.1 87 = .ok (.invokestatic 62, 3) := by decide +kernel
theorem d_Num_numberOf_90 : decode m_Num_numberOf.2.1 90 = .ok (.ifCond .eq 13, 3) := by decide +kernel
theorem d_Num_numberOf_93 : decode m_Num_numberOf.2.1 93 = .ok (.iload 5, 2) := by decide +kernel
theorem d_Num_numberOf_95 : decode m_Num_numberOf.2.1 95 = .ok (.iload_n 2, 1) := by decide +kernel
theorem d_Num_numberOf_96 : decode m_Num_numberOf.2.1 96 = .ok (.if_icmp .lt 7, 3) := by decide +kernel
theorem d_Num_numberOf_99 : decode m_Num_numberOf.2.1 99 = .ok (.ldc2_w 49, 3) := by decide +kernel
theorem d_Num_numberOf_102 : decode m_Num_numberOf.2.1 102 = .ok (.lreturn, 1) := by decide +kernel
theorem d_Num_numberOf_103 : decode m_Num_numberOf.2.1 103 = .ok (.lload_n 3, 1) := by decide +kernel
theorem d_Num_numberOf_104 : decode m_Num_numberOf.2.1 104 = .ok (.iload 7, 2) := by decide +kernel
theorem d_Num_numberOf_106 : decode m_Num_numberOf.2.1 106 = .ok (.iconst 3, 1) := by decide +kernel
theorem d_Num_numberOf_107 : decode m_Num_numberOf.2.1 107 = .ok (.invokestatic 65, 3) := by decide +kernel
theorem d_Num_numberOf_110 : decode m_Num_numberOf.2.1 110 = .ok (.i2l, 1) := by decide +kernel
theorem d_Num_numberOf_111 : decode m_Num_numberOf.2.1 111 = .ok (.lload 8, 2) := by decide +kernel
theorem d_Num_numberOf_113 : decode m_Num_numberOf.2.1 113 = .ok (.lmul, 1) := by decide +kernel
theorem d_Num_numberOf_114 : decode m_Num_numberOf.2.1 114 = .ok (.ladd, 1) := by decide +kernel
theorem d_Num_numberOf_115 : decode m_Num_numberOf.2.1 115 = .ok (.lstore_n 3, 1) := by decide +kernel
theorem d_Num_numberOf_116 : decode m_Num_numberOf.2.1 116 = .ok (.iload 5, 2) := by decide +kernel
theorem d_Num_numberOf_118 : decode m_Num_numberOf.2.1 118 = .ok (.iload 7, 2) := by decide +kernel
theorem d_Num_numberOf_120 : decode m_Num_numberOf.2.1 120 = .ok (.invokestatic 62, 3) := by decide +kernel
theorem d_Num_numberOf_123 : decode m_Num_numberOf.2.1 123 = .ok (.ifCond .eq 7, 3) := by decide +kernel
theorem d_Num_numberOf_126 : decode m_Num_numberOf.2.1 126 = .ok (.iconst 1, 1) := by decide +kernel
theorem d_Num_numberOf_127 : decode m_Num_numberOf.2.1 127 = .ok (.goto 4, 3) := by decide +kernel
theorem d_Num_numberOf_130 : decode m_Num_numberOf.2.1 130 = .ok (.iconst (-1), 1) := by decide +kernel
theorem d_Num_numberOf_131 : decode m_Num_numberOf.2.1 131 = .ok (.iadd, 1) := by decide +kernel
theorem d_Num_numberOf_132 : decode m_Num_numberOf.2.1 132 = .ok (.istore 5, 2) := by decide +kernel
theorem d_Num_numberOf_134 : decode m_Num_numberOf.2.1 134 = .ok (.iinc 6 1, 3) := by decide +kernel
theorem d_Num_numberOf_137 : decode m_Num_numberOf.2.1 137 = .ok (.goto (-109), 3) := by decide +kernel
theorem d_Num_numberOf_140 : decode m_Num_numberOf.2.1 140 = .ok (.lload_n 3, 1) := by decide +kernel
theorem d_Num_numberOf_141 : decode m_Num_numberOf.2.1 141 = .ok (.lreturn, 1) := by decide +kernel
theorem d_Num_likelihood_0 : decode m_Num_likelihood.2.1 0 = .ok (.aload_n 0, 1) := by decide +kernel
theorem d_Num_likelihood_1 : decode m_Num_likelihood.2.1 1 = .ok (.getfield 20, 3) := by decide +kernel
theorem d_Num_likelihood_4 : decode m_Num_likelihood.2.1 4 = .ok (.lconst 0, 1) := by decide +kernel
theorem d_Num_likelihood_5 : decode m_Num_likelihood.2.1 5 = .ok (.invokestatic 27, 3) := by decide +kernel
theorem d_Num_likelihood_8 : decode m_Num_likelihood.2.1 8 = .ok (.aload_n 0, 1) := by decide +kernel
theorem d_Num_likelihood_9 : decode m_Num_likelihood.2.1 9 = .ok (.getfield 20, 3) := by decide +kernel
theorem d_Num_likelihood_12 : decode m_Num_likelihood.2.1 12 = .ok (.iconst 0, 1) := by decide +kernel
theorem d_Num_likelihood_13 : decode m_Num_likelihood.2.1 13 = .ok (.ldc2_w 71, 3) := by decide +kernel
theorem d_Num_likelihood_16 : decode m_Num_likelihood.2.1 16 = .ok (.lastore, 1) := by decide +kernel
theorem d_Num_likelihood_17 : decode m_Num_likelihood.2.1 17 = .ok (.iconst 0, 1) := by decide +kernel
theorem d_Num_likelihood_18 : decode m_Num_likelihood.2.1 18 = .ok (.istore_n 2, 1) := by decide +kernel
theorem d_Num_likelihood_19 : decode m_Num_likelihood.2.1 19 = .ok (.iload_n 2, 1) := by decide +kernel
theorem d_Num_likelihood_20 : decode m_Num_likelihood.2.1 20 = .ok (.iload_n 1, 1) := by decide +kernel
theorem d_Num_likelihood_21 : decode m_Num_likelihood.2.1 21 = .ok (.if_icmp .ge 98, 3) := by decide +kernel
theorem d_Num_likelihood_24 : decode m_Num_likelihood.2.1 24 = .ok (.aload_n 0, 1) := by decide +kernel
theorem d_Num_likelihood_25 : decode m_Num_likelihood.2.1 25 = .ok (.getfield 24, 3) := by decide +kernel
theorem d_Num_likelihood_28 : decode m_Num_likelihood.2.1 28 = .ok (.lconst 0, 1) := by decide +kernel
theorem d_Num_likelihood_29 : decode m_Num_likelihood.2.1 29 = .ok (.invokestatic 27, 3) := by decide +kernel
theorem d_Num_likelihood_32 : decode m_Num_likelihood.2.1 32 = .ok (.iconst 0, 1) := by decide +kernel
theorem d_Num_likelihood_33 : decode m_Num_likelihood.2.1 33 = .ok (.istore_n 3, 1) := by decide +kernel
theorem d_Num_likelihood_34 : decode m_Num_likelihood.2.1 34 = .ok (.iload_n 3, 1) := by decide +kernel
theorem d_Num_likelihood_35 : decode m_Num_likelihood.2.1 35 = .ok (.iload_n 2, 1) := by decide +kernel
theorem d_Num_likelihood_36 : decode m_Num_likelihood.2.1 36 = .ok (.if_icmp .gt 59, 3) := by decide +kernel
theorem d_Num_likelihood_39 : decode m_Num_likelihood.2.1 39 = .ok (.aload_n 0, 1) := by decide +kernel
theorem d_Num_likelihood_40 : decode m_Num_likelihood.2.1 40 = .ok (.getfield 24, 3) := by decide +kernel
theorem d_Num_likelihood_43 : decode m_Num_likelihood.2.1 43 = .ok (.iload_n 3, 1) := by decide +kernel
theorem d_Num_likelihood_44 : decode m_Num_likelihood.2.1 44 = .ok (.iconst 1, 1) := by decide +kernel
theorem d_Num_likelihood_45 : decode m_Num_likelihood.2.1 45 = .ok (.iadd, 1) := by decide +kernel
theorem d_Num_likelihood_46 : decode m_Num_likelihood.2.1 46 = .ok (.dup2, 1) := by decide +kernel
theorem d_Num_likelihood_47 : decode m_Num_likelihood.2.1 47 = .ok (.laload, 1) := by decide +kernel
theorem d_Num_likelihood_48 : decode m_Num_likelihood.2.1 48 = .ok (.aload_n 0, 1) := by decide +kernel
theorem d_Num_likelihood_49 : decode m_Num_likelihood.2.1 49 = .ok (.getfield 20, 3) := by decide +kernel
theorem d_Num_likelihood_52 : decode m_Num_likelihood.2.1 52 = .ok (.iload_n 3, 1) := by decide +kernel
theorem d_Num_likelihood_53 : decode m_Num_likelihood.2.1 53 = .ok (.laload, 1) := by decide +kernel
theorem d_Num_likelihood_54 : decode m_Num_likelihood.2.1 54 = .ok (.ldc2_w 33, 3) := by decide +kernel
theorem d_Num_likelihood_57 : decode m_Num_likelihood.2.1 57 = .ok (.lmul, 1) := by decide +kernel
theorem d_Num_likelihood_58 : decode m_Num_likelihood.2.1 58 = .ok (.ldc2_w 73, 3) := by decide +kernel
theorem d_Num_likelihood_61 : decode m_Num_likelihood.2.1 61 = .ok (.ldiv, 1) := by decide +kernel
theorem d_Num_likelihood_62 : decode m_Num_likelihood.2.1 62 = .ok (.ladd, 1) := by decide +kernel
theorem d_Num_likelihood_63 : decode m_Num_likelihood.2.1 63 = .ok (.lastore, 1) := by decide +kernel
theorem d_Num_likelihood_64 : decode m_Num_likelihood.2.1 64 = .ok (.iload_n 3, 1) := by decide +kernel
theorem d_Num_likelihood_65 : decode m_Num_likelihood.2.1 65 = .ok (.ifCond .le 24, 3) := by decide +kernel
theorem d_Num_likelihood_68 : decode m_Num_likelihood.2.1 68 = .ok (.aload_n 0, 1) := by decide +kernel
theorem d_Num_likelihood_69 : decode m_Num_likelihood.2.1 69 = .ok (.getfield 24, 3) := by decide +kernel
theorem d_Num_likelihood_72 : decode m_Num_likelihood.2.1 72 = .ok (.iload_n 3, 1) := by decide +kernel
theorem d_Num_likelihood_73 : decode m_Num_likelihood.2.1 73 = .ok (.iconst 1, 1) := by decide +kernel
theorem d_Num_likelihood_74 : decode m_Num_likelihood.2.1 74 = .ok (.isub, 1) := by decide +kernel
theorem d_Num_likelihood_75 : decode m_Num_likelihood.2.1 75 = .ok (.dup2, 1) := by decide +kernel
theorem d_Num_likelihood_76 : decode m_Num_likelihood.2.1 76 = .ok (.laload, 1) := by decide +kernel
theorem d_Num_likelihood_77 : decode m_Num_likelihood.2.1 77 = .ok (.aload_n 0, 1) := by decide +kernel
theorem d_Num_likelihood_78 : decode m_Num_likelihood.2.1 78 = .ok (.getfield 20, 3) := by decide +kernel
theorem d_Num_likelihood_81 : decode m_Num_likelihood.2.1 81 = .ok (.iload_n 3, 1) := by decide +kernel
theorem d_Num_likelihood_82 : decode m_Num_likelihood.2.1 82 = .ok (.laload, 1) := by decide +kernel
theorem d_Num_likelihood_83 : decode m_Num_likelihood.2.1 83 = .ok (.ldc2_w 73, 3) := by decide +kernel
theorem d_Num_likelihood_86 : decode m_Num_likelihood.2.1 86 = .ok (.ldiv, 1) := by decide +kernel
theorem d_Num_likelihood_87 : decode m_Num_likelihood.2.1 87 = .ok (.ladd, 1) := by decide +kernel
theorem d_Num_likelihood_88 : decode m_Num_likelihood.2.1 88 = .ok (.lastore, 1) := by decide +kernel
theorem d_Num_likelihood_89 : decode m_Num_likelihood.2.1 89 = .ok (.iinc 3 1, 3) := by decide +kernel
theorem d_Num_likelihood_92 : decode m_Num_likelihood.2.1 92 = .ok (.goto (-58), 3) := by decide +kernel
theorem d_Num_likelihood_95 : decode m_Num_likelihood.2.1 95 = .ok (.aload_n 0, 1) := by decide +kernel
theorem d_Num_likelihood_96 : decode m_Num_likelihood.2.1 96 = .ok (.getfield 24, 3) := by decide +kernel
theorem d_Num_likelihood_99 : decode m_Num_likelihood.2.1 99 = .ok (.iconst 0, 1) := by decide +kernel
theorem d_Num_likelihood_100 : decode m_Num_likelihood.2.1 100 = .ok (.aload_n 0, 1) := by decide +kernel
theorem d_Num_likelihood_101 : decode m_Num_likelihood.2.1 101 = .ok (.getfield 20, 3) := by decide +kernel
theorem d_Num_likelihood_104 : decode m_Num_likelihood.2.1 104 = .ok (.iconst 0, 1) := by decide +kernel
theorem d_Num_likelihood_105 : decode m_Num_likelihood.2.1 105 = .ok (.aload_n 0, 1) := by decide +kernel
theorem d_Num_likelihood_106 : decode m_Num_likelihood.2.1 106 = .ok (.getfield 20, 3) := by decide +kernel
theorem d_Num_likelihood_109 : decode m_Num_likelihood.2.1 109 = .ok (.arraylength, 1) := by decide +kernel
theorem d_Num_likelihood_110 : decode m_Num_likelihood.2.1 110 = .ok (.invokestatic 75, 3) := by decide +kernel
theorem d_Num_likelihood_113 : decode m_Num_likelihood.2.1 113 = .ok (.iinc 2 1, 3) := by decide +kernel
theorem d_Num_likelihood_116 : decode m_Num_likelihood.2.1 116 = .ok (.goto (-97), 3) := by decide +kernel
theorem d_Num_likelihood_119 : decode m_Num_likelihood.2.1 119 = .ok (.aload_n 0, 1) := by decide +kernel
theorem d_Num_likelihood_120 : decode m_Num_likelihood.2.1 120 = .ok (.getfield 20, 3) := by decide +kernel
theorem d_Num_likelihood_123 : decode m_Num_likelihood.2.1 123 = .ok (.iconst 0, 1) := by decide +kernel
theorem d_Num_likelihood_124 : decode m_Num_likelihood.2.1 124 = .ok (.laload, 1) := by decide +kernel
theorem d_Num_likelihood_125 : decode m_Num_likelihood.2.1 125 = .ok (.lreturn, 1) := by decide +kernel
theorem d_Hou_init_0 : decode m_Hou_init.2.1 0 = .ok (.aload_n 0, 1) := by decide +kernel
theorem d_Hou_init_1 : decode m_Hou_init.2.1 1 = .ok (.invokespecial 3, 3) := by decide +kernel
theorem d_Hou_init_4 : decode m_Hou_init.2.1 4 = .ok (.aload_n 0, 1) := by decide +kernel
theorem d_Hou_init_5 : decode m_Hou_init.2.1 5 = .ok (.new 9, 3) := by decide +kernel
theorem d_Hou_init_8 : decode m_Hou_init.2.1 8 = .ok (.dup, 1) := by decide +kernel
theorem d_Hou_init_9 : decode m_Hou_init.2.1 9 = .ok (.invokespecial 11, 3) := by decide +kernel
theorem d_Hou_init_12 : decode m_Hou_init.2.1 12 = .ok (.putfield 12, 3) := by decide +kernel
theorem d_Hou_init_15 : decode m_Hou_init.2.1 15 = .ok (.aload_n 0, 1) := by decide +kernel
theorem d_Hou_init_16 : decode m_Hou_init.2.1 16 = .ok (.new 9, 3) := by decide +kernel
theorem d_Hou_init_19 : decode m_Hou_init.2.1 19 = .ok (.dup, 1) := by decide +kernel
theorem d_Hou_init_20 : decode m_Hou_init.2.1 20 = .ok (.invokespecial 11, 3) := by decide +kernel
theorem d_Hou_init_23 : decode m_Hou_init.2.1 23 = .ok (.putfield 16, 3) := by decide +kernel
theorem d_Hou_init_26 : decode m_Hou_init.2.1 26 = .ok (.aload_n 0, 1) := by decide +kernel
theorem d_Hou_init_27 : decode m_Hou_init.2.1 27 = .ok (.iconst 2, 1) := by decide +kernel
theorem d_Hou_init_28 : decode m_Hou_init.2.1 28 = .ok (.anewarray 9, 3) := by decide +kernel
theorem d_Hou_init_31 : decode m_Hou_init.2.1 31 = .ok (.putfield 19, 3) := by decide +kernel
theorem d_Hou_init_34 : decode m_Hou_init.2.1 34 = .ok (.aload_n 0, 1) := by decide +kernel
theorem d_Hou_init_35 : decode m_Hou_init.2.1 35 = .ok (.iconst 2, 1) := by decide +kernel
theorem d_Hou_init_36 : decode m_Hou_init.2.1 36 = .ok (.newarray .boolean, 2) := by decide +kernel
theorem d_Hou_init_38 : decode m_Hou_init.2.1 38 = .ok (.putfield 23, 3) := by decide +kernel
theorem d_Hou_init_41 : decode m_Hou_init.2.1 41 = .ok (.aload_n 0, 1) := by decide +kernel
theorem d_Hou_init_42 : decode m_Hou_init.2.1 42 = .ok (.new 27, 3) := by decide +kernel
theorem d_Hou_init_45 : decode m_Hou_init.2.1 45 = .ok (.dup, 1) := by decide +kernel
theorem d_Hou_init_46 : decode m_Hou_init.2.1 46 = .ok (.invokespecial 29, 3) := by decide +kernel
theorem d_Hou_init_49 : decode m_Hou_init.2.1 49 = .ok (.putfield 30, 3) := by decide +kernel
theorem d_Hou_init_52 : decode m_Hou_init.2.1 52 = .ok (.aload_n 0, 1) := by decide +kernel
theorem d_Hou_init_53 : decode m_Hou_init.2.1 53 = .ok (.new 34, 3) := by decide +kernel
theorem d_Hou_init_56 : decode m_Hou_init.2.1 56 = .ok (.dup, 1) := by decide +kernel
theorem d_Hou_init_57 : decode m_Hou_init.2.1 57 = .ok (.aload_n 0, 1) := by decide +kernel
theorem d_Hou_init_58 : decode m_Hou_init.2.1 58 = .ok (.getfield 30, 3) := by decide +kernel
theorem d_Hou_init_61 : decode m_Hou_init.2.1 61 = .ok (.invokespecial 36, 3) := by decide +kernel
theorem d_Hou_init_64 : decode m_Hou_init.2.1 64 = .ok (.putfield 39, 3) := by decide +kernel
theorem d_Hou_init_67 : decode m_Hou_init.2.1 67 = .ok (.aload_n 0, 1) := by decide +kernel
theorem d_Hou_init_68 : decode m_Hou_init.2.1 68 = .ok (.new 43, 3) := by decide +kernel
theorem d_Hou_init_71 : decode m_Hou_init.2.1 71 = .ok (.dup, 1) := by decide +kernel
theorem d_Hou_init_72 : decode m_Hou_init.2.1 72 = .ok (.invokespecial 45, 3) := by decide +kernel
theorem d_Hou_init_75 : decode m_Hou_init.2.1 75 = .ok (.putfield 46, 3) := by decide +kernel
theorem d_Hou_init_78 : decode m_Hou_init.2.1 78 = .ok (.aload_n 0, 1) := by decide +kernel
theorem d_Hou_init_79 : decode m_Hou_init.2.1 79 = .ok (.new 50, 3) := by decide +kernel
theorem d_Hou_init_82 : decode m_Hou_init.2.1 82 = .ok (.dup, 1) := by decide +kernel
theorem d_Hou_init_83 : decode m_Hou_init.2.1 83 = .ok (.aload_n 0, 1) := by decide +kernel
theorem d_Hou_init_84 : decode m_Hou_init.2.1 84 = .ok (.getfield 12, 3) := by decide +kernel
theorem d_Hou_init_87 : decode m_Hou_init.2.1 87 = .ok (.aload_n 0, 1) := by decide +kernel
theorem d_Hou_init_88 : decode m_Hou_init.2.1 88 = .ok (.getfield 46, 3) := by decide +kernel
theorem d_Hou_init_91 : decode m_Hou_init.2.1 91 = .ok (.invokespecial 52, 3) := by decide +kernel
theorem d_Hou_init_94 : decode m_Hou_init.2.1 94 = .ok (.putfield 55, 3) := by decide +kernel
theorem d_Hou_init_97 : decode m_Hou_init.2.1 97 = .ok (.aload_n 0, 1) := by decide +kernel
theorem d_Hou_init_98 : decode m_Hou_init.2.1 98 = .ok (.new 50, 3) := by decide +kernel
theorem d_Hou_init_101 : decode m_Hou_init.2.1 101 = .ok (.dup, 1) := by decide +kernel
theorem d_Hou_init_102 : decode m_Hou_init.2.1 102 = .ok (.aload_n 0, 1) := by decide +kernel
theorem d_Hou_init_103 : decode m_Hou_init.2.1 103 = .ok (.getfield 16, 3) := by decide +kernel
theorem d_Hou_init_106 : decode m_Hou_init.2.1 106 = .ok (.aload_n 0, 1) := by decide +kernel
theorem d_Hou_init_107 : decode m_Hou_init.2.1 107 = .ok (.getfield 46, 3) := by decide +kernel
theorem d_Hou_init_110 : decode m_Hou_init.2.1 110 = .ok (.invokespecial 52, 3) := by decide +kernel
theorem d_Hou_init_113 : decode m_Hou_init.2.1 113 = .ok (.putfield 59, 3) := by decide +kernel
theorem d_Hou_init_116 : decode m_Hou_init.2.1 116 = .ok (.aload_n 0, 1) := by decide +kernel
theorem d_Hou_init_117 : decode m_Hou_init.2.1 117 = .ok (.new 62, 3) := by decide +kernel
theorem d_Hou_init_120 : decode m_Hou_init.2.1 120 = .ok (.dup, 1) := by decide +kernel
theorem d_Hou_init_121 : decode m_Hou_init.2.1 121 = .ok (.aload_n 0, 1) := by decide +kernel
theorem d_Hou_init_122 : decode m_Hou_init.2.1 122 = .ok (.getfield 12, 3) := by decide +kernel
theorem d_Hou_init_125 : decode m_Hou_init.2.1 125 = .ok (.aload_n 0, 1) := by decide +kernel
theorem d_Hou_init_126 : decode m_Hou_init.2.1 126 = .ok (.getfield 55, 3) := by decide +kernel
theorem d_Hou_init_129 : decode m_Hou_init.2.1 129 = .ok (.invokespecial 64, 3) := by decide +kernel
theorem d_Hou_init_132 : decode m_Hou_init.2.1 132 = .ok (.putfield 67, 3) := by decide +kernel
theorem d_Hou_init_135 : decode m_Hou_init.2.1 135 = .ok (.aload_n 0, 1) := by decide +kernel
theorem d_Hou_init_136 : decode m_Hou_init.2.1 136 = .ok (.new 71, 3) := by decide +kernel
theorem d_Hou_init_139 : decode m_Hou_init.2.1 139 = .ok (.dup, 1) := by decide +kernel
theorem d_Hou_init_140 : decode m_Hou_init.2.1 140 = .ok (.aload_n 0, 1) := by decide +kernel
theorem d_Hou_init_141 : decode m_Hou_init.2.1 141 = .ok (.getfield 46, 3) := by decide +kernel
theorem d_Hou_init_144 : decode m_Hou_init.2.1 144 = .ok (.invokespecial 73, 3) := by decide +kernel
theorem d_Hou_init_147 : decode m_Hou_init.2.1 147 = .ok (.putfield 76, 3) := by decide +kernel
theorem d_Hou_init_150 : decode m_Hou_init.2.1 150 = .ok (.aload_n 0, 1) := by decide +kernel
theorem d_Hou_init_151 : decode m_Hou_init.2.1 151 = .ok (.new 80, 3) := by decide +kernel
theorem d_Hou_init_154 : decode m_Hou_init.2.1 154 = .ok (.dup, 1) := by decide +kernel
theorem d_Hou_init_155 : decode m_Hou_init.2.1 155 = .ok (.invokespecial 82, 3) := by decide +kernel
theorem d_Hou_init_158 : decode m_Hou_init.2.1 158 = .ok (.putfield 83, 3) := by decide +kernel
theorem d_Hou_init_161 : decode m_Hou_init.2.1 161 = .ok (.aload_n 0, 1) := by decide +kernel
theorem d_Hou_init_162 : decode m_Hou_init.2.1 162 = .ok (.iconst 5, 1) := by decide +kernel
theorem d_Hou_init_163 : decode m_Hou_init.2.1 163 = .ok (.newarray .int, 2) := by decide +kernel
theorem d_Hou_init_165 : decode m_Hou_init.2.1 165 = .ok (.putfield 87, 3) := by decide +kernel
theorem d_Hou_init_168 : decode m_Hou_init.2.1 168 = .ok (.aload_n 0, 1) := by decide +kernel
theorem d_Hou_init_169 : decode m_Hou_init.2.1 169 = .ok (.iconst 0, 1) := by decide +kernel
theorem d_Hou_init_170 : decode m_Hou_init.2.1 170 = .ok (.putfield 91, 3) := by decide +kernel
theorem d_Hou_init_173 : decode m_Hou_init.2.1 173 = .ok (.aload_n 0, 1) := by decide +kernel
theorem d_Hou_init_174 : decode m_Hou_init.2.1 174 = .ok (.iconst 0, 1) := by decide +kernel
theorem d_Hou_init_175 : decode m_Hou_init.2.1 175 = .ok (.putfield 95, 3) := by decide +kernel
theorem d_Hou_init_178 : decode m_Hou_init.2.1 178 = .ok (.aload_n 0, 1) := by decide +kernel
theorem d_Hou_init_179 : decode m_Hou_init.2.1 179 = .ok (.iconst (-1), 1) := by decide +kernel
theorem d_Hou_init_180 : decode m_Hou_init.2.1 180 = .ok (.putfield 99, 3) := by decide +kernel
theorem d_Hou_init_183 : decode m_Hou_init.2.1 183 = .ok (.aload_n 0, 1) := by decide +kernel
theorem d_Hou_init_184 : decode m_Hou_init.2.1 184 = .ok (.iconst 0, 1) := by decide +kernel
theorem d_Hou_init_185 : decode m_Hou_init.2.1 185 = .ok (.putfield 102, 3) := by decide +kernel
theorem d_Hou_init_188 : decode m_Hou_init.2.1 188 = .ok (.iconst 0, 1) := by decide +kernel
theorem d_Hou_init_189 : decode m_Hou_init.2.1 189 = .ok (.istore_n 1, 1) := by decide +kernel
theorem d_Hou_init_190 : decode m_Hou_init.2.1 190 = .ok (.iload_n 1, 1) := by decide +kernel
theorem d_Hou_init_191 : decode m_Hou_init.2.1 191 = .ok (.iconst 2, 1) := by decide +kernel
theorem d_Hou_init_192 : decode m_Hou_init.2.1 192 = .ok (.if_icmp .ge 22, 3) := by decide +kernel
theorem d_Hou_init_195 : decode m_Hou_init.2.1 195 = .ok (.aload_n 0, 1) := by decide +kernel
theorem d_Hou_init_196 : decode m_Hou_init.2.1 196 = .ok (.getfield 19, 3) := by decide +kernel
theorem d_Hou_init_199 : decode m_Hou_init.2.1 199 = .ok (.iload_n 1, 1) := by decide +kernel
theorem d_Hou_init_200 : decode m_Hou_init.2.1 200 = .ok (.new 9, 3) := by decide +kernel
theorem d_Hou_init_203 : decode m_Hou_init.2.1 203 = .ok (.dup, 1) := by decide +kernel
theorem d_Hou_init_204 : decode m_Hou_init.2.1 204 = .ok (.invokespecial 11, 3) := by decide +kernel
theorem d_Hou_init_207 : decode m_Hou_init.2.1 207 = .ok (.aastore, 1) := by decide +kernel
theorem d_Hou_init_208 : decode m_Hou_init.2.1 208 = .ok (.iinc 1 1, 3) := by decide +kernel
theorem d_Hou_init_211 : decode m_Hou_init.2.1 211 = .ok (.goto (-21), 3) := by decide +kernel
theorem d_Hou_init_214 : decode m_Hou_init.2.1 214 = .ok (.return_, 1) := by decide +kernel
theorem d_Hou_terms_0 : decode m_Hou_terms.2.1 0 = .ok (.iload_n 1, 1) := by decide +kernel
theorem d_Hou_terms_1 : decode m_Hou_terms.2.1 1 = .ok (.ifCond .lt 26, 3) := by decide +kernel
theorem d_Hou_terms_4 : decode m_Hou_terms.2.1 4 = .ok (.iload_n 1, 1) := by decide +kernel
theorem d_Hou_terms_5 : decode m_Hou_terms.2.1 5 = .ok (.iconst 3, 1) := by decide +kernel
theorem d_Hou_terms_6 : decode m_Hou_terms.2.1 6 = .ok (.if_icmp .ge 21, 3) := by decide +kernel
theorem d_Hou_terms_9 : decode m_Hou_terms.2.1 9 = .ok (.iload_n 2, 1) := by decide +kernel
theorem d_Hou_terms_10 : decode m_Hou_terms.2.1 10 = .ok (.getstatic 105, 3) := by decide +kernel
theorem d_Hou_terms_13 : decode m_Hou_terms.2.1 13 = .ok (.iload_n 1, 1) := by decide +kernel
theorem d_Hou_terms_14 : decode m_Hou_terms.2.1 14 = .ok (.iaload, 1) := by decide +kernel
theorem d_Hou_terms_15 : decode m_Hou_terms.2.1 15 = .ok (.if_icmp .lt 12, 3) := by decide +kernel
theorem d_Hou_terms_18 : decode m_Hou_terms.2.1 18 = .ok (.iload_n 2, 1) := by decide +kernel
theorem d_Hou_terms_19 : decode m_Hou_terms.2.1 19 = .ok (.getstatic 108, 3) := by decide +kernel
theorem d_Hou_terms_22 : decode m_Hou_terms.2.1 22 = .ok (.iload_n 1, 1) := by decide +kernel
theorem d_Hou_terms_23 : decode m_Hou_terms.2.1 23 = .ok (.iaload, 1) := by decide +kernel
theorem d_Hou_terms_24 : decode m_Hou_terms.2.1 24 = .ok (.if_icmp .le 9, 3) := by decide +kernel
theorem d_Hou_terms_27 : decode m_Hou_terms.2.1 27 = .ok (.aload_n 0, 1) := by decide +kernel
theorem d_Hou_terms_28 : decode m_Hou_terms.2.1 28 = .ok (.iconst (-1), 1) := by decide +kernel
theorem d_Hou_terms_29 : decode m_Hou_terms.2.1 29 = .ok (.invokevirtual 111, 3) := by decide +kernel
theorem d_Hou_terms_32 : decode m_Hou_terms.2.1 32 = .ok (.ireturn, 1) := by decide +kernel
theorem d_Hou_terms_33 : decode m_Hou_terms.2.1 33 = .ok (.aload_n 0, 1) := by decide +kernel
theorem d_Hou_terms_34 : decode m_Hou_terms.2.1 34 = .ok (.getfield 12, 3) := by decide +kernel
theorem d_Hou_terms_37 : decode m_Hou_terms.2.1 37 = .ok (.getfield 115, 3) := by decide +kernel
theorem d_Hou_terms_40 : decode m_Hou_terms.2.1 40 = .ok (.iload_n 1, 1) := by decide +kernel
theorem d_Hou_terms_41 : decode m_Hou_terms.2.1 41 = .ok (.iaload, 1) := by decide +kernel
theorem d_Hou_terms_42 : decode m_Hou_terms.2.1 42 = .ok (.istore_n 3, 1) := by decide +kernel
theorem d_Hou_terms_43 : decode m_Hou_terms.2.1 43 = .ok (.aload_n 0, 1) := by decide +kernel
theorem d_Hou_terms_44 : decode m_Hou_terms.2.1 44 = .ok (.getfield 12, 3) := by decide +kernel
theorem d_Hou_terms_47 : decode m_Hou_terms.2.1 47 = .ok (.getfield 115, 3) := by decide +kernel
theorem d_Hou_terms_50 : decode m_Hou_terms.2.1 50 = .ok (.iload_n 1, 1) := by decide +kernel
theorem d_Hou_terms_51 : decode m_Hou_terms.2.1 51 = .ok (.iload_n 2, 1) := by decide +kernel
theorem d_Hou_terms_52 : decode m_Hou_terms.2.1 52 = .ok (.iastore, 1) := by decide +kernel
theorem d_Hou_terms_53 : decode m_Hou_terms.2.1 53 = .ok (.aload_n 0, 1) := by decide +kernel
theorem d_Hou_terms_54 : decode m_Hou_terms.2.1 54 = .ok (.getfield 55, 3) := by decide +kernel
theorem d_Hou_terms_57 : decode m_Hou_terms.2.1 57 = .ok (.invokevirtual 118, 3) := by decide +kernel
theorem d_Hou_terms_60 : decode m_Hou_terms.2.1 60 = .ok (.aload_n 0, 1) := by decide +kernel
theorem d_Hou_terms_61 : decode m_Hou_terms.2.1 61 = .ok (.iload_n 3, 1) := by decide +kernel
theorem d_Hou_terms_62 : decode m_Hou_terms.2.1 62 = .ok (.invokevirtual 121, 3) := by decide +kernel
theorem d_Hou_terms_65 : decode m_Hou_terms.2.1 65 = .ok (.ireturn, 1) := by decide +kernel
theorem d_Hou_refuse_0 : decode m_Hou_refuse.2.1 0 = .ok (.aload_n 0, 1) := by decide +kernel
theorem d_Hou_refuse_1 : decode m_Hou_refuse.2.1 1 = .ok (.iload_n 1, 1) := by decide +kernel
theorem d_Hou_refuse_2 : decode m_Hou_refuse.2.1 2 = .ok (.putfield 102, 3) := by decide +kernel
theorem d_Hou_refuse_5 : decode m_Hou_refuse.2.1 5 = .ok (.aload_n 0, 1) := by decide +kernel
theorem d_Hou_refuse_6 : decode m_Hou_refuse.2.1 6 = .ok (.getfield 87, 3) := by decide +kernel
theorem d_Hou_refuse_9 : decode m_Hou_refuse.2.1 9 = .ok (.iload_n 1, 1) := by decide +kernel
theorem d_Hou_refuse_10 : decode m_Hou_refuse.2.1 10 = .ok (.invokestatic 335, 3) := by decide +kernel
theorem d_Hou_refuse_13 : decode m_Hou_refuse.2.1 13 = .ok (.dup2, 1) := by decide +kernel
theorem d_Hou_refuse_14 : decode m_Hou_refuse.2.1 14 = .ok (.iaload, 1) := by decide +kernel
theorem d_Hou_refuse_15 : decode m_Hou_refuse.2.1 15 = .ok (.iconst 1, 1) := by decide +kernel
theorem d_Hou_refuse_16 : decode m_Hou_refuse.2.1 16 = .ok (.iadd, 1) := by decide +kernel
theorem d_Hou_refuse_17 : decode m_Hou_refuse.2.1 17 = .ok (.iastore, 1) := by decide +kernel
theorem d_Hou_refuse_18 : decode m_Hou_refuse.2.1 18 = .ok (.iload_n 1, 1) := by decide +kernel
theorem d_Hou_refuse_19 : decode m_Hou_refuse.2.1 19 = .ok (.ireturn, 1) := by decide +kernel
theorem d_Hou_refusalIndex_0 : decode m_Hou_refusalIndex.2.1 0 = .ok (.iload_n 0, 1) := by decide +kernel
theorem d_Hou_refusalIndex_1 : decode m_Hou_refusalIndex.2.1 1 = .ok (.tableswitch 43 (-5) (-1) #[41, 43, 39, 37, 35], 35) := by decide +kernel
theorem d_Hou_refusalIndex_36 : decode m_Hou_refusalIndex.2.1 36 = .ok (.iconst 0, 1) := by decide +kernel
theorem d_Hou_refusalIndex_37 : decode m_Hou_refusalIndex.2.1 37 = .ok (.ireturn, 1) := by decide +kernel
theorem d_Hou_refusalIndex_38 : decode m_Hou_refusalIndex.2.1 38 = .ok (.iconst 1, 1) := by decide +kernel
theorem d_Hou_refusalIndex_39 : decode m_Hou_refusalIndex.2.1 39 = .ok (.ireturn, 1) := by decide +kernel
theorem d_Hou_refusalIndex_40 : decode m_Hou_refusalIndex.2.1 40 = .ok (.iconst 2, 1) := by decide +kernel
theorem d_Hou_refusalIndex_41 : decode m_Hou_refusalIndex.2.1 41 = .ok (.ireturn, 1) := by decide +kernel
theorem d_Hou_refusalIndex_42 : decode m_Hou_refusalIndex.2.1 42 = .ok (.iconst 3, 1) := by decide +kernel
theorem d_Hou_refusalIndex_43 : decode m_Hou_refusalIndex.2.1 43 = .ok (.ireturn, 1) := by decide +kernel
theorem d_Hou_refusalIndex_44 : decode m_Hou_refusalIndex.2.1 44 = .ok (.iconst 4, 1) := by decide +kernel
theorem d_Hou_refusalIndex_45 : decode m_Hou_refusalIndex.2.1 45 = .ok (.ireturn, 1) := by decide +kernel
theorem d_Hou_grant_0 : decode m_Hou_grant.2.1 0 = .ok (.aload_n 0, 1) := by decide +kernel
theorem d_Hou_grant_1 : decode m_Hou_grant.2.1 1 = .ok (.iconst 0, 1) := by decide +kernel
theorem d_Hou_grant_2 : decode m_Hou_grant.2.1 2 = .ok (.putfield 102, 3) := by decide +kernel
theorem d_Hou_grant_5 : decode m_Hou_grant.2.1 5 = .ok (.iload_n 1, 1) := by decide +kernel
theorem d_Hou_grant_6 : decode m_Hou_grant.2.1 6 = .ok (.ireturn, 1) := by decide +kernel
theorem d_Hou_feed_0 : decode m_Hou_feed.2.1 0 = .ok (.aload_n 0, 1) := by decide +kernel
theorem d_Hou_feed_1 : decode m_Hou_feed.2.1 1 = .ok (.getfield 30, 3) := by decide +kernel
theorem d_Hou_feed_4 : decode m_Hou_feed.2.1 4 = .ok (.getfield 124, 3) := by decide +kernel
theorem d_Hou_feed_7 : decode m_Hou_feed.2.1 7 = .ok (.bipush 20, 2) := by decide +kernel
theorem d_Hou_feed_9 : decode m_Hou_feed.2.1 9 = .ok (.iadd, 1) := by decide +kernel
theorem d_Hou_feed_10 : decode m_Hou_feed.2.1 10 = .ok (.sipush 400, 3) := by decide +kernel
theorem d_Hou_feed_13 : decode m_Hou_feed.2.1 13 = .ok (.if_icmp .le 5, 3) := by decide +kernel
theorem d_Hou_feed_16 : decode m_Hou_feed.2.1 16 = .ok (.iconst (-1), 1) := by decide +kernel
theorem d_Hou_feed_17 : decode m_Hou_feed.2.1 17 = .ok (.ireturn, 1) := by decide +kernel
theorem d_Hou_feed_18 : decode m_Hou_feed.2.1 18 = .ok (.aload_n 0, 1) := by decide +kernel
theorem d_Hou_feed_19 : decode m_Hou_feed.2.1 19 = .ok (.getfield 30, 3) := by decide +kernel
theorem d_Hou_feed_22 : decode m_Hou_feed.2.1 22 = .ok (.iload_n 1, 1) := by decide +kernel
theorem d_Hou_feed_23 : decode m_Hou_feed.2.1 23 = .ok (.invokevirtual 127, 3) := by decide +kernel
theorem d_Hou_feed_26 : decode m_Hou_feed.2.1 26 = .ok (.aload_n 0, 1) := by decide +kernel
theorem d_Hou_feed_27 : decode m_Hou_feed.2.1 27 = .ok (.getfield 30, 3) := by decide +kernel
theorem d_Hou_feed_30 : decode m_Hou_feed.2.1 30 = .ok (.iload_n 2, 1) := by decide +kernel
theorem d_Hou_feed_31 : decode m_Hou_feed.2.1 31 = .ok (.invokevirtual 127, 3) := by decide +kernel
theorem d_Hou_feed_34 : decode m_Hou_feed.2.1 34 = .ok (.aload_n 0, 1) := by decide +kernel
theorem d_Hou_feed_35 : decode m_Hou_feed.2.1 35 = .ok (.getfield 30, 3) := by decide +kernel
theorem d_Hou_feed_38 : decode m_Hou_feed.2.1 38 = .ok (.iload_n 3, 1) := by decide +kernel
theorem d_Hou_feed_39 : decode m_Hou_feed.2.1 39 = .ok (.invokevirtual 127, 3) := by decide +kernel
theorem d_Hou_feed_42 : decode m_Hou_feed.2.1 42 = .ok (.aload_n 0, 1) := by decide +kernel
theorem d_Hou_feed_43 : decode m_Hou_feed.2.1 43 = .ok (.getfield 30, 3) := by decide +kernel
theorem d_Hou_feed_46 : decode m_Hou_feed.2.1 46 = .ok (.iload 4, 2) := by decide +kernel
theorem d_Hou_feed_48 : decode m_Hou_feed.2.1 48 = .ok (.invokevirtual 127, 3) := by decide +kernel
theorem d_Hou_feed_51 : decode m_Hou_feed.2.1 51 = .ok (.aload_n 0, 1) := by decide +kernel
theorem d_Hou_feed_52 : decode m_Hou_feed.2.1 52 = .ok (.getfield 30, 3) := by decide +kernel
theorem d_Hou_feed_55 : decode m_Hou_feed.2.1 55 = .ok (.iload 5, 2) := by decide +kernel
theorem d_Hou_feed_57 : decode m_Hou_feed.2.1 57 = .ok (.invokevirtual 127, 3) := by decide +kernel
theorem d_Hou_feed_60 : decode m_Hou_feed.2.1 60 = .ok (.aload_n 0, 1) := by decide +kernel
theorem d_Hou_feed_61 : decode m_Hou_feed.2.1 61 = .ok (.getfield 30, 3) := by decide +kernel
theorem d_Hou_feed_64 : decode m_Hou_feed.2.1 64 = .ok (.getfield 124, 3) := by decide +kernel
theorem d_Hou_feed_67 : decode m_Hou_feed.2.1 67 = .ok (.ireturn, 1) := by decide +kernel
theorem d_Hou_end_0 : decode m_Hou_end.2.1 0 = .ok (.iload_n 1, 1) := by decide +kernel
theorem d_Hou_end_1 : decode m_Hou_end.2.1 1 = .ok (.ifCond .lt 14, 3) := by decide +kernel
theorem d_Hou_end_4 : decode m_Hou_end.2.1 4 = .ok (.iload_n 1, 1) := by decide +kernel
theorem d_Hou_end_5 : decode m_Hou_end.2.1 5 = .ok (.aload_n 0, 1) := by decide +kernel
theorem d_Hou_end_6 : decode m_Hou_end.2.1 6 = .ok (.getfield 30, 3) := by decide +kernel
theorem d_Hou_end_9 : decode m_Hou_end.2.1 9 = .ok (.getfield 124, 3) := by decide +kernel
theorem d_Hou_end_12 : decode m_Hou_end.2.1 12 = .ok (.if_icmp .le 5, 3) := by decide +kernel
theorem d_Hou_end_15 : decode m_Hou_end.2.1 15 = .ok (.iconst (-1), 1) := by decide +kernel
theorem d_Hou_end_16 : decode m_Hou_end.2.1 16 = .ok (.ireturn, 1) := by decide +kernel
theorem d_Hou_end_17 : decode m_Hou_end.2.1 17 = .ok (.aload_n 0, 1) := by decide +kernel
theorem d_Hou_end_18 : decode m_Hou_end.2.1 18 = .ok (.getfield 30, 3) := by decide +kernel
theorem d_Hou_end_21 : decode m_Hou_end.2.1 21 = .ok (.iload_n 1, 1) := by decide +kernel
theorem d_Hou_end_22 : decode m_Hou_end.2.1 22 = .ok (.putfield 124, 3) := by decide +kernel
theorem d_Hou_end_25 : decode m_Hou_end.2.1 25 = .ok (.iload_n 1, 1) := by decide +kernel
theorem d_Hou_end_26 : decode m_Hou_end.2.1 26 = .ok (.ireturn, 1) := by decide +kernel
theorem d_Hou_row_0 : decode m_Hou_row.2.1 0 = .ok (.aload_n 0, 1) := by decide +kernel
theorem d_Hou_row_1 : decode m_Hou_row.2.1 1 = .ok (.getfield 30, 3) := by decide +kernel
theorem d_Hou_row_4 : decode m_Hou_row.2.1 4 = .ok (.getfield 124, 3) := by decide +kernel
theorem d_Hou_row_7 : decode m_Hou_row.2.1 7 = .ok (.ifCond .ne 10, 3) := by decide +kernel
theorem d_Hou_row_10 : decode m_Hou_row.2.1 10 = .ok (.aload_n 0, 1) := by decide +kernel
theorem d_Hou_row_11 : decode m_Hou_row.2.1 11 = .ok (.bipush (-6), 2) := by decide +kernel
theorem d_Hou_row_13 : decode m_Hou_row.2.1 13 = .ok (.invokevirtual 111, 3) := by decide +kernel
theorem d_Hou_row_16 : decode m_Hou_row.2.1 16 = .ok (.ireturn, 1) := by decide +kernel
theorem d_Hou_row_17 : decode m_Hou_row.2.1 17 = .ok (.iconst 0, 1) := by decide +kernel
theorem d_Hou_row_18 : decode m_Hou_row.2.1 18 = .ok (.istore_n 1, 1) := by decide +kernel
theorem d_Hou_row_19 : decode m_Hou_row.2.1 19 = .ok (.iconst 0, 1) := by decide +kernel
theorem d_Hou_row_20 : decode m_Hou_row.2.1 20 = .ok (.istore_n 2, 1) := by decide +kernel
theorem d_Hou_row_21 : decode m_Hou_row.2.1 21 = .ok (.iload_n 2, 1) := by decide +kernel
theorem d_Hou_row_22 : decode m_Hou_row.2.1 22 = .ok (.aload_n 0, 1) := by decide +kernel
theorem d_Hou_row_23 : decode m_Hou_row.2.1 23 = .ok (.getfield 30, 3) := by decide +kernel
theorem d_Hou_row_26 : decode m_Hou_row.2.1 26 = .ok (.getfield 124, 3) := by decide +kernel
theorem d_Hou_row_29 : decode m_Hou_row.2.1 29 = .ok (.if_icmp .ge 70, 3) := by decide +kernel
theorem d_Hou_row_32 : decode m_Hou_row.2.1 32 = .ok (.aload_n 0, 1) := by decide +kernel
theorem d_Hou_row_33 : decode m_Hou_row.2.1 33 = .ok (.getfield 30, 3) := by decide +kernel
theorem d_Hou_row_36 : decode m_Hou_row.2.1 36 = .ok (.getfield 131, 3) := by decide +kernel
theorem d_Hou_row_39 : decode m_Hou_row.2.1 39 = .ok (.iload_n 2, 1) := by decide +kernel
theorem d_Hou_row_40 : decode m_Hou_row.2.1 40 = .ok (.iaload, 1) := by decide +kernel
theorem d_Hou_row_41 : decode m_Hou_row.2.1 41 = .ok (.bipush 12, 2) := by decide +kernel
theorem d_Hou_row_43 : decode m_Hou_row.2.1 43 = .ok (.if_icmp .ge 50, 3) := by decide +kernel
theorem d_Hou_row_46 : decode m_Hou_row.2.1 46 = .ok (.aload_n 0, 1) := by decide +kernel
theorem d_Hou_row_47 : decode m_Hou_row.2.1 47 = .ok (.getfield 12, 3) := by decide +kernel
theorem d_Hou_row_50 : decode m_Hou_row.2.1 50 = .ok (.getfield 134, 3) := by decide +kernel
theorem d_Hou_row_53 : decode m_Hou_row.2.1 53 = .ok (.getfield 138, 3) := by decide +kernel
theorem d_Hou_row_56 : decode m_Hou_row.2.1 56 = .ok (.bipush 20, 2) := by decide +kernel
theorem d_Hou_row_58 : decode m_Hou_row.2.1 58 = .ok (.if_icmp .ge 35, 3) := by decide +kernel
theorem d_Hou_row_61 : decode m_Hou_row.2.1 61 = .ok (.aload_n 0, 1) := by decide +kernel
theorem d_Hou_row_62 : decode m_Hou_row.2.1 62 = .ok (.getfield 12, 3) := by decide +kernel
theorem d_Hou_row_65 : decode m_Hou_row.2.1 65 = .ok (.getfield 134, 3) := by decide +kernel
theorem d_Hou_row_68 : decode m_Hou_row.2.1 68 = .ok (.aload_n 0, 1) := by decide +kernel
theorem d_Hou_row_69 : decode m_Hou_row.2.1 69 = .ok (.getfield 30, 3) := by decide +kernel
theorem d_Hou_row_72 : decode m_Hou_row.2.1 72 = .ok (.getfield 131, 3) := by decide +kernel
theorem d_Hou_row_75 : decode m_Hou_row.2.1 75 = .ok (.iload_n 2, 1) := by decide +kernel
theorem d_Hou_row_76 : decode m_Hou_row.2.1 76 = .ok (.iaload, 1) := by decide +kernel
theorem d_Hou_row_77 : decode m_Hou_row.2.1 77 = .ok (.aload_n 0, 1) := by decide +kernel
theorem d_Hou_row_78 : decode m_Hou_row.2.1 78 = .ok (.getfield 12, 3) := by decide +kernel
theorem d_Hou_row_81 : decode m_Hou_row.2.1 81 = .ok (.getfield 134, 3) := by decide +kernel
theorem d_Hou_row_84 : decode m_Hou_row.2.1 84 = .ok (.getfield 138, 3) := by decide +kernel
theorem d_Hou_row_87 : decode m_Hou_row.2.1 87 = .ok (.invokevirtual 143, 3) := by decide +kernel
theorem d_Hou_row_90 : decode m_Hou_row.2.1 90 = .ok (.iinc 1 1, 3) := by decide +kernel
theorem d_Hou_row_93 : decode m_Hou_row.2.1 93 = .ok (.iinc 2 1, 3) := by decide +kernel
theorem d_Hou_row_96 : decode m_Hou_row.2.1 96 = .ok (.goto (-75), 3) := by decide +kernel
theorem d_Hou_row_99 : decode m_Hou_row.2.1 99 = .ok (.aload_n 0, 1) := by decide +kernel
theorem d_Hou_row_100 : decode m_Hou_row.2.1 100 = .ok (.aload_n 0, 1) := by decide +kernel
theorem d_Hou_row_101 : decode m_Hou_row.2.1 101 = .ok (.getfield 30, 3) := by decide +kernel
theorem d_Hou_row_104 : decode m_Hou_row.2.1 104 = .ok (.getfield 124, 3) := by decide +kernel
theorem d_Hou_row_107 : decode m_Hou_row.2.1 107 = .ok (.iload_n 1, 1) := by decide +kernel
theorem d_Hou_row_108 : decode m_Hou_row.2.1 108 = .ok (.isub, 1) := by decide +kernel
theorem d_Hou_row_109 : decode m_Hou_row.2.1 109 = .ok (.putfield 95, 3) := by decide +kernel
theorem d_Hou_row_112 : decode m_Hou_row.2.1 112 = .ok (.aload_n 0, 1) := by decide +kernel
theorem d_Hou_row_113 : decode m_Hou_row.2.1 113 = .ok (.getfield 30, 3) := by decide +kernel
theorem d_Hou_row_116 : decode m_Hou_row.2.1 116 = .ok (.iconst 0, 1) := by decide +kernel
theorem d_Hou_row_117 : decode m_Hou_row.2.1 117 = .ok (.putfield 124, 3) := by decide +kernel
theorem d_Hou_row_120 : decode m_Hou_row.2.1 120 = .ok (.aload_n 0, 1) := by decide +kernel
theorem d_Hou_row_121 : decode m_Hou_row.2.1 121 = .ok (.getfield 55, 3) := by decide +kernel
theorem d_Hou_row_124 : decode m_Hou_row.2.1 124 = .ok (.invokevirtual 118, 3) := by decide +kernel
theorem d_Hou_row_127 : decode m_Hou_row.2.1 127 = .ok (.aload_n 0, 1) := by decide +kernel
theorem d_Hou_row_128 : decode m_Hou_row.2.1 128 = .ok (.iload_n 1, 1) := by decide +kernel
theorem d_Hou_row_129 : decode m_Hou_row.2.1 129 = .ok (.invokevirtual 121, 3) := by decide +kernel
theorem d_Hou_row_132 : decode m_Hou_row.2.1 132 = .ok (.ireturn, 1) := by decide +kernel
theorem d_Hou_blots_0 : decode m_Hou_blots.2.1 0 = .ok (.aload_n 0, 1) := by decide +kernel
theorem d_Hou_blots_1 : decode m_Hou_blots.2.1 1 = .ok (.getfield 95, 3) := by decide +kernel
theorem d_Hou_blots_4 : decode m_Hou_blots.2.1 4 = .ok (.ireturn, 1) := by decide +kernel
theorem d_Hou_law_0 : decode m_Hou_law.2.1 0 = .ok (.aload_n 0, 1) := by decide +kernel
theorem d_Hou_law_1 : decode m_Hou_law.2.1 1 = .ok (.getfield 12, 3) := by decide +kernel
theorem d_Hou_law_4 : decode m_Hou_law.2.1 4 = .ok (.getfield 147, 3) := by decide +kernel
theorem d_Hou_law_7 : decode m_Hou_law.2.1 7 = .ok (.bipush 6, 2) := by decide +kernel
theorem d_Hou_law_9 : decode m_Hou_law.2.1 9 = .ok (.if_icmp .lt 18, 3) := by decide +kernel
theorem d_Hou_law_12 : decode m_Hou_law.2.1 12 = .ok (.aload_n 0, 1) := by decide +kernel
theorem d_Hou_law_13 : decode m_Hou_law.2.1 13 = .ok (.getfield 30, 3) := by decide +kernel
theorem d_Hou_law_16 : decode m_Hou_law.2.1 16 = .ok (.iconst 0, 1) := by decide +kernel
theorem d_Hou_law_17 : decode m_Hou_law.2.1 17 = .ok (.putfield 124, 3) := by decide +kernel
theorem d_Hou_law_20 : decode m_Hou_law.2.1 20 = .ok (.aload_n 0, 1) := by decide +kernel
theorem d_Hou_law_21 : decode m_Hou_law.2.1 21 = .ok (.bipush (-5), 2) := by decide +kernel
theorem d_Hou_law_23 : decode m_Hou_law.2.1 23 = .ok (.invokevirtual 111, 3) := by decide +kernel
theorem d_Hou_law_26 : decode m_Hou_law.2.1 26 = .ok (.ireturn, 1) := by decide +kernel
theorem d_Hou_law_27 : decode m_Hou_law.2.1 27 = .ok (.aload_n 0, 1) := by decide +kernel
theorem d_Hou_law_28 : decode m_Hou_law.2.1 28 = .ok (.getfield 39, 3) := by decide +kernel
theorem d_Hou_law_31 : decode m_Hou_law.2.1 31 = .ok (.iconst 0, 1) := by decide +kernel
theorem d_Hou_law_32 : decode m_Hou_law.2.1 32 = .ok (.invokevirtual 150, 3) := by decide +kernel
theorem d_Hou_law_35 : decode m_Hou_law.2.1 35 = .ok (.ifCond .ne 10, 3) := by decide +kernel
theorem d_Hou_law_38 : decode m_Hou_law.2.1 38 = .ok (.aload_n 0, 1) := by decide +kernel
theorem d_Hou_law_39 : decode m_Hou_law.2.1 39 = .ok (.bipush (-6), 2) := by decide +kernel
theorem d_Hou_law_41 : decode m_Hou_law.2.1 41 = .ok (.invokevirtual 111, 3) := by decide +kernel
theorem d_Hou_law_44 : decode m_Hou_law.2.1 44 = .ok (.ireturn, 1) := by decide +kernel
theorem d_Hou_law_45 : decode m_Hou_law.2.1 45 = .ok (.aload_n 0, 1) := by decide +kernel
theorem d_Hou_law_46 : decode m_Hou_law.2.1 46 = .ok (.getfield 12, 3) := by decide +kernel
theorem d_Hou_law_49 : decode m_Hou_law.2.1 49 = .ok (.getfield 154, 3) := by decide +kernel
theorem d_Hou_law_52 : decode m_Hou_law.2.1 52 = .ok (.aload_n 0, 1) := by decide +kernel
theorem d_Hou_law_53 : decode m_Hou_law.2.1 53 = .ok (.getfield 12, 3) := by decide +kernel
theorem d_Hou_law_56 : decode m_Hou_law.2.1 56 = .ok (.getfield 147, 3) := by decide +kernel
theorem d_Hou_law_59 : decode m_Hou_law.2.1 59 = .ok (.new 158, 3) := by decide +kernel
theorem d_Hou_law_62 : decode m_Hou_law.2.1 62 = .ok (.dup, 1) := by decide +kernel
theorem d_Hou_law_63 : decode m_Hou_law.2.1 63 = .ok (.aload_n 0, 1) := by decide +kernel
theorem d_Hou_law_64 : decode m_Hou_law.2.1 64 = .ok (.getfield 39, 3) := by decide +kernel
theorem d_Hou_law_67 : decode m_Hou_law.2.1 67 = .ok (.getfield 160, 3) := by decide +kernel
theorem d_Hou_law_70 : decode m_Hou_law.2.1 70 = .ok (.invokespecial 164, 3) := by decide +kernel
theorem d_Hou_law_73 : decode m_Hou_law.2.1 73 = .ok (.aastore, 1) := by decide +kernel
theorem d_Hou_law_74 : decode m_Hou_law.2.1 74 = .ok (.aload_n 0, 1) := by decide +kernel
theorem d_Hou_law_75 : decode m_Hou_law.2.1 75 = .ok (.getfield 12, 3) := by decide +kernel
theorem d_Hou_law_78 : decode m_Hou_law.2.1 78 = .ok (.dup, 1) := by decide +kernel
theorem d_Hou_law_79 : decode m_Hou_law.2.1 79 = .ok (.getfield 147, 3) := by decide +kernel
theorem d_Hou_law_82 : decode m_Hou_law.2.1 82 = .ok (.iconst 1, 1) := by decide +kernel
theorem d_Hou_law_83 : decode m_Hou_law.2.1 83 = .ok (.iadd, 1) := by decide +kernel
theorem d_Hou_law_84 : decode m_Hou_law.2.1 84 = .ok (.putfield 147, 3) := by decide +kernel
theorem d_Hou_law_87 : decode m_Hou_law.2.1 87 = .ok (.aload_n 0, 1) := by decide +kernel
theorem d_Hou_law_88 : decode m_Hou_law.2.1 88 = .ok (.aload_n 0, 1) := by decide +kernel
theorem d_Hou_law_89 : decode m_Hou_law.2.1 89 = .ok (.getfield 12, 3) := by decide +kernel
theorem d_Hou_law_92 : decode m_Hou_law.2.1 92 = .ok (.getfield 147, 3) := by decide +kernel
theorem d_Hou_law_95 : decode m_Hou_law.2.1 95 = .ok (.iconst 1, 1) := by decide +kernel
theorem d_Hou_law_96 : decode m_Hou_law.2.1 96 = .ok (.isub, 1) := by decide +kernel
theorem d_Hou_law_97 : decode m_Hou_law.2.1 97 = .ok (.invokevirtual 121, 3) := by decide +kernel
theorem d_Hou_law_100 : decode m_Hou_law.2.1 100 = .ok (.ireturn, 1) := by decide +kernel
theorem d_Hou_orders_0 : decode m_Hou_orders.2.1 0 = .ok (.aload_n 0, 1) := by decide +kernel
theorem d_Hou_orders_1 : decode m_Hou_orders.2.1 1 = .ok (.iconst (-1), 1) := by decide +kernel
theorem d_Hou_orders_2 : decode m_Hou_orders.2.1 2 = .ok (.putfield 99, 3) := by decide +kernel
theorem d_Hou_orders_5 : decode m_Hou_orders.2.1 5 = .ok (.aload_n 0, 1) := by decide +kernel
theorem d_Hou_orders_6 : decode m_Hou_orders.2.1 6 = .ok (.getfield 39, 3) := by decide +kernel
theorem d_Hou_orders_9 : decode m_Hou_orders.2.1 9 = .ok (.iconst 1, 1) := by decide +kernel
theorem d_Hou_orders_10 : decode m_Hou_orders.2.1 10 = .ok (.invokevirtual 150, 3) := by decide +kernel
theorem d_Hou_orders_13 : decode m_Hou_orders.2.1 13 = .ok (.ifCond .ne 10, 3) := by decide +kernel
theorem d_Hou_orders_16 : decode m_Hou_orders.2.1 16 = .ok (.aload_n 0, 1) := by decide +kernel
theorem d_Hou_orders_17 : decode m_Hou_orders.2.1 17 = .ok (.bipush (-6), 2) := by decide +kernel
theorem d_Hou_orders_19 : decode m_Hou_orders.2.1 19 = .ok (.invokevirtual 111, 3) := by decide +kernel
theorem d_Hou_orders_22 : decode m_Hou_orders.2.1 22 = .ok (.ireturn, 1) := by decide +kernel
theorem d_Hou_orders_23 : decode m_Hou_orders.2.1 23 = .ok (.aload_n 0, 1) := by decide +kernel
theorem d_Hou_orders_24 : decode m_Hou_orders.2.1 24 = .ok (.aload_n 0, 1) := by decide +kernel
theorem d_Hou_orders_25 : decode m_Hou_orders.2.1 25 = .ok (.getfield 67, 3) := by decide +kernel
theorem d_Hou_orders_28 : decode m_Hou_orders.2.1 28 = .ok (.aload_n 0, 1) := by decide +kernel
theorem d_Hou_orders_29 : decode m_Hou_orders.2.1 29 = .ok (.getfield 39, 3) := by decide +kernel
theorem d_Hou_orders_32 : decode m_Hou_orders.2.1 32 = .ok (.getfield 160, 3) := by decide +kernel
theorem d_Hou_orders_35 : decode m_Hou_orders.2.1 35 = .ok (.invokevirtual 167, 3) := by decide +kernel
theorem d_Hou_orders_38 : decode m_Hou_orders.2.1 38 = .ok (.putfield 99, 3) := by decide +kernel
theorem d_Hou_orders_41 : decode m_Hou_orders.2.1 41 = .ok (.aload_n 0, 1) := by decide +kernel
theorem d_Hou_orders_42 : decode m_Hou_orders.2.1 42 = .ok (.getfield 99, 3) := by decide +kernel
theorem d_Hou_orders_45 : decode m_Hou_orders.2.1 45 = .ok (.iconst (-1), 1) := by decide +kernel
theorem d_Hou_orders_46 : decode m_Hou_orders.2.1 46 = .ok (.if_icmp .ne 17, 3) := by decide +kernel
theorem d_Hou_orders_49 : decode m_Hou_orders.2.1 49 = .ok (.aload_n 0, 1) := by decide +kernel
theorem d_Hou_orders_50 : decode m_Hou_orders.2.1 50 = .ok (.aload_n 0, 1) := by decide +kernel
theorem d_Hou_orders_51 : decode m_Hou_orders.2.1 51 = .ok (.getfield 67, 3) := by decide +kernel
theorem d_Hou_orders_54 : decode m_Hou_orders.2.1 54 = .ok (.getfield 171, 3) := by decide +kernel
theorem d_Hou_orders_57 : decode m_Hou_orders.2.1 57 = .ok (.invokevirtual 121, 3) := by decide +kernel
theorem d_Hou_orders_60 : decode m_Hou_orders.2.1 60 = .ok (.goto 9, 3) := by decide +kernel
theorem d_Hou_orders_63 : decode m_Hou_orders.2.1 63 = .ok (.aload_n 0, 1) := by decide +kernel
theorem d_Hou_orders_64 : decode m_Hou_orders.2.1 64 = .ok (.bipush (-3), 2) := by decide +kernel
theorem d_Hou_orders_66 : decode m_Hou_orders.2.1 66 = .ok (.invokevirtual 111, 3) := by decide +kernel
theorem d_Hou_orders_69 : decode m_Hou_orders.2.1 69 = .ok (.ireturn, 1) := by decide +kernel
theorem d_Hou_fault_0 : decode m_Hou_fault.2.1 0 = .ok (.aload_n 0, 1) := by decide +kernel
theorem d_Hou_fault_1 : decode m_Hou_fault.2.1 1 = .ok (.getfield 39, 3) := by decide +kernel
theorem d_Hou_fault_4 : decode m_Hou_fault.2.1 4 = .ok (.getfield 174, 3) := by decide +kernel
theorem d_Hou_fault_7 : decode m_Hou_fault.2.1 7 = .ok (.ireturn, 1) := by decide +kernel
theorem d_Hou_stopped_0 : decode m_Hou_stopped.2.1 0 = .ok (.aload_n 0, 1) := by decide +kernel
theorem d_Hou_stopped_1 : decode m_Hou_stopped.2.1 1 = .ok (.getfield 99, 3) := by decide +kernel
theorem d_Hou_stopped_4 : decode m_Hou_stopped.2.1 4 = .ok (.ireturn, 1) := by decide +kernel
theorem d_Hou_force_0 : decode m_Hou_force.2.1 0 = .ok (.aload_n 0, 1) := by decide +kernel
theorem d_Hou_force_1 : decode m_Hou_force.2.1 1 = .ok (.getfield 12, 3) := by decide +kernel
theorem d_Hou_force_4 : decode m_Hou_force.2.1 4 = .ok (.iload_n 1, 1) := by decide +kernel
theorem d_Hou_force_5 : decode m_Hou_force.2.1 5 = .ok (.invokevirtual 177, 3) := by decide +kernel
theorem d_Hou_force_8 : decode m_Hou_force.2.1 8 = .ok (.ifCond .ne 10, 3) := by decide +kernel
theorem d_Hou_force_11 : decode m_Hou_force.2.1 11 = .ok (.aload_n 0, 1) := by decide +kernel
theorem d_Hou_force_12 : decode m_Hou_force.2.1 12 = .ok (.bipush (-2), 2) := by decide +kernel
theorem d_Hou_force_14 : decode m_Hou_force.2.1 14 = .ok (.invokevirtual 111, 3) := by decide +kernel
theorem d_Hou_force_17 : decode m_Hou_force.2.1 17 = .ok (.ireturn, 1) := by decide +kernel
theorem d_Hou_force_18 : decode m_Hou_force.2.1 18 = .ok (.aload_n 0, 1) := by decide +kernel
theorem d_Hou_force_19 : decode m_Hou_force.2.1 19 = .ok (.getfield 12, 3) := by decide +kernel
theorem d_Hou_force_22 : decode m_Hou_force.2.1 22 = .ok (.getfield 181, 3) := by decide +kernel
theorem d_Hou_force_25 : decode m_Hou_force.2.1 25 = .ok (.istore_n 2, 1) := by decide +kernel
theorem d_Hou_force_26 : decode m_Hou_force.2.1 26 = .ok (.aload_n 0, 1) := by decide +kernel
theorem d_Hou_force_27 : decode m_Hou_force.2.1 27 = .ok (.getfield 12, 3) := by decide +kernel
theorem d_Hou_force_30 : decode m_Hou_force.2.1 30 = .ok (.iload_n 1, 1) := by decide +kernel
theorem d_Hou_force_31 : decode m_Hou_force.2.1 31 = .ok (.putfield 181, 3) := by decide +kernel
theorem d_Hou_force_34 : decode m_Hou_force.2.1 34 = .ok (.aload_n 0, 1) := by decide +kernel
theorem d_Hou_force_35 : decode m_Hou_force.2.1 35 = .ok (.iload_n 2, 1) := by decide +kernel
theorem d_Hou_force_36 : decode m_Hou_force.2.1 36 = .ok (.invokevirtual 121, 3) := by decide +kernel
theorem d_Hou_force_39 : decode m_Hou_force.2.1 39 = .ok (.ireturn, 1) := by decide +kernel
theorem d_Hou_asks_0 : decode m_Hou_asks.2.1 0 = .ok (.iload_n 1, 1) := by decide +kernel
theorem d_Hou_asks_1 : decode m_Hou_asks.2.1 1 = .ok (.ifCond .lt 27, 3) := by decide +kernel
theorem d_Hou_asks_4 : decode m_Hou_asks.2.1 4 = .ok (.iload_n 1, 1) := by decide +kernel
theorem d_Hou_asks_5 : decode m_Hou_asks.2.1 5 = .ok (.bipush 12, 2) := by decide +kernel
theorem d_Hou_asks_7 : decode m_Hou_asks.2.1 7 = .ok (.if_icmp .ge 21, 3) := by decide +kernel
theorem d_Hou_asks_10 : decode m_Hou_asks.2.1 10 = .ok (.iload_n 2, 1) := by decide +kernel
theorem d_Hou_asks_11 : decode m_Hou_asks.2.1 11 = .ok (.ifCond .lt 17, 3) := by decide +kernel
theorem d_Hou_asks_14 : decode m_Hou_asks.2.1 14 = .ok (.iload_n 2, 1) := by decide +kernel
theorem d_Hou_asks_15 : decode m_Hou_asks.2.1 15 = .ok (.aload_n 0, 1) := by decide +kernel
theorem d_Hou_asks_16 : decode m_Hou_asks.2.1 16 = .ok (.getfield 12, 3) := by decide +kernel
theorem d_Hou_asks_19 : decode m_Hou_asks.2.1 19 = .ok (.getfield 134, 3) := by decide +kernel
theorem d_Hou_asks_22 : decode m_Hou_asks.2.1 22 = .ok (.getfield 138, 3) := by decide +kernel
theorem d_Hou_asks_25 : decode m_Hou_asks.2.1 25 = .ok (.if_icmp .le 5, 3) := by decide +kernel
theorem d_Hou_asks_28 : decode m_Hou_asks.2.1 28 = .ok (.iconst (-1), 1) := by decide +kernel
theorem d_Hou_asks_29 : decode m_Hou_asks.2.1 29 = .ok (.ireturn, 1) := by decide +kernel
theorem d_Hou_asks_30 : decode m_Hou_asks.2.1 30 = .ok (.aload_n 0, 1) := by decide +kernel
theorem d_Hou_asks_31 : decode m_Hou_asks.2.1 31 = .ok (.getfield 12, 3) := by decide +kernel
theorem d_Hou_asks_34 : decode m_Hou_asks.2.1 34 = .ok (.aload_n 0, 1) := by decide +kernel
theorem d_Hou_asks_35 : decode m_Hou_asks.2.1 35 = .ok (.getfield 12, 3) := by decide +kernel
theorem d_Hou_asks_38 : decode m_Hou_asks.2.1 38 = .ok (.getfield 181, 3) := by decide +kernel
theorem d_Hou_asks_41 : decode m_Hou_asks.2.1 41 = .ok (.invokevirtual 184, 3) := by decide +kernel
theorem d_Hou_asks_44 : decode m_Hou_asks.2.1 44 = .ok (.astore 4, 2) := by decide +kernel
theorem d_Hou_asks_46 : decode m_Hou_asks.2.1 46 = .ok (.iload_n 3, 1) := by decide +kernel
theorem d_Hou_asks_47 : decode m_Hou_asks.2.1 47 = .ok (.iconst 3, 1) := by decide +kernel
theorem d_Hou_asks_48 : decode m_Hou_asks.2.1 48 = .ok (.if_icmp .ne 27, 3) := by decide +kernel
theorem d_Hou_asks_51 : decode m_Hou_asks.2.1 51 = .ok (.aload_n 0, 1) := by decide +kernel
theorem d_Hou_asks_52 : decode m_Hou_asks.2.1 52 = .ok (.getfield 46, 3) := by decide +kernel
theorem d_Hou_asks_55 : decode m_Hou_asks.2.1 55 = .ok (.aload_n 0, 1) := by decide +kernel
theorem d_Hou_asks_56 : decode m_Hou_asks.2.1 56 = .ok (.getfield 12, 3) := by decide +kernel
theorem d_Hou_asks_59 : decode m_Hou_asks.2.1 59 = .ok (.aload 4, 2) := by decide +kernel
theorem d_Hou_asks_61 : decode m_Hou_asks.2.1 61 = .ok (.iload_n 1, 1) := by decide +kernel
theorem d_Hou_asks_62 : decode m_Hou_asks.2.1 62 = .ok (.iload_n 2, 1) := by decide +kernel
theorem d_Hou_asks_63 : decode m_Hou_asks.2.1 63 = .ok (.invokevirtual 188, 3) := by decide +kernel
theorem d_Hou_asks_66 : decode m_Hou_asks.2.1 66 = .ok (.ifCond .eq 7, 3) := by decide +kernel
theorem d_Hou_asks_69 : decode m_Hou_asks.2.1 69 = .ok (.iconst 1, 1) := by decide +kernel
theorem d_Hou_asks_70 : decode m_Hou_asks.2.1 70 = .ok (.goto 4, 3) := by decide +kernel
theorem d_Hou_asks_73 : decode m_Hou_asks.2.1 73 = .ok (.iconst 0, 1) := by decide +kernel
theorem d_Hou_asks_74 : decode m_Hou_asks.2.1 74 = .ok (.ireturn, 1) := by decide +kernel
theorem d_Hou_asks_75 : decode m_Hou_asks.2.1 75 = .ok (.iload_n 3, 1) := by decide +kernel
theorem d_Hou_asks_76 : decode m_Hou_asks.2.1 76 = .ok (.ifCond .lt 8, 3) := by decide +kernel
theorem d_Hou_asks_79 : decode m_Hou_asks.2.1 79 = .ok (.iload_n 3, 1) := by decide +kernel
theorem d_Hou_asks_80 : decode m_Hou_asks.2.1 80 = .ok (.iconst 2, 1) := by decide +kernel
theorem d_Hou_asks_81 : decode m_Hou_asks.2.1 81 = .ok (.if_icmp .le 7, 3) := by decide +kernel
theorem d_Hou_asks_84 : decode m_Hou_asks.2.1 84 = .ok (.iconst (-1), 1) := by decide +kernel
theorem d_Hou_asks_85 : decode m_Hou_asks.2.1 85 = .ok (.goto 19, 3) := by decide +kernel
theorem d_Hou_asks_88 : decode m_Hou_asks.2.1 88 = .ok (.aload_n 0, 1) := by decide +kernel
theorem d_Hou_asks_89 : decode m_Hou_asks.2.1 89 = .ok (.getfield 46, 3) := by decide +kernel
theorem d_Hou_asks_92 : decode m_Hou_asks.2.1 92 = .ok (.aload_n 0, 1) := by decide +kernel
theorem d_Hou_asks_93 : decode m_Hou_asks.2.1 93 = .ok (.getfield 12, 3) := by decide +kernel
theorem d_Hou_asks_96 : decode m_Hou_asks.2.1 96 = .ok (.aload 4, 2) := by decide +kernel
theorem d_Hou_asks_98 : decode m_Hou_asks.2.1 98 = .ok (.iload_n 3, 1) := by decide +kernel
theorem d_Hou_asks_99 : decode m_Hou_asks.2.1 99 = .ok (.iload_n 1, 1) := by decide +kernel
theorem d_Hou_asks_100 : decode m_Hou_asks.2.1 100 = .ok (.iload_n 2, 1) := by decide +kernel
theorem d_Hou_asks_101 : decode m_Hou_asks.2.1 101 = .ok (.invokevirtual 192, 3) := by decide +kernel
theorem d_Hou_asks_104 : decode m_Hou_asks.2.1 104 = .ok (.ireturn, 1) := by decide +kernel
theorem d_Hou_put_0 : decode m_Hou_put.2.1 0 = .ok (.aload_n 0, 1) := by decide +kernel
theorem d_Hou_put_1 : decode m_Hou_put.2.1 1 = .ok (.aload_n 0, 1) := by decide +kernel
theorem d_Hou_put_2 : decode m_Hou_put.2.1 2 = .ok (.getfield 55, 3) := by decide +kernel
theorem d_Hou_put_5 : decode m_Hou_put.2.1 5 = .ok (.iload_n 1, 1) := by decide +kernel
theorem d_Hou_put_6 : decode m_Hou_put.2.1 6 = .ok (.iload_n 2, 1) := by decide +kernel
theorem d_Hou_put_7 : decode m_Hou_put.2.1 7 = .ok (.invokevirtual 196, 3) := by decide +kernel
theorem d_Hou_put_10 : decode m_Hou_put.2.1 10 = .ok (.invokevirtual 200, 3) := by decide +kernel
theorem d_Hou_put_13 : decode m_Hou_put.2.1 13 = .ok (.ireturn, 1) := by decide +kernel
theorem d_Hou_answer_0 : decode m_Hou_answer.2.1 0 = .ok (.iload_n 1, 1) := by decide +kernel
theorem d_Hou_answer_1 : decode m_Hou_answer.2.1 1 = .ok (.ifCond .ge 11, 3) := by decide +kernel
theorem d_Hou_answer_4 : decode m_Hou_answer.2.1 4 = .ok (.aload_n 0, 1) := by decide +kernel
theorem d_Hou_answer_5 : decode m_Hou_answer.2.1 5 = .ok (.iload_n 1, 1) := by decide +kernel
theorem d_Hou_answer_6 : decode m_Hou_answer.2.1 6 = .ok (.invokevirtual 111, 3) := by decide +kernel
theorem d_Hou_answer_9 : decode m_Hou_answer.2.1 9 = .ok (.goto 8, 3) := by decide +kernel
theorem d_Hou_answer_12 : decode m_Hou_answer.2.1 12 = .ok (.aload_n 0, 1) := by decide +kernel
theorem d_Hou_answer_13 : decode m_Hou_answer.2.1 13 = .ok (.iload_n 1, 1) := by decide +kernel
theorem d_Hou_answer_14 : decode m_Hou_answer.2.1 14 = .ok (.invokevirtual 121, 3) := by decide +kernel
theorem d_Hou_answer_17 : decode m_Hou_answer.2.1 17 = .ok (.ireturn, 1) := by decide +kernel
theorem d_Hou_cut_0 : decode m_Hou_cut.2.1 0 = .ok (.aload_n 0, 1) := by decide +kernel
theorem d_Hou_cut_1 : decode m_Hou_cut.2.1 1 = .ok (.aload_n 0, 1) := by decide +kernel
theorem d_Hou_cut_2 : decode m_Hou_cut.2.1 2 = .ok (.getfield 55, 3) := by decide +kernel
theorem d_Hou_cut_5 : decode m_Hou_cut.2.1 5 = .ok (.iload_n 1, 1) := by decide +kernel
theorem d_Hou_cut_6 : decode m_Hou_cut.2.1 6 = .ok (.invokevirtual 203, 3) := by decide +kernel
theorem d_Hou_cut_9 : decode m_Hou_cut.2.1 9 = .ok (.invokevirtual 200, 3) := by decide +kernel
theorem d_Hou_cut_12 : decode m_Hou_cut.2.1 12 = .ok (.ireturn, 1) := by decide +kernel
theorem d_Hou_turn_0 : decode m_Hou_turn.2.1 0 = .ok (.aload_n 0, 1) := by decide +kernel
theorem d_Hou_turn_1 : decode m_Hou_turn.2.1 1 = .ok (.aload_n 0, 1) := by decide +kernel
theorem d_Hou_turn_2 : decode m_Hou_turn.2.1 2 = .ok (.getfield 55, 3) := by decide +kernel
theorem d_Hou_turn_5 : decode m_Hou_turn.2.1 5 = .ok (.iload_n 1, 1) := by decide +kernel
theorem d_Hou_turn_6 : decode m_Hou_turn.2.1 6 = .ok (.iload_n 2, 1) := by decide +kernel
theorem d_Hou_turn_7 : decode m_Hou_turn.2.1 7 = .ok (.invokevirtual 206, 3) := by decide +kernel
theorem d_Hou_turn_10 : decode m_Hou_turn.2.1 10 = .ok (.invokevirtual 200, 3) := by decide +kernel
theorem d_Hou_turn_13 : decode m_Hou_turn.2.1 13 = .ok (.ireturn, 1) := by decide +kernel
theorem d_Hou_pass_0 : decode m_Hou_pass.2.1 0 = .ok (.aload_n 0, 1) := by decide +kernel
theorem d_Hou_pass_1 : decode m_Hou_pass.2.1 1 = .ok (.aload_n 0, 1) := by decide +kernel
theorem d_Hou_pass_2 : decode m_Hou_pass.2.1 2 = .ok (.getfield 55, 3) := by decide +kernel
theorem d_Hou_pass_5 : decode m_Hou_pass.2.1 5 = .ok (.invokevirtual 209, 3) := by decide +kernel
theorem d_Hou_pass_8 : decode m_Hou_pass.2.1 8 = .ok (.invokevirtual 200, 3) := by decide +kernel
theorem d_Hou_pass_11 : decode m_Hou_pass.2.1 11 = .ok (.ireturn, 1) := by decide +kernel
theorem d_Hou_undo_0 : decode m_Hou_undo.2.1 0 = .ok (.aload_n 0, 1) := by decide +kernel
theorem d_Hou_undo_1 : decode m_Hou_undo.2.1 1 = .ok (.aload_n 0, 1) := by decide +kernel
theorem d_Hou_undo_2 : decode m_Hou_undo.2.1 2 = .ok (.getfield 55, 3) := by decide +kernel
theorem d_Hou_undo_5 : decode m_Hou_undo.2.1 5 = .ok (.invokevirtual 213, 3) := by decide +kernel
theorem d_Hou_undo_8 : decode m_Hou_undo.2.1 8 = .ok (.invokevirtual 200, 3) := by decide +kernel
theorem d_Hou_undo_11 : decode m_Hou_undo.2.1 11 = .ok (.ireturn, 1) := by decide +kernel
theorem d_Hou_at_0 : decode m_Hou_at.2.1 0 = .ok (.aload_n 0, 1) := by decide +kernel
theorem d_Hou_at_1 : decode m_Hou_at.2.1 1 = .ok (.getfield 12, 3) := by decide +kernel
theorem d_Hou_at_4 : decode m_Hou_at.2.1 4 = .ok (.getfield 134, 3) := by decide +kernel
theorem d_Hou_at_7 : decode m_Hou_at.2.1 7 = .ok (.iload_n 1, 1) := by decide +kernel
theorem d_Hou_at_8 : decode m_Hou_at.2.1 8 = .ok (.invokevirtual 216, 3) := by decide +kernel
theorem d_Hou_at_11 : decode m_Hou_at.2.1 11 = .ok (.ifCond .ne 5, 3) := by decide +kernel
theorem d_Hou_at_14 : decode m_Hou_at.2.1 14 = .ok (.iconst (-1), 1) := by decide +kernel
theorem d_Hou_at_15 : decode m_Hou_at.2.1 15 = .ok (.ireturn, 1) := by decide +kernel
theorem d_Hou_at_16 : decode m_Hou_at.2.1 16 = .ok (.iload_n 2, 1) := by decide +kernel
theorem d_Hou_at_17 : decode m_Hou_at.2.1 17 = .ok (.tableswitch 88 0 3 #[31, 44, 56, 68], 31) := by decide +kernel
theorem d_Hou_at_48 : decode m_Hou_at.2.1 48 = .ok (.aload_n 0, 1) := by decide +kernel
theorem d_Hou_at_49 : decode m_Hou_at.2.1 49 = .ok (.getfield 12, 3) := by decide +kernel
theorem d_Hou_at_52 : decode m_Hou_at.2.1 52 = .ok (.getfield 134, 3) := by decide +kernel
theorem d_Hou_at_55 : decode m_Hou_at.2.1 55 = .ok (.getfield 219, 3) := by decide +kernel
theorem d_Hou_at_58 : decode m_Hou_at.2.1 58 = .ok (.iload_n 1, 1) := by decide +kernel
theorem d_Hou_at_59 : decode m_Hou_at.2.1 59 = .ok (.iaload, 1) := by decide +kernel
theorem d_Hou_at_60 : decode m_Hou_at.2.1 60 = .ok (.ireturn, 1) := by decide +kernel
theorem d_Hou_at_61 : decode m_Hou_at.2.1 61 = .ok (.aload_n 0, 1) := by decide +kernel
theorem d_Hou_at_62 : decode m_Hou_at.2.1 62 = .ok (.getfield 12, 3) := by decide +kernel
theorem d_Hou_at_65 : decode m_Hou_at.2.1 65 = .ok (.getfield 134, 3) := by decide +kernel
theorem d_Hou_at_68 : decode m_Hou_at.2.1 68 = .ok (.iload_n 1, 1) := by decide +kernel
theorem d_Hou_at_69 : decode m_Hou_at.2.1 69 = .ok (.invokevirtual 222, 3) := by decide +kernel
theorem d_Hou_at_72 : decode m_Hou_at.2.1 72 = .ok (.ireturn, 1) := by decide +kernel
theorem d_Hou_at_73 : decode m_Hou_at.2.1 73 = .ok (.aload_n 0, 1) := by decide +kernel
theorem d_Hou_at_74 : decode m_Hou_at.2.1 74 = .ok (.getfield 12, 3) := by decide +kernel
theorem d_Hou_at_77 : decode m_Hou_at.2.1 77 = .ok (.getfield 134, 3) := by decide +kernel
theorem d_Hou_at_80 : decode m_Hou_at.2.1 80 = .ok (.iload_n 1, 1) := by decide +kernel
theorem d_Hou_at_81 : decode m_Hou_at.2.1 81 = .ok (.invokevirtual 225, 3) := by decide +kernel
theorem d_Hou_at_84 : decode m_Hou_at.2.1 84 = .ok (.ireturn, 1) := by decide +kernel
theorem d_Hou_at_85 : decode m_Hou_at.2.1 85 = .ok (.aload_n 0, 1) := by decide +kernel
theorem d_Hou_at_86 : decode m_Hou_at.2.1 86 = .ok (.getfield 12, 3) := by decide +kernel
theorem d_Hou_at_89 : decode m_Hou_at.2.1 89 = .ok (.getfield 134, 3) := by decide +kernel
theorem d_Hou_at_92 : decode m_Hou_at.2.1 92 = .ok (.iload_n 1, 1) := by decide +kernel
theorem d_Hou_at_93 : decode m_Hou_at.2.1 93 = .ok (.invokevirtual 228, 3) := by decide +kernel
theorem d_Hou_at_96 : decode m_Hou_at.2.1 96 = .ok (.ifCond .eq 7, 3) := by decide +kernel
theorem d_Hou_at_99 : decode m_Hou_at.2.1 99 = .ok (.iconst 1, 1) := by decide +kernel
theorem d_Hou_at_100 : decode m_Hou_at.2.1 100 = .ok (.goto 4, 3) := by decide +kernel
theorem d_Hou_at_103 : decode m_Hou_at.2.1 103 = .ok (.iconst 0, 1) := by decide +kernel
theorem d_Hou_at_104 : decode m_Hou_at.2.1 104 = .ok (.ireturn, 1) := by decide +kernel
theorem d_Hou_at_105 : decode m_Hou_at.2.1 105 = .ok (.iconst (-1), 1) := by decide +kernel
theorem d_Hou_at_106 : decode m_Hou_at.2.1 106 = .ok (.ireturn, 1) := by decide +kernel
theorem d_Hou_said_0 : decode m_Hou_said.2.1 0 = .ok (.iconst 0, 1) := by decide +kernel
theorem d_Hou_said_1 : decode m_Hou_said.2.1 1 = .ok (.istore_n 1, 1) := by decide +kernel
theorem d_Hou_said_2 : decode m_Hou_said.2.1 2 = .ok (.iconst 0, 1) := by decide +kernel
theorem d_Hou_said_3 : decode m_Hou_said.2.1 3 = .ok (.istore_n 2, 1) := by decide +kernel
theorem d_Hou_said_4 : decode m_Hou_said.2.1 4 = .ok (.iload_n 2, 1) := by decide +kernel
theorem d_Hou_said_5 : decode m_Hou_said.2.1 5 = .ok (.aload_n 0, 1) := by decide +kernel
theorem d_Hou_said_6 : decode m_Hou_said.2.1 6 = .ok (.getfield 12, 3) := by decide +kernel
theorem d_Hou_said_9 : decode m_Hou_said.2.1 9 = .ok (.getfield 134, 3) := by decide +kernel
theorem d_Hou_said_12 : decode m_Hou_said.2.1 12 = .ok (.getfield 138, 3) := by decide +kernel
theorem d_Hou_said_15 : decode m_Hou_said.2.1 15 = .ok (.if_icmp .ge 61, 3) := by decide +kernel
theorem d_Hou_said_18 : decode m_Hou_said.2.1 18 = .ok (.aload_n 0, 1) := by decide +kernel
theorem d_Hou_said_19 : decode m_Hou_said.2.1 19 = .ok (.getfield 12, 3) := by decide +kernel
theorem d_Hou_said_22 : decode m_Hou_said.2.1 22 = .ok (.getfield 134, 3) := by decide +kernel
theorem d_Hou_said_25 : decode m_Hou_said.2.1 25 = .ok (.getfield 219, 3) := by decide +kernel
theorem d_Hou_said_28 : decode m_Hou_said.2.1 28 = .ok (.iload_n 2, 1) := by decide +kernel
theorem d_Hou_said_29 : decode m_Hou_said.2.1 29 = .ok (.iaload, 1) := by decide +kernel
theorem d_Hou_said_30 : decode m_Hou_said.2.1 30 = .ok (.invokestatic 231, 3) := by decide +kernel
theorem d_Hou_said_33 : decode m_Hou_said.2.1 33 = .ok (.ifCond .eq 37, 3) := by decide +kernel
theorem d_Hou_said_36 : decode m_Hou_said.2.1 36 = .ok (.aload_n 0, 1) := by decide +kernel
theorem d_Hou_said_37 : decode m_Hou_said.2.1 37 = .ok (.getfield 12, 3) := by decide +kernel
theorem d_Hou_said_40 : decode m_Hou_said.2.1 40 = .ok (.getfield 134, 3) := by decide +kernel
theorem d_Hou_said_43 : decode m_Hou_said.2.1 43 = .ok (.iload_n 2, 1) := by decide +kernel
theorem d_Hou_said_44 : decode m_Hou_said.2.1 44 = .ok (.invokevirtual 225, 3) := by decide +kernel
theorem d_Hou_said_47 : decode m_Hou_said.2.1 47 = .ok (.ifCond .ne 23, 3) := by decide +kernel
theorem d_Hou_said_50 : decode m_Hou_said.2.1 50 = .ok (.iload_n 1, 1) := by decide +kernel
theorem d_Hou_said_51 : decode m_Hou_said.2.1 51 = .ok (.iconst 1, 1) := by decide +kernel
theorem d_Hou_said_52 : decode m_Hou_said.2.1 52 = .ok (.aload_n 0, 1) := by decide +kernel
theorem d_Hou_said_53 : decode m_Hou_said.2.1 53 = .ok (.getfield 12, 3) := by decide +kernel
theorem d_Hou_said_56 : decode m_Hou_said.2.1 56 = .ok (.getfield 134, 3) := by decide +kernel
theorem d_Hou_said_59 : decode m_Hou_said.2.1 59 = .ok (.getfield 219, 3) := by decide +kernel
theorem d_Hou_said_62 : decode m_Hou_said.2.1 62 = .ok (.iload_n 2, 1) := by decide +kernel
theorem d_Hou_said_63 : decode m_Hou_said.2.1 63 = .ok (.iaload, 1) := by decide +kernel
theorem d_Hou_said_64 : decode m_Hou_said.2.1 64 = .ok (.invokestatic 234, 3) := by decide +kernel
theorem d_Hou_said_67 : decode m_Hou_said.2.1 67 = .ok (.ishl, 1) := by decide +kernel
theorem d_Hou_said_68 : decode m_Hou_said.2.1 68 = .ok (.ior, 1) := by decide +kernel
theorem d_Hou_said_69 : decode m_Hou_said.2.1 69 = .ok (.istore_n 1, 1) := by decide +kernel
theorem d_Hou_said_70 : decode m_Hou_said.2.1 70 = .ok (.iinc 2 1, 3) := by decide +kernel
theorem d_Hou_said_73 : decode m_Hou_said.2.1 73 = .ok (.goto (-69), 3) := by decide +kernel
theorem d_Hou_said_76 : decode m_Hou_said.2.1 76 = .ok (.iload_n 1, 1) := by decide +kernel
theorem d_Hou_said_77 : decode m_Hou_said.2.1 77 = .ok (.ireturn, 1) := by decide +kernel
theorem d_Hou_whole_0 : decode m_Hou_whole.2.1 0 = .ok (.aload_n 0, 1) := by decide +kernel
theorem d_Hou_whole_1 : decode m_Hou_whole.2.1 1 = .ok (.getfield 12, 3) := by decide +kernel
theorem d_Hou_whole_4 : decode m_Hou_whole.2.1 4 = .ok (.getfield 134, 3) := by decide +kernel
theorem d_Hou_whole_7 : decode m_Hou_whole.2.1 7 = .ok (.iload_n 1, 1) := by decide +kernel
theorem d_Hou_whole_8 : decode m_Hou_whole.2.1 8 = .ok (.invokevirtual 216, 3) := by decide +kernel
theorem d_Hou_whole_11 : decode m_Hou_whole.2.1 11 = .ok (.ifCond .eq 22, 3) := by decide +kernel
theorem d_Hou_whole_14 : decode m_Hou_whole.2.1 14 = .ok (.aload_n 0, 1) := by decide +kernel
theorem d_Hou_whole_15 : decode m_Hou_whole.2.1 15 = .ok (.getfield 12, 3) := by decide +kernel
theorem d_Hou_whole_18 : decode m_Hou_whole.2.1 18 = .ok (.getfield 134, 3) := by decide +kernel
theorem d_Hou_whole_21 : decode m_Hou_whole.2.1 21 = .ok (.iload_n 2, 1) := by decide +kernel
theorem d_Hou_whole_22 : decode m_Hou_whole.2.1 22 = .ok (.invokevirtual 216, 3) := by decide +kernel
theorem d_Hou_whole_25 : decode m_Hou_whole.2.1 25 = .ok (.ifCond .eq 8, 3) := by decide +kernel
theorem d_Hou_whole_28 : decode m_Hou_whole.2.1 28 = .ok (.iload_n 2, 1) := by decide +kernel
theorem d_Hou_whole_29 : decode m_Hou_whole.2.1 29 = .ok (.iload_n 1, 1) := by decide +kernel
theorem d_Hou_whole_30 : decode m_Hou_whole.2.1 30 = .ok (.if_icmp .ge 5, 3) := by decide +kernel
theorem d_Hou_whole_33 : decode m_Hou_whole.2.1 33 = .ok (.iconst (-1), 1) := by decide +kernel
theorem d_Hou_whole_34 : decode m_Hou_whole.2.1 34 = .ok (.ireturn, 1) := by decide +kernel
theorem d_Hou_whole_35 : decode m_Hou_whole.2.1 35 = .ok (.aload_n 0, 1) := by decide +kernel
theorem d_Hou_whole_36 : decode m_Hou_whole.2.1 36 = .ok (.getfield 12, 3) := by decide +kernel
theorem d_Hou_whole_39 : decode m_Hou_whole.2.1 39 = .ok (.getfield 134, 3) := by decide +kernel
theorem d_Hou_whole_42 : decode m_Hou_whole.2.1 42 = .ok (.iload_n 1, 1) := by decide +kernel
theorem d_Hou_whole_43 : decode m_Hou_whole.2.1 43 = .ok (.iload_n 2, 1) := by decide +kernel
theorem d_Hou_whole_44 : decode m_Hou_whole.2.1 44 = .ok (.invokevirtual 237, 3) := by decide +kernel
theorem d_Hou_whole_47 : decode m_Hou_whole.2.1 47 = .ok (.ifCond .eq 7, 3) := by decide +kernel
theorem d_Hou_whole_50 : decode m_Hou_whole.2.1 50 = .ok (.iconst 1, 1) := by decide +kernel
theorem d_Hou_whole_51 : decode m_Hou_whole.2.1 51 = .ok (.goto 4, 3) := by decide +kernel
theorem d_Hou_whole_54 : decode m_Hou_whole.2.1 54 = .ok (.iconst 0, 1) := by decide +kernel
theorem d_Hou_whole_55 : decode m_Hou_whole.2.1 55 = .ok (.ireturn, 1) := by decide +kernel
theorem d_Hou_mend_0 : decode m_Hou_mend.2.1 0 = .ok (.iload_n 1, 1) := by decide +kernel
theorem d_Hou_mend_1 : decode m_Hou_mend.2.1 1 = .ok (.ifCond .lt 36, 3) := by decide +kernel
theorem d_Hou_mend_4 : decode m_Hou_mend.2.1 4 = .ok (.iload_n 1, 1) := by decide +kernel
theorem d_Hou_mend_5 : decode m_Hou_mend.2.1 5 = .ok (.iconst 1, 1) := by decide +kernel
theorem d_Hou_mend_6 : decode m_Hou_mend.2.1 6 = .ok (.if_icmp .gt 31, 3) := by decide +kernel
theorem d_Hou_mend_9 : decode m_Hou_mend.2.1 9 = .ok (.aload_n 0, 1) := by decide +kernel
theorem d_Hou_mend_10 : decode m_Hou_mend.2.1 10 = .ok (.getfield 76, 3) := by decide +kernel
theorem d_Hou_mend_13 : decode m_Hou_mend.2.1 13 = .ok (.aload_n 0, 1) := by decide +kernel
theorem d_Hou_mend_14 : decode m_Hou_mend.2.1 14 = .ok (.getfield 12, 3) := by decide +kernel
theorem d_Hou_mend_17 : decode m_Hou_mend.2.1 17 = .ok (.aload_n 0, 1) := by decide +kernel
theorem d_Hou_mend_18 : decode m_Hou_mend.2.1 18 = .ok (.getfield 12, 3) := by decide +kernel
theorem d_Hou_mend_21 : decode m_Hou_mend.2.1 21 = .ok (.aload_n 0, 1) := by decide +kernel
theorem d_Hou_mend_22 : decode m_Hou_mend.2.1 22 = .ok (.getfield 12, 3) := by decide +kernel
theorem d_Hou_mend_25 : decode m_Hou_mend.2.1 25 = .ok (.getfield 181, 3) := by decide +kernel
theorem d_Hou_mend_28 : decode m_Hou_mend.2.1 28 = .ok (.invokevirtual 184, 3) := by decide +kernel
theorem d_Hou_mend_31 : decode m_Hou_mend.2.1 31 = .ok (.invokevirtual 241, 3) := by decide +kernel
theorem d_Hou_mend_34 : decode m_Hou_mend.2.1 34 = .ok (.ifCond .ne 5, 3) := by decide +kernel
theorem d_Hou_mend_37 : decode m_Hou_mend.2.1 37 = .ok (.iconst (-1), 1) := by decide +kernel
theorem d_Hou_mend_38 : decode m_Hou_mend.2.1 38 = .ok (.ireturn, 1) := by decide +kernel
theorem d_Hou_mend_39 : decode m_Hou_mend.2.1 39 = .ok (.iload_n 1, 1) := by decide +kernel
theorem d_Hou_mend_40 : decode m_Hou_mend.2.1 40 = .ok (.ifCond .ne 13, 3) := by decide +kernel
theorem d_Hou_mend_43 : decode m_Hou_mend.2.1 43 = .ok (.aload_n 0, 1) := by decide +kernel
theorem d_Hou_mend_44 : decode m_Hou_mend.2.1 44 = .ok (.getfield 76, 3) := by decide +kernel
theorem d_Hou_mend_47 : decode m_Hou_mend.2.1 47 = .ok (.getfield 245, 3) := by decide +kernel
theorem d_Hou_mend_50 : decode m_Hou_mend.2.1 50 = .ok (.goto 10, 3) := by decide +kernel
theorem d_Hou_mend_53 : decode m_Hou_mend.2.1 53 = .ok (.aload_n 0, 1) := by decide +kernel
theorem d_Hou_mend_54 : decode m_Hou_mend.2.1 54 = .ok (.getfield 76, 3) := by decide +kernel
theorem d_Hou_mend_57 : decode m_Hou_mend.2.1 57 = .ok (.getfield 248, 3) := by decide +kernel
theorem d_Hou_mend_60 : decode m_Hou_mend.2.1 60 = .ok (.ireturn, 1) := by decide +kernel
theorem d_Hou_strike_0 : decode m_Hou_strike.2.1 0 = .ok (.iload_n 1, 1) := by decide +kernel
theorem d_Hou_strike_1 : decode m_Hou_strike.2.1 1 = .ok (.ifCond .lt 17, 3) := by decide +kernel
theorem d_Hou_strike_4 : decode m_Hou_strike.2.1 4 = .ok (.iload_n 1, 1) := by decide +kernel
theorem d_Hou_strike_5 : decode m_Hou_strike.2.1 5 = .ok (.aload_n 0, 1) := by decide +kernel
theorem d_Hou_strike_6 : decode m_Hou_strike.2.1 6 = .ok (.getfield 12, 3) := by decide +kernel
theorem d_Hou_strike_9 : decode m_Hou_strike.2.1 9 = .ok (.getfield 134, 3) := by decide +kernel
theorem d_Hou_strike_12 : decode m_Hou_strike.2.1 12 = .ok (.getfield 138, 3) := by decide +kernel
theorem d_Hou_strike_15 : decode m_Hou_strike.2.1 15 = .ok (.if_icmp .le 5, 3) := by decide +kernel
theorem d_Hou_strike_18 : decode m_Hou_strike.2.1 18 = .ok (.iconst (-1), 1) := by decide +kernel
theorem d_Hou_strike_19 : decode m_Hou_strike.2.1 19 = .ok (.ireturn, 1) := by decide +kernel
theorem d_Hou_strike_20 : decode m_Hou_strike.2.1 20 = .ok (.aload_n 0, 1) := by decide +kernel
theorem d_Hou_strike_21 : decode m_Hou_strike.2.1 21 = .ok (.getfield 76, 3) := by decide +kernel
theorem d_Hou_strike_24 : decode m_Hou_strike.2.1 24 = .ok (.aload_n 0, 1) := by decide +kernel
theorem d_Hou_strike_25 : decode m_Hou_strike.2.1 25 = .ok (.getfield 12, 3) := by decide +kernel
theorem d_Hou_strike_28 : decode m_Hou_strike.2.1 28 = .ok (.invokevirtual 251, 3) := by decide +kernel
theorem d_Hou_strike_31 : decode m_Hou_strike.2.1 31 = .ok (.istore_n 2, 1) := by decide +kernel
theorem d_Hou_strike_32 : decode m_Hou_strike.2.1 32 = .ok (.iload_n 1, 1) := by decide +kernel
theorem d_Hou_strike_33 : decode m_Hou_strike.2.1 33 = .ok (.ifCond .ne 5, 3) := by decide +kernel
theorem d_Hou_strike_36 : decode m_Hou_strike.2.1 36 = .ok (.iload_n 2, 1) := by decide +kernel
theorem d_Hou_strike_37 : decode m_Hou_strike.2.1 37 = .ok (.ireturn, 1) := by decide +kernel
theorem d_Hou_strike_38 : decode m_Hou_strike.2.1 38 = .ok (.aload_n 0, 1) := by decide +kernel
theorem d_Hou_strike_39 : decode m_Hou_strike.2.1 39 = .ok (.getfield 76, 3) := by decide +kernel
theorem d_Hou_strike_42 : decode m_Hou_strike.2.1 42 = .ok (.aload_n 0, 1) := by decide +kernel
theorem d_Hou_strike_43 : decode m_Hou_strike.2.1 43 = .ok (.getfield 12, 3) := by decide +kernel
theorem d_Hou_strike_46 : decode m_Hou_strike.2.1 46 = .ok (.getfield 134, 3) := by decide +kernel
theorem d_Hou_strike_49 : decode m_Hou_strike.2.1 49 = .ok (.invokevirtual 255, 3) := by decide +kernel
theorem d_Hou_strike_52 : decode m_Hou_strike.2.1 52 = .ok (.aload_n 0, 1) := by decide +kernel
theorem d_Hou_strike_53 : decode m_Hou_strike.2.1 53 = .ok (.getfield 76, 3) := by decide +kernel
theorem d_Hou_strike_56 : decode m_Hou_strike.2.1 56 = .ok (.getfield 259, 3) := by decide +kernel
theorem d_Hou_strike_59 : decode m_Hou_strike.2.1 59 = .ok (.iload_n 1, 1) := by decide +kernel
theorem d_Hou_strike_60 : decode m_Hou_strike.2.1 60 = .ok (.iconst 1, 1) := by decide +kernel
theorem d_Hou_strike_61 : decode m_Hou_strike.2.1 61 = .ok (.isub, 1) := by decide +kernel
theorem d_Hou_strike_62 : decode m_Hou_strike.2.1 62 = .ok (.baload, 1) := by decide +kernel
theorem d_Hou_strike_63 : decode m_Hou_strike.2.1 63 = .ok (.ifCond .eq 7, 3) := by decide +kernel
theorem d_Hou_strike_66 : decode m_Hou_strike.2.1 66 = .ok (.iconst 1, 1) := by decide +kernel
theorem d_Hou_strike_67 : decode m_Hou_strike.2.1 67 = .ok (.goto 4, 3) := by decide +kernel
theorem d_Hou_strike_70 : decode m_Hou_strike.2.1 70 = .ok (.iconst 0, 1) := by decide +kernel
theorem d_Hou_strike_71 : decode m_Hou_strike.2.1 71 = .ok (.ireturn, 1) := by decide +kernel
theorem d_Hou_run_0 : decode m_Hou_run.2.1 0 = .ok (.iload_n 1, 1) := by decide +kernel
theorem d_Hou_run_1 : decode m_Hou_run.2.1 1 = .ok (.ifCond .lt 8, 3) := by decide +kernel
theorem d_Hou_run_4 : decode m_Hou_run.2.1 4 = .ok (.iload_n 1, 1) := by decide +kernel
theorem d_Hou_run_5 : decode m_Hou_run.2.1 5 = .ok (.iconst 1, 1) := by decide +kernel
theorem d_Hou_run_6 : decode m_Hou_run.2.1 6 = .ok (.if_icmp .le 5, 3) := by decide +kernel
theorem d_Hou_run_9 : decode m_Hou_run.2.1 9 = .ok (.iconst (-1), 1) := by decide +kernel
theorem d_Hou_run_10 : decode m_Hou_run.2.1 10 = .ok (.ireturn, 1) := by decide +kernel
theorem d_Hou_run_11 : decode m_Hou_run.2.1 11 = .ok (.aload_n 0, 1) := by decide +kernel
theorem d_Hou_run_12 : decode m_Hou_run.2.1 12 = .ok (.getfield 76, 3) := by decide +kernel
theorem d_Hou_run_15 : decode m_Hou_run.2.1 15 = .ok (.aload_n 0, 1) := by decide +kernel
theorem d_Hou_run_16 : decode m_Hou_run.2.1 16 = .ok (.getfield 12, 3) := by decide +kernel
theorem d_Hou_run_19 : decode m_Hou_run.2.1 19 = .ok (.getfield 134, 3) := by decide +kernel
theorem d_Hou_run_22 : decode m_Hou_run.2.1 22 = .ok (.invokevirtual 262, 3) := by decide +kernel
theorem d_Hou_run_25 : decode m_Hou_run.2.1 25 = .ok (.iload_n 1, 1) := by decide +kernel
theorem d_Hou_run_26 : decode m_Hou_run.2.1 26 = .ok (.ifCond .ne 13, 3) := by decide +kernel
theorem d_Hou_run_29 : decode m_Hou_run.2.1 29 = .ok (.aload_n 0, 1) := by decide +kernel
theorem d_Hou_run_30 : decode m_Hou_run.2.1 30 = .ok (.getfield 76, 3) := by decide +kernel
theorem d_Hou_run_33 : decode m_Hou_run.2.1 33 = .ok (.getfield 265, 3) := by decide +kernel
theorem d_Hou_run_36 : decode m_Hou_run.2.1 36 = .ok (.goto 10, 3) := by decide +kernel
theorem d_Hou_run_39 : decode m_Hou_run.2.1 39 = .ok (.aload_n 0, 1) := by decide +kernel
theorem d_Hou_run_40 : decode m_Hou_run.2.1 40 = .ok (.getfield 76, 3) := by decide +kernel
theorem d_Hou_run_43 : decode m_Hou_run.2.1 43 = .ok (.getfield 268, 3) := by decide +kernel
theorem d_Hou_run_46 : decode m_Hou_run.2.1 46 = .ok (.ireturn, 1) := by decide +kernel
theorem d_Hou_fits_0 : decode m_Hou_fits.2.1 0 = .ok (.aload_n 0, 1) := by decide +kernel
theorem d_Hou_fits_1 : decode m_Hou_fits.2.1 1 = .ok (.getfield 12, 3) := by decide +kernel
theorem d_Hou_fits_4 : decode m_Hou_fits.2.1 4 = .ok (.getfield 134, 3) := by decide +kernel
theorem d_Hou_fits_7 : decode m_Hou_fits.2.1 7 = .ok (.iload_n 1, 1) := by decide +kernel
theorem d_Hou_fits_8 : decode m_Hou_fits.2.1 8 = .ok (.invokevirtual 216, 3) := by decide +kernel
theorem d_Hou_fits_11 : decode m_Hou_fits.2.1 11 = .ok (.ifCond .eq 21, 3) := by decide +kernel
theorem d_Hou_fits_14 : decode m_Hou_fits.2.1 14 = .ok (.aload_n 0, 1) := by decide +kernel
theorem d_Hou_fits_15 : decode m_Hou_fits.2.1 15 = .ok (.getfield 76, 3) := by decide +kernel
theorem d_Hou_fits_18 : decode m_Hou_fits.2.1 18 = .ok (.aload_n 0, 1) := by decide +kernel
theorem d_Hou_fits_19 : decode m_Hou_fits.2.1 19 = .ok (.getfield 12, 3) := by decide +kernel
theorem d_Hou_fits_22 : decode m_Hou_fits.2.1 22 = .ok (.getfield 134, 3) := by decide +kernel
theorem d_Hou_fits_25 : decode m_Hou_fits.2.1 25 = .ok (.iload_n 1, 1) := by decide +kernel
theorem d_Hou_fits_26 : decode m_Hou_fits.2.1 26 = .ok (.invokevirtual 271, 3) := by decide +kernel
theorem d_Hou_fits_29 : decode m_Hou_fits.2.1 29 = .ok (.goto 4, 3) := by decide +kernel
theorem d_Hou_fits_32 : decode m_Hou_fits.2.1 32 = .ok (.iconst (-1), 1) := by decide +kernel
theorem d_Hou_fits_33 : decode m_Hou_fits.2.1 33 = .ok (.ireturn, 1) := by decide +kernel
theorem d_Hou_rows_0 : decode m_Hou_rows.2.1 0 = .ok (.iload_n 1, 1) := by decide +kernel
theorem d_Hou_rows_1 : decode m_Hou_rows.2.1 1 = .ok (.ifCond .lt 19, 3) := by decide +kernel
theorem d_Hou_rows_4 : decode m_Hou_rows.2.1 4 = .ok (.iload_n 1, 1) := by decide +kernel
theorem d_Hou_rows_5 : decode m_Hou_rows.2.1 5 = .ok (.bipush 12, 2) := by decide +kernel
theorem d_Hou_rows_7 : decode m_Hou_rows.2.1 7 = .ok (.if_icmp .gt 13, 3) := by decide +kernel
theorem d_Hou_rows_10 : decode m_Hou_rows.2.1 10 = .ok (.iload_n 2, 1) := by decide +kernel
theorem d_Hou_rows_11 : decode m_Hou_rows.2.1 11 = .ok (.ifCond .lt 9, 3) := by decide +kernel
theorem d_Hou_rows_14 : decode m_Hou_rows.2.1 14 = .ok (.iload_n 2, 1) := by decide +kernel
theorem d_Hou_rows_15 : decode m_Hou_rows.2.1 15 = .ok (.bipush 12, 2) := by decide +kernel
theorem d_Hou_rows_17 : decode m_Hou_rows.2.1 17 = .ok (.if_icmp .le 7, 3) := by decide +kernel
theorem d_Hou_rows_20 : decode m_Hou_rows.2.1 20 = .ok (.ldc2_w 275, 3) := by decide +kernel
theorem d_Hou_rows_23 : decode m_Hou_rows.2.1 23 = .ok (.lreturn, 1) := by decide +kernel
theorem d_Hou_rows_24 : decode m_Hou_rows.2.1 24 = .ok (.aload_n 0, 1) := by decide +kernel
theorem d_Hou_rows_25 : decode m_Hou_rows.2.1 25 = .ok (.getfield 83, 3) := by decide +kernel
theorem d_Hou_rows_28 : decode m_Hou_rows.2.1 28 = .ok (.iload_n 1, 1) := by decide +kernel
theorem d_Hou_rows_29 : decode m_Hou_rows.2.1 29 = .ok (.iload_n 2, 1) := by decide +kernel
theorem d_Hou_rows_30 : decode m_Hou_rows.2.1 30 = .ok (.invokevirtual 277, 3) := by decide +kernel
theorem d_Hou_rows_33 : decode m_Hou_rows.2.1 33 = .ok (.lreturn, 1) := by decide +kernel
theorem d_Hou_nth_0 : decode m_Hou_nth.2.1 0 = .ok (.iload_n 1, 1) := by decide +kernel
theorem d_Hou_nth_1 : decode m_Hou_nth.2.1 1 = .ok (.iconst 1, 1) := by decide +kernel
theorem d_Hou_nth_2 : decode m_Hou_nth.2.1 2 = .ok (.if_icmp .lt 22, 3) := by decide +kernel
theorem d_Hou_nth_5 : decode m_Hou_nth.2.1 5 = .ok (.iload_n 1, 1) := by decide +kernel
theorem d_Hou_nth_6 : decode m_Hou_nth.2.1 6 = .ok (.bipush 12, 2) := by decide +kernel
theorem d_Hou_nth_8 : decode m_Hou_nth.2.1 8 = .ok (.if_icmp .gt 16, 3) := by decide +kernel
theorem d_Hou_nth_11 : decode m_Hou_nth.2.1 11 = .ok (.iload 4, 2) := by decide +kernel
theorem d_Hou_nth_13 : decode m_Hou_nth.2.1 13 = .ok (.ifCond .lt 11, 3) := by decide +kernel
theorem d_Hou_nth_16 : decode m_Hou_nth.2.1 16 = .ok (.iload 4, 2) := by decide +kernel
theorem d_Hou_nth_18 : decode m_Hou_nth.2.1 18 = .ok (.iconst 2, 1) := by decide +kernel
theorem d_Hou_nth_19 : decode m_Hou_nth.2.1 19 = .ok (.iload_n 1, 1) := by decide +kernel
theorem d_Hou_nth_20 : decode m_Hou_nth.2.1 20 = .ok (.imul, 1) := by decide +kernel
theorem d_Hou_nth_21 : decode m_Hou_nth.2.1 21 = .ok (.if_icmp .lt 5, 3) := by decide +kernel
theorem d_Hou_nth_24 : decode m_Hou_nth.2.1 24 = .ok (.iconst (-1), 1) := by decide +kernel
theorem d_Hou_nth_25 : decode m_Hou_nth.2.1 25 = .ok (.ireturn, 1) := by decide +kernel
theorem d_Hou_nth_26 : decode m_Hou_nth.2.1 26 = .ok (.aload_n 0, 1) := by decide +kernel
theorem d_Hou_nth_27 : decode m_Hou_nth.2.1 27 = .ok (.getfield 83, 3) := by decide +kernel
theorem d_Hou_nth_30 : decode m_Hou_nth.2.1 30 = .ok (.iload_n 1, 1) := by decide +kernel
theorem d_Hou_nth_31 : decode m_Hou_nth.2.1 31 = .ok (.aload_n 0, 1) := by decide +kernel
theorem d_Hou_nth_32 : decode m_Hou_nth.2.1 32 = .ok (.getfield 12, 3) := by decide +kernel
theorem d_Hou_nth_35 : decode m_Hou_nth.2.1 35 = .ok (.getfield 115, 3) := by decide +kernel
theorem d_Hou_nth_38 : decode m_Hou_nth.2.1 38 = .ok (.iconst 1, 1) := by decide +kernel
theorem d_Hou_nth_39 : decode m_Hou_nth.2.1 39 = .ok (.iaload, 1) := by decide +kernel
theorem d_Hou_nth_40 : decode m_Hou_nth.2.1 40 = .ok (.lload_n 2, 1) := by decide +kernel
theorem d_Hou_nth_41 : decode m_Hou_nth.2.1 41 = .ok (.iload 4, 2) := by decide +kernel
theorem d_Hou_nth_43 : decode m_Hou_nth.2.1 43 = .ok (.invokevirtual 281, 3) := by decide +kernel
theorem d_Hou_nth_46 : decode m_Hou_nth.2.1 46 = .ok (.ireturn, 1) := by decide +kernel
theorem d_Hou_rank_0 : decode m_Hou_rank.2.1 0 = .ok (.aload_n 0, 1) := by decide +kernel
theorem d_Hou_rank_1 : decode m_Hou_rank.2.1 1 = .ok (.getfield 83, 3) := by decide +kernel
theorem d_Hou_rank_4 : decode m_Hou_rank.2.1 4 = .ok (.aload_n 0, 1) := by decide +kernel
theorem d_Hou_rank_5 : decode m_Hou_rank.2.1 5 = .ok (.getfield 12, 3) := by decide +kernel
theorem d_Hou_rank_8 : decode m_Hou_rank.2.1 8 = .ok (.getfield 134, 3) := by decide +kernel
theorem d_Hou_rank_11 : decode m_Hou_rank.2.1 11 = .ok (.aload_n 0, 1) := by decide +kernel
theorem d_Hou_rank_12 : decode m_Hou_rank.2.1 12 = .ok (.getfield 12, 3) := by decide +kernel
theorem d_Hou_rank_15 : decode m_Hou_rank.2.1 15 = .ok (.getfield 115, 3) := by decide +kernel
theorem d_Hou_rank_18 : decode m_Hou_rank.2.1 18 = .ok (.iconst 1, 1) := by decide +kernel
theorem d_Hou_rank_19 : decode m_Hou_rank.2.1 19 = .ok (.iaload, 1) := by decide +kernel
theorem d_Hou_rank_20 : decode m_Hou_rank.2.1 20 = .ok (.invokevirtual 285, 3) := by decide +kernel
theorem d_Hou_rank_23 : decode m_Hou_rank.2.1 23 = .ok (.lreturn, 1) := by decide +kernel
theorem d_Hou_game_0 : decode m_Hou_game.2.1 0 = .ok (.iload_n 1, 1) := by decide +kernel
theorem d_Hou_game_1 : decode m_Hou_game.2.1 1 = .ok (.ifCond .lt 26, 3) := by decide +kernel
theorem d_Hou_game_4 : decode m_Hou_game.2.1 4 = .ok (.iload_n 1, 1) := by decide +kernel
theorem d_Hou_game_5 : decode m_Hou_game.2.1 5 = .ok (.iconst 1, 1) := by decide +kernel
theorem d_Hou_game_6 : decode m_Hou_game.2.1 6 = .ok (.if_icmp .gt 21, 3) := by decide +kernel
theorem d_Hou_game_9 : decode m_Hou_game.2.1 9 = .ok (.iload_n 1, 1) := by decide +kernel
theorem d_Hou_game_10 : decode m_Hou_game.2.1 10 = .ok (.iconst 1, 1) := by decide +kernel
theorem d_Hou_game_11 : decode m_Hou_game.2.1 11 = .ok (.if_icmp .ne 20, 3) := by decide +kernel
theorem d_Hou_game_14 : decode m_Hou_game.2.1 14 = .ok (.aload_n 0, 1) := by decide +kernel
theorem d_Hou_game_15 : decode m_Hou_game.2.1 15 = .ok (.getfield 12, 3) := by decide +kernel
theorem d_Hou_game_18 : decode m_Hou_game.2.1 18 = .ok (.getfield 134, 3) := by decide +kernel
theorem d_Hou_game_21 : decode m_Hou_game.2.1 21 = .ok (.getfield 138, 3) := by decide +kernel
theorem d_Hou_game_24 : decode m_Hou_game.2.1 24 = .ok (.ifCond .ne 7, 3) := by decide +kernel
theorem d_Hou_game_27 : decode m_Hou_game.2.1 27 = .ok (.ldc_w 289, 3) := by decide +kernel
theorem d_Hou_game_30 : decode m_Hou_game.2.1 30 = .ok (.ireturn, 1) := by decide +kernel
theorem d_Hou_game_31 : decode m_Hou_game.2.1 31 = .ok (.aload_n 0, 1) := by decide +kernel
theorem d_Hou_game_32 : decode m_Hou_game.2.1 32 = .ok (.getfield 76, 3) := by decide +kernel
theorem d_Hou_game_35 : decode m_Hou_game.2.1 35 = .ok (.aload_n 0, 1) := by decide +kernel
theorem d_Hou_game_36 : decode m_Hou_game.2.1 36 = .ok (.getfield 12, 3) := by decide +kernel
theorem d_Hou_game_39 : decode m_Hou_game.2.1 39 = .ok (.invokevirtual 290, 3) := by decide +kernel
theorem d_Hou_game_42 : decode m_Hou_game.2.1 42 = .ok (.iload_n 1, 1) := by decide +kernel
theorem d_Hou_game_43 : decode m_Hou_game.2.1 43 = .ok (.ifCond .ne 13, 3) := by decide +kernel
theorem d_Hou_game_46 : decode m_Hou_game.2.1 46 = .ok (.aload_n 0, 1) := by decide +kernel
theorem d_Hou_game_47 : decode m_Hou_game.2.1 47 = .ok (.getfield 76, 3) := by decide +kernel
theorem d_Hou_game_50 : decode m_Hou_game.2.1 50 = .ok (.getfield 294, 3) := by decide +kernel
theorem d_Hou_game_53 : decode m_Hou_game.2.1 53 = .ok (.goto 10, 3) := by decide +kernel
theorem d_Hou_game_56 : decode m_Hou_game.2.1 56 = .ok (.aload_n 0, 1) := by decide +kernel
theorem d_Hou_game_57 : decode m_Hou_game.2.1 57 = .ok (.getfield 76, 3) := by decide +kernel
theorem d_Hou_game_60 : decode m_Hou_game.2.1 60 = .ok (.getfield 297, 3) := by decide +kernel
theorem d_Hou_game_63 : decode m_Hou_game.2.1 63 = .ok (.ireturn, 1) := by decide +kernel
theorem d_Hou_hide_0 : decode m_Hou_hide.2.1 0 = .ok (.iload_n 1, 1) := by decide +kernel
theorem d_Hou_hide_1 : decode m_Hou_hide.2.1 1 = .ok (.ifCond .lt 18, 3) := by decide +kernel
theorem d_Hou_hide_4 : decode m_Hou_hide.2.1 4 = .ok (.iload_n 1, 1) := by decide +kernel
theorem d_Hou_hide_5 : decode m_Hou_hide.2.1 5 = .ok (.bipush 63, 2) := by decide +kernel
theorem d_Hou_hide_7 : decode m_Hou_hide.2.1 7 = .ok (.if_icmp .gt 12, 3) := by decide +kernel
theorem d_Hou_hide_10 : decode m_Hou_hide.2.1 10 = .ok (.iload_n 2, 1) := by decide +kernel
theorem d_Hou_hide_11 : decode m_Hou_hide.2.1 11 = .ok (.ifCond .lt 8, 3) := by decide +kernel
theorem d_Hou_hide_14 : decode m_Hou_hide.2.1 14 = .ok (.iload_n 2, 1) := by decide +kernel
theorem d_Hou_hide_15 : decode m_Hou_hide.2.1 15 = .ok (.iconst 3, 1) := by decide +kernel
theorem d_Hou_hide_16 : decode m_Hou_hide.2.1 16 = .ok (.if_icmp .le 5, 3) := by decide +kernel
theorem d_Hou_hide_19 : decode m_Hou_hide.2.1 19 = .ok (.iconst (-1), 1) := by decide +kernel
theorem d_Hou_hide_20 : decode m_Hou_hide.2.1 20 = .ok (.ireturn, 1) := by decide +kernel
theorem d_Hou_hide_21 : decode m_Hou_hide.2.1 21 = .ok (.aload_n 0, 1) := by decide +kernel
theorem d_Hou_hide_22 : decode m_Hou_hide.2.1 22 = .ok (.getfield 76, 3) := by decide +kernel
theorem d_Hou_hide_25 : decode m_Hou_hide.2.1 25 = .ok (.aload_n 0, 1) := by decide +kernel
theorem d_Hou_hide_26 : decode m_Hou_hide.2.1 26 = .ok (.getfield 12, 3) := by decide +kernel
theorem d_Hou_hide_29 : decode m_Hou_hide.2.1 29 = .ok (.iload_n 1, 1) := by decide +kernel
theorem d_Hou_hide_30 : decode m_Hou_hide.2.1 30 = .ok (.invokevirtual 300, 3) := by decide +kernel
theorem d_Hou_hide_33 : decode m_Hou_hide.2.1 33 = .ok (.ifCond .ne 5, 3) := by decide +kernel
theorem d_Hou_hide_36 : decode m_Hou_hide.2.1 36 = .ok (.iconst (-1), 1) := by decide +kernel
theorem d_Hou_hide_37 : decode m_Hou_hide.2.1 37 = .ok (.ireturn, 1) := by decide +kernel
theorem d_Hou_hide_38 : decode m_Hou_hide.2.1 38 = .ok (.iload_n 2, 1) := by decide +kernel
theorem d_Hou_hide_39 : decode m_Hou_hide.2.1 39 = .ok (.tableswitch 49 0 2 #[25, 33, 41], 25) := by decide +kernel
theorem d_Hou_hide_64 : decode m_Hou_hide.2.1 64 = .ok (.aload_n 0, 1) := by decide +kernel
theorem d_Hou_hide_65 : decode m_Hou_hide.2.1 65 = .ok (.getfield 76, 3) := by decide +kernel
theorem d_Hou_hide_68 : decode m_Hou_hide.2.1 68 = .ok (.getfield 304, 3) := by decide +kernel
theorem d_Hou_hide_71 : decode m_Hou_hide.2.1 71 = .ok (.ireturn, 1) := by decide +kernel
theorem d_Hou_hide_72 : decode m_Hou_hide.2.1 72 = .ok (.aload_n 0, 1) := by decide +kernel
theorem d_Hou_hide_73 : decode m_Hou_hide.2.1 73 = .ok (.getfield 76, 3) := by decide +kernel
theorem d_Hou_hide_76 : decode m_Hou_hide.2.1 76 = .ok (.getfield 307, 3) := by decide +kernel
theorem d_Hou_hide_79 : decode m_Hou_hide.2.1 79 = .ok (.ireturn, 1) := by decide +kernel
theorem d_Hou_hide_80 : decode m_Hou_hide.2.1 80 = .ok (.aload_n 0, 1) := by decide +kernel
theorem d_Hou_hide_81 : decode m_Hou_hide.2.1 81 = .ok (.getfield 76, 3) := by decide +kernel
theorem d_Hou_hide_84 : decode m_Hou_hide.2.1 84 = .ok (.getfield 310, 3) := by decide +kernel
theorem d_Hou_hide_87 : decode m_Hou_hide.2.1 87 = .ok (.ireturn, 1) := by decide +kernel
theorem d_Hou_hide_88 : decode m_Hou_hide.2.1 88 = .ok (.aload_n 0, 1) := by decide +kernel
theorem d_Hou_hide_89 : decode m_Hou_hide.2.1 89 = .ok (.getfield 76, 3) := by decide +kernel
theorem d_Hou_hide_92 : decode m_Hou_hide.2.1 92 = .ok (.getfield 313, 3) := by decide +kernel
theorem d_Hou_hide_95 : decode m_Hou_hide.2.1 95 = .ok (.ireturn, 1) := by decide +kernel
theorem d_Hou_likely_0 : decode m_Hou_likely.2.1 0 = .ok (.iload_n 1, 1) := by decide +kernel
theorem d_Hou_likely_1 : decode m_Hou_likely.2.1 1 = .ok (.ifCond .lt 9, 3) := by decide +kernel
theorem d_Hou_likely_4 : decode m_Hou_likely.2.1 4 = .ok (.iload_n 1, 1) := by decide +kernel
theorem d_Hou_likely_5 : decode m_Hou_likely.2.1 5 = .ok (.bipush 60, 2) := by decide +kernel
theorem d_Hou_likely_7 : decode m_Hou_likely.2.1 7 = .ok (.if_icmp .le 9, 3) := by decide +kernel
theorem d_Hou_likely_10 : decode m_Hou_likely.2.1 10 = .ok (.ldc2_w 275, 3) := by decide +kernel
theorem d_Hou_likely_13 : decode m_Hou_likely.2.1 13 = .ok (.goto 11, 3) := by decide +kernel
theorem d_Hou_likely_16 : decode m_Hou_likely.2.1 16 = .ok (.aload_n 0, 1) := by decide +kernel
theorem d_Hou_likely_17 : decode m_Hou_likely.2.1 17 = .ok (.getfield 83, 3) := by decide +kernel
theorem d_Hou_likely_20 : decode m_Hou_likely.2.1 20 = .ok (.iload_n 1, 1) := by decide +kernel
theorem d_Hou_likely_21 : decode m_Hou_likely.2.1 21 = .ok (.invokevirtual 316, 3) := by decide +kernel
theorem d_Hou_likely_24 : decode m_Hou_likely.2.1 24 = .ok (.lreturn, 1) := by decide +kernel
theorem d_Hou_compare_0 : decode m_Hou_compare.2.1 0 = .ok (.aload_n 0, 1) := by decide +kernel
theorem d_Hou_compare_1 : decode m_Hou_compare.2.1 1 = .ok (.getfield 12, 3) := by decide +kernel
theorem d_Hou_compare_4 : decode m_Hou_compare.2.1 4 = .ok (.iload_n 1, 1) := by decide +kernel
theorem d_Hou_compare_5 : decode m_Hou_compare.2.1 5 = .ok (.invokevirtual 177, 3) := by decide +kernel
theorem d_Hou_compare_8 : decode m_Hou_compare.2.1 8 = .ok (.ifCond .eq 25, 3) := by decide +kernel
theorem d_Hou_compare_11 : decode m_Hou_compare.2.1 11 = .ok (.aload_n 0, 1) := by decide +kernel
theorem d_Hou_compare_12 : decode m_Hou_compare.2.1 12 = .ok (.getfield 76, 3) := by decide +kernel
theorem d_Hou_compare_15 : decode m_Hou_compare.2.1 15 = .ok (.aload_n 0, 1) := by decide +kernel
theorem d_Hou_compare_16 : decode m_Hou_compare.2.1 16 = .ok (.getfield 12, 3) := by decide +kernel
theorem d_Hou_compare_19 : decode m_Hou_compare.2.1 19 = .ok (.aload_n 0, 1) := by decide +kernel
theorem d_Hou_compare_20 : decode m_Hou_compare.2.1 20 = .ok (.getfield 12, 3) := by decide +kernel
theorem d_Hou_compare_23 : decode m_Hou_compare.2.1 23 = .ok (.iload_n 1, 1) := by decide +kernel
theorem d_Hou_compare_24 : decode m_Hou_compare.2.1 24 = .ok (.invokevirtual 184, 3) := by decide +kernel
theorem d_Hou_compare_27 : decode m_Hou_compare.2.1 27 = .ok (.invokevirtual 241, 3) := by decide +kernel
theorem d_Hou_compare_30 : decode m_Hou_compare.2.1 30 = .ok (.ifCond .ne 5, 3) := by decide +kernel
theorem d_Hou_compare_33 : decode m_Hou_compare.2.1 33 = .ok (.iconst (-1), 1) := by decide +kernel
theorem d_Hou_compare_34 : decode m_Hou_compare.2.1 34 = .ok (.ireturn, 1) := by decide +kernel
theorem d_Hou_compare_35 : decode m_Hou_compare.2.1 35 = .ok (.aload_n 0, 1) := by decide +kernel
theorem d_Hou_compare_36 : decode m_Hou_compare.2.1 36 = .ok (.getfield 76, 3) := by decide +kernel
theorem d_Hou_compare_39 : decode m_Hou_compare.2.1 39 = .ok (.getfield 245, 3) := by decide +kernel
theorem d_Hou_compare_42 : decode m_Hou_compare.2.1 42 = .ok (.ireturn, 1) := by decide +kernel
theorem d_Hou_readers_0 : decode m_Hou_readers.2.1 0 = .ok (.iload_n 1, 1) := by decide +kernel
theorem d_Hou_readers_1 : decode m_Hou_readers.2.1 1 = .ok (.ifCond .lt 21, 3) := by decide +kernel
theorem d_Hou_readers_4 : decode m_Hou_readers.2.1 4 = .ok (.iload_n 1, 1) := by decide +kernel
theorem d_Hou_readers_5 : decode m_Hou_readers.2.1 5 = .ok (.ldc_w 320, 3) := by decide +kernel
theorem d_Hou_readers_8 : decode m_Hou_readers.2.1 8 = .ok (.if_icmp .gt 14, 3) := by decide +kernel
theorem d_Hou_readers_11 : decode m_Hou_readers.2.1 11 = .ok (.iload_n 2, 1) := by decide +kernel
theorem d_Hou_readers_12 : decode m_Hou_readers.2.1 12 = .ok (.iconst 1, 1) := by decide +kernel
theorem d_Hou_readers_13 : decode m_Hou_readers.2.1 13 = .ok (.if_icmp .lt 9, 3) := by decide +kernel
theorem d_Hou_readers_16 : decode m_Hou_readers.2.1 16 = .ok (.iload_n 2, 1) := by decide +kernel
theorem d_Hou_readers_17 : decode m_Hou_readers.2.1 17 = .ok (.bipush 60, 2) := by decide +kernel
theorem d_Hou_readers_19 : decode m_Hou_readers.2.1 19 = .ok (.if_icmp .le 9, 3) := by decide +kernel
theorem d_Hou_readers_22 : decode m_Hou_readers.2.1 22 = .ok (.aload_n 0, 1) := by decide +kernel
theorem d_Hou_readers_23 : decode m_Hou_readers.2.1 23 = .ok (.iconst (-1), 1) := by decide +kernel
theorem d_Hou_readers_24 : decode m_Hou_readers.2.1 24 = .ok (.invokevirtual 111, 3) := by decide +kernel
theorem d_Hou_readers_27 : decode m_Hou_readers.2.1 27 = .ok (.ireturn, 1) := by decide +kernel
theorem d_Hou_readers_28 : decode m_Hou_readers.2.1 28 = .ok (.aload_n 0, 1) := by decide +kernel
theorem d_Hou_readers_29 : decode m_Hou_readers.2.1 29 = .ok (.getfield 16, 3) := by decide +kernel
theorem d_Hou_readers_32 : decode m_Hou_readers.2.1 32 = .ok (.aload_n 0, 1) := by decide +kernel
theorem d_Hou_readers_33 : decode m_Hou_readers.2.1 33 = .ok (.getfield 12, 3) := by decide +kernel
theorem d_Hou_readers_36 : decode m_Hou_readers.2.1 36 = .ok (.invokevirtual 321, 3) := by decide +kernel
theorem d_Hou_readers_39 : decode m_Hou_readers.2.1 39 = .ok (.aload_n 0, 1) := by decide +kernel
theorem d_Hou_readers_40 : decode m_Hou_readers.2.1 40 = .ok (.iconst 1, 1) := by decide +kernel
theorem d_Hou_readers_41 : decode m_Hou_readers.2.1 41 = .ok (.putfield 91, 3) := by decide +kernel
theorem d_Hou_readers_44 : decode m_Hou_readers.2.1 44 = .ok (.iload_n 1, 1) := by decide +kernel
theorem d_Hou_readers_45 : decode m_Hou_readers.2.1 45 = .ok (.istore_n 3, 1) := by decide +kernel
theorem d_Hou_readers_46 : decode m_Hou_readers.2.1 46 = .ok (.iconst 0, 1) := by decide +kernel
theorem d_Hou_readers_47 : decode m_Hou_readers.2.1 47 = .ok (.istore 4, 2) := by decide +kernel
theorem d_Hou_readers_49 : decode m_Hou_readers.2.1 49 = .ok (.iconst 0, 1) := by decide +kernel
theorem d_Hou_readers_50 : decode m_Hou_readers.2.1 50 = .ok (.istore 5, 2) := by decide +kernel
theorem d_Hou_readers_52 : decode m_Hou_readers.2.1 52 = .ok (.iload 5, 2) := by decide +kernel
theorem d_Hou_readers_54 : decode m_Hou_readers.2.1 54 = .ok (.iload_n 2, 1) := by decide +kernel
theorem d_Hou_readers_55 : decode m_Hou_readers.2.1 55 = .ok (.if_icmp .ge 54, 3) := by decide +kernel
theorem d_Hou_readers_58 : decode m_Hou_readers.2.1 58 = .ok (.aload_n 0, 1) := by decide +kernel
theorem d_Hou_readers_59 : decode m_Hou_readers.2.1 59 = .ok (.getfield 16, 3) := by decide +kernel
theorem d_Hou_readers_62 : decode m_Hou_readers.2.1 62 = .ok (.getfield 115, 3) := by decide +kernel
theorem d_Hou_readers_65 : decode m_Hou_readers.2.1 65 = .ok (.iconst 0, 1) := by decide +kernel
theorem d_Hou_readers_66 : decode m_Hou_readers.2.1 66 = .ok (.iaload, 1) := by decide +kernel
theorem d_Hou_readers_67 : decode m_Hou_readers.2.1 67 = .ok (.sipush 999, 3) := by decide +kernel
theorem d_Hou_readers_70 : decode m_Hou_readers.2.1 70 = .ok (.if_icmp .ge 39, 3) := by decide +kernel
theorem d_Hou_readers_73 : decode m_Hou_readers.2.1 73 = .ok (.aload_n 0, 1) := by decide +kernel
theorem d_Hou_readers_74 : decode m_Hou_readers.2.1 74 = .ok (.iload_n 3, 1) := by decide +kernel
theorem d_Hou_readers_75 : decode m_Hou_readers.2.1 75 = .ok (.invokevirtual 324, 3) := by decide +kernel
theorem d_Hou_readers_78 : decode m_Hou_readers.2.1 78 = .ok (.istore_n 3, 1) := by decide +kernel
theorem d_Hou_readers_79 : decode m_Hou_readers.2.1 79 = .ok (.aload_n 0, 1) := by decide +kernel
theorem d_Hou_readers_80 : decode m_Hou_readers.2.1 80 = .ok (.getfield 59, 3) := by decide +kernel
theorem d_Hou_readers_83 : decode m_Hou_readers.2.1 83 = .ok (.invokevirtual 209, 3) := by decide +kernel
theorem d_Hou_readers_86 : decode m_Hou_readers.2.1 86 = .ok (.pop, 1) := by decide +kernel
theorem d_Hou_readers_87 : decode m_Hou_readers.2.1 87 = .ok (.aload_n 0, 1) := by decide +kernel
theorem d_Hou_readers_88 : decode m_Hou_readers.2.1 88 = .ok (.getfield 16, 3) := by decide +kernel
theorem d_Hou_readers_91 : decode m_Hou_readers.2.1 91 = .ok (.getfield 134, 3) := by decide +kernel
theorem d_Hou_readers_94 : decode m_Hou_readers.2.1 94 = .ok (.invokevirtual 327, 3) := by decide +kernel
theorem d_Hou_readers_97 : decode m_Hou_readers.2.1 97 = .ok (.ifCond .eq 6, 3) := by decide +kernel
theorem d_Hou_readers_100 : decode m_Hou_readers.2.1 100 = .ok (.iinc 4 1, 3) := by decide +kernel
theorem d_Hou_readers_103 : decode m_Hou_readers.2.1 103 = .ok (.iinc 5 1, 3) := by decide +kernel
theorem d_Hou_readers_106 : decode m_Hou_readers.2.1 106 = .ok (.goto (-54), 3) := by decide +kernel
theorem d_Hou_readers_109 : decode m_Hou_readers.2.1 109 = .ok (.aload_n 0, 1) := by decide +kernel
theorem d_Hou_readers_110 : decode m_Hou_readers.2.1 110 = .ok (.iload 4, 2) := by decide +kernel
theorem d_Hou_readers_112 : decode m_Hou_readers.2.1 112 = .ok (.invokevirtual 121, 3) := by decide +kernel
theorem d_Hou_readers_115 : decode m_Hou_readers.2.1 115 = .ok (.ireturn, 1) := by decide +kernel
theorem d_Hou_readPage_0 : decode m_Hou_readPage.2.1 0 = .ok (.iload_n 1, 1) := by decide +kernel
theorem d_Hou_readPage_1 : decode m_Hou_readPage.2.1 1 = .ok (.invokestatic 338, 3) := by decide +kernel
theorem d_Hou_readPage_4 : decode m_Hou_readPage.2.1 4 = .ok (.istore_n 2, 1) := by decide +kernel
theorem d_Hou_readPage_5 : decode m_Hou_readPage.2.1 5 = .ok (.aload_n 0, 1) := by decide +kernel
theorem d_Hou_readPage_6 : decode m_Hou_readPage.2.1 6 = .ok (.getfield 16, 3) := by decide +kernel
theorem d_Hou_readPage_9 : decode m_Hou_readPage.2.1 9 = .ok (.getfield 134, 3) := by decide +kernel
theorem d_Hou_readPage_12 : decode m_Hou_readPage.2.1 12 = .ok (.getfield 138, 3) := by decide +kernel
theorem d_Hou_readPage_15 : decode m_Hou_readPage.2.1 15 = .ok (.istore_n 3, 1) := by decide +kernel
theorem d_Hou_readPage_16 : decode m_Hou_readPage.2.1 16 = .ok (.iload_n 2, 1) := by decide +kernel
theorem d_Hou_readPage_17 : decode m_Hou_readPage.2.1 17 = .ok (.iconst 3, 1) := by decide +kernel
theorem d_Hou_readPage_18 : decode m_Hou_readPage.2.1 18 = .ok (.irem, 1) := by decide +kernel
theorem d_Hou_readPage_19 : decode m_Hou_readPage.2.1 19 = .ok (.istore 4, 2) := by decide +kernel
theorem d_Hou_readPage_21 : decode m_Hou_readPage.2.1 21 = .ok (.iload 4, 2) := by decide +kernel
theorem d_Hou_readPage_23 : decode m_Hou_readPage.2.1 23 = .ok (.ifCond .ne 37, 3) := by decide +kernel
theorem d_Hou_readPage_26 : decode m_Hou_readPage.2.1 26 = .ok (.iload_n 2, 1) := by decide +kernel
theorem d_Hou_readPage_27 : decode m_Hou_readPage.2.1 27 = .ok (.invokestatic 338, 3) := by decide +kernel
theorem d_Hou_readPage_30 : decode m_Hou_readPage.2.1 30 = .ok (.istore_n 2, 1) := by decide +kernel
theorem d_Hou_readPage_31 : decode m_Hou_readPage.2.1 31 = .ok (.iload_n 2, 1) := by decide +kernel
theorem d_Hou_readPage_32 : decode m_Hou_readPage.2.1 32 = .ok (.bipush 6, 2) := by decide +kernel
theorem d_Hou_readPage_34 : decode m_Hou_readPage.2.1 34 = .ok (.irem, 1) := by decide +kernel
theorem d_Hou_readPage_35 : decode m_Hou_readPage.2.1 35 = .ok (.istore 5, 2) := by decide +kernel
theorem d_Hou_readPage_37 : decode m_Hou_readPage.2.1 37 = .ok (.iload_n 2, 1) := by decide +kernel
theorem d_Hou_readPage_38 : decode m_Hou_readPage.2.1 38 = .ok (.invokestatic 338, 3) := by decide +kernel
theorem d_Hou_readPage_41 : decode m_Hou_readPage.2.1 41 = .ok (.istore_n 2, 1) := by decide +kernel
theorem d_Hou_readPage_42 : decode m_Hou_readPage.2.1 42 = .ok (.aload_n 0, 1) := by decide +kernel
theorem d_Hou_readPage_43 : decode m_Hou_readPage.2.1 43 = .ok (.getfield 59, 3) := by decide +kernel
theorem d_Hou_readPage_46 : decode m_Hou_readPage.2.1 46 = .ok (.iload 5, 2) := by decide +kernel
theorem d_Hou_readPage_48 : decode m_Hou_readPage.2.1 48 = .ok (.iload_n 2, 1) := by decide +kernel
theorem d_Hou_readPage_49 : decode m_Hou_readPage.2.1 49 = .ok (.iload_n 3, 1) := by decide +kernel
theorem d_Hou_readPage_50 : decode m_Hou_readPage.2.1 50 = .ok (.iconst 1, 1) := by decide +kernel
theorem d_Hou_readPage_51 : decode m_Hou_readPage.2.1 51 = .ok (.iadd, 1) := by decide +kernel
theorem d_Hou_readPage_52 : decode m_Hou_readPage.2.1 52 = .ok (.irem, 1) := by decide +kernel
theorem d_Hou_readPage_53 : decode m_Hou_readPage.2.1 53 = .ok (.invokevirtual 196, 3) := by decide +kernel
theorem d_Hou_readPage_56 : decode m_Hou_readPage.2.1 56 = .ok (.pop, 1) := by decide +kernel
theorem d_Hou_readPage_57 : decode m_Hou_readPage.2.1 57 = .ok (.goto 29, 3) := by decide +kernel
theorem d_Hou_readPage_60 : decode m_Hou_readPage.2.1 60 = .ok (.iload 4, 2) := by decide +kernel
theorem d_Hou_readPage_62 : decode m_Hou_readPage.2.1 62 = .ok (.iconst 1, 1) := by decide +kernel
theorem d_Hou_readPage_63 : decode m_Hou_readPage.2.1 63 = .ok (.if_icmp .ne 23, 3) := by decide +kernel
theorem d_Hou_readPage_66 : decode m_Hou_readPage.2.1 66 = .ok (.iload_n 3, 1) := by decide +kernel
theorem d_Hou_readPage_67 : decode m_Hou_readPage.2.1 67 = .ok (.ifCond .le 19, 3) := by decide +kernel
theorem d_Hou_readPage_70 : decode m_Hou_readPage.2.1 70 = .ok (.iload_n 2, 1) := by decide +kernel
theorem d_Hou_readPage_71 : decode m_Hou_readPage.2.1 71 = .ok (.invokestatic 338, 3) := by decide +kernel
theorem d_Hou_readPage_74 : decode m_Hou_readPage.2.1 74 = .ok (.istore_n 2, 1) := by decide +kernel
theorem d_Hou_readPage_75 : decode m_Hou_readPage.2.1 75 = .ok (.aload_n 0, 1) := by decide +kernel
theorem d_Hou_readPage_76 : decode m_Hou_readPage.2.1 76 = .ok (.getfield 59, 3) := by decide +kernel
theorem d_Hou_readPage_79 : decode m_Hou_readPage.2.1 79 = .ok (.iload_n 2, 1) := by decide +kernel
theorem d_Hou_readPage_80 : decode m_Hou_readPage.2.1 80 = .ok (.iload_n 3, 1) := by decide +kernel
theorem d_Hou_readPage_81 : decode m_Hou_readPage.2.1 81 = .ok (.irem, 1) := by decide +kernel
theorem d_Hou_readPage_82 : decode m_Hou_readPage.2.1 82 = .ok (.invokevirtual 203, 3) := by decide +kernel
theorem d_Hou_readPage_85 : decode m_Hou_readPage.2.1 85 = .ok (.pop, 1) := by decide +kernel
theorem d_Hou_readPage_86 : decode m_Hou_readPage.2.1 86 = .ok (.iload_n 2, 1) := by decide +kernel
theorem d_Hou_readPage_87 : decode m_Hou_readPage.2.1 87 = .ok (.ireturn, 1) := by decide +kernel
theorem d_Hou_nextDraw_0 : decode m_Hou_nextDraw.2.1 0 = .ok (.iload_n 0, 1) := by decide +kernel
theorem d_Hou_nextDraw_1 : decode m_Hou_nextDraw.2.1 1 = .ok (.sipush 1103, 3) := by decide +kernel
theorem d_Hou_nextDraw_4 : decode m_Hou_nextDraw.2.1 4 = .ok (.imul, 1) := by decide +kernel
theorem d_Hou_nextDraw_5 : decode m_Hou_nextDraw.2.1 5 = .ok (.sipush 12345, 3) := by decide +kernel
theorem d_Hou_nextDraw_8 : decode m_Hou_nextDraw.2.1 8 = .ok (.iadd, 1) := by decide +kernel
theorem d_Hou_nextDraw_9 : decode m_Hou_nextDraw.2.1 9 = .ok (.ldc_w 341, 3) := by decide +kernel
theorem d_Hou_nextDraw_12 : decode m_Hou_nextDraw.2.1 12 = .ok (.irem, 1) := by decide +kernel
theorem d_Hou_nextDraw_13 : decode m_Hou_nextDraw.2.1 13 = .ok (.ireturn, 1) := by decide +kernel
theorem d_Hou_drawn_0 : decode m_Hou_drawn.2.1 0 = .ok (.aload_n 0, 1) := by decide +kernel
theorem d_Hou_drawn_1 : decode m_Hou_drawn.2.1 1 = .ok (.getfield 91, 3) := by decide +kernel
theorem d_Hou_drawn_4 : decode m_Hou_drawn.2.1 4 = .ok (.ifCond .eq 7, 3) := by decide +kernel
theorem d_Hou_drawn_7 : decode m_Hou_drawn.2.1 7 = .ok (.iload_n 1, 1) := by decide +kernel
theorem d_Hou_drawn_8 : decode m_Hou_drawn.2.1 8 = .ok (.ifCond .ge 5, 3) := by decide +kernel
theorem d_Hou_drawn_11 : decode m_Hou_drawn.2.1 11 = .ok (.iconst (-1), 1) := by decide +kernel
theorem d_Hou_drawn_12 : decode m_Hou_drawn.2.1 12 = .ok (.ireturn, 1) := by decide +kernel
theorem d_Hou_drawn_13 : decode m_Hou_drawn.2.1 13 = .ok (.iload_n 1, 1) := by decide +kernel
theorem d_Hou_drawn_14 : decode m_Hou_drawn.2.1 14 = .ok (.lookupswitch 48 #[(0, 26), (1, 37)], 26) := by decide +kernel
theorem d_Hou_drawn_40 : decode m_Hou_drawn.2.1 40 = .ok (.aload_n 0, 1) := by decide +kernel
theorem d_Hou_drawn_41 : decode m_Hou_drawn.2.1 41 = .ok (.getfield 16, 3) := by decide +kernel
theorem d_Hou_drawn_44 : decode m_Hou_drawn.2.1 44 = .ok (.getfield 134, 3) := by decide +kernel
theorem d_Hou_drawn_47 : decode m_Hou_drawn.2.1 47 = .ok (.getfield 138, 3) := by decide +kernel
theorem d_Hou_drawn_50 : decode m_Hou_drawn.2.1 50 = .ok (.ireturn, 1) := by decide +kernel
theorem d_Hou_drawn_51 : decode m_Hou_drawn.2.1 51 = .ok (.aload_n 0, 1) := by decide +kernel
theorem d_Hou_drawn_52 : decode m_Hou_drawn.2.1 52 = .ok (.getfield 16, 3) := by decide +kernel
theorem d_Hou_drawn_55 : decode m_Hou_drawn.2.1 55 = .ok (.getfield 134, 3) := by decide +kernel
theorem d_Hou_drawn_58 : decode m_Hou_drawn.2.1 58 = .ok (.invokevirtual 331, 3) := by decide +kernel
theorem d_Hou_drawn_61 : decode m_Hou_drawn.2.1 61 = .ok (.ireturn, 1) := by decide +kernel
theorem d_Hou_drawn_62 : decode m_Hou_drawn.2.1 62 = .ok (.aload_n 0, 1) := by decide +kernel
theorem d_Hou_drawn_63 : decode m_Hou_drawn.2.1 63 = .ok (.getfield 16, 3) := by decide +kernel
theorem d_Hou_drawn_66 : decode m_Hou_drawn.2.1 66 = .ok (.getfield 134, 3) := by decide +kernel
theorem d_Hou_drawn_69 : decode m_Hou_drawn.2.1 69 = .ok (.iload_n 1, 1) := by decide +kernel
theorem d_Hou_drawn_70 : decode m_Hou_drawn.2.1 70 = .ok (.iconst 2, 1) := by decide +kernel
theorem d_Hou_drawn_71 : decode m_Hou_drawn.2.1 71 = .ok (.isub, 1) := by decide +kernel
theorem d_Hou_drawn_72 : decode m_Hou_drawn.2.1 72 = .ok (.invokevirtual 216, 3) := by decide +kernel
theorem d_Hou_drawn_75 : decode m_Hou_drawn.2.1 75 = .ok (.ifCond .eq 20, 3) := by decide +kernel
theorem d_Hou_drawn_78 : decode m_Hou_drawn.2.1 78 = .ok (.aload_n 0, 1) := by decide +kernel
theorem d_Hou_drawn_79 : decode m_Hou_drawn.2.1 79 = .ok (.getfield 16, 3) := by decide +kernel
theorem d_Hou_drawn_82 : decode m_Hou_drawn.2.1 82 = .ok (.getfield 134, 3) := by decide +kernel
theorem d_Hou_drawn_85 : decode m_Hou_drawn.2.1 85 = .ok (.getfield 219, 3) := by decide +kernel
theorem d_Hou_drawn_88 : decode m_Hou_drawn.2.1 88 = .ok (.iload_n 1, 1) := by decide +kernel
theorem d_Hou_drawn_89 : decode m_Hou_drawn.2.1 89 = .ok (.iconst 2, 1) := by decide +kernel
theorem d_Hou_drawn_90 : decode m_Hou_drawn.2.1 90 = .ok (.isub, 1) := by decide +kernel
theorem d_Hou_drawn_91 : decode m_Hou_drawn.2.1 91 = .ok (.iaload, 1) := by decide +kernel
theorem d_Hou_drawn_92 : decode m_Hou_drawn.2.1 92 = .ok (.goto 4, 3) := by decide +kernel
theorem d_Hou_drawn_95 : decode m_Hou_drawn.2.1 95 = .ok (.iconst (-1), 1) := by decide +kernel
theorem d_Hou_drawn_96 : decode m_Hou_drawn.2.1 96 = .ok (.ireturn, 1) := by decide +kernel
theorem d_Hou_image_0 : decode m_Hou_image.2.1 0 = .ok (.iload_n 1, 1) := by decide +kernel
theorem d_Hou_image_1 : decode m_Hou_image.2.1 1 = .ok (.ifCond .lt 8, 3) := by decide +kernel
theorem d_Hou_image_4 : decode m_Hou_image.2.1 4 = .ok (.iload_n 1, 1) := by decide +kernel
theorem d_Hou_image_5 : decode m_Hou_image.2.1 5 = .ok (.iconst 2, 1) := by decide +kernel
theorem d_Hou_image_6 : decode m_Hou_image.2.1 6 = .ok (.if_icmp .lt 9, 3) := by decide +kernel
theorem d_Hou_image_9 : decode m_Hou_image.2.1 9 = .ok (.aload_n 0, 1) := by decide +kernel
theorem d_Hou_image_10 : decode m_Hou_image.2.1 10 = .ok (.iconst (-1), 1) := by decide +kernel
theorem d_Hou_image_11 : decode m_Hou_image.2.1 11 = .ok (.invokevirtual 111, 3) := by decide +kernel
theorem d_Hou_image_14 : decode m_Hou_image.2.1 14 = .ok (.ireturn, 1) := by decide +kernel
theorem d_Hou_image_15 : decode m_Hou_image.2.1 15 = .ok (.aload_n 0, 1) := by decide +kernel
theorem d_Hou_image_16 : decode m_Hou_image.2.1 16 = .ok (.getfield 19, 3) := by decide +kernel
theorem d_Hou_image_19 : decode m_Hou_image.2.1 19 = .ok (.iload_n 1, 1) := by decide +kernel
theorem d_Hou_image_20 : decode m_Hou_image.2.1 20 = .ok (.aaload, 1) := by decide +kernel
theorem d_Hou_image_21 : decode m_Hou_image.2.1 21 = .ok (.aload_n 0, 1) := by decide +kernel
theorem d_Hou_image_22 : decode m_Hou_image.2.1 22 = .ok (.getfield 12, 3) := by decide +kernel
theorem d_Hou_image_25 : decode m_Hou_image.2.1 25 = .ok (.invokevirtual 321, 3) := by decide +kernel
theorem d_Hou_image_28 : decode m_Hou_image.2.1 28 = .ok (.aload_n 0, 1) := by decide +kernel
theorem d_Hou_image_29 : decode m_Hou_image.2.1 29 = .ok (.getfield 23, 3) := by decide +kernel
theorem d_Hou_image_32 : decode m_Hou_image.2.1 32 = .ok (.iload_n 1, 1) := by decide +kernel
theorem d_Hou_image_33 : decode m_Hou_image.2.1 33 = .ok (.iconst 1, 1) := by decide +kernel
theorem d_Hou_image_34 : decode m_Hou_image.2.1 34 = .ok (.bastore, 1) := by decide +kernel
theorem d_Hou_image_35 : decode m_Hou_image.2.1 35 = .ok (.aload_n 0, 1) := by decide +kernel
theorem d_Hou_image_36 : decode m_Hou_image.2.1 36 = .ok (.iconst 0, 1) := by decide +kernel
theorem d_Hou_image_37 : decode m_Hou_image.2.1 37 = .ok (.invokevirtual 121, 3) := by decide +kernel
theorem d_Hou_image_40 : decode m_Hou_image.2.1 40 = .ok (.ireturn, 1) := by decide +kernel
theorem d_Hou_back_0 : decode m_Hou_back.2.1 0 = .ok (.iload_n 1, 1) := by decide +kernel
theorem d_Hou_back_1 : decode m_Hou_back.2.1 1 = .ok (.ifCond .lt 8, 3) := by decide +kernel
theorem d_Hou_back_4 : decode m_Hou_back.2.1 4 = .ok (.iload_n 1, 1) := by decide +kernel
theorem d_Hou_back_5 : decode m_Hou_back.2.1 5 = .ok (.iconst 2, 1) := by decide +kernel
theorem d_Hou_back_6 : decode m_Hou_back.2.1 6 = .ok (.if_icmp .lt 9, 3) := by decide +kernel
theorem d_Hou_back_9 : decode m_Hou_back.2.1 9 = .ok (.aload_n 0, 1) := by decide +kernel
theorem d_Hou_back_10 : decode m_Hou_back.2.1 10 = .ok (.iconst (-1), 1) := by decide +kernel
theorem d_Hou_back_11 : decode m_Hou_back.2.1 11 = .ok (.invokevirtual 111, 3) := by decide +kernel
theorem d_Hou_back_14 : decode m_Hou_back.2.1 14 = .ok (.ireturn, 1) := by decide +kernel
theorem d_Hou_back_15 : decode m_Hou_back.2.1 15 = .ok (.aload_n 0, 1) := by decide +kernel
theorem d_Hou_back_16 : decode m_Hou_back.2.1 16 = .ok (.getfield 23, 3) := by decide +kernel
theorem d_Hou_back_19 : decode m_Hou_back.2.1 19 = .ok (.iload_n 1, 1) := by decide +kernel
theorem d_Hou_back_20 : decode m_Hou_back.2.1 20 = .ok (.baload, 1) := by decide +kernel
theorem d_Hou_back_21 : decode m_Hou_back.2.1 21 = .ok (.ifCond .ne 10, 3) := by decide +kernel
theorem d_Hou_back_24 : decode m_Hou_back.2.1 24 = .ok (.aload_n 0, 1) := by decide +kernel
theorem d_Hou_back_25 : decode m_Hou_back.2.1 25 = .ok (.bipush (-2), 2) := by decide +kernel
theorem d_Hou_back_27 : decode m_Hou_back.2.1 27 = .ok (.invokevirtual 111, 3) := by decide +kernel
theorem d_Hou_back_30 : decode m_Hou_back.2.1 30 = .ok (.ireturn, 1) := by decide +kernel
theorem d_Hou_back_31 : decode m_Hou_back.2.1 31 = .ok (.aload_n 0, 1) := by decide +kernel
theorem d_Hou_back_32 : decode m_Hou_back.2.1 32 = .ok (.getfield 12, 3) := by decide +kernel
theorem d_Hou_back_35 : decode m_Hou_back.2.1 35 = .ok (.aload_n 0, 1) := by decide +kernel
theorem d_Hou_back_36 : decode m_Hou_back.2.1 36 = .ok (.getfield 19, 3) := by decide +kernel
theorem d_Hou_back_39 : decode m_Hou_back.2.1 39 = .ok (.iload_n 1, 1) := by decide +kernel
theorem d_Hou_back_40 : decode m_Hou_back.2.1 40 = .ok (.aaload, 1) := by decide +kernel
theorem d_Hou_back_41 : decode m_Hou_back.2.1 41 = .ok (.invokevirtual 321, 3) := by decide +kernel
theorem d_Hou_back_44 : decode m_Hou_back.2.1 44 = .ok (.aload_n 0, 1) := by decide +kernel
theorem d_Hou_back_45 : decode m_Hou_back.2.1 45 = .ok (.getfield 55, 3) := by decide +kernel
theorem d_Hou_back_48 : decode m_Hou_back.2.1 48 = .ok (.invokevirtual 118, 3) := by decide +kernel
theorem d_Hou_back_51 : decode m_Hou_back.2.1 51 = .ok (.aload_n 0, 1) := by decide +kernel
theorem d_Hou_back_52 : decode m_Hou_back.2.1 52 = .ok (.iconst 0, 1) := by decide +kernel
theorem d_Hou_back_53 : decode m_Hou_back.2.1 53 = .ok (.invokevirtual 121, 3) := by decide +kernel
theorem d_Hou_back_56 : decode m_Hou_back.2.1 56 = .ok (.ireturn, 1) := by decide +kernel
theorem d_Hou_count_0 : decode m_Hou_count.2.1 0 = .ok (.iload_n 1, 1) := by decide +kernel
theorem d_Hou_count_1 : decode m_Hou_count.2.1 1 = .ok (.iconst 5, 1) := by decide +kernel
theorem d_Hou_count_2 : decode m_Hou_count.2.1 2 = .ok (.if_icmp .lt 18, 3) := by decide +kernel
theorem d_Hou_count_5 : decode m_Hou_count.2.1 5 = .ok (.iload_n 1, 1) := by decide +kernel
theorem d_Hou_count_6 : decode m_Hou_count.2.1 6 = .ok (.bipush 9, 2) := by decide +kernel
theorem d_Hou_count_8 : decode m_Hou_count.2.1 8 = .ok (.if_icmp .gt 12, 3) := by decide +kernel
theorem d_Hou_count_11 : decode m_Hou_count.2.1 11 = .ok (.aload_n 0, 1) := by decide +kernel
theorem d_Hou_count_12 : decode m_Hou_count.2.1 12 = .ok (.getfield 87, 3) := by decide +kernel
theorem d_Hou_count_15 : decode m_Hou_count.2.1 15 = .ok (.iload_n 1, 1) := by decide +kernel
theorem d_Hou_count_16 : decode m_Hou_count.2.1 16 = .ok (.iconst 5, 1) := by decide +kernel
theorem d_Hou_count_17 : decode m_Hou_count.2.1 17 = .ok (.isub, 1) := by decide +kernel
theorem d_Hou_count_18 : decode m_Hou_count.2.1 18 = .ok (.iaload, 1) := by decide +kernel
theorem d_Hou_count_19 : decode m_Hou_count.2.1 19 = .ok (.ireturn, 1) := by decide +kernel
theorem d_Hou_count_20 : decode m_Hou_count.2.1 20 = .ok (.iload_n 1, 1) := by decide +kernel
theorem d_Hou_count_21 : decode m_Hou_count.2.1 21 = .ok (.bipush 11, 2) := by decide +kernel
theorem d_Hou_count_23 : decode m_Hou_count.2.1 23 = .ok (.if_icmp .lt 22, 3) := by decide +kernel
theorem d_Hou_count_26 : decode m_Hou_count.2.1 26 = .ok (.iload_n 1, 1) := by decide +kernel
theorem d_Hou_count_27 : decode m_Hou_count.2.1 27 = .ok (.bipush 13, 2) := by decide +kernel
theorem d_Hou_count_29 : decode m_Hou_count.2.1 29 = .ok (.if_icmp .gt 16, 3) := by decide +kernel
theorem d_Hou_count_32 : decode m_Hou_count.2.1 32 = .ok (.aload_n 0, 1) := by decide +kernel
theorem d_Hou_count_33 : decode m_Hou_count.2.1 33 = .ok (.getfield 12, 3) := by decide +kernel
theorem d_Hou_count_36 : decode m_Hou_count.2.1 36 = .ok (.getfield 115, 3) := by decide +kernel
theorem d_Hou_count_39 : decode m_Hou_count.2.1 39 = .ok (.iload_n 1, 1) := by decide +kernel
theorem d_Hou_count_40 : decode m_Hou_count.2.1 40 = .ok (.bipush 11, 2) := by decide +kernel
theorem d_Hou_count_42 : decode m_Hou_count.2.1 42 = .ok (.isub, 1) := by decide +kernel
theorem d_Hou_count_43 : decode m_Hou_count.2.1 43 = .ok (.iaload, 1) := by decide +kernel
theorem d_Hou_count_44 : decode m_Hou_count.2.1 44 = .ok (.ireturn, 1) := by decide +kernel
theorem d_Hou_count_45 : decode m_Hou_count.2.1 45 = .ok (.iload_n 1, 1) := by decide +kernel
theorem d_Hou_count_46 : decode m_Hou_count.2.1 46 = .ok (.tableswitch 112 0 10 #[58, 69, 80, 88, 96, 112, 112, 112, 112, 112, 104], 58) := by decide +kernel
theorem d_Hou_count_104 : decode m_Hou_count.2.1 104 = .ok (.aload_n 0, 1) := by decide +kernel
theorem d_Hou_count_105 : decode m_Hou_count.2.1 105 = .ok (.getfield 12, 3) := by decide +kernel
theorem d_Hou_count_108 : decode m_Hou_count.2.1 108 = .ok (.getfield 134, 3) := by decide +kernel
theorem d_Hou_count_111 : decode m_Hou_count.2.1 111 = .ok (.getfield 138, 3) := by decide +kernel
theorem d_Hou_count_114 : decode m_Hou_count.2.1 114 = .ok (.ireturn, 1) := by decide +kernel
theorem d_Hou_count_115 : decode m_Hou_count.2.1 115 = .ok (.aload_n 0, 1) := by decide +kernel
theorem d_Hou_count_116 : decode m_Hou_count.2.1 116 = .ok (.getfield 12, 3) := by decide +kernel
theorem d_Hou_count_119 : decode m_Hou_count.2.1 119 = .ok (.getfield 134, 3) := by decide +kernel
theorem d_Hou_count_122 : decode m_Hou_count.2.1 122 = .ok (.invokevirtual 331, 3) := by decide +kernel
theorem d_Hou_count_125 : decode m_Hou_count.2.1 125 = .ok (.ireturn, 1) := by decide +kernel
theorem d_Hou_count_126 : decode m_Hou_count.2.1 126 = .ok (.aload_n 0, 1) := by decide +kernel
theorem d_Hou_count_127 : decode m_Hou_count.2.1 127 = .ok (.getfield 12, 3) := by decide +kernel
theorem d_Hou_count_130 : decode m_Hou_count.2.1 130 = .ok (.getfield 147, 3) := by decide +kernel
theorem d_Hou_count_133 : decode m_Hou_count.2.1 133 = .ok (.ireturn, 1) := by decide +kernel
theorem d_Hou_count_134 : decode m_Hou_count.2.1 134 = .ok (.aload_n 0, 1) := by decide +kernel
theorem d_Hou_count_135 : decode m_Hou_count.2.1 135 = .ok (.getfield 55, 3) := by decide +kernel
theorem d_Hou_count_138 : decode m_Hou_count.2.1 138 = .ok (.getfield 334, 3) := by decide +kernel
theorem d_Hou_count_141 : decode m_Hou_count.2.1 141 = .ok (.ireturn, 1) := by decide +kernel
theorem d_Hou_count_142 : decode m_Hou_count.2.1 142 = .ok (.aload_n 0, 1) := by decide +kernel
theorem d_Hou_count_143 : decode m_Hou_count.2.1 143 = .ok (.getfield 30, 3) := by decide +kernel
theorem d_Hou_count_146 : decode m_Hou_count.2.1 146 = .ok (.getfield 124, 3) := by decide +kernel
theorem d_Hou_count_149 : decode m_Hou_count.2.1 149 = .ok (.ireturn, 1) := by decide +kernel
theorem d_Hou_count_150 : decode m_Hou_count.2.1 150 = .ok (.aload_n 0, 1) := by decide +kernel
theorem d_Hou_count_151 : decode m_Hou_count.2.1 151 = .ok (.getfield 12, 3) := by decide +kernel
theorem d_Hou_count_154 : decode m_Hou_count.2.1 154 = .ok (.getfield 181, 3) := by decide +kernel
theorem d_Hou_count_157 : decode m_Hou_count.2.1 157 = .ok (.ireturn, 1) := by decide +kernel
theorem d_Hou_count_158 : decode m_Hou_count.2.1 158 = .ok (.iconst (-1), 1) := by decide +kernel
theorem d_Hou_count_159 : decode m_Hou_count.2.1 159 = .ok (.ireturn, 1) := by decide +kernel
theorem d_Hou_status_0 : decode m_Hou_status.2.1 0 = .ok (.aload_n 0, 1) := by decide +kernel
theorem d_Hou_status_1 : decode m_Hou_status.2.1 1 = .ok (.getfield 102, 3) := by decide +kernel
theorem d_Hou_status_4 : decode m_Hou_status.2.1 4 = .ok (.ireturn, 1) := by decide +kernel
