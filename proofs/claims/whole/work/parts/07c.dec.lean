theorem d_Mod_image_0 : decode m_Mod_image.2.1 0 = .ok (.iload_n 1, 1) := by decide +kernel
theorem d_Mod_image_1 : decode m_Mod_image.2.1 1 = .ok (.iconst 0, 1) := by decide +kernel
theorem d_Mod_image_2 : decode m_Mod_image.2.1 2 = .ok (.iconst 1, 1) := by decide +kernel
theorem d_Mod_image_3 : decode m_Mod_image.2.1 3 = .ok (.invokestatic 18, 3) := by decide +kernel
theorem d_Mod_image_6 : decode m_Mod_image.2.1 6 = .ok (.ifCond .ne 9, 3) := by decide +kernel
theorem d_Mod_image_9 : decode m_Mod_image.2.1 9 = .ok (.aload_n 0, 1) := by decide +kernel
theorem d_Mod_image_10 : decode m_Mod_image.2.1 10 = .ok (.iconst (-1), 1) := by decide +kernel
theorem d_Mod_image_11 : decode m_Mod_image.2.1 11 = .ok (.invokevirtual 119, 3) := by decide +kernel
theorem d_Mod_image_14 : decode m_Mod_image.2.1 14 = .ok (.ireturn, 1) := by decide +kernel
theorem d_Mod_image_15 : decode m_Mod_image.2.1 15 = .ok (.iconst 0, 1) := by decide +kernel
theorem d_Mod_image_16 : decode m_Mod_image.2.1 16 = .ok (.istore_n 2, 1) := by decide +kernel
theorem d_Mod_image_17 : decode m_Mod_image.2.1 17 = .ok (.iload_n 2, 1) := by decide +kernel
theorem d_Mod_image_18 : decode m_Mod_image.2.1 18 = .ok (.sipush 5633, 3) := by decide +kernel
theorem d_Mod_image_21 : decode m_Mod_image.2.1 21 = .ok (.if_icmp .ge 27, 3) := by decide +kernel
theorem d_Mod_image_24 : decode m_Mod_image.2.1 24 = .ok (.aload_n 0, 1) := by decide +kernel
theorem d_Mod_image_25 : decode m_Mod_image.2.1 25 = .ok (.getfield 35, 3) := by decide +kernel
theorem d_Mod_image_28 : decode m_Mod_image.2.1 28 = .ok (.sipush 5633, 3) := by decide +kernel
theorem d_Mod_image_31 : decode m_Mod_image.2.1 31 = .ok (.iload_n 1, 1) := by decide +kernel
theorem d_Mod_image_32 : decode m_Mod_image.2.1 32 = .ok (.imul, 1) := by decide +kernel
theorem d_Mod_image_33 : decode m_Mod_image.2.1 33 = .ok (.iload_n 2, 1) := by decide +kernel
theorem d_Mod_image_34 : decode m_Mod_image.2.1 34 = .ok (.iadd, 1) := by decide +kernel
theorem d_Mod_image_35 : decode m_Mod_image.2.1 35 = .ok (.aload_n 0, 1) := by decide +kernel
theorem d_Mod_image_36 : decode m_Mod_image.2.1 36 = .ok (.getfield 32, 3) := by decide +kernel
theorem d_Mod_image_39 : decode m_Mod_image.2.1 39 = .ok (.iload_n 2, 1) := by decide +kernel
theorem d_Mod_image_40 : decode m_Mod_image.2.1 40 = .ok (.iaload, 1) := by decide +kernel
theorem d_Mod_image_41 : decode m_Mod_image.2.1 41 = .ok (.iastore, 1) := by decide +kernel
theorem d_Mod_image_42 : decode m_Mod_image.2.1 42 = .ok (.iinc 2 1, 3) := by decide +kernel
theorem d_Mod_image_45 : decode m_Mod_image.2.1 45 = .ok (.goto (-28), 3) := by decide +kernel
theorem d_Mod_image_48 : decode m_Mod_image.2.1 48 = .ok (.aload_n 0, 1) := by decide +kernel
theorem d_Mod_image_49 : decode m_Mod_image.2.1 49 = .ok (.getfield 38, 3) := by decide +kernel
theorem d_Mod_image_52 : decode m_Mod_image.2.1 52 = .ok (.iload_n 1, 1) := by decide +kernel
theorem d_Mod_image_53 : decode m_Mod_image.2.1 53 = .ok (.iconst 1, 1) := by decide +kernel
theorem d_Mod_image_54 : decode m_Mod_image.2.1 54 = .ok (.bastore, 1) := by decide +kernel
theorem d_Mod_image_55 : decode m_Mod_image.2.1 55 = .ok (.aload_n 0, 1) := by decide +kernel
theorem d_Mod_image_56 : decode m_Mod_image.2.1 56 = .ok (.iconst 0, 1) := by decide +kernel
theorem d_Mod_image_57 : decode m_Mod_image.2.1 57 = .ok (.invokevirtual 14, 3) := by decide +kernel
theorem d_Mod_image_60 : decode m_Mod_image.2.1 60 = .ok (.ireturn, 1) := by decide +kernel
theorem d_Mod_lies_0 : decode m_Mod_lies.2.1 0 = .ok (.iload_n 0, 1) := by decide +kernel
theorem d_Mod_lies_1 : decode m_Mod_lies.2.1 1 = .ok (.iload_n 1, 1) := by decide +kernel
theorem d_Mod_lies_2 : decode m_Mod_lies.2.1 2 = .ok (.if_icmp .lt 12, 3) := by decide +kernel
theorem d_Mod_lies_5 : decode m_Mod_lies.2.1 5 = .ok (.iload_n 0, 1) := by decide +kernel
theorem d_Mod_lies_6 : decode m_Mod_lies.2.1 6 = .ok (.iload_n 2, 1) := by decide +kernel
theorem d_Mod_lies_7 : decode m_Mod_lies.2.1 7 = .ok (.if_icmp .gt 7, 3) := by decide +kernel
theorem d_Mod_lies_10 : decode m_Mod_lies.2.1 10 = .ok (.iconst 1, 1) := by decide +kernel
theorem d_Mod_lies_11 : decode m_Mod_lies.2.1 11 = .ok (.goto 4, 3) := by decide +kernel
theorem d_Mod_lies_14 : decode m_Mod_lies.2.1 14 = .ok (.iconst 0, 1) := by decide +kernel
theorem d_Mod_lies_15 : decode m_Mod_lies.2.1 15 = .ok (.ireturn, 1) := by decide +kernel
theorem d_Mod_refuses_0 : decode m_Mod_refuses.2.1 0 = .ok (.aload_n 0, 1) := by decide +kernel
theorem d_Mod_refuses_1 : decode m_Mod_refuses.2.1 1 = .ok (.iload_n 1, 1) := by decide +kernel
theorem d_Mod_refuses_2 : decode m_Mod_refuses.2.1 2 = .ok (.putfield 3, 3) := by decide +kernel
theorem d_Mod_refuses_5 : decode m_Mod_refuses.2.1 5 = .ok (.aload_n 0, 1) := by decide +kernel
theorem d_Mod_refuses_6 : decode m_Mod_refuses.2.1 6 = .ok (.getfield 7, 3) := by decide +kernel
theorem d_Mod_refuses_9 : decode m_Mod_refuses.2.1 9 = .ok (.iload_n 1, 1) := by decide +kernel
theorem d_Mod_refuses_10 : decode m_Mod_refuses.2.1 10 = .ok (.ineg, 1) := by decide +kernel
theorem d_Mod_refuses_11 : decode m_Mod_refuses.2.1 11 = .ok (.dup2, 1) := by decide +kernel
theorem d_Mod_refuses_12 : decode m_Mod_refuses.2.1 12 = .ok (.iaload, 1) := by decide +kernel
theorem d_Mod_refuses_13 : decode m_Mod_refuses.2.1 13 = .ok (.iconst 1, 1) := by decide +kernel
theorem d_Mod_refuses_14 : decode m_Mod_refuses.2.1 14 = .ok (.iadd, 1) := by decide +kernel
theorem d_Mod_refuses_15 : decode m_Mod_refuses.2.1 15 = .ok (.iastore, 1) := by decide +kernel
theorem d_Mod_refuses_16 : decode m_Mod_refuses.2.1 16 = .ok (.iload_n 1, 1) := by decide +kernel
theorem d_Mod_refuses_17 : decode m_Mod_refuses.2.1 17 = .ok (.ireturn, 1) := by decide +kernel
theorem d_Mod_good_0 : decode m_Mod_good.2.1 0 = .ok (.aload_n 0, 1) := by decide +kernel
theorem d_Mod_good_1 : decode m_Mod_good.2.1 1 = .ok (.iconst 0, 1) := by decide +kernel
theorem d_Mod_good_2 : decode m_Mod_good.2.1 2 = .ok (.putfield 3, 3) := by decide +kernel
theorem d_Mod_good_5 : decode m_Mod_good.2.1 5 = .ok (.iload_n 1, 1) := by decide +kernel
theorem d_Mod_good_6 : decode m_Mod_good.2.1 6 = .ok (.ireturn, 1) := by decide +kernel
theorem d_Mod_back_0 : decode m_Mod_back.2.1 0 = .ok (.iload_n 1, 1) := by decide +kernel
theorem d_Mod_back_1 : decode m_Mod_back.2.1 1 = .ok (.iconst 0, 1) := by decide +kernel
theorem d_Mod_back_2 : decode m_Mod_back.2.1 2 = .ok (.iconst 1, 1) := by decide +kernel
theorem d_Mod_back_3 : decode m_Mod_back.2.1 3 = .ok (.invokestatic 18, 3) := by decide +kernel
theorem d_Mod_back_6 : decode m_Mod_back.2.1 6 = .ok (.ifCond .ne 9, 3) := by decide +kernel
theorem d_Mod_back_9 : decode m_Mod_back.2.1 9 = .ok (.aload_n 0, 1) := by decide +kernel
theorem d_Mod_back_10 : decode m_Mod_back.2.1 10 = .ok (.iconst (-1), 1) := by decide +kernel
theorem d_Mod_back_11 : decode m_Mod_back.2.1 11 = .ok (.invokevirtual 119, 3) := by decide +kernel
theorem d_Mod_back_14 : decode m_Mod_back.2.1 14 = .ok (.ireturn, 1) := by decide +kernel
theorem d_Mod_back_15 : decode m_Mod_back.2.1 15 = .ok (.aload_n 0, 1) := by decide +kernel
theorem d_Mod_back_16 : decode m_Mod_back.2.1 16 = .ok (.getfield 38, 3) := by decide +kernel
theorem d_Mod_back_19 : decode m_Mod_back.2.1 19 = .ok (.iload_n 1, 1) := by decide +kernel
theorem d_Mod_back_20 : decode m_Mod_back.2.1 20 = .ok (.baload, 1) := by decide +kernel
theorem d_Mod_back_21 : decode m_Mod_back.2.1 21 = .ok (.ifCond .ne 10, 3) := by decide +kernel
theorem d_Mod_back_24 : decode m_Mod_back.2.1 24 = .ok (.aload_n 0, 1) := by decide +kernel
theorem d_Mod_back_25 : decode m_Mod_back.2.1 25 = .ok (.bipush (-2), 2) := by decide +kernel
theorem d_Mod_back_27 : decode m_Mod_back.2.1 27 = .ok (.invokevirtual 119, 3) := by decide +kernel
theorem d_Mod_back_30 : decode m_Mod_back.2.1 30 = .ok (.ireturn, 1) := by decide +kernel
theorem d_Mod_back_31 : decode m_Mod_back.2.1 31 = .ok (.iconst 0, 1) := by decide +kernel
theorem d_Mod_back_32 : decode m_Mod_back.2.1 32 = .ok (.istore_n 2, 1) := by decide +kernel
theorem d_Mod_back_33 : decode m_Mod_back.2.1 33 = .ok (.iload_n 2, 1) := by decide +kernel
theorem d_Mod_back_34 : decode m_Mod_back.2.1 34 = .ok (.sipush 5633, 3) := by decide +kernel
theorem d_Mod_back_37 : decode m_Mod_back.2.1 37 = .ok (.if_icmp .ge 27, 3) := by decide +kernel
theorem d_Mod_back_40 : decode m_Mod_back.2.1 40 = .ok (.aload_n 0, 1) := by decide +kernel
theorem d_Mod_back_41 : decode m_Mod_back.2.1 41 = .ok (.getfield 32, 3) := by decide +kernel
theorem d_Mod_back_44 : decode m_Mod_back.2.1 44 = .ok (.iload_n 2, 1) := by decide +kernel
theorem d_Mod_back_45 : decode m_Mod_back.2.1 45 = .ok (.aload_n 0, 1) := by decide +kernel
theorem d_Mod_back_46 : decode m_Mod_back.2.1 46 = .ok (.getfield 35, 3) := by decide +kernel
theorem d_Mod_back_49 : decode m_Mod_back.2.1 49 = .ok (.sipush 5633, 3) := by decide +kernel
theorem d_Mod_back_52 : decode m_Mod_back.2.1 52 = .ok (.iload_n 1, 1) := by decide +kernel
theorem d_Mod_back_53 : decode m_Mod_back.2.1 53 = .ok (.imul, 1) := by decide +kernel
theorem d_Mod_back_54 : decode m_Mod_back.2.1 54 = .ok (.iload_n 2, 1) := by decide +kernel
theorem d_Mod_back_55 : decode m_Mod_back.2.1 55 = .ok (.iadd, 1) := by decide +kernel
theorem d_Mod_back_56 : decode m_Mod_back.2.1 56 = .ok (.iaload, 1) := by decide +kernel
theorem d_Mod_back_57 : decode m_Mod_back.2.1 57 = .ok (.iastore, 1) := by decide +kernel
theorem d_Mod_back_58 : decode m_Mod_back.2.1 58 = .ok (.iinc 2 1, 3) := by decide +kernel
theorem d_Mod_back_61 : decode m_Mod_back.2.1 61 = .ok (.goto (-28), 3) := by decide +kernel
theorem d_Mod_back_64 : decode m_Mod_back.2.1 64 = .ok (.aload_n 0, 1) := by decide +kernel
theorem d_Mod_back_65 : decode m_Mod_back.2.1 65 = .ok (.iconst 0, 1) := by decide +kernel
theorem d_Mod_back_66 : decode m_Mod_back.2.1 66 = .ok (.invokevirtual 122, 3) := by decide +kernel
theorem d_Mod_back_69 : decode m_Mod_back.2.1 69 = .ok (.ireturn, 1) := by decide +kernel
theorem d_Mod_settled_0 : decode m_Mod_settled.2.1 0 = .ok (.aload_n 0, 1) := by decide +kernel
theorem d_Mod_settled_1 : decode m_Mod_settled.2.1 1 = .ok (.iconst 0, 1) := by decide +kernel
theorem d_Mod_settled_2 : decode m_Mod_settled.2.1 2 = .ok (.putfield 11, 3) := by decide +kernel
theorem d_Mod_settled_5 : decode m_Mod_settled.2.1 5 = .ok (.aload_n 0, 1) := by decide +kernel
theorem d_Mod_settled_6 : decode m_Mod_settled.2.1 6 = .ok (.iload_n 1, 1) := by decide +kernel
theorem d_Mod_settled_7 : decode m_Mod_settled.2.1 7 = .ok (.invokevirtual 14, 3) := by decide +kernel
theorem d_Mod_settled_10 : decode m_Mod_settled.2.1 10 = .ok (.ireturn, 1) := by decide +kernel
theorem d_Mod_terms_0 : decode m_Mod_terms.2.1 0 = .ok (.iload_n 1, 1) := by decide +kernel
theorem d_Mod_terms_1 : decode m_Mod_terms.2.1 1 = .ok (.iload_n 2, 1) := by decide +kernel
theorem d_Mod_terms_2 : decode m_Mod_terms.2.1 2 = .ok (.invokestatic 129, 3) := by decide +kernel
theorem d_Mod_terms_5 : decode m_Mod_terms.2.1 5 = .ok (.ifCond .ne 9, 3) := by decide +kernel
theorem d_Mod_terms_8 : decode m_Mod_terms.2.1 8 = .ok (.aload_n 0, 1) := by decide +kernel
theorem d_Mod_terms_9 : decode m_Mod_terms.2.1 9 = .ok (.iconst (-1), 1) := by decide +kernel
theorem d_Mod_terms_10 : decode m_Mod_terms.2.1 10 = .ok (.invokevirtual 119, 3) := by decide +kernel
theorem d_Mod_terms_13 : decode m_Mod_terms.2.1 13 = .ok (.ireturn, 1) := by decide +kernel
theorem d_Mod_terms_14 : decode m_Mod_terms.2.1 14 = .ok (.aload_n 0, 1) := by decide +kernel
theorem d_Mod_terms_15 : decode m_Mod_terms.2.1 15 = .ok (.getfield 32, 3) := by decide +kernel
theorem d_Mod_terms_18 : decode m_Mod_terms.2.1 18 = .ok (.iload_n 1, 1) := by decide +kernel
theorem d_Mod_terms_19 : decode m_Mod_terms.2.1 19 = .ok (.invokestatic 133, 3) := by decide +kernel
theorem d_Mod_terms_22 : decode m_Mod_terms.2.1 22 = .ok (.iaload, 1) := by decide +kernel
theorem d_Mod_terms_23 : decode m_Mod_terms.2.1 23 = .ok (.istore_n 3, 1) := by decide +kernel
theorem d_Mod_terms_24 : decode m_Mod_terms.2.1 24 = .ok (.aload_n 0, 1) := by decide +kernel
theorem d_Mod_terms_25 : decode m_Mod_terms.2.1 25 = .ok (.getfield 32, 3) := by decide +kernel
theorem d_Mod_terms_28 : decode m_Mod_terms.2.1 28 = .ok (.iload_n 1, 1) := by decide +kernel
theorem d_Mod_terms_29 : decode m_Mod_terms.2.1 29 = .ok (.invokestatic 133, 3) := by decide +kernel
theorem d_Mod_terms_32 : decode m_Mod_terms.2.1 32 = .ok (.iload_n 2, 1) := by decide +kernel
theorem d_Mod_terms_33 : decode m_Mod_terms.2.1 33 = .ok (.iastore, 1) := by decide +kernel
theorem d_Mod_terms_34 : decode m_Mod_terms.2.1 34 = .ok (.aload_n 0, 1) := by decide +kernel
theorem d_Mod_terms_35 : decode m_Mod_terms.2.1 35 = .ok (.iload_n 3, 1) := by decide +kernel
theorem d_Mod_terms_36 : decode m_Mod_terms.2.1 36 = .ok (.invokevirtual 122, 3) := by decide +kernel
theorem d_Mod_terms_39 : decode m_Mod_terms.2.1 39 = .ok (.ireturn, 1) := by decide +kernel
theorem d_Mod_isTerm_0 : decode m_Mod_isTerm.2.1 0 = .ok (.iload_n 0, 1) := by decide +kernel
theorem d_Mod_isTerm_1 : decode m_Mod_isTerm.2.1 1 = .ok (.tableswitch 52 0 2 #[27, 36, 44], 27) := by decide +kernel
theorem d_Mod_isTerm_28 : decode m_Mod_isTerm.2.1 28 = .ok (.iload_n 1, 1) := by decide +kernel
theorem d_Mod_isTerm_29 : decode m_Mod_isTerm.2.1 29 = .ok (.iconst 0, 1) := by decide +kernel
theorem d_Mod_isTerm_30 : decode m_Mod_isTerm.2.1 30 = .ok (.sipush 999, 3) := by decide +kernel
theorem d_Mod_isTerm_33 : decode m_Mod_isTerm.2.1 33 = .ok (.invokestatic 18, 3) := by decide +kernel
theorem d_Mod_isTerm_36 : decode m_Mod_isTerm.2.1 36 = .ok (.ireturn, 1) := by decide +kernel
theorem d_Mod_isTerm_37 : decode m_Mod_isTerm.2.1 37 = .ok (.iload_n 1, 1) := by decide +kernel
theorem d_Mod_isTerm_38 : decode m_Mod_isTerm.2.1 38 = .ok (.iconst 1, 1) := by decide +kernel
theorem d_Mod_isTerm_39 : decode m_Mod_isTerm.2.1 39 = .ok (.bipush 9, 2) := by decide +kernel
theorem d_Mod_isTerm_41 : decode m_Mod_isTerm.2.1 41 = .ok (.invokestatic 18, 3) := by decide +kernel
theorem d_Mod_isTerm_44 : decode m_Mod_isTerm.2.1 44 = .ok (.ireturn, 1) := by decide +kernel
theorem d_Mod_isTerm_45 : decode m_Mod_isTerm.2.1 45 = .ok (.iload_n 1, 1) := by decide +kernel
theorem d_Mod_isTerm_46 : decode m_Mod_isTerm.2.1 46 = .ok (.iconst 0, 1) := by decide +kernel
theorem d_Mod_isTerm_47 : decode m_Mod_isTerm.2.1 47 = .ok (.bipush 9, 2) := by decide +kernel
theorem d_Mod_isTerm_49 : decode m_Mod_isTerm.2.1 49 = .ok (.invokestatic 18, 3) := by decide +kernel
theorem d_Mod_isTerm_52 : decode m_Mod_isTerm.2.1 52 = .ok (.ireturn, 1) := by decide +kernel
theorem d_Mod_isTerm_53 : decode m_Mod_isTerm.2.1 53 = .ok (.iconst 0, 1) := by decide +kernel
theorem d_Mod_isTerm_54 : decode m_Mod_isTerm.2.1 54 = .ok (.ireturn, 1) := by decide +kernel
theorem d_Mod_termAt_0 : decode m_Mod_termAt.2.1 0 = .ok (.iload_n 0, 1) := by decide +kernel
theorem d_Mod_termAt_1 : decode m_Mod_termAt.2.1 1 = .ok (.ifCond .ne 8, 3) := by decide +kernel
theorem d_Mod_termAt_4 : decode m_Mod_termAt.2.1 4 = .ok (.bipush 21, 2) := by decide +kernel
theorem d_Mod_termAt_6 : decode m_Mod_termAt.2.1 6 = .ok (.goto 15, 3) := by decide +kernel
theorem d_Mod_termAt_9 : decode m_Mod_termAt.2.1 9 = .ok (.iload_n 0, 1) := by decide +kernel
theorem d_Mod_termAt_10 : decode m_Mod_termAt.2.1 10 = .ok (.iconst 1, 1) := by decide +kernel
theorem d_Mod_termAt_11 : decode m_Mod_termAt.2.1 11 = .ok (.if_icmp .ne 8, 3) := by decide +kernel
theorem d_Mod_termAt_14 : decode m_Mod_termAt.2.1 14 = .ok (.bipush 22, 2) := by decide +kernel
theorem d_Mod_termAt_16 : decode m_Mod_termAt.2.1 16 = .ok (.goto 5, 3) := by decide +kernel
theorem d_Mod_termAt_19 : decode m_Mod_termAt.2.1 19 = .ok (.bipush 23, 2) := by decide +kernel
theorem d_Mod_termAt_21 : decode m_Mod_termAt.2.1 21 = .ok (.ireturn, 1) := by decide +kernel
theorem d_Mod_row_0 : decode m_Mod_row.2.1 0 = .ok (.aload_n 0, 1) := by decide +kernel
theorem d_Mod_row_1 : decode m_Mod_row.2.1 1 = .ok (.getfield 136, 3) := by decide +kernel
theorem d_Mod_row_4 : decode m_Mod_row.2.1 4 = .ok (.istore_n 1, 1) := by decide +kernel
theorem d_Mod_row_5 : decode m_Mod_row.2.1 5 = .ok (.aload_n 0, 1) := by decide +kernel
theorem d_Mod_row_6 : decode m_Mod_row.2.1 6 = .ok (.iconst 0, 1) := by decide +kernel
theorem d_Mod_row_7 : decode m_Mod_row.2.1 7 = .ok (.putfield 136, 3) := by decide +kernel
theorem d_Mod_row_10 : decode m_Mod_row.2.1 10 = .ok (.iload_n 1, 1) := by decide +kernel
theorem d_Mod_row_11 : decode m_Mod_row.2.1 11 = .ok (.ifCond .ne 10, 3) := by decide +kernel
theorem d_Mod_row_14 : decode m_Mod_row.2.1 14 = .ok (.aload_n 0, 1) := by decide +kernel
theorem d_Mod_row_15 : decode m_Mod_row.2.1 15 = .ok (.bipush (-6), 2) := by decide +kernel
theorem d_Mod_row_17 : decode m_Mod_row.2.1 17 = .ok (.invokevirtual 119, 3) := by decide +kernel
theorem d_Mod_row_20 : decode m_Mod_row.2.1 20 = .ok (.ireturn, 1) := by decide +kernel
theorem d_Mod_row_21 : decode m_Mod_row.2.1 21 = .ok (.iconst 0, 1) := by decide +kernel
theorem d_Mod_row_22 : decode m_Mod_row.2.1 22 = .ok (.istore_n 2, 1) := by decide +kernel
theorem d_Mod_row_23 : decode m_Mod_row.2.1 23 = .ok (.aload_n 0, 1) := by decide +kernel
theorem d_Mod_row_24 : decode m_Mod_row.2.1 24 = .ok (.iconst 0, 1) := by decide +kernel
theorem d_Mod_row_25 : decode m_Mod_row.2.1 25 = .ok (.putfield 139, 3) := by decide +kernel
theorem d_Mod_row_28 : decode m_Mod_row.2.1 28 = .ok (.iconst 0, 1) := by decide +kernel
theorem d_Mod_row_29 : decode m_Mod_row.2.1 29 = .ok (.istore_n 3, 1) := by decide +kernel
theorem d_Mod_row_30 : decode m_Mod_row.2.1 30 = .ok (.iload_n 3, 1) := by decide +kernel
theorem d_Mod_row_31 : decode m_Mod_row.2.1 31 = .ok (.iload_n 1, 1) := by decide +kernel
theorem d_Mod_row_32 : decode m_Mod_row.2.1 32 = .ok (.if_icmp .ge 73, 3) := by decide +kernel
theorem d_Mod_row_35 : decode m_Mod_row.2.1 35 = .ok (.aload_n 0, 1) := by decide +kernel
theorem d_Mod_row_36 : decode m_Mod_row.2.1 36 = .ok (.invokevirtual 125, 3) := by decide +kernel
theorem d_Mod_row_39 : decode m_Mod_row.2.1 39 = .ok (.bipush 20, 2) := by decide +kernel
theorem d_Mod_row_41 : decode m_Mod_row.2.1 41 = .ok (.if_icmp .eq 15, 3) := by decide +kernel
theorem d_Mod_row_44 : decode m_Mod_row.2.1 44 = .ok (.aload_n 0, 1) := by decide +kernel
theorem d_Mod_row_45 : decode m_Mod_row.2.1 45 = .ok (.getfield 49, 3) := by decide +kernel
theorem d_Mod_row_48 : decode m_Mod_row.2.1 48 = .ok (.iload_n 3, 1) := by decide +kernel
theorem d_Mod_row_49 : decode m_Mod_row.2.1 49 = .ok (.baload, 1) := by decide +kernel
theorem d_Mod_row_50 : decode m_Mod_row.2.1 50 = .ok (.invokestatic 142, 3) := by decide +kernel
theorem d_Mod_row_53 : decode m_Mod_row.2.1 53 = .ok (.ifCond .ne 16, 3) := by decide +kernel
theorem d_Mod_row_56 : decode m_Mod_row.2.1 56 = .ok (.aload_n 0, 1) := by decide +kernel
theorem d_Mod_row_57 : decode m_Mod_row.2.1 57 = .ok (.dup, 1) := by decide +kernel
theorem d_Mod_row_58 : decode m_Mod_row.2.1 58 = .ok (.getfield 139, 3) := by decide +kernel
theorem d_Mod_row_61 : decode m_Mod_row.2.1 61 = .ok (.iconst 1, 1) := by decide +kernel
theorem d_Mod_row_62 : decode m_Mod_row.2.1 62 = .ok (.iadd, 1) := by decide +kernel
theorem d_Mod_row_63 : decode m_Mod_row.2.1 63 = .ok (.putfield 139, 3) := by decide +kernel
theorem d_Mod_row_66 : decode m_Mod_row.2.1 66 = .ok (.goto 33, 3) := by decide +kernel
theorem d_Mod_row_69 : decode m_Mod_row.2.1 69 = .ok (.aload_n 0, 1) := by decide +kernel
theorem d_Mod_row_70 : decode m_Mod_row.2.1 70 = .ok (.getfield 32, 3) := by decide +kernel
theorem d_Mod_row_73 : decode m_Mod_row.2.1 73 = .ok (.iconst 1, 1) := by decide +kernel
theorem d_Mod_row_74 : decode m_Mod_row.2.1 74 = .ok (.aload_n 0, 1) := by decide +kernel
theorem d_Mod_row_75 : decode m_Mod_row.2.1 75 = .ok (.invokevirtual 125, 3) := by decide +kernel
theorem d_Mod_row_78 : decode m_Mod_row.2.1 78 = .ok (.iadd, 1) := by decide +kernel
theorem d_Mod_row_79 : decode m_Mod_row.2.1 79 = .ok (.aload_n 0, 1) := by decide +kernel
theorem d_Mod_row_80 : decode m_Mod_row.2.1 80 = .ok (.getfield 49, 3) := by decide +kernel
theorem d_Mod_row_83 : decode m_Mod_row.2.1 83 = .ok (.iload_n 3, 1) := by decide +kernel
theorem d_Mod_row_84 : decode m_Mod_row.2.1 84 = .ok (.baload, 1) := by decide +kernel
theorem d_Mod_row_85 : decode m_Mod_row.2.1 85 = .ok (.iastore, 1) := by decide +kernel
theorem d_Mod_row_86 : decode m_Mod_row.2.1 86 = .ok (.aload_n 0, 1) := by decide +kernel
theorem d_Mod_row_87 : decode m_Mod_row.2.1 87 = .ok (.getfield 32, 3) := by decide +kernel
theorem d_Mod_row_90 : decode m_Mod_row.2.1 90 = .ok (.iconst 0, 1) := by decide +kernel
theorem d_Mod_row_91 : decode m_Mod_row.2.1 91 = .ok (.dup2, 1) := by decide +kernel
theorem d_Mod_row_92 : decode m_Mod_row.2.1 92 = .ok (.iaload, 1) := by decide +kernel
theorem d_Mod_row_93 : decode m_Mod_row.2.1 93 = .ok (.iconst 1, 1) := by decide +kernel
theorem d_Mod_row_94 : decode m_Mod_row.2.1 94 = .ok (.iadd, 1) := by decide +kernel
theorem d_Mod_row_95 : decode m_Mod_row.2.1 95 = .ok (.iastore, 1) := by decide +kernel
theorem d_Mod_row_96 : decode m_Mod_row.2.1 96 = .ok (.iinc 2 1, 3) := by decide +kernel
theorem d_Mod_row_99 : decode m_Mod_row.2.1 99 = .ok (.iinc 3 1, 3) := by decide +kernel
theorem d_Mod_row_102 : decode m_Mod_row.2.1 102 = .ok (.goto (-72), 3) := by decide +kernel
theorem d_Mod_row_105 : decode m_Mod_row.2.1 105 = .ok (.aload_n 0, 1) := by decide +kernel
theorem d_Mod_row_106 : decode m_Mod_row.2.1 106 = .ok (.iload_n 2, 1) := by decide +kernel
theorem d_Mod_row_107 : decode m_Mod_row.2.1 107 = .ok (.invokevirtual 122, 3) := by decide +kernel
theorem d_Mod_row_110 : decode m_Mod_row.2.1 110 = .ok (.ireturn, 1) := by decide +kernel
theorem d_Mod_length_0 : decode m_Mod_length.2.1 0 = .ok (.aload_n 0, 1) := by decide +kernel
theorem d_Mod_length_1 : decode m_Mod_length.2.1 1 = .ok (.getfield 32, 3) := by decide +kernel
theorem d_Mod_length_4 : decode m_Mod_length.2.1 4 = .ok (.iconst 0, 1) := by decide +kernel
theorem d_Mod_length_5 : decode m_Mod_length.2.1 5 = .ok (.iaload, 1) := by decide +kernel
theorem d_Mod_length_6 : decode m_Mod_length.2.1 6 = .ok (.ireturn, 1) := by decide +kernel
theorem d_Mod_isSign_0 : decode m_Mod_isSign.2.1 0 = .ok (.iload_n 0, 1) := by decide +kernel
theorem d_Mod_isSign_1 : decode m_Mod_isSign.2.1 1 = .ok (.iconst 0, 1) := by decide +kernel
theorem d_Mod_isSign_2 : decode m_Mod_isSign.2.1 2 = .ok (.bipush 11, 2) := by decide +kernel
theorem d_Mod_isSign_4 : decode m_Mod_isSign.2.1 4 = .ok (.invokestatic 18, 3) := by decide +kernel
theorem d_Mod_isSign_7 : decode m_Mod_isSign.2.1 7 = .ok (.ireturn, 1) := by decide +kernel
theorem d_Mod_blots_0 : decode m_Mod_blots.2.1 0 = .ok (.aload_n 0, 1) := by decide +kernel
theorem d_Mod_blots_1 : decode m_Mod_blots.2.1 1 = .ok (.getfield 139, 3) := by decide +kernel
theorem d_Mod_blots_4 : decode m_Mod_blots.2.1 4 = .ok (.ireturn, 1) := by decide +kernel
theorem d_Mod_feed_0 : decode m_Mod_feed.2.1 0 = .ok (.aload_n 0, 1) := by decide +kernel
theorem d_Mod_feed_1 : decode m_Mod_feed.2.1 1 = .ok (.getfield 136, 3) := by decide +kernel
theorem d_Mod_feed_4 : decode m_Mod_feed.2.1 4 = .ok (.bipush 20, 2) := by decide +kernel
theorem d_Mod_feed_6 : decode m_Mod_feed.2.1 6 = .ok (.iadd, 1) := by decide +kernel
theorem d_Mod_feed_7 : decode m_Mod_feed.2.1 7 = .ok (.sipush 400, 3) := by decide +kernel
theorem d_Mod_feed_10 : decode m_Mod_feed.2.1 10 = .ok (.if_icmp .le 5, 3) := by decide +kernel
theorem d_Mod_feed_13 : decode m_Mod_feed.2.1 13 = .ok (.iconst (-1), 1) := by decide +kernel
theorem d_Mod_feed_14 : decode m_Mod_feed.2.1 14 = .ok (.ireturn, 1) := by decide +kernel
theorem d_Mod_feed_15 : decode m_Mod_feed.2.1 15 = .ok (.aload_n 0, 1) := by decide +kernel
theorem d_Mod_feed_16 : decode m_Mod_feed.2.1 16 = .ok (.getfield 52, 3) := by decide +kernel
theorem d_Mod_feed_19 : decode m_Mod_feed.2.1 19 = .ok (.iconst 0, 1) := by decide +kernel
theorem d_Mod_feed_20 : decode m_Mod_feed.2.1 20 = .ok (.iload_n 1, 1) := by decide +kernel
theorem d_Mod_feed_21 : decode m_Mod_feed.2.1 21 = .ok (.iastore, 1) := by decide +kernel
theorem d_Mod_feed_22 : decode m_Mod_feed.2.1 22 = .ok (.aload_n 0, 1) := by decide +kernel
theorem d_Mod_feed_23 : decode m_Mod_feed.2.1 23 = .ok (.getfield 52, 3) := by decide +kernel
theorem d_Mod_feed_26 : decode m_Mod_feed.2.1 26 = .ok (.iconst 1, 1) := by decide +kernel
theorem d_Mod_feed_27 : decode m_Mod_feed.2.1 27 = .ok (.iload_n 2, 1) := by decide +kernel
theorem d_Mod_feed_28 : decode m_Mod_feed.2.1 28 = .ok (.iastore, 1) := by decide +kernel
theorem d_Mod_feed_29 : decode m_Mod_feed.2.1 29 = .ok (.aload_n 0, 1) := by decide +kernel
theorem d_Mod_feed_30 : decode m_Mod_feed.2.1 30 = .ok (.getfield 52, 3) := by decide +kernel
theorem d_Mod_feed_33 : decode m_Mod_feed.2.1 33 = .ok (.iconst 2, 1) := by decide +kernel
theorem d_Mod_feed_34 : decode m_Mod_feed.2.1 34 = .ok (.iload_n 3, 1) := by decide +kernel
theorem d_Mod_feed_35 : decode m_Mod_feed.2.1 35 = .ok (.iastore, 1) := by decide +kernel
theorem d_Mod_feed_36 : decode m_Mod_feed.2.1 36 = .ok (.aload_n 0, 1) := by decide +kernel
theorem d_Mod_feed_37 : decode m_Mod_feed.2.1 37 = .ok (.getfield 52, 3) := by decide +kernel
theorem d_Mod_feed_40 : decode m_Mod_feed.2.1 40 = .ok (.iconst 3, 1) := by decide +kernel
theorem d_Mod_feed_41 : decode m_Mod_feed.2.1 41 = .ok (.iload 4, 2) := by decide +kernel
theorem d_Mod_feed_43 : decode m_Mod_feed.2.1 43 = .ok (.iastore, 1) := by decide +kernel
theorem d_Mod_feed_44 : decode m_Mod_feed.2.1 44 = .ok (.aload_n 0, 1) := by decide +kernel
theorem d_Mod_feed_45 : decode m_Mod_feed.2.1 45 = .ok (.getfield 52, 3) := by decide +kernel
theorem d_Mod_feed_48 : decode m_Mod_feed.2.1 48 = .ok (.iconst 4, 1) := by decide +kernel
theorem d_Mod_feed_49 : decode m_Mod_feed.2.1 49 = .ok (.iload 5, 2) := by decide +kernel
theorem d_Mod_feed_51 : decode m_Mod_feed.2.1 51 = .ok (.iastore, 1) := by decide +kernel
theorem d_Mod_feed_52 : decode m_Mod_feed.2.1 52 = .ok (.iconst 0, 1) := by decide +kernel
theorem d_Mod_feed_53 : decode m_Mod_feed.2.1 53 = .ok (.istore 6, 2) := by decide +kernel
theorem d_Mod_feed_55 : decode m_Mod_feed.2.1 55 = .ok (.iload 6, 2) := by decide +kernel
theorem d_Mod_feed_57 : decode m_Mod_feed.2.1 57 = .ok (.bipush 20, 2) := by decide +kernel
theorem d_Mod_feed_59 : decode m_Mod_feed.2.1 59 = .ok (.if_icmp .ge 42, 3) := by decide +kernel
theorem d_Mod_feed_62 : decode m_Mod_feed.2.1 62 = .ok (.aload_n 0, 1) := by decide +kernel
theorem d_Mod_feed_63 : decode m_Mod_feed.2.1 63 = .ok (.getfield 49, 3) := by decide +kernel
theorem d_Mod_feed_66 : decode m_Mod_feed.2.1 66 = .ok (.aload_n 0, 1) := by decide +kernel
theorem d_Mod_feed_67 : decode m_Mod_feed.2.1 67 = .ok (.getfield 136, 3) := by decide +kernel
theorem d_Mod_feed_70 : decode m_Mod_feed.2.1 70 = .ok (.iload 6, 2) := by decide +kernel
theorem d_Mod_feed_72 : decode m_Mod_feed.2.1 72 = .ok (.iadd, 1) := by decide +kernel
theorem d_Mod_feed_73 : decode m_Mod_feed.2.1 73 = .ok (.aload_n 0, 1) := by decide +kernel
theorem d_Mod_feed_74 : decode m_Mod_feed.2.1 74 = .ok (.getfield 52, 3) := by decide +kernel
theorem d_Mod_feed_77 : decode m_Mod_feed.2.1 77 = .ok (.iload 6, 2) := by decide +kernel
theorem d_Mod_feed_79 : decode m_Mod_feed.2.1 79 = .ok (.iconst 4, 1) := by decide +kernel
theorem d_Mod_feed_80 : decode m_Mod_feed.2.1 80 = .ok (.idiv, 1) := by decide +kernel
theorem d_Mod_feed_81 : decode m_Mod_feed.2.1 81 = .ok (.iaload, 1) := by decide +kernel
theorem d_Mod_feed_82 : decode m_Mod_feed.2.1 82 = .ok (.bipush 24, 2) := by decide +kernel
theorem d_Mod_feed_84 : decode m_Mod_feed.2.1 84 = .ok (.bipush 8, 2) := by decide +kernel
theorem d_Mod_feed_86 : decode m_Mod_feed.2.1 86 = .ok (.iload 6, 2) := by decide +kernel
theorem d_Mod_feed_88 : decode m_Mod_feed.2.1 88 = .ok (.iconst 4, 1) := by decide +kernel
theorem d_Mod_feed_89 : decode m_Mod_feed.2.1 89 = .ok (.irem, 1) := by decide +kernel
theorem d_Mod_feed_90 : decode m_Mod_feed.2.1 90 = .ok (.imul, 1) := by decide +kernel
theorem d_Mod_feed_91 : decode m_Mod_feed.2.1 91 = .ok (.isub, 1) := by decide +kernel
theorem d_Mod_feed_92 : decode m_Mod_feed.2.1 92 = .ok (.ishr, 1) := by decide +kernel
theorem d_Mod_feed_93 : decode m_Mod_feed.2.1 93 = .ok (.i2b, 1) := by decide +kernel
theorem d_Mod_feed_94 : decode m_Mod_feed.2.1 94 = .ok (.bastore, 1) := by decide +kernel
theorem d_Mod_feed_95 : decode m_Mod_feed.2.1 95 = .ok (.iinc 6 1, 3) := by decide +kernel
theorem d_Mod_feed_98 : decode m_Mod_feed.2.1 98 = .ok (.goto (-43), 3) := by decide +kernel
theorem d_Mod_feed_101 : decode m_Mod_feed.2.1 101 = .ok (.aload_n 0, 1) := by decide +kernel
theorem d_Mod_feed_102 : decode m_Mod_feed.2.1 102 = .ok (.dup, 1) := by decide +kernel
theorem d_Mod_feed_103 : decode m_Mod_feed.2.1 103 = .ok (.getfield 136, 3) := by decide +kernel
theorem d_Mod_feed_106 : decode m_Mod_feed.2.1 106 = .ok (.bipush 20, 2) := by decide +kernel
theorem d_Mod_feed_108 : decode m_Mod_feed.2.1 108 = .ok (.iadd, 1) := by decide +kernel
theorem d_Mod_feed_109 : decode m_Mod_feed.2.1 109 = .ok (.putfield 136, 3) := by decide +kernel
theorem d_Mod_feed_112 : decode m_Mod_feed.2.1 112 = .ok (.aload_n 0, 1) := by decide +kernel
theorem d_Mod_feed_113 : decode m_Mod_feed.2.1 113 = .ok (.getfield 136, 3) := by decide +kernel
theorem d_Mod_feed_116 : decode m_Mod_feed.2.1 116 = .ok (.ireturn, 1) := by decide +kernel
theorem d_Mod_end_0 : decode m_Mod_end.2.1 0 = .ok (.iload_n 1, 1) := by decide +kernel
theorem d_Mod_end_1 : decode m_Mod_end.2.1 1 = .ok (.iconst 0, 1) := by decide +kernel
theorem d_Mod_end_2 : decode m_Mod_end.2.1 2 = .ok (.aload_n 0, 1) := by decide +kernel
theorem d_Mod_end_3 : decode m_Mod_end.2.1 3 = .ok (.getfield 136, 3) := by decide +kernel
theorem d_Mod_end_6 : decode m_Mod_end.2.1 6 = .ok (.invokestatic 18, 3) := by decide +kernel
theorem d_Mod_end_9 : decode m_Mod_end.2.1 9 = .ok (.ifCond .ne 5, 3) := by decide +kernel
theorem d_Mod_end_12 : decode m_Mod_end.2.1 12 = .ok (.iconst (-1), 1) := by decide +kernel
theorem d_Mod_end_13 : decode m_Mod_end.2.1 13 = .ok (.ireturn, 1) := by decide +kernel
theorem d_Mod_end_14 : decode m_Mod_end.2.1 14 = .ok (.aload_n 0, 1) := by decide +kernel
theorem d_Mod_end_15 : decode m_Mod_end.2.1 15 = .ok (.iload_n 1, 1) := by decide +kernel
theorem d_Mod_end_16 : decode m_Mod_end.2.1 16 = .ok (.putfield 136, 3) := by decide +kernel
theorem d_Mod_end_19 : decode m_Mod_end.2.1 19 = .ok (.iload_n 1, 1) := by decide +kernel
theorem d_Mod_end_20 : decode m_Mod_end.2.1 20 = .ok (.ireturn, 1) := by decide +kernel
theorem d_Mod_law_0 : decode m_Mod_law.2.1 0 = .ok (.aload_n 0, 1) := by decide +kernel
theorem d_Mod_law_1 : decode m_Mod_law.2.1 1 = .ok (.getfield 32, 3) := by decide +kernel
theorem d_Mod_law_4 : decode m_Mod_law.2.1 4 = .ok (.bipush 24, 2) := by decide +kernel
theorem d_Mod_law_6 : decode m_Mod_law.2.1 6 = .ok (.iaload, 1) := by decide +kernel
theorem d_Mod_law_7 : decode m_Mod_law.2.1 7 = .ok (.bipush 6, 2) := by decide +kernel
theorem d_Mod_law_9 : decode m_Mod_law.2.1 9 = .ok (.if_icmp .ne 15, 3) := by decide +kernel
theorem d_Mod_law_12 : decode m_Mod_law.2.1 12 = .ok (.aload_n 0, 1) := by decide +kernel
theorem d_Mod_law_13 : decode m_Mod_law.2.1 13 = .ok (.iconst 0, 1) := by decide +kernel
theorem d_Mod_law_14 : decode m_Mod_law.2.1 14 = .ok (.putfield 136, 3) := by decide +kernel
theorem d_Mod_law_17 : decode m_Mod_law.2.1 17 = .ok (.aload_n 0, 1) := by decide +kernel
theorem d_Mod_law_18 : decode m_Mod_law.2.1 18 = .ok (.bipush (-5), 2) := by decide +kernel
theorem d_Mod_law_20 : decode m_Mod_law.2.1 20 = .ok (.invokevirtual 119, 3) := by decide +kernel
theorem d_Mod_law_23 : decode m_Mod_law.2.1 23 = .ok (.ireturn, 1) := by decide +kernel
theorem d_Mod_law_24 : decode m_Mod_law.2.1 24 = .ok (.aload_n 0, 1) := by decide +kernel
theorem d_Mod_law_25 : decode m_Mod_law.2.1 25 = .ok (.iconst 0, 1) := by decide +kernel
theorem d_Mod_law_26 : decode m_Mod_law.2.1 26 = .ok (.invokevirtual 236, 3) := by decide +kernel
theorem d_Mod_law_29 : decode m_Mod_law.2.1 29 = .ok (.ifCond .ne 10, 3) := by decide +kernel
theorem d_Mod_law_32 : decode m_Mod_law.2.1 32 = .ok (.aload_n 0, 1) := by decide +kernel
theorem d_Mod_law_33 : decode m_Mod_law.2.1 33 = .ok (.bipush (-6), 2) := by decide +kernel
theorem d_Mod_law_35 : decode m_Mod_law.2.1 35 = .ok (.invokevirtual 119, 3) := by decide +kernel
theorem d_Mod_law_38 : decode m_Mod_law.2.1 38 = .ok (.ireturn, 1) := by decide +kernel
theorem d_Mod_law_39 : decode m_Mod_law.2.1 39 = .ok (.aload_n 0, 1) := by decide +kernel
theorem d_Mod_law_40 : decode m_Mod_law.2.1 40 = .ok (.aload_n 0, 1) := by decide +kernel
theorem d_Mod_law_41 : decode m_Mod_law.2.1 41 = .ok (.getfield 32, 3) := by decide +kernel
theorem d_Mod_law_44 : decode m_Mod_law.2.1 44 = .ok (.bipush 24, 2) := by decide +kernel
theorem d_Mod_law_46 : decode m_Mod_law.2.1 46 = .ok (.iaload, 1) := by decide +kernel
theorem d_Mod_law_47 : decode m_Mod_law.2.1 47 = .ok (.invokevirtual 240, 3) := by decide +kernel
theorem d_Mod_law_50 : decode m_Mod_law.2.1 50 = .ok (.aload_n 0, 1) := by decide +kernel
theorem d_Mod_law_51 : decode m_Mod_law.2.1 51 = .ok (.getfield 32, 3) := by decide +kernel
theorem d_Mod_law_54 : decode m_Mod_law.2.1 54 = .ok (.bipush 24, 2) := by decide +kernel
theorem d_Mod_law_56 : decode m_Mod_law.2.1 56 = .ok (.dup2, 1) := by decide +kernel
theorem d_Mod_law_57 : decode m_Mod_law.2.1 57 = .ok (.iaload, 1) := by decide +kernel
theorem d_Mod_law_58 : decode m_Mod_law.2.1 58 = .ok (.iconst 1, 1) := by decide +kernel
theorem d_Mod_law_59 : decode m_Mod_law.2.1 59 = .ok (.iadd, 1) := by decide +kernel
theorem d_Mod_law_60 : decode m_Mod_law.2.1 60 = .ok (.iastore, 1) := by decide +kernel
theorem d_Mod_law_61 : decode m_Mod_law.2.1 61 = .ok (.aload_n 0, 1) := by decide +kernel
theorem d_Mod_law_62 : decode m_Mod_law.2.1 62 = .ok (.aload_n 0, 1) := by decide +kernel
theorem d_Mod_law_63 : decode m_Mod_law.2.1 63 = .ok (.getfield 32, 3) := by decide +kernel
theorem d_Mod_law_66 : decode m_Mod_law.2.1 66 = .ok (.bipush 24, 2) := by decide +kernel
theorem d_Mod_law_68 : decode m_Mod_law.2.1 68 = .ok (.iaload, 1) := by decide +kernel
theorem d_Mod_law_69 : decode m_Mod_law.2.1 69 = .ok (.iconst 1, 1) := by decide +kernel
theorem d_Mod_law_70 : decode m_Mod_law.2.1 70 = .ok (.isub, 1) := by decide +kernel
theorem d_Mod_law_71 : decode m_Mod_law.2.1 71 = .ok (.invokevirtual 14, 3) := by decide +kernel
theorem d_Mod_law_74 : decode m_Mod_law.2.1 74 = .ok (.ireturn, 1) := by decide +kernel
theorem d_Mod_readsAs_0 : decode m_Mod_readsAs.2.1 0 = .ok (.aload_n 0, 1) := by decide +kernel
theorem d_Mod_readsAs_1 : decode m_Mod_readsAs.2.1 1 = .ok (.iload_n 1, 1) := by decide +kernel
theorem d_Mod_readsAs_2 : decode m_Mod_readsAs.2.1 2 = .ok (.putfield 192, 3) := by decide +kernel
theorem d_Mod_readsAs_5 : decode m_Mod_readsAs.2.1 5 = .ok (.aload_n 0, 1) := by decide +kernel
theorem d_Mod_readsAs_6 : decode m_Mod_readsAs.2.1 6 = .ok (.iload_n 1, 1) := by decide +kernel
theorem d_Mod_readsAs_7 : decode m_Mod_readsAs.2.1 7 = .ok (.ifCond .eq 8, 3) := by decide +kernel
theorem d_Mod_readsAs_10 : decode m_Mod_readsAs.2.1 10 = .ok (.bipush 14, 2) := by decide +kernel
theorem d_Mod_readsAs_12 : decode m_Mod_readsAs.2.1 12 = .ok (.goto 5, 3) := by decide +kernel
theorem d_Mod_readsAs_15 : decode m_Mod_readsAs.2.1 15 = .ok (.bipush 9, 2) := by decide +kernel
theorem d_Mod_readsAs_17 : decode m_Mod_readsAs.2.1 17 = .ok (.putfield 218, 3) := by decide +kernel
theorem d_Mod_readsAs_20 : decode m_Mod_readsAs.2.1 20 = .ok (.aload_n 0, 1) := by decide +kernel
theorem d_Mod_readsAs_21 : decode m_Mod_readsAs.2.1 21 = .ok (.iload_n 1, 1) := by decide +kernel
theorem d_Mod_readsAs_22 : decode m_Mod_readsAs.2.1 22 = .ok (.ifCond .eq 8, 3) := by decide +kernel
theorem d_Mod_readsAs_25 : decode m_Mod_readsAs.2.1 25 = .ok (.bipush 20, 2) := by decide +kernel
theorem d_Mod_readsAs_27 : decode m_Mod_readsAs.2.1 27 = .ok (.goto 5, 3) := by decide +kernel
theorem d_Mod_readsAs_30 : decode m_Mod_readsAs.2.1 30 = .ok (.bipush 16, 2) := by decide +kernel
theorem d_Mod_readsAs_32 : decode m_Mod_readsAs.2.1 32 = .ok (.putfield 221, 3) := by decide +kernel
theorem d_Mod_readsAs_35 : decode m_Mod_readsAs.2.1 35 = .ok (.aload_n 0, 1) := by decide +kernel
theorem d_Mod_readsAs_36 : decode m_Mod_readsAs.2.1 36 = .ok (.invokevirtual 233, 3) := by decide +kernel
theorem d_Mod_readsAs_39 : decode m_Mod_readsAs.2.1 39 = .ok (.ireturn, 1) := by decide +kernel
theorem d_Mod_reads_0 : decode m_Mod_reads.2.1 0 = .ok (.aload_n 0, 1) := by decide +kernel
theorem d_Mod_reads_1 : decode m_Mod_reads.2.1 1 = .ok (.aload_n 0, 1) := by decide +kernel
theorem d_Mod_reads_2 : decode m_Mod_reads.2.1 2 = .ok (.getfield 136, 3) := by decide +kernel
theorem d_Mod_reads_5 : decode m_Mod_reads.2.1 5 = .ok (.invokevirtual 227, 3) := by decide +kernel
theorem d_Mod_reads_8 : decode m_Mod_reads.2.1 8 = .ok (.aload_n 0, 1) := by decide +kernel
theorem d_Mod_reads_9 : decode m_Mod_reads.2.1 9 = .ok (.iconst 0, 1) := by decide +kernel
theorem d_Mod_reads_10 : decode m_Mod_reads.2.1 10 = .ok (.putfield 136, 3) := by decide +kernel
theorem d_Mod_reads_13 : decode m_Mod_reads.2.1 13 = .ok (.aload_n 0, 1) := by decide +kernel
theorem d_Mod_reads_14 : decode m_Mod_reads.2.1 14 = .ok (.iconst 0, 1) := by decide +kernel
theorem d_Mod_reads_15 : decode m_Mod_reads.2.1 15 = .ok (.putfield 166, 3) := by decide +kernel
theorem d_Mod_reads_18 : decode m_Mod_reads.2.1 18 = .ok (.aload_n 0, 1) := by decide +kernel
theorem d_Mod_reads_19 : decode m_Mod_reads.2.1 19 = .ok (.iconst 0, 1) := by decide +kernel
theorem d_Mod_reads_20 : decode m_Mod_reads.2.1 20 = .ok (.putfield 175, 3) := by decide +kernel
theorem d_Mod_reads_23 : decode m_Mod_reads.2.1 23 = .ok (.aload_n 0, 1) := by decide +kernel
theorem d_Mod_reads_24 : decode m_Mod_reads.2.1 24 = .ok (.iconst (-1), 1) := by decide +kernel
theorem d_Mod_reads_25 : decode m_Mod_reads.2.1 25 = .ok (.putfield 159, 3) := by decide +kernel
theorem d_Mod_reads_28 : decode m_Mod_reads.2.1 28 = .ok (.aload_n 0, 1) := by decide +kernel
theorem d_Mod_reads_29 : decode m_Mod_reads.2.1 29 = .ok (.invokevirtual 230, 3) := by decide +kernel
theorem d_Mod_reads_32 : decode m_Mod_reads.2.1 32 = .ok (.iconst 1, 1) := by decide +kernel
theorem d_Mod_reads_33 : decode m_Mod_reads.2.1 33 = .ok (.istore_n 1, 1) := by decide +kernel
theorem d_Mod_reads_34 : decode m_Mod_reads.2.1 34 = .ok (.aload_n 0, 1) := by decide +kernel
theorem d_Mod_reads_35 : decode m_Mod_reads.2.1 35 = .ok (.bipush 59, 2) := by decide +kernel
theorem d_Mod_reads_37 : decode m_Mod_reads.2.1 37 = .ok (.invokestatic 208, 3) := by decide +kernel
theorem d_Mod_reads_40 : decode m_Mod_reads.2.1 40 = .ok (.invokevirtual 169, 3) := by decide +kernel
theorem d_Mod_reads_43 : decode m_Mod_reads.2.1 43 = .ok (.ifCond .eq 30, 3) := by decide +kernel
theorem d_Mod_reads_46 : decode m_Mod_reads.2.1 46 = .ok (.iload_n 1, 1) := by decide +kernel
theorem d_Mod_reads_47 : decode m_Mod_reads.2.1 47 = .ok (.bipush 12, 2) := by decide +kernel
theorem d_Mod_reads_49 : decode m_Mod_reads.2.1 49 = .ok (.if_icmp .ne 7, 3) := by decide +kernel
theorem d_Mod_reads_52 : decode m_Mod_reads.2.1 52 = .ok (.aload_n 0, 1) := by decide +kernel
theorem d_Mod_reads_53 : decode m_Mod_reads.2.1 53 = .ok (.invokevirtual 172, 3) := by decide +kernel
theorem d_Mod_reads_56 : decode m_Mod_reads.2.1 56 = .ok (.aload_n 0, 1) := by decide +kernel
theorem d_Mod_reads_57 : decode m_Mod_reads.2.1 57 = .ok (.invokevirtual 162, 3) := by decide +kernel
theorem d_Mod_reads_60 : decode m_Mod_reads.2.1 60 = .ok (.ifCond .eq 7, 3) := by decide +kernel
theorem d_Mod_reads_63 : decode m_Mod_reads.2.1 63 = .ok (.aload_n 0, 1) := by decide +kernel
theorem d_Mod_reads_64 : decode m_Mod_reads.2.1 64 = .ok (.invokevirtual 230, 3) := by decide +kernel
theorem d_Mod_reads_67 : decode m_Mod_reads.2.1 67 = .ok (.iinc 1 1, 3) := by decide +kernel
theorem d_Mod_reads_70 : decode m_Mod_reads.2.1 70 = .ok (.goto (-36), 3) := by decide +kernel
theorem d_Mod_reads_73 : decode m_Mod_reads.2.1 73 = .ok (.aload_n 0, 1) := by decide +kernel
theorem d_Mod_reads_74 : decode m_Mod_reads.2.1 74 = .ok (.invokevirtual 162, 3) := by decide +kernel
theorem d_Mod_reads_77 : decode m_Mod_reads.2.1 77 = .ok (.ifCond .eq 18, 3) := by decide +kernel
theorem d_Mod_reads_80 : decode m_Mod_reads.2.1 80 = .ok (.aload_n 0, 1) := by decide +kernel
theorem d_Mod_reads_81 : decode m_Mod_reads.2.1 81 = .ok (.getfield 166, 3) := by decide +kernel
theorem d_Mod_reads_84 : decode m_Mod_reads.2.1 84 = .ok (.aload_n 0, 1) := by decide +kernel
theorem d_Mod_reads_85 : decode m_Mod_reads.2.1 85 = .ok (.getfield 145, 3) := by decide +kernel
theorem d_Mod_reads_88 : decode m_Mod_reads.2.1 88 = .ok (.if_icmp .ge 7, 3) := by decide +kernel
theorem d_Mod_reads_91 : decode m_Mod_reads.2.1 91 = .ok (.aload_n 0, 1) := by decide +kernel
theorem d_Mod_reads_92 : decode m_Mod_reads.2.1 92 = .ok (.invokevirtual 172, 3) := by decide +kernel
theorem d_Mod_reads_95 : decode m_Mod_reads.2.1 95 = .ok (.aload_n 0, 1) := by decide +kernel
theorem d_Mod_reads_96 : decode m_Mod_reads.2.1 96 = .ok (.aload_n 0, 1) := by decide +kernel
theorem d_Mod_reads_97 : decode m_Mod_reads.2.1 97 = .ok (.getfield 159, 3) := by decide +kernel
theorem d_Mod_reads_100 : decode m_Mod_reads.2.1 100 = .ok (.putfield 55, 3) := by decide +kernel
theorem d_Mod_reads_103 : decode m_Mod_reads.2.1 103 = .ok (.aload_n 0, 1) := by decide +kernel
theorem d_Mod_reads_104 : decode m_Mod_reads.2.1 104 = .ok (.invokevirtual 162, 3) := by decide +kernel
theorem d_Mod_reads_107 : decode m_Mod_reads.2.1 107 = .ok (.ireturn, 1) := by decide +kernel
theorem d_Mod_splits_0 : decode m_Mod_splits.2.1 0 = .ok (.aload_n 0, 1) := by decide +kernel
theorem d_Mod_splits_1 : decode m_Mod_splits.2.1 1 = .ok (.iconst 0, 1) := by decide +kernel
theorem d_Mod_splits_2 : decode m_Mod_splits.2.1 2 = .ok (.putfield 145, 3) := by decide +kernel
theorem d_Mod_splits_5 : decode m_Mod_splits.2.1 5 = .ok (.iconst 0, 1) := by decide +kernel
theorem d_Mod_splits_6 : decode m_Mod_splits.2.1 6 = .ok (.istore_n 2, 1) := by decide +kernel
theorem d_Mod_splits_7 : decode m_Mod_splits.2.1 7 = .ok (.iload_n 2, 1) := by decide +kernel
theorem d_Mod_splits_8 : decode m_Mod_splits.2.1 8 = .ok (.iload_n 1, 1) := by decide +kernel
theorem d_Mod_splits_9 : decode m_Mod_splits.2.1 9 = .ok (.if_icmp .ge 254, 3) := by decide +kernel
theorem d_Mod_splits_12 : decode m_Mod_splits.2.1 12 = .ok (.aload_n 0, 1) := by decide +kernel
theorem d_Mod_splits_13 : decode m_Mod_splits.2.1 13 = .ok (.getfield 49, 3) := by decide +kernel
theorem d_Mod_splits_16 : decode m_Mod_splits.2.1 16 = .ok (.iload_n 2, 1) := by decide +kernel
theorem d_Mod_splits_17 : decode m_Mod_splits.2.1 17 = .ok (.baload, 1) := by decide +kernel
theorem d_Mod_splits_18 : decode m_Mod_splits.2.1 18 = .ok (.istore_n 3, 1) := by decide +kernel
theorem d_Mod_splits_19 : decode m_Mod_splits.2.1 19 = .ok (.iload_n 3, 1) := by decide +kernel
theorem d_Mod_splits_20 : decode m_Mod_splits.2.1 20 = .ok (.bipush 32, 2) := by decide +kernel
theorem d_Mod_splits_22 : decode m_Mod_splits.2.1 22 = .ok (.if_icmp .ne 9, 3) := by decide +kernel
theorem d_Mod_splits_25 : decode m_Mod_splits.2.1 25 = .ok (.iinc 2 1, 3) := by decide +kernel
theorem d_Mod_splits_28 : decode m_Mod_splits.2.1 28 = .ok (.goto (-21), 3) := by decide +kernel
theorem d_Mod_splits_31 : decode m_Mod_splits.2.1 31 = .ok (.iload_n 2, 1) := by decide +kernel
theorem d_Mod_splits_32 : decode m_Mod_splits.2.1 32 = .ok (.iconst 1, 1) := by decide +kernel
theorem d_Mod_splits_33 : decode m_Mod_splits.2.1 33 = .ok (.iadd, 1) := by decide +kernel
theorem d_Mod_splits_34 : decode m_Mod_splits.2.1 34 = .ok (.istore 4, 2) := by decide +kernel
theorem d_Mod_splits_36 : decode m_Mod_splits.2.1 36 = .ok (.iload_n 3, 1) := by decide +kernel
theorem d_Mod_splits_37 : decode m_Mod_splits.2.1 37 = .ok (.invokestatic 148, 3) := by decide +kernel
theorem d_Mod_splits_40 : decode m_Mod_splits.2.1 40 = .ok (.ifCond .eq 28, 3) := by decide +kernel
theorem d_Mod_splits_43 : decode m_Mod_splits.2.1 43 = .ok (.iload 4, 2) := by decide +kernel
theorem d_Mod_splits_45 : decode m_Mod_splits.2.1 45 = .ok (.iload_n 1, 1) := by decide +kernel
theorem d_Mod_splits_46 : decode m_Mod_splits.2.1 46 = .ok (.if_icmp .ge 22, 3) := by decide +kernel
theorem d_Mod_splits_49 : decode m_Mod_splits.2.1 49 = .ok (.aload_n 0, 1) := by decide +kernel
theorem d_Mod_splits_50 : decode m_Mod_splits.2.1 50 = .ok (.getfield 49, 3) := by decide +kernel
theorem d_Mod_splits_53 : decode m_Mod_splits.2.1 53 = .ok (.iload 4, 2) := by decide +kernel
theorem d_Mod_splits_55 : decode m_Mod_splits.2.1 55 = .ok (.baload, 1) := by decide +kernel
theorem d_Mod_splits_56 : decode m_Mod_splits.2.1 56 = .ok (.invokestatic 148, 3) := by decide +kernel
theorem d_Mod_splits_59 : decode m_Mod_splits.2.1 59 = .ok (.ifCond .eq 9, 3) := by decide +kernel
theorem d_Mod_splits_62 : decode m_Mod_splits.2.1 62 = .ok (.iinc 4 1, 3) := by decide +kernel
theorem d_Mod_splits_65 : decode m_Mod_splits.2.1 65 = .ok (.goto (-22), 3) := by decide +kernel
theorem d_Mod_splits_68 : decode m_Mod_splits.2.1 68 = .ok (.iload_n 3, 1) := by decide +kernel
theorem d_Mod_splits_69 : decode m_Mod_splits.2.1 69 = .ok (.invokestatic 151, 3) := by decide +kernel
theorem d_Mod_splits_72 : decode m_Mod_splits.2.1 72 = .ok (.ifCond .eq 28, 3) := by decide +kernel
theorem d_Mod_splits_75 : decode m_Mod_splits.2.1 75 = .ok (.iload 4, 2) := by decide +kernel
theorem d_Mod_splits_77 : decode m_Mod_splits.2.1 77 = .ok (.iload_n 1, 1) := by decide +kernel
theorem d_Mod_splits_78 : decode m_Mod_splits.2.1 78 = .ok (.if_icmp .ge 22, 3) := by decide +kernel
theorem d_Mod_splits_81 : decode m_Mod_splits.2.1 81 = .ok (.aload_n 0, 1) := by decide +kernel
theorem d_Mod_splits_82 : decode m_Mod_splits.2.1 82 = .ok (.getfield 49, 3) := by decide +kernel
theorem d_Mod_splits_85 : decode m_Mod_splits.2.1 85 = .ok (.iload 4, 2) := by decide +kernel
theorem d_Mod_splits_87 : decode m_Mod_splits.2.1 87 = .ok (.baload, 1) := by decide +kernel
theorem d_Mod_splits_88 : decode m_Mod_splits.2.1 88 = .ok (.invokestatic 151, 3) := by decide +kernel
theorem d_Mod_splits_91 : decode m_Mod_splits.2.1 91 = .ok (.ifCond .eq 9, 3) := by decide +kernel
theorem d_Mod_splits_94 : decode m_Mod_splits.2.1 94 = .ok (.iinc 4 1, 3) := by decide +kernel
theorem d_Mod_splits_97 : decode m_Mod_splits.2.1 97 = .ok (.goto (-22), 3) := by decide +kernel
theorem d_Mod_splits_100 : decode m_Mod_splits.2.1 100 = .ok (.aload_n 0, 1) := by decide +kernel
theorem d_Mod_splits_101 : decode m_Mod_splits.2.1 101 = .ok (.getfield 64, 3) := by decide +kernel
theorem d_Mod_splits_104 : decode m_Mod_splits.2.1 104 = .ok (.aload_n 0, 1) := by decide +kernel
theorem d_Mod_splits_105 : decode m_Mod_splits.2.1 105 = .ok (.getfield 145, 3) := by decide +kernel
theorem d_Mod_splits_108 : decode m_Mod_splits.2.1 108 = .ok (.iload_n 2, 1) := by decide +kernel
theorem d_Mod_splits_109 : decode m_Mod_splits.2.1 109 = .ok (.iastore, 1) := by decide +kernel
theorem d_Mod_splits_110 : decode m_Mod_splits.2.1 110 = .ok (.aload_n 0, 1) := by decide +kernel
theorem d_Mod_splits_111 : decode m_Mod_splits.2.1 111 = .ok (.getfield 61, 3) := by decide +kernel
theorem d_Mod_splits_114 : decode m_Mod_splits.2.1 114 = .ok (.aload_n 0, 1) := by decide +kernel
theorem d_Mod_splits_115 : decode m_Mod_splits.2.1 115 = .ok (.getfield 145, 3) := by decide +kernel
theorem d_Mod_splits_118 : decode m_Mod_splits.2.1 118 = .ok (.iconst 0, 1) := by decide +kernel
theorem d_Mod_splits_119 : decode m_Mod_splits.2.1 119 = .ok (.iastore, 1) := by decide +kernel
theorem d_Mod_splits_120 : decode m_Mod_splits.2.1 120 = .ok (.aload_n 0, 1) := by decide +kernel
theorem d_Mod_splits_121 : decode m_Mod_splits.2.1 121 = .ok (.getfield 58, 3) := by decide +kernel
theorem d_Mod_splits_124 : decode m_Mod_splits.2.1 124 = .ok (.aload_n 0, 1) := by decide +kernel
theorem d_Mod_splits_125 : decode m_Mod_splits.2.1 125 = .ok (.getfield 145, 3) := by decide +kernel
theorem d_Mod_splits_128 : decode m_Mod_splits.2.1 128 = .ok (.iload_n 3, 1) := by decide +kernel
theorem d_Mod_splits_129 : decode m_Mod_splits.2.1 129 = .ok (.invokestatic 148, 3) := by decide +kernel
theorem d_Mod_splits_132 : decode m_Mod_splits.2.1 132 = .ok (.ifCond .eq 13, 3) := by decide +kernel
theorem d_Mod_splits_135 : decode m_Mod_splits.2.1 135 = .ok (.aload_n 0, 1) := by decide +kernel
theorem d_Mod_splits_136 : decode m_Mod_splits.2.1 136 = .ok (.iload_n 2, 1) := by decide +kernel
theorem d_Mod_splits_137 : decode m_Mod_splits.2.1 137 = .ok (.iload 4, 2) := by decide +kernel
theorem d_Mod_splits_139 : decode m_Mod_splits.2.1 139 = .ok (.invokevirtual 154, 3) := by decide +kernel
theorem d_Mod_splits_142 : decode m_Mod_splits.2.1 142 = .ok (.goto 23, 3) := by decide +kernel
theorem d_Mod_splits_145 : decode m_Mod_splits.2.1 145 = .ok (.iload_n 3, 1) := by decide +kernel
theorem d_Mod_splits_146 : decode m_Mod_splits.2.1 146 = .ok (.invokestatic 151, 3) := by decide +kernel
theorem d_Mod_splits_149 : decode m_Mod_splits.2.1 149 = .ok (.ifCond .eq 8, 3) := by decide +kernel
theorem d_Mod_splits_152 : decode m_Mod_splits.2.1 152 = .ok (.bipush 50, 2) := by decide +kernel
theorem d_Mod_splits_154 : decode m_Mod_splits.2.1 154 = .ok (.goto 11, 3) := by decide +kernel
theorem d_Mod_splits_157 : decode m_Mod_splits.2.1 157 = .ok (.bipush 100, 2) := by decide +kernel
theorem d_Mod_splits_159 : decode m_Mod_splits.2.1 159 = .ok (.iload_n 3, 1) := by decide +kernel
theorem d_Mod_splits_160 : decode m_Mod_splits.2.1 160 = .ok (.sipush 255, 3) := by decide +kernel
theorem d_Mod_splits_163 : decode m_Mod_splits.2.1 163 = .ok (.iand, 1) := by decide +kernel
theorem d_Mod_splits_164 : decode m_Mod_splits.2.1 164 = .ok (.iadd, 1) := by decide +kernel
theorem d_Mod_splits_165 : decode m_Mod_splits.2.1 165 = .ok (.iastore, 1) := by decide +kernel
theorem d_Mod_splits_166 : decode m_Mod_splits.2.1 166 = .ok (.iload_n 2, 1) := by decide +kernel
theorem d_Mod_splits_167 : decode m_Mod_splits.2.1 167 = .ok (.istore 5, 2) := by decide +kernel
theorem d_Mod_splits_169 : decode m_Mod_splits.2.1 169 = .ok (.iload 5, 2) := by decide +kernel
theorem d_Mod_splits_171 : decode m_Mod_splits.2.1 171 = .ok (.iload 4, 2) := by decide +kernel
theorem d_Mod_splits_173 : decode m_Mod_splits.2.1 173 = .ok (.if_icmp .ge 74, 3) := by decide +kernel
theorem d_Mod_splits_176 : decode m_Mod_splits.2.1 176 = .ok (.iload_n 3, 1) := by decide +kernel
theorem d_Mod_splits_177 : decode m_Mod_splits.2.1 177 = .ok (.invokestatic 151, 3) := by decide +kernel
theorem d_Mod_splits_180 : decode m_Mod_splits.2.1 180 = .ok (.ifCond .eq 67, 3) := by decide +kernel
theorem d_Mod_splits_183 : decode m_Mod_splits.2.1 183 = .ok (.aload_n 0, 1) := by decide +kernel
theorem d_Mod_splits_184 : decode m_Mod_splits.2.1 184 = .ok (.getfield 61, 3) := by decide +kernel
theorem d_Mod_splits_187 : decode m_Mod_splits.2.1 187 = .ok (.aload_n 0, 1) := by decide +kernel
theorem d_Mod_splits_188 : decode m_Mod_splits.2.1 188 = .ok (.getfield 145, 3) := by decide +kernel
theorem d_Mod_splits_191 : decode m_Mod_splits.2.1 191 = .ok (.aload_n 0, 1) := by decide +kernel
theorem d_Mod_splits_192 : decode m_Mod_splits.2.1 192 = .ok (.getfield 61, 3) := by decide +kernel
theorem d_Mod_splits_195 : decode m_Mod_splits.2.1 195 = .ok (.aload_n 0, 1) := by decide +kernel
theorem d_Mod_splits_196 : decode m_Mod_splits.2.1 196 = .ok (.getfield 145, 3) := by decide +kernel
theorem d_Mod_splits_199 : decode m_Mod_splits.2.1 199 = .ok (.iaload, 1) := by decide +kernel
theorem d_Mod_splits_200 : decode m_Mod_splits.2.1 200 = .ok (.ldc 158, 2) := by decide +kernel
theorem d_Mod_splits_202 : decode m_Mod_splits.2.1 202 = .ok (.if_icmp .le 15, 3) := by decide +kernel
theorem d_Mod_splits_205 : decode m_Mod_splits.2.1 205 = .ok (.aload_n 0, 1) := by decide +kernel
theorem d_Mod_splits_206 : decode m_Mod_splits.2.1 206 = .ok (.getfield 61, 3) := by decide +kernel
theorem d_Mod_splits_209 : decode m_Mod_splits.2.1 209 = .ok (.aload_n 0, 1) := by decide +kernel
theorem d_Mod_splits_210 : decode m_Mod_splits.2.1 210 = .ok (.getfield 145, 3) := by decide +kernel
theorem d_Mod_splits_213 : decode m_Mod_splits.2.1 213 = .ok (.iaload, 1) := by decide +kernel
theorem d_Mod_splits_214 : decode m_Mod_splits.2.1 214 = .ok (.goto 26, 3) := by decide +kernel
theorem d_Mod_splits_217 : decode m_Mod_splits.2.1 217 = .ok (.bipush 10, 2) := by decide +kernel
theorem d_Mod_splits_219 : decode m_Mod_splits.2.1 219 = .ok (.aload_n 0, 1) := by decide +kernel
theorem d_Mod_splits_220 : decode m_Mod_splits.2.1 220 = .ok (.getfield 61, 3) := by decide +kernel
theorem d_Mod_splits_223 : decode m_Mod_splits.2.1 223 = .ok (.aload_n 0, 1) := by decide +kernel
theorem d_Mod_splits_224 : decode m_Mod_splits.2.1 224 = .ok (.getfield 145, 3) := by decide +kernel
theorem d_Mod_splits_227 : decode m_Mod_splits.2.1 227 = .ok (.iaload, 1) := by decide +kernel
theorem d_Mod_splits_228 : decode m_Mod_splits.2.1 228 = .ok (.imul, 1) := by decide +kernel
theorem d_Mod_splits_229 : decode m_Mod_splits.2.1 229 = .ok (.aload_n 0, 1) := by decide +kernel
theorem d_Mod_splits_230 : decode m_Mod_splits.2.1 230 = .ok (.getfield 49, 3) := by decide +kernel
theorem d_Mod_splits_233 : decode m_Mod_splits.2.1 233 = .ok (.iload 5, 2) := by decide +kernel
theorem d_Mod_splits_235 : decode m_Mod_splits.2.1 235 = .ok (.baload, 1) := by decide +kernel
theorem d_Mod_splits_236 : decode m_Mod_splits.2.1 236 = .ok (.iadd, 1) := by decide +kernel
theorem d_Mod_splits_237 : decode m_Mod_splits.2.1 237 = .ok (.bipush 48, 2) := by decide +kernel
theorem d_Mod_splits_239 : decode m_Mod_splits.2.1 239 = .ok (.isub, 1) := by decide +kernel
theorem d_Mod_splits_240 : decode m_Mod_splits.2.1 240 = .ok (.iastore, 1) := by decide +kernel
theorem d_Mod_splits_241 : decode m_Mod_splits.2.1 241 = .ok (.iinc 5 1, 3) := by decide +kernel
theorem d_Mod_splits_244 : decode m_Mod_splits.2.1 244 = .ok (.goto (-75), 3) := by decide +kernel
theorem d_Mod_splits_247 : decode m_Mod_splits.2.1 247 = .ok (.aload_n 0, 1) := by decide +kernel
theorem d_Mod_splits_248 : decode m_Mod_splits.2.1 248 = .ok (.dup, 1) := by decide +kernel
theorem d_Mod_splits_249 : decode m_Mod_splits.2.1 249 = .ok (.getfield 145, 3) := by decide +kernel
theorem d_Mod_splits_252 : decode m_Mod_splits.2.1 252 = .ok (.iconst 1, 1) := by decide +kernel
theorem d_Mod_splits_253 : decode m_Mod_splits.2.1 253 = .ok (.iadd, 1) := by decide +kernel
theorem d_Mod_splits_254 : decode m_Mod_splits.2.1 254 = .ok (.putfield 145, 3) := by decide +kernel
theorem d_Mod_splits_257 : decode m_Mod_splits.2.1 257 = .ok (.iload 4, 2) := by decide +kernel
theorem d_Mod_splits_259 : decode m_Mod_splits.2.1 259 = .ok (.istore_n 2, 1) := by decide +kernel
theorem d_Mod_splits_260 : decode m_Mod_splits.2.1 260 = .ok (.goto (-253), 3) := by decide +kernel
theorem d_Mod_splits_263 : decode m_Mod_splits.2.1 263 = .ok (.aload_n 0, 1) := by decide +kernel
theorem d_Mod_splits_264 : decode m_Mod_splits.2.1 264 = .ok (.getfield 64, 3) := by decide +kernel
theorem d_Mod_splits_267 : decode m_Mod_splits.2.1 267 = .ok (.aload_n 0, 1) := by decide +kernel
theorem d_Mod_splits_268 : decode m_Mod_splits.2.1 268 = .ok (.getfield 145, 3) := by decide +kernel
theorem d_Mod_splits_271 : decode m_Mod_splits.2.1 271 = .ok (.iload_n 1, 1) := by decide +kernel
theorem d_Mod_splits_272 : decode m_Mod_splits.2.1 272 = .ok (.iastore, 1) := by decide +kernel
theorem d_Mod_splits_273 : decode m_Mod_splits.2.1 273 = .ok (.aload_n 0, 1) := by decide +kernel
theorem d_Mod_splits_274 : decode m_Mod_splits.2.1 274 = .ok (.getfield 58, 3) := by decide +kernel
theorem d_Mod_splits_277 : decode m_Mod_splits.2.1 277 = .ok (.aload_n 0, 1) := by decide +kernel
theorem d_Mod_splits_278 : decode m_Mod_splits.2.1 278 = .ok (.getfield 145, 3) := by decide +kernel
theorem d_Mod_splits_281 : decode m_Mod_splits.2.1 281 = .ok (.iconst 0, 1) := by decide +kernel
theorem d_Mod_splits_282 : decode m_Mod_splits.2.1 282 = .ok (.iastore, 1) := by decide +kernel
theorem d_Mod_splits_283 : decode m_Mod_splits.2.1 283 = .ok (.aload_n 0, 1) := by decide +kernel
theorem d_Mod_splits_284 : decode m_Mod_splits.2.1 284 = .ok (.getfield 61, 3) := by decide +kernel
theorem d_Mod_splits_287 : decode m_Mod_splits.2.1 287 = .ok (.aload_n 0, 1) := by decide +kernel
theorem d_Mod_splits_288 : decode m_Mod_splits.2.1 288 = .ok (.getfield 145, 3) := by decide +kernel
theorem d_Mod_splits_291 : decode m_Mod_splits.2.1 291 = .ok (.iconst 0, 1) := by decide +kernel
theorem d_Mod_splits_292 : decode m_Mod_splits.2.1 292 = .ok (.iastore, 1) := by decide +kernel
theorem d_Mod_splits_293 : decode m_Mod_splits.2.1 293 = .ok (.return_, 1) := by decide +kernel
theorem d_Mod_isSmall_0 : decode m_Mod_isSmall.2.1 0 = .ok (.iload_n 0, 1) := by decide +kernel
theorem d_Mod_isSmall_1 : decode m_Mod_isSmall.2.1 1 = .ok (.bipush 97, 2) := by decide +kernel
theorem d_Mod_isSmall_3 : decode m_Mod_isSmall.2.1 3 = .ok (.if_icmp .lt 13, 3) := by decide +kernel
theorem d_Mod_isSmall_6 : decode m_Mod_isSmall.2.1 6 = .ok (.iload_n 0, 1) := by decide +kernel
theorem d_Mod_isSmall_7 : decode m_Mod_isSmall.2.1 7 = .ok (.bipush 122, 2) := by decide +kernel
theorem d_Mod_isSmall_9 : decode m_Mod_isSmall.2.1 9 = .ok (.if_icmp .gt 7, 3) := by decide +kernel
theorem d_Mod_isSmall_12 : decode m_Mod_isSmall.2.1 12 = .ok (.iconst 1, 1) := by decide +kernel
theorem d_Mod_isSmall_13 : decode m_Mod_isSmall.2.1 13 = .ok (.goto 4, 3) := by decide +kernel
theorem d_Mod_isSmall_16 : decode m_Mod_isSmall.2.1 16 = .ok (.iconst 0, 1) := by decide +kernel
theorem d_Mod_isSmall_17 : decode m_Mod_isSmall.2.1 17 = .ok (.ireturn, 1) := by decide +kernel
theorem d_Mod_isDigit_0 : decode m_Mod_isDigit.2.1 0 = .ok (.iload_n 0, 1) := by decide +kernel
theorem d_Mod_isDigit_1 : decode m_Mod_isDigit.2.1 1 = .ok (.bipush 48, 2) := by decide +kernel
theorem d_Mod_isDigit_3 : decode m_Mod_isDigit.2.1 3 = .ok (.if_icmp .lt 13, 3) := by decide +kernel
theorem d_Mod_isDigit_6 : decode m_Mod_isDigit.2.1 6 = .ok (.iload_n 0, 1) := by decide +kernel
theorem d_Mod_isDigit_7 : decode m_Mod_isDigit.2.1 7 = .ok (.bipush 57, 2) := by decide +kernel
theorem d_Mod_isDigit_9 : decode m_Mod_isDigit.2.1 9 = .ok (.if_icmp .gt 7, 3) := by decide +kernel
theorem d_Mod_isDigit_12 : decode m_Mod_isDigit.2.1 12 = .ok (.iconst 1, 1) := by decide +kernel
theorem d_Mod_isDigit_13 : decode m_Mod_isDigit.2.1 13 = .ok (.goto 4, 3) := by decide +kernel
theorem d_Mod_isDigit_16 : decode m_Mod_isDigit.2.1 16 = .ok (.iconst 0, 1) := by decide +kernel
theorem d_Mod_isDigit_17 : decode m_Mod_isDigit.2.1 17 = .ok (.ireturn, 1) := by decide +kernel
theorem d_Mod_wordOf_0 : decode m_Mod_wordOf.2.1 0 = .ok (.iconst 1, 1) := by decide +kernel
theorem d_Mod_wordOf_1 : decode m_Mod_wordOf.2.1 1 = .ok (.istore_n 3, 1) := by decide +kernel
theorem d_Mod_wordOf_2 : decode m_Mod_wordOf.2.1 2 = .ok (.iconst 0, 1) := by decide +kernel
theorem d_Mod_wordOf_3 : decode m_Mod_wordOf.2.1 3 = .ok (.istore 4, 2) := by decide +kernel
theorem d_Mod_wordOf_5 : decode m_Mod_wordOf.2.1 5 = .ok (.iload 4, 2) := by decide +kernel
theorem d_Mod_wordOf_7 : decode m_Mod_wordOf.2.1 7 = .ok (.aload_n 0, 1) := by decide +kernel
theorem d_Mod_wordOf_8 : decode m_Mod_wordOf.2.1 8 = .ok (.getfield 45, 3) := by decide +kernel
theorem d_Mod_wordOf_11 : decode m_Mod_wordOf.2.1 11 = .ok (.arraylength, 1) := by decide +kernel
theorem d_Mod_wordOf_12 : decode m_Mod_wordOf.2.1 12 = .ok (.if_icmp .ge 114, 3) := by decide +kernel
theorem d_Mod_wordOf_15 : decode m_Mod_wordOf.2.1 15 = .ok (.iconst 0, 1) := by decide +kernel
theorem d_Mod_wordOf_16 : decode m_Mod_wordOf.2.1 16 = .ok (.istore 5, 2) := by decide +kernel
theorem d_Mod_wordOf_18 : decode m_Mod_wordOf.2.1 18 = .ok (.aload_n 0, 1) := by decide +kernel
theorem d_Mod_wordOf_19 : decode m_Mod_wordOf.2.1 19 = .ok (.getfield 45, 3) := by decide +kernel
theorem d_Mod_wordOf_22 : decode m_Mod_wordOf.2.1 22 = .ok (.iload 4, 2) := by decide +kernel
theorem d_Mod_wordOf_24 : decode m_Mod_wordOf.2.1 24 = .ok (.iload 5, 2) := by decide +kernel
theorem d_Mod_wordOf_26 : decode m_Mod_wordOf.2.1 26 = .ok (.iadd, 1) := by decide +kernel
theorem d_Mod_wordOf_27 : decode m_Mod_wordOf.2.1 27 = .ok (.baload, 1) := by decide +kernel
theorem d_Mod_wordOf_28 : decode m_Mod_wordOf.2.1 28 = .ok (.bipush 32, 2) := by decide +kernel
theorem d_Mod_wordOf_30 : decode m_Mod_wordOf.2.1 30 = .ok (.if_icmp .eq 9, 3) := by decide +kernel
theorem d_Mod_wordOf_33 : decode m_Mod_wordOf.2.1 33 = .ok (.iinc 5 1, 3) := by decide +kernel
theorem d_Mod_wordOf_36 : decode m_Mod_wordOf.2.1 36 = .ok (.goto (-18), 3) := by decide +kernel
theorem d_Mod_wordOf_39 : decode m_Mod_wordOf.2.1 39 = .ok (.iload 5, 2) := by decide +kernel
theorem d_Mod_wordOf_41 : decode m_Mod_wordOf.2.1 41 = .ok (.iload_n 2, 1) := by decide +kernel
theorem d_Mod_wordOf_42 : decode m_Mod_wordOf.2.1 42 = .ok (.iload_n 1, 1) := by decide +kernel
theorem d_Mod_wordOf_43 : decode m_Mod_wordOf.2.1 43 = .ok (.isub, 1) := by decide +kernel
theorem d_Mod_wordOf_44 : decode m_Mod_wordOf.2.1 44 = .ok (.if_icmp .ne 7, 3) := by decide +kernel
theorem d_Mod_wordOf_47 : decode m_Mod_wordOf.2.1 47 = .ok (.iconst 1, 1) := by decide +kernel
theorem d_Mod_wordOf_48 : decode m_Mod_wordOf.2.1 48 = .ok (.goto 4, 3) := by decide +kernel
theorem d_Mod_wordOf_51 : decode m_Mod_wordOf.2.1 51 = .ok (.iconst 0, 1) := by decide +kernel
theorem d_Mod_wordOf_52 : decode m_Mod_wordOf.2.1 52 = .ok (.istore 6, 2) := by decide +kernel
theorem d_Mod_wordOf_54 : decode m_Mod_wordOf.2.1 54 = .ok (.iconst 0, 1) := by decide +kernel
theorem d_Mod_wordOf_55 : decode m_Mod_wordOf.2.1 55 = .ok (.istore 7, 2) := by decide +kernel
theorem d_Mod_wordOf_57 : decode m_Mod_wordOf.2.1 57 = .ok (.iload 7, 2) := by decide +kernel
theorem d_Mod_wordOf_59 : decode m_Mod_wordOf.2.1 59 = .ok (.iload 5, 2) := by decide +kernel
theorem d_Mod_wordOf_61 : decode m_Mod_wordOf.2.1 61 = .ok (.if_icmp .ge 43, 3) := by decide +kernel
theorem d_Mod_wordOf_64 : decode m_Mod_wordOf.2.1 64 = .ok (.iload 6, 2) := by decide +kernel
theorem d_Mod_wordOf_66 : decode m_Mod_wordOf.2.1 66 = .ok (.ifCond .eq 38, 3) := by decide +kernel
theorem d_Mod_wordOf_69 : decode m_Mod_wordOf.2.1 69 = .ok (.aload_n 0, 1) := by decide +kernel
theorem d_Mod_wordOf_70 : decode m_Mod_wordOf.2.1 70 = .ok (.getfield 45, 3) := by decide +kernel
theorem d_Mod_wordOf_73 : decode m_Mod_wordOf.2.1 73 = .ok (.iload 4, 2) := by decide +kernel
theorem d_Mod_wordOf_75 : decode m_Mod_wordOf.2.1 75 = .ok (.iload 7, 2) := by decide +kernel
theorem d_Mod_wordOf_77 : decode m_Mod_wordOf.2.1 77 = .ok (.iadd, 1) := by decide +kernel
theorem d_Mod_wordOf_78 : decode m_Mod_wordOf.2.1 78 = .ok (.baload, 1) := by decide +kernel
theorem d_Mod_wordOf_79 : decode m_Mod_wordOf.2.1 79 = .ok (.aload_n 0, 1) := by decide +kernel
theorem d_Mod_wordOf_80 : decode m_Mod_wordOf.2.1 80 = .ok (.getfield 49, 3) := by decide +kernel
theorem d_Mod_wordOf_83 : decode m_Mod_wordOf.2.1 83 = .ok (.iload_n 1, 1) := by decide +kernel
theorem d_Mod_wordOf_84 : decode m_Mod_wordOf.2.1 84 = .ok (.iload 7, 2) := by decide +kernel
theorem d_Mod_wordOf_86 : decode m_Mod_wordOf.2.1 86 = .ok (.iadd, 1) := by decide +kernel
theorem d_Mod_wordOf_87 : decode m_Mod_wordOf.2.1 87 = .ok (.baload, 1) := by decide +kernel
theorem d_Mod_wordOf_88 : decode m_Mod_wordOf.2.1 88 = .ok (.if_icmp .ne 7, 3) := by decide +kernel
theorem d_Mod_wordOf_91 : decode m_Mod_wordOf.2.1 91 = .ok (.iconst 1, 1) := by decide +kernel
theorem d_Mod_wordOf_92 : decode m_Mod_wordOf.2.1 92 = .ok (.goto 4, 3) := by decide +kernel
theorem d_Mod_wordOf_95 : decode m_Mod_wordOf.2.1 95 = .ok (.iconst 0, 1) := by decide +kernel
theorem d_Mod_wordOf_96 : decode m_Mod_wordOf.2.1 96 = .ok (.istore 6, 2) := by decide +kernel
theorem d_Mod_wordOf_98 : decode m_Mod_wordOf.2.1 98 = .ok (.iinc 7 1, 3) := by decide +kernel
theorem d_Mod_wordOf_101 : decode m_Mod_wordOf.2.1 101 = .ok (.goto (-44), 3) := by decide +kernel
theorem d_Mod_wordOf_104 : decode m_Mod_wordOf.2.1 104 = .ok (.iload 6, 2) := by decide +kernel
theorem d_Mod_wordOf_106 : decode m_Mod_wordOf.2.1 106 = .ok (.ifCond .eq 5, 3) := by decide +kernel
theorem d_Mod_wordOf_109 : decode m_Mod_wordOf.2.1 109 = .ok (.iload_n 3, 1) := by decide +kernel
theorem d_Mod_wordOf_110 : decode m_Mod_wordOf.2.1 110 = .ok (.ireturn, 1) := by decide +kernel
theorem d_Mod_wordOf_111 : decode m_Mod_wordOf.2.1 111 = .ok (.iload 4, 2) := by decide +kernel
theorem d_Mod_wordOf_113 : decode m_Mod_wordOf.2.1 113 = .ok (.iload 5, 2) := by decide +kernel
theorem d_Mod_wordOf_115 : decode m_Mod_wordOf.2.1 115 = .ok (.iconst 1, 1) := by decide +kernel
theorem d_Mod_wordOf_116 : decode m_Mod_wordOf.2.1 116 = .ok (.iadd, 1) := by decide +kernel
theorem d_Mod_wordOf_117 : decode m_Mod_wordOf.2.1 117 = .ok (.iadd, 1) := by decide +kernel
theorem d_Mod_wordOf_118 : decode m_Mod_wordOf.2.1 118 = .ok (.istore 4, 2) := by decide +kernel
theorem d_Mod_wordOf_120 : decode m_Mod_wordOf.2.1 120 = .ok (.iinc 3 1, 3) := by decide +kernel
theorem d_Mod_wordOf_123 : decode m_Mod_wordOf.2.1 123 = .ok (.goto (-118), 3) := by decide +kernel
theorem d_Mod_wordOf_126 : decode m_Mod_wordOf.2.1 126 = .ok (.iconst 0, 1) := by decide +kernel
theorem d_Mod_wordOf_127 : decode m_Mod_wordOf.2.1 127 = .ok (.ireturn, 1) := by decide +kernel
theorem d_Mod_readOne_0 : decode m_Mod_readOne.2.1 0 = .ok (.aload_n 0, 1) := by decide +kernel
theorem d_Mod_readOne_1 : decode m_Mod_readOne.2.1 1 = .ok (.getfield 192, 3) := by decide +kernel
theorem d_Mod_readOne_4 : decode m_Mod_readOne.2.1 4 = .ok (.ifCond .eq 10, 3) := by decide +kernel
theorem d_Mod_readOne_7 : decode m_Mod_readOne.2.1 7 = .ok (.aload_n 0, 1) := by decide +kernel
theorem d_Mod_readOne_8 : decode m_Mod_readOne.2.1 8 = .ok (.invokevirtual 196, 3) := by decide +kernel
theorem d_Mod_readOne_11 : decode m_Mod_readOne.2.1 11 = .ok (.goto 7, 3) := by decide +kernel
theorem d_Mod_readOne_14 : decode m_Mod_readOne.2.1 14 = .ok (.aload_n 0, 1) := by decide +kernel
theorem d_Mod_readOne_15 : decode m_Mod_readOne.2.1 15 = .ok (.invokevirtual 199, 3) := by decide +kernel
theorem d_Mod_readOne_18 : decode m_Mod_readOne.2.1 18 = .ok (.return_, 1) := by decide +kernel
theorem d_Mod_readOrder_0 : decode m_Mod_readOrder.2.1 0 = .ok (.aload_n 0, 1) := by decide +kernel
theorem d_Mod_readOrder_1 : decode m_Mod_readOrder.2.1 1 = .ok (.bipush 21, 2) := by decide +kernel
theorem d_Mod_readOrder_3 : decode m_Mod_readOrder.2.1 3 = .ok (.invokevirtual 169, 3) := by decide +kernel
theorem d_Mod_readOrder_6 : decode m_Mod_readOrder.2.1 6 = .ok (.ifCond .eq 22, 3) := by decide +kernel
theorem d_Mod_readOrder_9 : decode m_Mod_readOrder.2.1 9 = .ok (.aload_n 0, 1) := by decide +kernel
theorem d_Mod_readOrder_10 : decode m_Mod_readOrder.2.1 10 = .ok (.iconst 0, 1) := by decide +kernel
theorem d_Mod_readOrder_11 : decode m_Mod_readOrder.2.1 11 = .ok (.invokevirtual 178, 3) := by decide +kernel
theorem d_Mod_readOrder_14 : decode m_Mod_readOrder.2.1 14 = .ok (.aload_n 0, 1) := by decide +kernel
theorem d_Mod_readOrder_15 : decode m_Mod_readOrder.2.1 15 = .ok (.bipush 22, 2) := by decide +kernel
theorem d_Mod_readOrder_17 : decode m_Mod_readOrder.2.1 17 = .ok (.invokevirtual 182, 3) := by decide +kernel
theorem d_Mod_readOrder_20 : decode m_Mod_readOrder.2.1 20 = .ok (.aload_n 0, 1) := by decide +kernel
theorem d_Mod_readOrder_21 : decode m_Mod_readOrder.2.1 21 = .ok (.iconst 0, 1) := by decide +kernel
theorem d_Mod_readOrder_22 : decode m_Mod_readOrder.2.1 22 = .ok (.invokevirtual 178, 3) := by decide +kernel
theorem d_Mod_readOrder_25 : decode m_Mod_readOrder.2.1 25 = .ok (.goto 54, 3) := by decide +kernel
theorem d_Mod_readOrder_28 : decode m_Mod_readOrder.2.1 28 = .ok (.aload_n 0, 1) := by decide +kernel
theorem d_Mod_readOrder_29 : decode m_Mod_readOrder.2.1 29 = .ok (.bipush 24, 2) := by decide +kernel
theorem d_Mod_readOrder_31 : decode m_Mod_readOrder.2.1 31 = .ok (.invokevirtual 169, 3) := by decide +kernel
theorem d_Mod_readOrder_34 : decode m_Mod_readOrder.2.1 34 = .ok (.ifCond .eq 22, 3) := by decide +kernel
theorem d_Mod_readOrder_37 : decode m_Mod_readOrder.2.1 37 = .ok (.aload_n 0, 1) := by decide +kernel
theorem d_Mod_readOrder_38 : decode m_Mod_readOrder.2.1 38 = .ok (.iconst 0, 1) := by decide +kernel
theorem d_Mod_readOrder_39 : decode m_Mod_readOrder.2.1 39 = .ok (.invokevirtual 178, 3) := by decide +kernel
theorem d_Mod_readOrder_42 : decode m_Mod_readOrder.2.1 42 = .ok (.aload_n 0, 1) := by decide +kernel
theorem d_Mod_readOrder_43 : decode m_Mod_readOrder.2.1 43 = .ok (.bipush 25, 2) := by decide +kernel
theorem d_Mod_readOrder_45 : decode m_Mod_readOrder.2.1 45 = .ok (.invokevirtual 182, 3) := by decide +kernel
theorem d_Mod_readOrder_48 : decode m_Mod_readOrder.2.1 48 = .ok (.aload_n 0, 1) := by decide +kernel
theorem d_Mod_readOrder_49 : decode m_Mod_readOrder.2.1 49 = .ok (.iconst 0, 1) := by decide +kernel
theorem d_Mod_readOrder_50 : decode m_Mod_readOrder.2.1 50 = .ok (.invokevirtual 178, 3) := by decide +kernel
theorem d_Mod_readOrder_53 : decode m_Mod_readOrder.2.1 53 = .ok (.goto 26, 3) := by decide +kernel
theorem d_Mod_readOrder_56 : decode m_Mod_readOrder.2.1 56 = .ok (.aload_n 0, 1) := by decide +kernel
theorem d_Mod_readOrder_57 : decode m_Mod_readOrder.2.1 57 = .ok (.bipush 23, 2) := by decide +kernel
theorem d_Mod_readOrder_59 : decode m_Mod_readOrder.2.1 59 = .ok (.invokevirtual 169, 3) := by decide +kernel
theorem d_Mod_readOrder_62 : decode m_Mod_readOrder.2.1 62 = .ok (.ifCond .eq 11, 3) := by decide +kernel
theorem d_Mod_readOrder_65 : decode m_Mod_readOrder.2.1 65 = .ok (.aload_n 0, 1) := by decide +kernel
theorem d_Mod_readOrder_66 : decode m_Mod_readOrder.2.1 66 = .ok (.iconst 0, 1) := by decide +kernel
theorem d_Mod_readOrder_67 : decode m_Mod_readOrder.2.1 67 = .ok (.invokevirtual 178, 3) := by decide +kernel
theorem d_Mod_readOrder_70 : decode m_Mod_readOrder.2.1 70 = .ok (.goto 9, 3) := by decide +kernel
theorem d_Mod_readOrder_73 : decode m_Mod_readOrder.2.1 73 = .ok (.aload_n 0, 1) := by decide +kernel
theorem d_Mod_readOrder_74 : decode m_Mod_readOrder.2.1 74 = .ok (.bipush 26, 2) := by decide +kernel
theorem d_Mod_readOrder_76 : decode m_Mod_readOrder.2.1 76 = .ok (.invokevirtual 182, 3) := by decide +kernel
theorem d_Mod_readOrder_79 : decode m_Mod_readOrder.2.1 79 = .ok (.aload_n 0, 1) := by decide +kernel
theorem d_Mod_readOrder_80 : decode m_Mod_readOrder.2.1 80 = .ok (.bipush 27, 2) := by decide +kernel
theorem d_Mod_readOrder_82 : decode m_Mod_readOrder.2.1 82 = .ok (.invokevirtual 169, 3) := by decide +kernel
theorem d_Mod_readOrder_85 : decode m_Mod_readOrder.2.1 85 = .ok (.ifCond .eq 10, 3) := by decide +kernel
theorem d_Mod_readOrder_88 : decode m_Mod_readOrder.2.1 88 = .ok (.aload_n 0, 1) := by decide +kernel
theorem d_Mod_readOrder_89 : decode m_Mod_readOrder.2.1 89 = .ok (.iconst 1, 1) := by decide +kernel
theorem d_Mod_readOrder_90 : decode m_Mod_readOrder.2.1 90 = .ok (.bipush 20, 2) := by decide +kernel
theorem d_Mod_readOrder_92 : decode m_Mod_readOrder.2.1 92 = .ok (.invokevirtual 188, 3) := by decide +kernel
theorem d_Mod_readOrder_95 : decode m_Mod_readOrder.2.1 95 = .ok (.aload_n 0, 1) := by decide +kernel
theorem d_Mod_readOrder_96 : decode m_Mod_readOrder.2.1 96 = .ok (.iconst 5, 1) := by decide +kernel
theorem d_Mod_readOrder_97 : decode m_Mod_readOrder.2.1 97 = .ok (.invokevirtual 169, 3) := by decide +kernel
theorem d_Mod_readOrder_100 : decode m_Mod_readOrder.2.1 100 = .ok (.ifCond .eq 8, 3) := by decide +kernel
theorem d_Mod_readOrder_103 : decode m_Mod_readOrder.2.1 103 = .ok (.aload_n 0, 1) := by decide +kernel
theorem d_Mod_readOrder_104 : decode m_Mod_readOrder.2.1 104 = .ok (.iconst 0, 1) := by decide +kernel
theorem d_Mod_readOrder_105 : decode m_Mod_readOrder.2.1 105 = .ok (.invokevirtual 185, 3) := by decide +kernel
theorem d_Mod_readOrder_108 : decode m_Mod_readOrder.2.1 108 = .ok (.return_, 1) := by decide +kernel
theorem d_Mod_takes0_0 : decode m_Mod_takes0.2.1 0 = .ok (.aload_n 0, 1) := by decide +kernel
theorem d_Mod_takes0_1 : decode m_Mod_takes0.2.1 1 = .ok (.invokevirtual 162, 3) := by decide +kernel
theorem d_Mod_takes0_4 : decode m_Mod_takes0.2.1 4 = .ok (.ifCond .eq 20, 3) := by decide +kernel
theorem d_Mod_takes0_7 : decode m_Mod_takes0.2.1 7 = .ok (.aload_n 0, 1) := by decide +kernel
theorem d_Mod_takes0_8 : decode m_Mod_takes0.2.1 8 = .ok (.getfield 58, 3) := by decide +kernel
theorem d_Mod_takes0_11 : decode m_Mod_takes0.2.1 11 = .ok (.aload_n 0, 1) := by decide +kernel
theorem d_Mod_takes0_12 : decode m_Mod_takes0.2.1 12 = .ok (.getfield 166, 3) := by decide +kernel
theorem d_Mod_takes0_15 : decode m_Mod_takes0.2.1 15 = .ok (.iaload, 1) := by decide +kernel
theorem d_Mod_takes0_16 : decode m_Mod_takes0.2.1 16 = .ok (.iload_n 1, 1) := by decide +kernel
theorem d_Mod_takes0_17 : decode m_Mod_takes0.2.1 17 = .ok (.if_icmp .ne 7, 3) := by decide +kernel
theorem d_Mod_takes0_20 : decode m_Mod_takes0.2.1 20 = .ok (.iconst 1, 1) := by decide +kernel
theorem d_Mod_takes0_21 : decode m_Mod_takes0.2.1 21 = .ok (.goto 4, 3) := by decide +kernel
theorem d_Mod_takes0_24 : decode m_Mod_takes0.2.1 24 = .ok (.iconst 0, 1) := by decide +kernel
theorem d_Mod_takes0_25 : decode m_Mod_takes0.2.1 25 = .ok (.istore_n 2, 1) := by decide +kernel
theorem d_Mod_takes0_26 : decode m_Mod_takes0.2.1 26 = .ok (.iload_n 2, 1) := by decide +kernel
theorem d_Mod_takes0_27 : decode m_Mod_takes0.2.1 27 = .ok (.ifCond .eq 13, 3) := by decide +kernel
theorem d_Mod_takes0_30 : decode m_Mod_takes0.2.1 30 = .ok (.aload_n 0, 1) := by decide +kernel
theorem d_Mod_takes0_31 : decode m_Mod_takes0.2.1 31 = .ok (.dup, 1) := by decide +kernel
theorem d_Mod_takes0_32 : decode m_Mod_takes0.2.1 32 = .ok (.getfield 166, 3) := by decide +kernel
theorem d_Mod_takes0_35 : decode m_Mod_takes0.2.1 35 = .ok (.iconst 1, 1) := by decide +kernel
theorem d_Mod_takes0_36 : decode m_Mod_takes0.2.1 36 = .ok (.iadd, 1) := by decide +kernel
theorem d_Mod_takes0_37 : decode m_Mod_takes0.2.1 37 = .ok (.putfield 166, 3) := by decide +kernel
theorem d_Mod_takes0_40 : decode m_Mod_takes0.2.1 40 = .ok (.iload_n 2, 1) := by decide +kernel
theorem d_Mod_takes0_41 : decode m_Mod_takes0.2.1 41 = .ok (.ireturn, 1) := by decide +kernel
theorem d_Mod_fine_0 : decode m_Mod_fine.2.1 0 = .ok (.aload_n 0, 1) := by decide +kernel
theorem d_Mod_fine_1 : decode m_Mod_fine.2.1 1 = .ok (.getfield 159, 3) := by decide +kernel
theorem d_Mod_fine_4 : decode m_Mod_fine.2.1 4 = .ok (.iconst (-1), 1) := by decide +kernel
theorem d_Mod_fine_5 : decode m_Mod_fine.2.1 5 = .ok (.if_icmp .ne 7, 3) := by decide +kernel
theorem d_Mod_fine_8 : decode m_Mod_fine.2.1 8 = .ok (.iconst 1, 1) := by decide +kernel
theorem d_Mod_fine_9 : decode m_Mod_fine.2.1 9 = .ok (.goto 4, 3) := by decide +kernel
theorem d_Mod_fine_12 : decode m_Mod_fine.2.1 12 = .ok (.iconst 0, 1) := by decide +kernel
theorem d_Mod_fine_13 : decode m_Mod_fine.2.1 13 = .ok (.ireturn, 1) := by decide +kernel
theorem d_Mod_readSum_0 : decode m_Mod_readSum.2.1 0 = .ok (.aload_n 0, 1) := by decide +kernel
theorem d_Mod_readSum_1 : decode m_Mod_readSum.2.1 1 = .ok (.iload_n 1, 1) := by decide +kernel
theorem d_Mod_readSum_2 : decode m_Mod_readSum.2.1 2 = .ok (.invokevirtual 212, 3) := by decide +kernel
theorem d_Mod_readSum_5 : decode m_Mod_readSum.2.1 5 = .ok (.aload_n 0, 1) := by decide +kernel
theorem d_Mod_readSum_6 : decode m_Mod_readSum.2.1 6 = .ok (.bipush 43, 2) := by decide +kernel
theorem d_Mod_readSum_8 : decode m_Mod_readSum.2.1 8 = .ok (.invokestatic 208, 3) := by decide +kernel
theorem d_Mod_readSum_11 : decode m_Mod_readSum.2.1 11 = .ok (.invokevirtual 169, 3) := by decide +kernel
theorem d_Mod_readSum_14 : decode m_Mod_readSum.2.1 14 = .ok (.ifCond .ne 15, 3) := by decide +kernel
theorem d_Mod_readSum_17 : decode m_Mod_readSum.2.1 17 = .ok (.aload_n 0, 1) := by decide +kernel
theorem d_Mod_readSum_18 : decode m_Mod_readSum.2.1 18 = .ok (.bipush 45, 2) := by decide +kernel
theorem d_Mod_readSum_20 : decode m_Mod_readSum.2.1 20 = .ok (.invokestatic 208, 3) := by decide +kernel
theorem d_Mod_readSum_23 : decode m_Mod_readSum.2.1 23 = .ok (.invokevirtual 169, 3) := by decide +kernel
theorem d_Mod_readSum_26 : decode m_Mod_readSum.2.1 26 = .ok (.ifCond .eq 11, 3) := by decide +kernel
theorem d_Mod_readSum_29 : decode m_Mod_readSum.2.1 29 = .ok (.aload_n 0, 1) := by decide +kernel
theorem d_Mod_readSum_30 : decode m_Mod_readSum.2.1 30 = .ok (.iload_n 1, 1) := by decide +kernel
theorem d_Mod_readSum_31 : decode m_Mod_readSum.2.1 31 = .ok (.invokevirtual 212, 3) := by decide +kernel
theorem d_Mod_readSum_34 : decode m_Mod_readSum.2.1 34 = .ok (.goto (-29), 3) := by decide +kernel
theorem d_Mod_readSum_37 : decode m_Mod_readSum.2.1 37 = .ok (.return_, 1) := by decide +kernel
theorem d_Mod_readTerm_0 : decode m_Mod_readTerm.2.1 0 = .ok (.aload_n 0, 1) := by decide +kernel
theorem d_Mod_readTerm_1 : decode m_Mod_readTerm.2.1 1 = .ok (.iload_n 1, 1) := by decide +kernel
theorem d_Mod_readTerm_2 : decode m_Mod_readTerm.2.1 2 = .ok (.invokevirtual 215, 3) := by decide +kernel
theorem d_Mod_readTerm_5 : decode m_Mod_readTerm.2.1 5 = .ok (.aload_n 0, 1) := by decide +kernel
theorem d_Mod_readTerm_6 : decode m_Mod_readTerm.2.1 6 = .ok (.bipush 42, 2) := by decide +kernel
theorem d_Mod_readTerm_8 : decode m_Mod_readTerm.2.1 8 = .ok (.invokestatic 208, 3) := by decide +kernel
theorem d_Mod_readTerm_11 : decode m_Mod_readTerm.2.1 11 = .ok (.invokevirtual 169, 3) := by decide +kernel
theorem d_Mod_readTerm_14 : decode m_Mod_readTerm.2.1 14 = .ok (.ifCond .ne 27, 3) := by decide +kernel
theorem d_Mod_readTerm_17 : decode m_Mod_readTerm.2.1 17 = .ok (.aload_n 0, 1) := by decide +kernel
theorem d_Mod_readTerm_18 : decode m_Mod_readTerm.2.1 18 = .ok (.bipush 47, 2) := by decide +kernel
theorem d_Mod_readTerm_20 : decode m_Mod_readTerm.2.1 20 = .ok (.invokestatic 208, 3) := by decide +kernel
theorem d_Mod_readTerm_23 : decode m_Mod_readTerm.2.1 23 = .ok (.invokevirtual 169, 3) := by decide +kernel
theorem d_Mod_readTerm_26 : decode m_Mod_readTerm.2.1 26 = .ok (.ifCond .ne 15, 3) := by decide +kernel
theorem d_Mod_readTerm_29 : decode m_Mod_readTerm.2.1 29 = .ok (.aload_n 0, 1) := by decide +kernel
theorem d_Mod_readTerm_30 : decode m_Mod_readTerm.2.1 30 = .ok (.bipush 37, 2) := by decide +kernel
theorem d_Mod_readTerm_32 : decode m_Mod_readTerm.2.1 32 = .ok (.invokestatic 208, 3) := by decide +kernel
theorem d_Mod_readTerm_35 : decode m_Mod_readTerm.2.1 35 = .ok (.invokevirtual 169, 3) := by decide +kernel
theorem d_Mod_readTerm_38 : decode m_Mod_readTerm.2.1 38 = .ok (.ifCond .eq 11, 3) := by decide +kernel
theorem d_Mod_readTerm_41 : decode m_Mod_readTerm.2.1 41 = .ok (.aload_n 0, 1) := by decide +kernel
theorem d_Mod_readTerm_42 : decode m_Mod_readTerm.2.1 42 = .ok (.iload_n 1, 1) := by decide +kernel
theorem d_Mod_readTerm_43 : decode m_Mod_readTerm.2.1 43 = .ok (.invokevirtual 215, 3) := by decide +kernel
theorem d_Mod_readTerm_46 : decode m_Mod_readTerm.2.1 46 = .ok (.goto (-41), 3) := by decide +kernel
theorem d_Mod_readTerm_49 : decode m_Mod_readTerm.2.1 49 = .ok (.return_, 1) := by decide +kernel
theorem d_Mod_readPart_0 : decode m_Mod_readPart.2.1 0 = .ok (.aload_n 0, 1) := by decide +kernel
theorem d_Mod_readPart_1 : decode m_Mod_readPart.2.1 1 = .ok (.invokevirtual 162, 3) := by decide +kernel
theorem d_Mod_readPart_4 : decode m_Mod_readPart.2.1 4 = .ok (.ifCond .ne 4, 3) := by decide +kernel
theorem d_Mod_readPart_7 : decode m_Mod_readPart.2.1 7 = .ok (.return_, 1) := by decide +kernel
theorem d_Mod_readPart_8 : decode m_Mod_readPart.2.1 8 = .ok (.aload_n 0, 1) := by decide +kernel
theorem d_Mod_readPart_9 : decode m_Mod_readPart.2.1 9 = .ok (.getfield 58, 3) := by decide +kernel
theorem d_Mod_readPart_12 : decode m_Mod_readPart.2.1 12 = .ok (.aload_n 0, 1) := by decide +kernel
theorem d_Mod_readPart_13 : decode m_Mod_readPart.2.1 13 = .ok (.getfield 166, 3) := by decide +kernel
theorem d_Mod_readPart_16 : decode m_Mod_readPart.2.1 16 = .ok (.iaload, 1) := by decide +kernel
theorem d_Mod_readPart_17 : decode m_Mod_readPart.2.1 17 = .ok (.istore_n 2, 1) := by decide +kernel
theorem d_Mod_readPart_18 : decode m_Mod_readPart.2.1 18 = .ok (.iload_n 2, 1) := by decide +kernel
theorem d_Mod_readPart_19 : decode m_Mod_readPart.2.1 19 = .ok (.bipush 91, 2) := by decide +kernel
theorem d_Mod_readPart_21 : decode m_Mod_readPart.2.1 21 = .ok (.invokestatic 208, 3) := by decide +kernel
theorem d_Mod_readPart_24 : decode m_Mod_readPart.2.1 24 = .ok (.if_icmp .ne 50, 3) := by decide +kernel
theorem d_Mod_readPart_27 : decode m_Mod_readPart.2.1 27 = .ok (.iload_n 1, 1) := by decide +kernel
theorem d_Mod_readPart_28 : decode m_Mod_readPart.2.1 28 = .ok (.bipush 8, 2) := by decide +kernel
theorem d_Mod_readPart_30 : decode m_Mod_readPart.2.1 30 = .ok (.if_icmp .ne 7, 3) := by decide +kernel
theorem d_Mod_readPart_33 : decode m_Mod_readPart.2.1 33 = .ok (.aload_n 0, 1) := by decide +kernel
theorem d_Mod_readPart_34 : decode m_Mod_readPart.2.1 34 = .ok (.invokevirtual 172, 3) := by decide +kernel
theorem d_Mod_readPart_37 : decode m_Mod_readPart.2.1 37 = .ok (.aload_n 0, 1) := by decide +kernel
theorem d_Mod_readPart_38 : decode m_Mod_readPart.2.1 38 = .ok (.invokevirtual 162, 3) := by decide +kernel
theorem d_Mod_readPart_41 : decode m_Mod_readPart.2.1 41 = .ok (.ifCond .ne 4, 3) := by decide +kernel
theorem d_Mod_readPart_44 : decode m_Mod_readPart.2.1 44 = .ok (.return_, 1) := by decide +kernel
theorem d_Mod_readPart_45 : decode m_Mod_readPart.2.1 45 = .ok (.aload_n 0, 1) := by decide +kernel
theorem d_Mod_readPart_46 : decode m_Mod_readPart.2.1 46 = .ok (.dup, 1) := by decide +kernel
theorem d_Mod_readPart_47 : decode m_Mod_readPart.2.1 47 = .ok (.getfield 166, 3) := by decide +kernel
theorem d_Mod_readPart_50 : decode m_Mod_readPart.2.1 50 = .ok (.iconst 1, 1) := by decide +kernel
theorem d_Mod_readPart_51 : decode m_Mod_readPart.2.1 51 = .ok (.iadd, 1) := by decide +kernel
theorem d_Mod_readPart_52 : decode m_Mod_readPart.2.1 52 = .ok (.putfield 166, 3) := by decide +kernel
theorem d_Mod_readPart_55 : decode m_Mod_readPart.2.1 55 = .ok (.aload_n 0, 1) := by decide +kernel
theorem d_Mod_readPart_56 : decode m_Mod_readPart.2.1 56 = .ok (.iload_n 1, 1) := by decide +kernel
theorem d_Mod_readPart_57 : decode m_Mod_readPart.2.1 57 = .ok (.iconst 1, 1) := by decide +kernel
theorem d_Mod_readPart_58 : decode m_Mod_readPart.2.1 58 = .ok (.iadd, 1) := by decide +kernel
theorem d_Mod_readPart_59 : decode m_Mod_readPart.2.1 59 = .ok (.invokevirtual 178, 3) := by decide +kernel
theorem d_Mod_readPart_62 : decode m_Mod_readPart.2.1 62 = .ok (.aload_n 0, 1) := by decide +kernel
theorem d_Mod_readPart_63 : decode m_Mod_readPart.2.1 63 = .ok (.bipush 93, 2) := by decide +kernel
theorem d_Mod_readPart_65 : decode m_Mod_readPart.2.1 65 = .ok (.invokestatic 208, 3) := by decide +kernel
theorem d_Mod_readPart_68 : decode m_Mod_readPart.2.1 68 = .ok (.invokevirtual 182, 3) := by decide +kernel
theorem d_Mod_readPart_71 : decode m_Mod_readPart.2.1 71 = .ok (.goto 77, 3) := by decide +kernel
theorem d_Mod_readPart_74 : decode m_Mod_readPart.2.1 74 = .ok (.iload_n 2, 1) := by decide +kernel
theorem d_Mod_readPart_75 : decode m_Mod_readPart.2.1 75 = .ok (.bipush 50, 2) := by decide +kernel
theorem d_Mod_readPart_77 : decode m_Mod_readPart.2.1 77 = .ok (.if_icmp .ne 18, 3) := by decide +kernel
theorem d_Mod_readPart_80 : decode m_Mod_readPart.2.1 80 = .ok (.aload_n 0, 1) := by decide +kernel
theorem d_Mod_readPart_81 : decode m_Mod_readPart.2.1 81 = .ok (.getfield 61, 3) := by decide +kernel
theorem d_Mod_readPart_84 : decode m_Mod_readPart.2.1 84 = .ok (.aload_n 0, 1) := by decide +kernel
theorem d_Mod_readPart_85 : decode m_Mod_readPart.2.1 85 = .ok (.getfield 166, 3) := by decide +kernel
theorem d_Mod_readPart_88 : decode m_Mod_readPart.2.1 88 = .ok (.iaload, 1) := by decide +kernel
theorem d_Mod_readPart_89 : decode m_Mod_readPart.2.1 89 = .ok (.sipush 1000, 3) := by decide +kernel
theorem d_Mod_readPart_92 : decode m_Mod_readPart.2.1 92 = .ok (.if_icmp .le 19, 3) := by decide +kernel
theorem d_Mod_readPart_95 : decode m_Mod_readPart.2.1 95 = .ok (.iload_n 2, 1) := by decide +kernel
theorem d_Mod_readPart_96 : decode m_Mod_readPart.2.1 96 = .ok (.aload_n 0, 1) := by decide +kernel
theorem d_Mod_readPart_97 : decode m_Mod_readPart.2.1 97 = .ok (.getfield 218, 3) := by decide +kernel
theorem d_Mod_readPart_100 : decode m_Mod_readPart.2.1 100 = .ok (.if_icmp .lt 44, 3) := by decide +kernel
theorem d_Mod_readPart_103 : decode m_Mod_readPart.2.1 103 = .ok (.iload_n 2, 1) := by decide +kernel
theorem d_Mod_readPart_104 : decode m_Mod_readPart.2.1 104 = .ok (.aload_n 0, 1) := by decide +kernel
theorem d_Mod_readPart_105 : decode m_Mod_readPart.2.1 105 = .ok (.getfield 221, 3) := by decide +kernel
theorem d_Mod_readPart_108 : decode m_Mod_readPart.2.1 108 = .ok (.if_icmp .gt 36, 3) := by decide +kernel
theorem d_Mod_readPart_111 : decode m_Mod_readPart.2.1 111 = .ok (.aload_n 0, 1) := by decide +kernel
theorem d_Mod_readPart_112 : decode m_Mod_readPart.2.1 112 = .ok (.invokevirtual 224, 3) := by decide +kernel
theorem d_Mod_readPart_115 : decode m_Mod_readPart.2.1 115 = .ok (.aload_n 0, 1) := by decide +kernel
theorem d_Mod_readPart_116 : decode m_Mod_readPart.2.1 116 = .ok (.getfield 192, 3) := by decide +kernel
theorem d_Mod_readPart_119 : decode m_Mod_readPart.2.1 119 = .ok (.ifCond .eq 29, 3) := by decide +kernel
theorem d_Mod_readPart_122 : decode m_Mod_readPart.2.1 122 = .ok (.iload_n 2, 1) := by decide +kernel
theorem d_Mod_readPart_123 : decode m_Mod_readPart.2.1 123 = .ok (.bipush 14, 2) := by decide +kernel
theorem d_Mod_readPart_125 : decode m_Mod_readPart.2.1 125 = .ok (.if_icmp .eq 9, 3) := by decide +kernel
theorem d_Mod_readPart_128 : decode m_Mod_readPart.2.1 128 = .ok (.iload_n 2, 1) := by decide +kernel
theorem d_Mod_readPart_129 : decode m_Mod_readPart.2.1 129 = .ok (.bipush 20, 2) := by decide +kernel
theorem d_Mod_readPart_131 : decode m_Mod_readPart.2.1 131 = .ok (.if_icmp .ne 17, 3) := by decide +kernel
theorem d_Mod_readPart_134 : decode m_Mod_readPart.2.1 134 = .ok (.aload_n 0, 1) := by decide +kernel
theorem d_Mod_readPart_135 : decode m_Mod_readPart.2.1 135 = .ok (.iconst 0, 1) := by decide +kernel
theorem d_Mod_readPart_136 : decode m_Mod_readPart.2.1 136 = .ok (.bipush 19, 2) := by decide +kernel
theorem d_Mod_readPart_138 : decode m_Mod_readPart.2.1 138 = .ok (.invokevirtual 188, 3) := by decide +kernel
theorem d_Mod_readPart_141 : decode m_Mod_readPart.2.1 141 = .ok (.goto 7, 3) := by decide +kernel
theorem d_Mod_readPart_144 : decode m_Mod_readPart.2.1 144 = .ok (.aload_n 0, 1) := by decide +kernel
theorem d_Mod_readPart_145 : decode m_Mod_readPart.2.1 145 = .ok (.invokevirtual 172, 3) := by decide +kernel
theorem d_Mod_readPart_148 : decode m_Mod_readPart.2.1 148 = .ok (.return_, 1) := by decide +kernel
theorem d_Mod_sign_0 : decode m_Mod_sign.2.1 0 = .ok (.bipush 100, 2) := by decide +kernel
theorem d_Mod_sign_2 : decode m_Mod_sign.2.1 2 = .ok (.iload_n 0, 1) := by decide +kernel
theorem d_Mod_sign_3 : decode m_Mod_sign.2.1 3 = .ok (.iadd, 1) := by decide +kernel
theorem d_Mod_sign_4 : decode m_Mod_sign.2.1 4 = .ok (.ireturn, 1) := by decide +kernel
theorem d_Mod_faults_0 : decode m_Mod_faults.2.1 0 = .ok (.aload_n 0, 1) := by decide +kernel
theorem d_Mod_faults_1 : decode m_Mod_faults.2.1 1 = .ok (.invokevirtual 162, 3) := by decide +kernel
theorem d_Mod_faults_4 : decode m_Mod_faults.2.1 4 = .ok (.ifCond .eq 16, 3) := by decide +kernel
theorem d_Mod_faults_7 : decode m_Mod_faults.2.1 7 = .ok (.aload_n 0, 1) := by decide +kernel
theorem d_Mod_faults_8 : decode m_Mod_faults.2.1 8 = .ok (.aload_n 0, 1) := by decide +kernel
theorem d_Mod_faults_9 : decode m_Mod_faults.2.1 9 = .ok (.getfield 64, 3) := by decide +kernel
theorem d_Mod_faults_12 : decode m_Mod_faults.2.1 12 = .ok (.aload_n 0, 1) := by decide +kernel
theorem d_Mod_faults_13 : decode m_Mod_faults.2.1 13 = .ok (.getfield 166, 3) := by decide +kernel
theorem d_Mod_faults_16 : decode m_Mod_faults.2.1 16 = .ok (.iaload, 1) := by decide +kernel
theorem d_Mod_faults_17 : decode m_Mod_faults.2.1 17 = .ok (.putfield 159, 3) := by decide +kernel
theorem d_Mod_faults_20 : decode m_Mod_faults.2.1 20 = .ok (.return_, 1) := by decide +kernel
theorem d_Mod_must_0 : decode m_Mod_must.2.1 0 = .ok (.aload_n 0, 1) := by decide +kernel
theorem d_Mod_must_1 : decode m_Mod_must.2.1 1 = .ok (.iload_n 1, 1) := by decide +kernel
theorem d_Mod_must_2 : decode m_Mod_must.2.1 2 = .ok (.invokevirtual 169, 3) := by decide +kernel
theorem d_Mod_must_5 : decode m_Mod_must.2.1 5 = .ok (.ifCond .ne 7, 3) := by decide +kernel
theorem d_Mod_must_8 : decode m_Mod_must.2.1 8 = .ok (.aload_n 0, 1) := by decide +kernel
theorem d_Mod_must_9 : decode m_Mod_must.2.1 9 = .ok (.invokevirtual 172, 3) := by decide +kernel
theorem d_Mod_must_12 : decode m_Mod_must.2.1 12 = .ok (.return_, 1) := by decide +kernel
theorem d_Mod_leaf_0 : decode m_Mod_leaf.2.1 0 = .ok (.aload_n 0, 1) := by decide +kernel
theorem d_Mod_leaf_1 : decode m_Mod_leaf.2.1 1 = .ok (.getfield 175, 3) := by decide +kernel
theorem d_Mod_leaf_4 : decode m_Mod_leaf.2.1 4 = .ok (.bipush 50, 2) := by decide +kernel
theorem d_Mod_leaf_6 : decode m_Mod_leaf.2.1 6 = .ok (.if_icmp .ne 7, 3) := by decide +kernel
theorem d_Mod_leaf_9 : decode m_Mod_leaf.2.1 9 = .ok (.aload_n 0, 1) := by decide +kernel
theorem d_Mod_leaf_10 : decode m_Mod_leaf.2.1 10 = .ok (.invokevirtual 172, 3) := by decide +kernel
theorem d_Mod_leaf_13 : decode m_Mod_leaf.2.1 13 = .ok (.aload_n 0, 1) := by decide +kernel
theorem d_Mod_leaf_14 : decode m_Mod_leaf.2.1 14 = .ok (.dup, 1) := by decide +kernel
theorem d_Mod_leaf_15 : decode m_Mod_leaf.2.1 15 = .ok (.getfield 175, 3) := by decide +kernel
theorem d_Mod_leaf_18 : decode m_Mod_leaf.2.1 18 = .ok (.iconst 1, 1) := by decide +kernel
theorem d_Mod_leaf_19 : decode m_Mod_leaf.2.1 19 = .ok (.iadd, 1) := by decide +kernel
theorem d_Mod_leaf_20 : decode m_Mod_leaf.2.1 20 = .ok (.putfield 175, 3) := by decide +kernel
theorem d_Mod_leaf_23 : decode m_Mod_leaf.2.1 23 = .ok (.aload_n 0, 1) := by decide +kernel
theorem d_Mod_leaf_24 : decode m_Mod_leaf.2.1 24 = .ok (.invokevirtual 162, 3) := by decide +kernel
theorem d_Mod_leaf_27 : decode m_Mod_leaf.2.1 27 = .ok (.ifCond .eq 13, 3) := by decide +kernel
theorem d_Mod_leaf_30 : decode m_Mod_leaf.2.1 30 = .ok (.aload_n 0, 1) := by decide +kernel
theorem d_Mod_leaf_31 : decode m_Mod_leaf.2.1 31 = .ok (.dup, 1) := by decide +kernel
theorem d_Mod_leaf_32 : decode m_Mod_leaf.2.1 32 = .ok (.getfield 166, 3) := by decide +kernel
theorem d_Mod_leaf_35 : decode m_Mod_leaf.2.1 35 = .ok (.iconst 1, 1) := by decide +kernel
theorem d_Mod_leaf_36 : decode m_Mod_leaf.2.1 36 = .ok (.iadd, 1) := by decide +kernel
theorem d_Mod_leaf_37 : decode m_Mod_leaf.2.1 37 = .ok (.putfield 166, 3) := by decide +kernel
theorem d_Mod_leaf_40 : decode m_Mod_leaf.2.1 40 = .ok (.return_, 1) := by decide +kernel
theorem d_Mod_mustNumber_0 : decode m_Mod_mustNumber.2.1 0 = .ok (.aload_n 0, 1) := by decide +kernel
theorem d_Mod_mustNumber_1 : decode m_Mod_mustNumber.2.1 1 = .ok (.invokevirtual 162, 3) := by decide +kernel
theorem d_Mod_mustNumber_4 : decode m_Mod_mustNumber.2.1 4 = .ok (.ifCond .eq 38, 3) := by decide +kernel
theorem d_Mod_mustNumber_7 : decode m_Mod_mustNumber.2.1 7 = .ok (.aload_n 0, 1) := by decide +kernel
theorem d_Mod_mustNumber_8 : decode m_Mod_mustNumber.2.1 8 = .ok (.getfield 58, 3) := by decide +kernel
theorem d_Mod_mustNumber_11 : decode m_Mod_mustNumber.2.1 11 = .ok (.aload_n 0, 1) := by decide +kernel
theorem d_Mod_mustNumber_12 : decode m_Mod_mustNumber.2.1 12 = .ok (.getfield 166, 3) := by decide +kernel
theorem d_Mod_mustNumber_15 : decode m_Mod_mustNumber.2.1 15 = .ok (.iaload, 1) := by decide +kernel
theorem d_Mod_mustNumber_16 : decode m_Mod_mustNumber.2.1 16 = .ok (.bipush 50, 2) := by decide +kernel
theorem d_Mod_mustNumber_18 : decode m_Mod_mustNumber.2.1 18 = .ok (.if_icmp .ne 20, 3) := by decide +kernel
theorem d_Mod_mustNumber_21 : decode m_Mod_mustNumber.2.1 21 = .ok (.aload_n 0, 1) := by decide +kernel
theorem d_Mod_mustNumber_22 : decode m_Mod_mustNumber.2.1 22 = .ok (.getfield 61, 3) := by decide +kernel
theorem d_Mod_mustNumber_25 : decode m_Mod_mustNumber.2.1 25 = .ok (.aload_n 0, 1) := by decide +kernel
theorem d_Mod_mustNumber_26 : decode m_Mod_mustNumber.2.1 26 = .ok (.getfield 166, 3) := by decide +kernel
theorem d_Mod_mustNumber_29 : decode m_Mod_mustNumber.2.1 29 = .ok (.iaload, 1) := by decide +kernel
theorem d_Mod_mustNumber_30 : decode m_Mod_mustNumber.2.1 30 = .ok (.iload_n 1, 1) := by decide +kernel
theorem d_Mod_mustNumber_31 : decode m_Mod_mustNumber.2.1 31 = .ok (.iload_n 2, 1) := by decide +kernel
theorem d_Mod_mustNumber_32 : decode m_Mod_mustNumber.2.1 32 = .ok (.invokestatic 18, 3) := by decide +kernel
theorem d_Mod_mustNumber_35 : decode m_Mod_mustNumber.2.1 35 = .ok (.ifCond .ne 7, 3) := by decide +kernel
theorem d_Mod_mustNumber_38 : decode m_Mod_mustNumber.2.1 38 = .ok (.aload_n 0, 1) := by decide +kernel
theorem d_Mod_mustNumber_39 : decode m_Mod_mustNumber.2.1 39 = .ok (.invokevirtual 172, 3) := by decide +kernel
theorem d_Mod_mustNumber_42 : decode m_Mod_mustNumber.2.1 42 = .ok (.aload_n 0, 1) := by decide +kernel
theorem d_Mod_mustNumber_43 : decode m_Mod_mustNumber.2.1 43 = .ok (.invokevirtual 162, 3) := by decide +kernel
theorem d_Mod_mustNumber_46 : decode m_Mod_mustNumber.2.1 46 = .ok (.ifCond .eq 13, 3) := by decide +kernel
theorem d_Mod_mustNumber_49 : decode m_Mod_mustNumber.2.1 49 = .ok (.aload_n 0, 1) := by decide +kernel
theorem d_Mod_mustNumber_50 : decode m_Mod_mustNumber.2.1 50 = .ok (.dup, 1) := by decide +kernel
theorem d_Mod_mustNumber_51 : decode m_Mod_mustNumber.2.1 51 = .ok (.getfield 166, 3) := by decide +kernel
theorem d_Mod_mustNumber_54 : decode m_Mod_mustNumber.2.1 54 = .ok (.iconst 1, 1) := by decide +kernel
theorem d_Mod_mustNumber_55 : decode m_Mod_mustNumber.2.1 55 = .ok (.iadd, 1) := by decide +kernel
theorem d_Mod_mustNumber_56 : decode m_Mod_mustNumber.2.1 56 = .ok (.putfield 166, 3) := by decide +kernel
theorem d_Mod_mustNumber_59 : decode m_Mod_mustNumber.2.1 59 = .ok (.return_, 1) := by decide +kernel
theorem d_Mod_readTest_0 : decode m_Mod_readTest.2.1 0 = .ok (.aload_n 0, 1) := by decide +kernel
theorem d_Mod_readTest_1 : decode m_Mod_readTest.2.1 1 = .ok (.iload_n 1, 1) := by decide +kernel
theorem d_Mod_readTest_2 : decode m_Mod_readTest.2.1 2 = .ok (.invokevirtual 202, 3) := by decide +kernel
theorem d_Mod_readTest_5 : decode m_Mod_readTest.2.1 5 = .ok (.aload_n 0, 1) := by decide +kernel
theorem d_Mod_readTest_6 : decode m_Mod_readTest.2.1 6 = .ok (.bipush 6, 2) := by decide +kernel
theorem d_Mod_readTest_8 : decode m_Mod_readTest.2.1 8 = .ok (.invokevirtual 169, 3) := by decide +kernel
theorem d_Mod_readTest_11 : decode m_Mod_readTest.2.1 11 = .ok (.ifCond .eq 11, 3) := by decide +kernel
theorem d_Mod_readTest_14 : decode m_Mod_readTest.2.1 14 = .ok (.aload_n 0, 1) := by decide +kernel
theorem d_Mod_readTest_15 : decode m_Mod_readTest.2.1 15 = .ok (.iload_n 1, 1) := by decide +kernel
theorem d_Mod_readTest_16 : decode m_Mod_readTest.2.1 16 = .ok (.invokevirtual 202, 3) := by decide +kernel
theorem d_Mod_readTest_19 : decode m_Mod_readTest.2.1 19 = .ok (.goto (-14), 3) := by decide +kernel
theorem d_Mod_readTest_22 : decode m_Mod_readTest.2.1 22 = .ok (.return_, 1) := by decide +kernel
theorem d_Mod_readBoth_0 : decode m_Mod_readBoth.2.1 0 = .ok (.aload_n 0, 1) := by decide +kernel
theorem d_Mod_readBoth_1 : decode m_Mod_readBoth.2.1 1 = .ok (.iload_n 1, 1) := by decide +kernel
theorem d_Mod_readBoth_2 : decode m_Mod_readBoth.2.1 2 = .ok (.invokevirtual 205, 3) := by decide +kernel
theorem d_Mod_readBoth_5 : decode m_Mod_readBoth.2.1 5 = .ok (.aload_n 0, 1) := by decide +kernel
theorem d_Mod_readBoth_6 : decode m_Mod_readBoth.2.1 6 = .ok (.bipush 7, 2) := by decide +kernel
theorem d_Mod_readBoth_8 : decode m_Mod_readBoth.2.1 8 = .ok (.invokevirtual 169, 3) := by decide +kernel
theorem d_Mod_readBoth_11 : decode m_Mod_readBoth.2.1 11 = .ok (.ifCond .eq 11, 3) := by decide +kernel
theorem d_Mod_readBoth_14 : decode m_Mod_readBoth.2.1 14 = .ok (.aload_n 0, 1) := by decide +kernel
theorem d_Mod_readBoth_15 : decode m_Mod_readBoth.2.1 15 = .ok (.iload_n 1, 1) := by decide +kernel
theorem d_Mod_readBoth_16 : decode m_Mod_readBoth.2.1 16 = .ok (.invokevirtual 205, 3) := by decide +kernel
theorem d_Mod_readBoth_19 : decode m_Mod_readBoth.2.1 19 = .ok (.goto (-14), 3) := by decide +kernel
theorem d_Mod_readBoth_22 : decode m_Mod_readBoth.2.1 22 = .ok (.return_, 1) := by decide +kernel
theorem d_Mod_readPlain_0 : decode m_Mod_readPlain.2.1 0 = .ok (.iconst 1, 1) := by decide +kernel
theorem d_Mod_readPlain_1 : decode m_Mod_readPlain.2.1 1 = .ok (.istore_n 2, 1) := by decide +kernel
theorem d_Mod_readPlain_2 : decode m_Mod_readPlain.2.1 2 = .ok (.iload_n 2, 1) := by decide +kernel
theorem d_Mod_readPlain_3 : decode m_Mod_readPlain.2.1 3 = .ok (.ifCond .eq 13, 3) := by decide +kernel
theorem d_Mod_readPlain_6 : decode m_Mod_readPlain.2.1 6 = .ok (.aload_n 0, 1) := by decide +kernel
theorem d_Mod_readPlain_7 : decode m_Mod_readPlain.2.1 7 = .ok (.bipush 8, 2) := by decide +kernel
theorem d_Mod_readPlain_9 : decode m_Mod_readPlain.2.1 9 = .ok (.invokevirtual 169, 3) := by decide +kernel
theorem d_Mod_readPlain_12 : decode m_Mod_readPlain.2.1 12 = .ok (.istore_n 2, 1) := by decide +kernel
theorem d_Mod_readPlain_13 : decode m_Mod_readPlain.2.1 13 = .ok (.goto (-11), 3) := by decide +kernel
theorem d_Mod_readPlain_16 : decode m_Mod_readPlain.2.1 16 = .ok (.aload_n 0, 1) := by decide +kernel
theorem d_Mod_readPlain_17 : decode m_Mod_readPlain.2.1 17 = .ok (.invokevirtual 162, 3) := by decide +kernel
theorem d_Mod_readPlain_20 : decode m_Mod_readPlain.2.1 20 = .ok (.ifCond .ne 4, 3) := by decide +kernel
theorem d_Mod_readPlain_23 : decode m_Mod_readPlain.2.1 23 = .ok (.return_, 1) := by decide +kernel
theorem d_Mod_readPlain_24 : decode m_Mod_readPlain.2.1 24 = .ok (.aload_n 0, 1) := by decide +kernel
theorem d_Mod_readPlain_25 : decode m_Mod_readPlain.2.1 25 = .ok (.getfield 58, 3) := by decide +kernel
theorem d_Mod_readPlain_28 : decode m_Mod_readPlain.2.1 28 = .ok (.aload_n 0, 1) := by decide +kernel
theorem d_Mod_readPlain_29 : decode m_Mod_readPlain.2.1 29 = .ok (.getfield 166, 3) := by decide +kernel
theorem d_Mod_readPlain_32 : decode m_Mod_readPlain.2.1 32 = .ok (.iaload, 1) := by decide +kernel
theorem d_Mod_readPlain_33 : decode m_Mod_readPlain.2.1 33 = .ok (.istore_n 3, 1) := by decide +kernel
theorem d_Mod_readPlain_34 : decode m_Mod_readPlain.2.1 34 = .ok (.iload_n 3, 1) := by decide +kernel
theorem d_Mod_readPlain_35 : decode m_Mod_readPlain.2.1 35 = .ok (.bipush 40, 2) := by decide +kernel
theorem d_Mod_readPlain_37 : decode m_Mod_readPlain.2.1 37 = .ok (.invokestatic 208, 3) := by decide +kernel
theorem d_Mod_readPlain_40 : decode m_Mod_readPlain.2.1 40 = .ok (.if_icmp .ne 50, 3) := by decide +kernel
theorem d_Mod_readPlain_43 : decode m_Mod_readPlain.2.1 43 = .ok (.iload_n 1, 1) := by decide +kernel
theorem d_Mod_readPlain_44 : decode m_Mod_readPlain.2.1 44 = .ok (.bipush 8, 2) := by decide +kernel
theorem d_Mod_readPlain_46 : decode m_Mod_readPlain.2.1 46 = .ok (.if_icmp .ne 7, 3) := by decide +kernel
theorem d_Mod_readPlain_49 : decode m_Mod_readPlain.2.1 49 = .ok (.aload_n 0, 1) := by decide +kernel
theorem d_Mod_readPlain_50 : decode m_Mod_readPlain.2.1 50 = .ok (.invokevirtual 172, 3) := by decide +kernel
theorem d_Mod_readPlain_53 : decode m_Mod_readPlain.2.1 53 = .ok (.aload_n 0, 1) := by decide +kernel
theorem d_Mod_readPlain_54 : decode m_Mod_readPlain.2.1 54 = .ok (.invokevirtual 162, 3) := by decide +kernel
theorem d_Mod_readPlain_57 : decode m_Mod_readPlain.2.1 57 = .ok (.ifCond .ne 4, 3) := by decide +kernel
theorem d_Mod_readPlain_60 : decode m_Mod_readPlain.2.1 60 = .ok (.return_, 1) := by decide +kernel
theorem d_Mod_readPlain_61 : decode m_Mod_readPlain.2.1 61 = .ok (.aload_n 0, 1) := by decide +kernel
theorem d_Mod_readPlain_62 : decode m_Mod_readPlain.2.1 62 = .ok (.dup, 1) := by decide +kernel
theorem d_Mod_readPlain_63 : decode m_Mod_readPlain.2.1 63 = .ok (.getfield 166, 3) := by decide +kernel
theorem d_Mod_readPlain_66 : decode m_Mod_readPlain.2.1 66 = .ok (.iconst 1, 1) := by decide +kernel
theorem d_Mod_readPlain_67 : decode m_Mod_readPlain.2.1 67 = .ok (.iadd, 1) := by decide +kernel
theorem d_Mod_readPlain_68 : decode m_Mod_readPlain.2.1 68 = .ok (.putfield 166, 3) := by decide +kernel
theorem d_Mod_readPlain_71 : decode m_Mod_readPlain.2.1 71 = .ok (.aload_n 0, 1) := by decide +kernel
theorem d_Mod_readPlain_72 : decode m_Mod_readPlain.2.1 72 = .ok (.iload_n 1, 1) := by decide +kernel
theorem d_Mod_readPlain_73 : decode m_Mod_readPlain.2.1 73 = .ok (.iconst 1, 1) := by decide +kernel
theorem d_Mod_readPlain_74 : decode m_Mod_readPlain.2.1 74 = .ok (.iadd, 1) := by decide +kernel
theorem d_Mod_readPlain_75 : decode m_Mod_readPlain.2.1 75 = .ok (.invokevirtual 185, 3) := by decide +kernel
theorem d_Mod_readPlain_78 : decode m_Mod_readPlain.2.1 78 = .ok (.aload_n 0, 1) := by decide +kernel
theorem d_Mod_readPlain_79 : decode m_Mod_readPlain.2.1 79 = .ok (.bipush 41, 2) := by decide +kernel
theorem d_Mod_readPlain_81 : decode m_Mod_readPlain.2.1 81 = .ok (.invokestatic 208, 3) := by decide +kernel
theorem d_Mod_readPlain_84 : decode m_Mod_readPlain.2.1 84 = .ok (.invokevirtual 182, 3) := by decide +kernel
theorem d_Mod_readPlain_87 : decode m_Mod_readPlain.2.1 87 = .ok (.goto 46, 3) := by decide +kernel
theorem d_Mod_readPlain_90 : decode m_Mod_readPlain.2.1 90 = .ok (.aload_n 0, 1) := by decide +kernel
theorem d_Mod_readPlain_91 : decode m_Mod_readPlain.2.1 91 = .ok (.iload_n 1, 1) := by decide +kernel
theorem d_Mod_readPlain_92 : decode m_Mod_readPlain.2.1 92 = .ok (.invokevirtual 178, 3) := by decide +kernel
theorem d_Mod_readPlain_95 : decode m_Mod_readPlain.2.1 95 = .ok (.aload_n 0, 1) := by decide +kernel
theorem d_Mod_readPlain_96 : decode m_Mod_readPlain.2.1 96 = .ok (.bipush 60, 2) := by decide +kernel
theorem d_Mod_readPlain_98 : decode m_Mod_readPlain.2.1 98 = .ok (.invokestatic 208, 3) := by decide +kernel
theorem d_Mod_readPlain_101 : decode m_Mod_readPlain.2.1 101 = .ok (.invokevirtual 169, 3) := by decide +kernel
theorem d_Mod_readPlain_104 : decode m_Mod_readPlain.2.1 104 = .ok (.ifCond .ne 24, 3) := by decide +kernel
theorem d_Mod_readPlain_107 : decode m_Mod_readPlain.2.1 107 = .ok (.aload_n 0, 1) := by decide +kernel
theorem d_Mod_readPlain_108 : decode m_Mod_readPlain.2.1 108 = .ok (.bipush 62, 2) := by decide +kernel
theorem d_Mod_readPlain_110 : decode m_Mod_readPlain.2.1 110 = .ok (.invokestatic 208, 3) := by decide +kernel
theorem d_Mod_readPlain_113 : decode m_Mod_readPlain.2.1 113 = .ok (.invokevirtual 169, 3) := by decide +kernel
theorem d_Mod_readPlain_116 : decode m_Mod_readPlain.2.1 116 = .ok (.ifCond .ne 12, 3) := by decide +kernel
theorem d_Mod_readPlain_119 : decode m_Mod_readPlain.2.1 119 = .ok (.aload_n 0, 1) := by decide +kernel
theorem d_Mod_readPlain_120 : decode m_Mod_readPlain.2.1 120 = .ok (.bipush 61, 2) := by decide +kernel
theorem d_Mod_readPlain_122 : decode m_Mod_readPlain.2.1 122 = .ok (.invokestatic 208, 3) := by decide +kernel
theorem d_Mod_readPlain_125 : decode m_Mod_readPlain.2.1 125 = .ok (.invokevirtual 182, 3) := by decide +kernel
theorem d_Mod_readPlain_128 : decode m_Mod_readPlain.2.1 128 = .ok (.aload_n 0, 1) := by decide +kernel
theorem d_Mod_readPlain_129 : decode m_Mod_readPlain.2.1 129 = .ok (.iload_n 1, 1) := by decide +kernel
theorem d_Mod_readPlain_130 : decode m_Mod_readPlain.2.1 130 = .ok (.invokevirtual 178, 3) := by decide +kernel
theorem d_Mod_readPlain_133 : decode m_Mod_readPlain.2.1 133 = .ok (.return_, 1) := by decide +kernel
theorem d_Mod_readClause_0 : decode m_Mod_readClause.2.1 0 = .ok (.aload_n 0, 1) := by decide +kernel
theorem d_Mod_readClause_1 : decode m_Mod_readClause.2.1 1 = .ok (.iconst 1, 1) := by decide +kernel
theorem d_Mod_readClause_2 : decode m_Mod_readClause.2.1 2 = .ok (.invokevirtual 169, 3) := by decide +kernel
theorem d_Mod_readClause_5 : decode m_Mod_readClause.2.1 5 = .ok (.ifCond .ne 19, 3) := by decide +kernel
theorem d_Mod_readClause_8 : decode m_Mod_readClause.2.1 8 = .ok (.aload_n 0, 1) := by decide +kernel
theorem d_Mod_readClause_9 : decode m_Mod_readClause.2.1 9 = .ok (.iconst 2, 1) := by decide +kernel
theorem d_Mod_readClause_10 : decode m_Mod_readClause.2.1 10 = .ok (.invokevirtual 169, 3) := by decide +kernel
theorem d_Mod_readClause_13 : decode m_Mod_readClause.2.1 13 = .ok (.ifCond .ne 11, 3) := by decide +kernel
theorem d_Mod_readClause_16 : decode m_Mod_readClause.2.1 16 = .ok (.aload_n 0, 1) := by decide +kernel
theorem d_Mod_readClause_17 : decode m_Mod_readClause.2.1 17 = .ok (.iconst 3, 1) := by decide +kernel
theorem d_Mod_readClause_18 : decode m_Mod_readClause.2.1 18 = .ok (.invokevirtual 169, 3) := by decide +kernel
theorem d_Mod_readClause_21 : decode m_Mod_readClause.2.1 21 = .ok (.ifCond .eq 11, 3) := by decide +kernel
theorem d_Mod_readClause_24 : decode m_Mod_readClause.2.1 24 = .ok (.aload_n 0, 1) := by decide +kernel
theorem d_Mod_readClause_25 : decode m_Mod_readClause.2.1 25 = .ok (.iconst 0, 1) := by decide +kernel
theorem d_Mod_readClause_26 : decode m_Mod_readClause.2.1 26 = .ok (.invokevirtual 178, 3) := by decide +kernel
theorem d_Mod_readClause_29 : decode m_Mod_readClause.2.1 29 = .ok (.goto 8, 3) := by decide +kernel
theorem d_Mod_readClause_32 : decode m_Mod_readClause.2.1 32 = .ok (.aload_n 0, 1) := by decide +kernel
theorem d_Mod_readClause_33 : decode m_Mod_readClause.2.1 33 = .ok (.iconst 4, 1) := by decide +kernel
theorem d_Mod_readClause_34 : decode m_Mod_readClause.2.1 34 = .ok (.invokevirtual 182, 3) := by decide +kernel
theorem d_Mod_readClause_37 : decode m_Mod_readClause.2.1 37 = .ok (.aload_n 0, 1) := by decide +kernel
theorem d_Mod_readClause_38 : decode m_Mod_readClause.2.1 38 = .ok (.iconst 5, 1) := by decide +kernel
theorem d_Mod_readClause_39 : decode m_Mod_readClause.2.1 39 = .ok (.invokevirtual 169, 3) := by decide +kernel
theorem d_Mod_readClause_42 : decode m_Mod_readClause.2.1 42 = .ok (.ifCond .eq 8, 3) := by decide +kernel
theorem d_Mod_readClause_45 : decode m_Mod_readClause.2.1 45 = .ok (.aload_n 0, 1) := by decide +kernel
theorem d_Mod_readClause_46 : decode m_Mod_readClause.2.1 46 = .ok (.iconst 0, 1) := by decide +kernel
theorem d_Mod_readClause_47 : decode m_Mod_readClause.2.1 47 = .ok (.invokevirtual 185, 3) := by decide +kernel
theorem d_Mod_readClause_50 : decode m_Mod_readClause.2.1 50 = .ok (.return_, 1) := by decide +kernel
theorem d_Mod_lays_0 : decode m_Mod_lays.2.1 0 = .ok (.aload_n 0, 1) := by decide +kernel
theorem d_Mod_lays_1 : decode m_Mod_lays.2.1 1 = .ok (.getfield 32, 3) := by decide +kernel
theorem d_Mod_lays_4 : decode m_Mod_lays.2.1 4 = .ok (.bipush 26, 2) := by decide +kernel
theorem d_Mod_lays_6 : decode m_Mod_lays.2.1 6 = .ok (.iload_n 1, 1) := by decide +kernel
theorem d_Mod_lays_7 : decode m_Mod_lays.2.1 7 = .ok (.iadd, 1) := by decide +kernel
theorem d_Mod_lays_8 : decode m_Mod_lays.2.1 8 = .ok (.aload_n 0, 1) := by decide +kernel
theorem d_Mod_lays_9 : decode m_Mod_lays.2.1 9 = .ok (.getfield 145, 3) := by decide +kernel
theorem d_Mod_lays_12 : decode m_Mod_lays.2.1 12 = .ok (.iastore, 1) := by decide +kernel
theorem d_Mod_lays_13 : decode m_Mod_lays.2.1 13 = .ok (.iconst 0, 1) := by decide +kernel
theorem d_Mod_lays_14 : decode m_Mod_lays.2.1 14 = .ok (.istore_n 2, 1) := by decide +kernel
theorem d_Mod_lays_15 : decode m_Mod_lays.2.1 15 = .ok (.iload_n 2, 1) := by decide +kernel
theorem d_Mod_lays_16 : decode m_Mod_lays.2.1 16 = .ok (.aload_n 0, 1) := by decide +kernel
theorem d_Mod_lays_17 : decode m_Mod_lays.2.1 17 = .ok (.getfield 145, 3) := by decide +kernel
theorem d_Mod_lays_20 : decode m_Mod_lays.2.1 20 = .ok (.if_icmp .ge 52, 3) := by decide +kernel
theorem d_Mod_lays_23 : decode m_Mod_lays.2.1 23 = .ok (.aload_n 0, 1) := by decide +kernel
theorem d_Mod_lays_24 : decode m_Mod_lays.2.1 24 = .ok (.getfield 32, 3) := by decide +kernel
theorem d_Mod_lays_27 : decode m_Mod_lays.2.1 27 = .ok (.bipush 33, 2) := by decide +kernel
theorem d_Mod_lays_29 : decode m_Mod_lays.2.1 29 = .ok (.sipush 400, 3) := by decide +kernel
theorem d_Mod_lays_32 : decode m_Mod_lays.2.1 32 = .ok (.iload_n 1, 1) := by decide +kernel
theorem d_Mod_lays_33 : decode m_Mod_lays.2.1 33 = .ok (.imul, 1) := by decide +kernel
theorem d_Mod_lays_34 : decode m_Mod_lays.2.1 34 = .ok (.iadd, 1) := by decide +kernel
theorem d_Mod_lays_35 : decode m_Mod_lays.2.1 35 = .ok (.iload_n 2, 1) := by decide +kernel
theorem d_Mod_lays_36 : decode m_Mod_lays.2.1 36 = .ok (.iadd, 1) := by decide +kernel
theorem d_Mod_lays_37 : decode m_Mod_lays.2.1 37 = .ok (.aload_n 0, 1) := by decide +kernel
theorem d_Mod_lays_38 : decode m_Mod_lays.2.1 38 = .ok (.getfield 58, 3) := by decide +kernel
theorem d_Mod_lays_41 : decode m_Mod_lays.2.1 41 = .ok (.iload_n 2, 1) := by decide +kernel
theorem d_Mod_lays_42 : decode m_Mod_lays.2.1 42 = .ok (.iaload, 1) := by decide +kernel
theorem d_Mod_lays_43 : decode m_Mod_lays.2.1 43 = .ok (.iastore, 1) := by decide +kernel
theorem d_Mod_lays_44 : decode m_Mod_lays.2.1 44 = .ok (.aload_n 0, 1) := by decide +kernel
theorem d_Mod_lays_45 : decode m_Mod_lays.2.1 45 = .ok (.getfield 32, 3) := by decide +kernel
theorem d_Mod_lays_48 : decode m_Mod_lays.2.1 48 = .ok (.sipush 2833, 3) := by decide +kernel
theorem d_Mod_lays_51 : decode m_Mod_lays.2.1 51 = .ok (.sipush 400, 3) := by decide +kernel
theorem d_Mod_lays_54 : decode m_Mod_lays.2.1 54 = .ok (.iload_n 1, 1) := by decide +kernel
theorem d_Mod_lays_55 : decode m_Mod_lays.2.1 55 = .ok (.imul, 1) := by decide +kernel
theorem d_Mod_lays_56 : decode m_Mod_lays.2.1 56 = .ok (.iadd, 1) := by decide +kernel
theorem d_Mod_lays_57 : decode m_Mod_lays.2.1 57 = .ok (.iload_n 2, 1) := by decide +kernel
theorem d_Mod_lays_58 : decode m_Mod_lays.2.1 58 = .ok (.iadd, 1) := by decide +kernel
theorem d_Mod_lays_59 : decode m_Mod_lays.2.1 59 = .ok (.aload_n 0, 1) := by decide +kernel
theorem d_Mod_lays_60 : decode m_Mod_lays.2.1 60 = .ok (.getfield 61, 3) := by decide +kernel
theorem d_Mod_lays_63 : decode m_Mod_lays.2.1 63 = .ok (.iload_n 2, 1) := by decide +kernel
theorem d_Mod_lays_64 : decode m_Mod_lays.2.1 64 = .ok (.iaload, 1) := by decide +kernel
theorem d_Mod_lays_65 : decode m_Mod_lays.2.1 65 = .ok (.iastore, 1) := by decide +kernel
theorem d_Mod_lays_66 : decode m_Mod_lays.2.1 66 = .ok (.iinc 2 1, 3) := by decide +kernel
theorem d_Mod_lays_69 : decode m_Mod_lays.2.1 69 = .ok (.goto (-54), 3) := by decide +kernel
theorem d_Mod_lays_72 : decode m_Mod_lays.2.1 72 = .ok (.return_, 1) := by decide +kernel
theorem d_Mod_fault_0 : decode m_Mod_fault.2.1 0 = .ok (.aload_n 0, 1) := by decide +kernel
theorem d_Mod_fault_1 : decode m_Mod_fault.2.1 1 = .ok (.getfield 55, 3) := by decide +kernel
theorem d_Mod_fault_4 : decode m_Mod_fault.2.1 4 = .ok (.ireturn, 1) := by decide +kernel
theorem d_Mod_force_0 : decode m_Mod_force.2.1 0 = .ok (.aload_n 0, 1) := by decide +kernel
theorem d_Mod_force_1 : decode m_Mod_force.2.1 1 = .ok (.iload_n 1, 1) := by decide +kernel
theorem d_Mod_force_2 : decode m_Mod_force.2.1 2 = .ok (.invokevirtual 243, 3) := by decide +kernel
theorem d_Mod_force_5 : decode m_Mod_force.2.1 5 = .ok (.ifCond .ne 10, 3) := by decide +kernel
theorem d_Mod_force_8 : decode m_Mod_force.2.1 8 = .ok (.aload_n 0, 1) := by decide +kernel
theorem d_Mod_force_9 : decode m_Mod_force.2.1 9 = .ok (.bipush (-2), 2) := by decide +kernel
theorem d_Mod_force_11 : decode m_Mod_force.2.1 11 = .ok (.invokevirtual 119, 3) := by decide +kernel
theorem d_Mod_force_14 : decode m_Mod_force.2.1 14 = .ok (.ireturn, 1) := by decide +kernel
theorem d_Mod_force_15 : decode m_Mod_force.2.1 15 = .ok (.aload_n 0, 1) := by decide +kernel
theorem d_Mod_force_16 : decode m_Mod_force.2.1 16 = .ok (.getfield 32, 3) := by decide +kernel
theorem d_Mod_force_19 : decode m_Mod_force.2.1 19 = .ok (.bipush 25, 2) := by decide +kernel
theorem d_Mod_force_21 : decode m_Mod_force.2.1 21 = .ok (.iaload, 1) := by decide +kernel
theorem d_Mod_force_22 : decode m_Mod_force.2.1 22 = .ok (.istore_n 2, 1) := by decide +kernel
theorem d_Mod_force_23 : decode m_Mod_force.2.1 23 = .ok (.aload_n 0, 1) := by decide +kernel
theorem d_Mod_force_24 : decode m_Mod_force.2.1 24 = .ok (.getfield 32, 3) := by decide +kernel
theorem d_Mod_force_27 : decode m_Mod_force.2.1 27 = .ok (.bipush 25, 2) := by decide +kernel
theorem d_Mod_force_29 : decode m_Mod_force.2.1 29 = .ok (.iload_n 1, 1) := by decide +kernel
theorem d_Mod_force_30 : decode m_Mod_force.2.1 30 = .ok (.iastore, 1) := by decide +kernel
theorem d_Mod_force_31 : decode m_Mod_force.2.1 31 = .ok (.aload_n 0, 1) := by decide +kernel
theorem d_Mod_force_32 : decode m_Mod_force.2.1 32 = .ok (.iload_n 2, 1) := by decide +kernel
theorem d_Mod_force_33 : decode m_Mod_force.2.1 33 = .ok (.invokevirtual 14, 3) := by decide +kernel
theorem d_Mod_force_36 : decode m_Mod_force.2.1 36 = .ok (.ireturn, 1) := by decide +kernel
theorem d_Mod_isLaw_0 : decode m_Mod_isLaw.2.1 0 = .ok (.iload_n 1, 1) := by decide +kernel
theorem d_Mod_isLaw_1 : decode m_Mod_isLaw.2.1 1 = .ok (.iconst (-1), 1) := by decide +kernel
theorem d_Mod_isLaw_2 : decode m_Mod_isLaw.2.1 2 = .ok (.aload_n 0, 1) := by decide +kernel
theorem d_Mod_isLaw_3 : decode m_Mod_isLaw.2.1 3 = .ok (.getfield 32, 3) := by decide +kernel
theorem d_Mod_isLaw_6 : decode m_Mod_isLaw.2.1 6 = .ok (.bipush 24, 2) := by decide +kernel
theorem d_Mod_isLaw_8 : decode m_Mod_isLaw.2.1 8 = .ok (.iaload, 1) := by decide +kernel
theorem d_Mod_isLaw_9 : decode m_Mod_isLaw.2.1 9 = .ok (.iconst 1, 1) := by decide +kernel
theorem d_Mod_isLaw_10 : decode m_Mod_isLaw.2.1 10 = .ok (.isub, 1) := by decide +kernel
theorem d_Mod_isLaw_11 : decode m_Mod_isLaw.2.1 11 = .ok (.invokestatic 18, 3) := by decide +kernel
theorem d_Mod_isLaw_14 : decode m_Mod_isLaw.2.1 14 = .ok (.ireturn, 1) := by decide +kernel
theorem d_Mod_asks_0 : decode m_Mod_asks.2.1 0 = .ok (.iload_n 1, 1) := by decide +kernel
theorem d_Mod_asks_1 : decode m_Mod_asks.2.1 1 = .ok (.invokestatic 142, 3) := by decide +kernel
theorem d_Mod_asks_4 : decode m_Mod_asks.2.1 4 = .ok (.ifCond .eq 15, 3) := by decide +kernel
theorem d_Mod_asks_7 : decode m_Mod_asks.2.1 7 = .ok (.iload_n 2, 1) := by decide +kernel
theorem d_Mod_asks_8 : decode m_Mod_asks.2.1 8 = .ok (.iconst 0, 1) := by decide +kernel
theorem d_Mod_asks_9 : decode m_Mod_asks.2.1 9 = .ok (.aload_n 0, 1) := by decide +kernel
theorem d_Mod_asks_10 : decode m_Mod_asks.2.1 10 = .ok (.invokevirtual 125, 3) := by decide +kernel
theorem d_Mod_asks_13 : decode m_Mod_asks.2.1 13 = .ok (.invokestatic 18, 3) := by decide +kernel
theorem d_Mod_asks_16 : decode m_Mod_asks.2.1 16 = .ok (.ifCond .ne 5, 3) := by decide +kernel
theorem d_Mod_asks_19 : decode m_Mod_asks.2.1 19 = .ok (.iconst (-1), 1) := by decide +kernel
theorem d_Mod_asks_20 : decode m_Mod_asks.2.1 20 = .ok (.ireturn, 1) := by decide +kernel
theorem d_Mod_asks_21 : decode m_Mod_asks.2.1 21 = .ok (.iload_n 3, 1) := by decide +kernel
theorem d_Mod_asks_22 : decode m_Mod_asks.2.1 22 = .ok (.tableswitch 70 0 3 #[30, 37, 46, 55], 30) := by decide +kernel
theorem d_Mod_asks_52 : decode m_Mod_asks.2.1 52 = .ok (.aload_n 0, 1) := by decide +kernel
theorem d_Mod_asks_53 : decode m_Mod_asks.2.1 53 = .ok (.iload_n 1, 1) := by decide +kernel
theorem d_Mod_asks_54 : decode m_Mod_asks.2.1 54 = .ok (.iload_n 2, 1) := by decide +kernel
theorem d_Mod_asks_55 : decode m_Mod_asks.2.1 55 = .ok (.invokevirtual 327, 3) := by decide +kernel
theorem d_Mod_asks_58 : decode m_Mod_asks.2.1 58 = .ok (.ireturn, 1) := by decide +kernel
theorem d_Mod_asks_59 : decode m_Mod_asks.2.1 59 = .ok (.aload_n 0, 1) := by decide +kernel
theorem d_Mod_asks_60 : decode m_Mod_asks.2.1 60 = .ok (.iconst 2, 1) := by decide +kernel
theorem d_Mod_asks_61 : decode m_Mod_asks.2.1 61 = .ok (.iload_n 1, 1) := by decide +kernel
theorem d_Mod_asks_62 : decode m_Mod_asks.2.1 62 = .ok (.iload_n 2, 1) := by decide +kernel
theorem d_Mod_asks_63 : decode m_Mod_asks.2.1 63 = .ok (.iconst 1, 1) := by decide +kernel
theorem d_Mod_asks_64 : decode m_Mod_asks.2.1 64 = .ok (.invokevirtual 320, 3) := by decide +kernel
theorem d_Mod_asks_67 : decode m_Mod_asks.2.1 67 = .ok (.ireturn, 1) := by decide +kernel
theorem d_Mod_asks_68 : decode m_Mod_asks.2.1 68 = .ok (.aload_n 0, 1) := by decide +kernel
theorem d_Mod_asks_69 : decode m_Mod_asks.2.1 69 = .ok (.iconst 3, 1) := by decide +kernel
theorem d_Mod_asks_70 : decode m_Mod_asks.2.1 70 = .ok (.iload_n 1, 1) := by decide +kernel
theorem d_Mod_asks_71 : decode m_Mod_asks.2.1 71 = .ok (.iload_n 2, 1) := by decide +kernel
theorem d_Mod_asks_72 : decode m_Mod_asks.2.1 72 = .ok (.iconst 1, 1) := by decide +kernel
theorem d_Mod_asks_73 : decode m_Mod_asks.2.1 73 = .ok (.invokevirtual 320, 3) := by decide +kernel
theorem d_Mod_asks_76 : decode m_Mod_asks.2.1 76 = .ok (.ireturn, 1) := by decide +kernel
theorem d_Mod_asks_77 : decode m_Mod_asks.2.1 77 = .ok (.aload_n 0, 1) := by decide +kernel
theorem d_Mod_asks_78 : decode m_Mod_asks.2.1 78 = .ok (.iload_n 1, 1) := by decide +kernel
theorem d_Mod_asks_79 : decode m_Mod_asks.2.1 79 = .ok (.iload_n 2, 1) := by decide +kernel
theorem d_Mod_asks_80 : decode m_Mod_asks.2.1 80 = .ok (.invokevirtual 330, 3) := by decide +kernel
theorem d_Mod_asks_83 : decode m_Mod_asks.2.1 83 = .ok (.ifCond .eq 7, 3) := by decide +kernel
theorem d_Mod_asks_86 : decode m_Mod_asks.2.1 86 = .ok (.iconst 1, 1) := by decide +kernel
theorem d_Mod_asks_87 : decode m_Mod_asks.2.1 87 = .ok (.goto 4, 3) := by decide +kernel
theorem d_Mod_asks_90 : decode m_Mod_asks.2.1 90 = .ok (.iconst 0, 1) := by decide +kernel
theorem d_Mod_asks_91 : decode m_Mod_asks.2.1 91 = .ok (.ireturn, 1) := by decide +kernel
theorem d_Mod_asks_92 : decode m_Mod_asks.2.1 92 = .ok (.iconst (-1), 1) := by decide +kernel
theorem d_Mod_asks_93 : decode m_Mod_asks.2.1 93 = .ok (.ireturn, 1) := by decide +kernel
theorem d_Mod_costOf_0 : decode m_Mod_costOf.2.1 0 = .ok (.aload_n 0, 1) := by decide +kernel
theorem d_Mod_costOf_1 : decode m_Mod_costOf.2.1 1 = .ok (.iconst 1, 1) := by decide +kernel
theorem d_Mod_costOf_2 : decode m_Mod_costOf.2.1 2 = .ok (.iload_n 1, 1) := by decide +kernel
theorem d_Mod_costOf_3 : decode m_Mod_costOf.2.1 3 = .ok (.iload_n 2, 1) := by decide +kernel
theorem d_Mod_costOf_4 : decode m_Mod_costOf.2.1 4 = .ok (.iconst 1, 1) := by decide +kernel
theorem d_Mod_costOf_5 : decode m_Mod_costOf.2.1 5 = .ok (.invokevirtual 320, 3) := by decide +kernel
theorem d_Mod_costOf_8 : decode m_Mod_costOf.2.1 8 = .ok (.ireturn, 1) := by decide +kernel
theorem d_Mod_tells_0 : decode m_Mod_tells.2.1 0 = .ok (.aload_n 0, 1) := by decide +kernel
theorem d_Mod_tells_1 : decode m_Mod_tells.2.1 1 = .ok (.getfield 32, 3) := by decide +kernel
theorem d_Mod_tells_4 : decode m_Mod_tells.2.1 4 = .ok (.bipush 25, 2) := by decide +kernel
theorem d_Mod_tells_6 : decode m_Mod_tells.2.1 6 = .ok (.iaload, 1) := by decide +kernel
theorem d_Mod_tells_7 : decode m_Mod_tells.2.1 7 = .ok (.iconst (-1), 1) := by decide +kernel
theorem d_Mod_tells_8 : decode m_Mod_tells.2.1 8 = .ok (.if_icmp .ne 6, 3) := by decide +kernel
theorem d_Mod_tells_11 : decode m_Mod_tells.2.1 11 = .ok (.iload 4, 2) := by decide +kernel
theorem d_Mod_tells_13 : decode m_Mod_tells.2.1 13 = .ok (.ireturn, 1) := by decide +kernel
theorem d_Mod_tells_14 : decode m_Mod_tells.2.1 14 = .ok (.aload_n 0, 1) := by decide +kernel
theorem d_Mod_tells_15 : decode m_Mod_tells.2.1 15 = .ok (.iload_n 2, 1) := by decide +kernel
theorem d_Mod_tells_16 : decode m_Mod_tells.2.1 16 = .ok (.iload_n 3, 1) := by decide +kernel
theorem d_Mod_tells_17 : decode m_Mod_tells.2.1 17 = .ok (.invokevirtual 315, 3) := by decide +kernel
theorem d_Mod_tells_20 : decode m_Mod_tells.2.1 20 = .ok (.aload_n 0, 1) := by decide +kernel
theorem d_Mod_tells_21 : decode m_Mod_tells.2.1 21 = .ok (.iconst 0, 1) := by decide +kernel
theorem d_Mod_tells_22 : decode m_Mod_tells.2.1 22 = .ok (.putfield 279, 3) := by decide +kernel
theorem d_Mod_tells_25 : decode m_Mod_tells.2.1 25 = .ok (.iload 4, 2) := by decide +kernel
theorem d_Mod_tells_27 : decode m_Mod_tells.2.1 27 = .ok (.i2l, 1) := by decide +kernel
theorem d_Mod_tells_28 : decode m_Mod_tells.2.1 28 = .ok (.lstore 5, 2) := by decide +kernel
theorem d_Mod_tells_30 : decode m_Mod_tells.2.1 30 = .ok (.aload_n 0, 1) := by decide +kernel
theorem d_Mod_tells_31 : decode m_Mod_tells.2.1 31 = .ok (.sipush 400, 3) := by decide +kernel
theorem d_Mod_tells_34 : decode m_Mod_tells.2.1 34 = .ok (.aload_n 0, 1) := by decide +kernel
theorem d_Mod_tells_35 : decode m_Mod_tells.2.1 35 = .ok (.getfield 32, 3) := by decide +kernel
theorem d_Mod_tells_38 : decode m_Mod_tells.2.1 38 = .ok (.bipush 25, 2) := by decide +kernel
theorem d_Mod_tells_40 : decode m_Mod_tells.2.1 40 = .ok (.iaload, 1) := by decide +kernel
theorem d_Mod_tells_41 : decode m_Mod_tells.2.1 41 = .ok (.imul, 1) := by decide +kernel
theorem d_Mod_tells_42 : decode m_Mod_tells.2.1 42 = .ok (.putfield 249, 3) := by decide +kernel
theorem d_Mod_tells_45 : decode m_Mod_tells.2.1 45 = .ok (.aload_n 0, 1) := by decide +kernel
theorem d_Mod_tells_46 : decode m_Mod_tells.2.1 46 = .ok (.aload_n 0, 1) := by decide +kernel
theorem d_Mod_tells_47 : decode m_Mod_tells.2.1 47 = .ok (.getfield 249, 3) := by decide +kernel
theorem d_Mod_tells_50 : decode m_Mod_tells.2.1 50 = .ok (.aload_n 0, 1) := by decide +kernel
theorem d_Mod_tells_51 : decode m_Mod_tells.2.1 51 = .ok (.getfield 32, 3) := by decide +kernel
theorem d_Mod_tells_54 : decode m_Mod_tells.2.1 54 = .ok (.bipush 26, 2) := by decide +kernel
theorem d_Mod_tells_56 : decode m_Mod_tells.2.1 56 = .ok (.aload_n 0, 1) := by decide +kernel
theorem d_Mod_tells_57 : decode m_Mod_tells.2.1 57 = .ok (.getfield 32, 3) := by decide +kernel
theorem d_Mod_tells_60 : decode m_Mod_tells.2.1 60 = .ok (.bipush 25, 2) := by decide +kernel
theorem d_Mod_tells_62 : decode m_Mod_tells.2.1 62 = .ok (.iaload, 1) := by decide +kernel
theorem d_Mod_tells_63 : decode m_Mod_tells.2.1 63 = .ok (.iadd, 1) := by decide +kernel
theorem d_Mod_tells_64 : decode m_Mod_tells.2.1 64 = .ok (.iaload, 1) := by decide +kernel
theorem d_Mod_tells_65 : decode m_Mod_tells.2.1 65 = .ok (.iadd, 1) := by decide +kernel
theorem d_Mod_tells_66 : decode m_Mod_tells.2.1 66 = .ok (.putfield 246, 3) := by decide +kernel
theorem d_Mod_tells_69 : decode m_Mod_tells.2.1 69 = .ok (.aload_n 0, 1) := by decide +kernel
theorem d_Mod_tells_70 : decode m_Mod_tells.2.1 70 = .ok (.getfield 249, 3) := by decide +kernel
theorem d_Mod_tells_73 : decode m_Mod_tells.2.1 73 = .ok (.aload_n 0, 1) := by decide +kernel
theorem d_Mod_tells_74 : decode m_Mod_tells.2.1 74 = .ok (.getfield 246, 3) := by decide +kernel
theorem d_Mod_tells_77 : decode m_Mod_tells.2.1 77 = .ok (.if_icmp .ge 145, 3) := by decide +kernel
theorem d_Mod_tells_80 : decode m_Mod_tells.2.1 80 = .ok (.aload_n 0, 1) := by decide +kernel
theorem d_Mod_tells_81 : decode m_Mod_tells.2.1 81 = .ok (.aload_n 0, 1) := by decide +kernel
theorem d_Mod_tells_82 : decode m_Mod_tells.2.1 82 = .ok (.getfield 249, 3) := by decide +kernel
theorem d_Mod_tells_85 : decode m_Mod_tells.2.1 85 = .ok (.invokevirtual 252, 3) := by decide +kernel
theorem d_Mod_tells_88 : decode m_Mod_tells.2.1 88 = .ok (.istore 7, 2) := by decide +kernel
theorem d_Mod_tells_90 : decode m_Mod_tells.2.1 90 = .ok (.aload_n 0, 1) := by decide +kernel
theorem d_Mod_tells_91 : decode m_Mod_tells.2.1 91 = .ok (.iconst 0, 1) := by decide +kernel
theorem d_Mod_tells_92 : decode m_Mod_tells.2.1 92 = .ok (.putfield 259, 3) := by decide +kernel
theorem d_Mod_tells_95 : decode m_Mod_tells.2.1 95 = .ok (.aload_n 0, 1) := by decide +kernel
theorem d_Mod_tells_96 : decode m_Mod_tells.2.1 96 = .ok (.dup, 1) := by decide +kernel
theorem d_Mod_tells_97 : decode m_Mod_tells.2.1 97 = .ok (.getfield 249, 3) := by decide +kernel
theorem d_Mod_tells_100 : decode m_Mod_tells.2.1 100 = .ok (.iconst 1, 1) := by decide +kernel
theorem d_Mod_tells_101 : decode m_Mod_tells.2.1 101 = .ok (.iadd, 1) := by decide +kernel
theorem d_Mod_tells_102 : decode m_Mod_tells.2.1 102 = .ok (.putfield 249, 3) := by decide +kernel
theorem d_Mod_tells_105 : decode m_Mod_tells.2.1 105 = .ok (.iload 7, 2) := by decide +kernel
theorem d_Mod_tells_107 : decode m_Mod_tells.2.1 107 = .ok (.iconst 4, 1) := by decide +kernel
theorem d_Mod_tells_108 : decode m_Mod_tells.2.1 108 = .ok (.if_icmp .ne 7, 3) := by decide +kernel
theorem d_Mod_tells_111 : decode m_Mod_tells.2.1 111 = .ok (.lconst 1, 1) := by decide +kernel
theorem d_Mod_tells_112 : decode m_Mod_tells.2.1 112 = .ok (.goto 8, 3) := by decide +kernel
theorem d_Mod_tells_115 : decode m_Mod_tells.2.1 115 = .ok (.aload_n 0, 1) := by decide +kernel
theorem d_Mod_tells_116 : decode m_Mod_tells.2.1 116 = .ok (.iconst 1, 1) := by decide +kernel
theorem d_Mod_tells_117 : decode m_Mod_tells.2.1 117 = .ok (.invokevirtual 276, 3) := by decide +kernel
theorem d_Mod_tells_120 : decode m_Mod_tells.2.1 120 = .ok (.lstore 8, 2) := by decide +kernel
theorem d_Mod_tells_122 : decode m_Mod_tells.2.1 122 = .ok (.aload_n 0, 1) := by decide +kernel
theorem d_Mod_tells_123 : decode m_Mod_tells.2.1 123 = .ok (.getfield 259, 3) := by decide +kernel
theorem d_Mod_tells_126 : decode m_Mod_tells.2.1 126 = .ok (.istore 10, 2) := by decide +kernel
theorem d_Mod_tells_128 : decode m_Mod_tells.2.1 128 = .ok (.aload_n 0, 1) := by decide +kernel
theorem d_Mod_tells_129 : decode m_Mod_tells.2.1 129 = .ok (.iconst 0, 1) := by decide +kernel
theorem d_Mod_tells_130 : decode m_Mod_tells.2.1 130 = .ok (.putfield 259, 3) := by decide +kernel
theorem d_Mod_tells_133 : decode m_Mod_tells.2.1 133 = .ok (.aload_n 0, 1) := by decide +kernel
theorem d_Mod_tells_134 : decode m_Mod_tells.2.1 134 = .ok (.iconst 5, 1) := by decide +kernel
theorem d_Mod_tells_135 : decode m_Mod_tells.2.1 135 = .ok (.invokevirtual 273, 3) := by decide +kernel
theorem d_Mod_tells_138 : decode m_Mod_tells.2.1 138 = .ok (.ifCond .eq 11, 3) := by decide +kernel
theorem d_Mod_tells_141 : decode m_Mod_tells.2.1 141 = .ok (.aload_n 0, 1) := by decide +kernel
theorem d_Mod_tells_142 : decode m_Mod_tells.2.1 142 = .ok (.iconst 1, 1) := by decide +kernel
theorem d_Mod_tells_143 : decode m_Mod_tells.2.1 143 = .ok (.invokevirtual 306, 3) := by decide +kernel
theorem d_Mod_tells_146 : decode m_Mod_tells.2.1 146 = .ok (.ifCond .eq 7, 3) := by decide +kernel
theorem d_Mod_tells_149 : decode m_Mod_tells.2.1 149 = .ok (.iconst 1, 1) := by decide +kernel
theorem d_Mod_tells_150 : decode m_Mod_tells.2.1 150 = .ok (.goto 4, 3) := by decide +kernel
theorem d_Mod_tells_153 : decode m_Mod_tells.2.1 153 = .ok (.iconst 0, 1) := by decide +kernel
theorem d_Mod_tells_154 : decode m_Mod_tells.2.1 154 = .ok (.istore 11, 2) := by decide +kernel
theorem d_Mod_tells_156 : decode m_Mod_tells.2.1 156 = .ok (.iload 7, 2) := by decide +kernel
theorem d_Mod_tells_158 : decode m_Mod_tells.2.1 158 = .ok (.iload_n 1, 1) := by decide +kernel
theorem d_Mod_tells_159 : decode m_Mod_tells.2.1 159 = .ok (.if_icmp .ne 50, 3) := by decide +kernel
theorem d_Mod_tells_162 : decode m_Mod_tells.2.1 162 = .ok (.iload 11, 2) := by decide +kernel
theorem d_Mod_tells_164 : decode m_Mod_tells.2.1 164 = .ok (.ifCond .eq 45, 3) := by decide +kernel
theorem d_Mod_tells_167 : decode m_Mod_tells.2.1 167 = .ok (.aload_n 0, 1) := by decide +kernel
theorem d_Mod_tells_168 : decode m_Mod_tells.2.1 168 = .ok (.getfield 259, 3) := by decide +kernel
theorem d_Mod_tells_171 : decode m_Mod_tells.2.1 171 = .ok (.ifCond .ne 38, 3) := by decide +kernel
theorem d_Mod_tells_174 : decode m_Mod_tells.2.1 174 = .ok (.iload 10, 2) := by decide +kernel
theorem d_Mod_tells_176 : decode m_Mod_tells.2.1 176 = .ok (.ifCond .ne 33, 3) := by decide +kernel
theorem d_Mod_tells_179 : decode m_Mod_tells.2.1 179 = .ok (.lload 8, 2) := by decide +kernel
theorem d_Mod_tells_181 : decode m_Mod_tells.2.1 181 = .ok (.lconst 0, 1) := by decide +kernel
theorem d_Mod_tells_182 : decode m_Mod_tells.2.1 182 = .ok (.lcmp, 1) := by decide +kernel
theorem d_Mod_tells_183 : decode m_Mod_tells.2.1 183 = .ok (.ifCond .ge 7, 3) := by decide +kernel
theorem d_Mod_tells_186 : decode m_Mod_tells.2.1 186 = .ok (.lconst 0, 1) := by decide +kernel
theorem d_Mod_tells_187 : decode m_Mod_tells.2.1 187 = .ok (.goto 20, 3) := by decide +kernel
theorem d_Mod_tells_190 : decode m_Mod_tells.2.1 190 = .ok (.lload 8, 2) := by decide +kernel
theorem d_Mod_tells_192 : decode m_Mod_tells.2.1 192 = .ok (.ldc2_w 318, 3) := by decide +kernel
theorem d_Mod_tells_195 : decode m_Mod_tells.2.1 195 = .ok (.lcmp, 1) := by decide +kernel
theorem d_Mod_tells_196 : decode m_Mod_tells.2.1 196 = .ok (.ifCond .le 9, 3) := by decide +kernel
theorem d_Mod_tells_199 : decode m_Mod_tells.2.1 199 = .ok (.ldc2_w 318, 3) := by decide +kernel
theorem d_Mod_tells_202 : decode m_Mod_tells.2.1 202 = .ok (.goto 5, 3) := by decide +kernel
theorem d_Mod_tells_205 : decode m_Mod_tells.2.1 205 = .ok (.lload 8, 2) := by decide +kernel
theorem d_Mod_tells_207 : decode m_Mod_tells.2.1 207 = .ok (.lstore 5, 2) := by decide +kernel
theorem d_Mod_tells_209 : decode m_Mod_tells.2.1 209 = .ok (.aload_n 0, 1) := by decide +kernel
theorem d_Mod_tells_210 : decode m_Mod_tells.2.1 210 = .ok (.dup, 1) := by decide +kernel
theorem d_Mod_tells_211 : decode m_Mod_tells.2.1 211 = .ok (.getfield 249, 3) := by decide +kernel
theorem d_Mod_tells_214 : decode m_Mod_tells.2.1 214 = .ok (.iconst 1, 1) := by decide +kernel
theorem d_Mod_tells_215 : decode m_Mod_tells.2.1 215 = .ok (.iadd, 1) := by decide +kernel
theorem d_Mod_tells_216 : decode m_Mod_tells.2.1 216 = .ok (.putfield 249, 3) := by decide +kernel
theorem d_Mod_tells_219 : decode m_Mod_tells.2.1 219 = .ok (.goto (-150), 3) := by decide +kernel
theorem d_Mod_tells_222 : decode m_Mod_tells.2.1 222 = .ok (.lload 5, 2) := by decide +kernel
theorem d_Mod_tells_224 : decode m_Mod_tells.2.1 224 = .ok (.l2i, 1) := by decide +kernel
theorem d_Mod_tells_225 : decode m_Mod_tells.2.1 225 = .ok (.ireturn, 1) := by decide +kernel
theorem d_Mod_setsAsked_0 : decode m_Mod_setsAsked.2.1 0 = .ok (.aload_n 0, 1) := by decide +kernel
theorem d_Mod_setsAsked_1 : decode m_Mod_setsAsked.2.1 1 = .ok (.getfield 67, 3) := by decide +kernel
theorem d_Mod_setsAsked_4 : decode m_Mod_setsAsked.2.1 4 = .ok (.iconst 0, 1) := by decide +kernel
theorem d_Mod_setsAsked_5 : decode m_Mod_setsAsked.2.1 5 = .ok (.iload_n 1, 1) := by decide +kernel
theorem d_Mod_setsAsked_6 : decode m_Mod_setsAsked.2.1 6 = .ok (.invokestatic 309, 3) := by decide +kernel
theorem d_Mod_setsAsked_9 : decode m_Mod_setsAsked.2.1 9 = .ok (.iastore, 1) := by decide +kernel
theorem d_Mod_setsAsked_10 : decode m_Mod_setsAsked.2.1 10 = .ok (.aload_n 0, 1) := by decide +kernel
theorem d_Mod_setsAsked_11 : decode m_Mod_setsAsked.2.1 11 = .ok (.getfield 67, 3) := by decide +kernel
theorem d_Mod_setsAsked_14 : decode m_Mod_setsAsked.2.1 14 = .ok (.iconst 1, 1) := by decide +kernel
theorem d_Mod_setsAsked_15 : decode m_Mod_setsAsked.2.1 15 = .ok (.iload_n 1, 1) := by decide +kernel
theorem d_Mod_setsAsked_16 : decode m_Mod_setsAsked.2.1 16 = .ok (.invokestatic 312, 3) := by decide +kernel
theorem d_Mod_setsAsked_19 : decode m_Mod_setsAsked.2.1 19 = .ok (.ifCond .eq 7, 3) := by decide +kernel
theorem d_Mod_setsAsked_22 : decode m_Mod_setsAsked.2.1 22 = .ok (.iconst 1, 1) := by decide +kernel
theorem d_Mod_setsAsked_23 : decode m_Mod_setsAsked.2.1 23 = .ok (.goto 4, 3) := by decide +kernel
theorem d_Mod_setsAsked_26 : decode m_Mod_setsAsked.2.1 26 = .ok (.iconst 0, 1) := by decide +kernel
theorem d_Mod_setsAsked_27 : decode m_Mod_setsAsked.2.1 27 = .ok (.iastore, 1) := by decide +kernel
theorem d_Mod_setsAsked_28 : decode m_Mod_setsAsked.2.1 28 = .ok (.aload_n 0, 1) := by decide +kernel
theorem d_Mod_setsAsked_29 : decode m_Mod_setsAsked.2.1 29 = .ok (.getfield 67, 3) := by decide +kernel
theorem d_Mod_setsAsked_32 : decode m_Mod_setsAsked.2.1 32 = .ok (.iconst 2, 1) := by decide +kernel
theorem d_Mod_setsAsked_33 : decode m_Mod_setsAsked.2.1 33 = .ok (.iload_n 1, 1) := by decide +kernel
theorem d_Mod_setsAsked_34 : decode m_Mod_setsAsked.2.1 34 = .ok (.invokestatic 22, 3) := by decide +kernel
theorem d_Mod_setsAsked_37 : decode m_Mod_setsAsked.2.1 37 = .ok (.ifCond .eq 10, 3) := by decide +kernel
theorem d_Mod_setsAsked_40 : decode m_Mod_setsAsked.2.1 40 = .ok (.iload_n 1, 1) := by decide +kernel
theorem d_Mod_setsAsked_41 : decode m_Mod_setsAsked.2.1 41 = .ok (.bipush 6, 2) := by decide +kernel
theorem d_Mod_setsAsked_43 : decode m_Mod_setsAsked.2.1 43 = .ok (.isub, 1) := by decide +kernel
theorem d_Mod_setsAsked_44 : decode m_Mod_setsAsked.2.1 44 = .ok (.goto 4, 3) := by decide +kernel
theorem d_Mod_setsAsked_47 : decode m_Mod_setsAsked.2.1 47 = .ok (.iconst (-1), 1) := by decide +kernel
theorem d_Mod_setsAsked_48 : decode m_Mod_setsAsked.2.1 48 = .ok (.iastore, 1) := by decide +kernel
theorem d_Mod_setsAsked_49 : decode m_Mod_setsAsked.2.1 49 = .ok (.aload_n 0, 1) := by decide +kernel
theorem d_Mod_setsAsked_50 : decode m_Mod_setsAsked.2.1 50 = .ok (.getfield 67, 3) := by decide +kernel
theorem d_Mod_setsAsked_53 : decode m_Mod_setsAsked.2.1 53 = .ok (.iconst 3, 1) := by decide +kernel
theorem d_Mod_setsAsked_54 : decode m_Mod_setsAsked.2.1 54 = .ok (.iload_n 2, 1) := by decide +kernel
theorem d_Mod_setsAsked_55 : decode m_Mod_setsAsked.2.1 55 = .ok (.iastore, 1) := by decide +kernel
theorem d_Mod_setsAsked_56 : decode m_Mod_setsAsked.2.1 56 = .ok (.aload_n 0, 1) := by decide +kernel
theorem d_Mod_setsAsked_57 : decode m_Mod_setsAsked.2.1 57 = .ok (.getfield 67, 3) := by decide +kernel
theorem d_Mod_setsAsked_60 : decode m_Mod_setsAsked.2.1 60 = .ok (.iconst 4, 1) := by decide +kernel
theorem d_Mod_setsAsked_61 : decode m_Mod_setsAsked.2.1 61 = .ok (.aload_n 0, 1) := by decide +kernel
theorem d_Mod_setsAsked_62 : decode m_Mod_setsAsked.2.1 62 = .ok (.getfield 32, 3) := by decide +kernel
theorem d_Mod_setsAsked_65 : decode m_Mod_setsAsked.2.1 65 = .ok (.bipush 23, 2) := by decide +kernel
theorem d_Mod_setsAsked_67 : decode m_Mod_setsAsked.2.1 67 = .ok (.iaload, 1) := by decide +kernel
theorem d_Mod_setsAsked_68 : decode m_Mod_setsAsked.2.1 68 = .ok (.iastore, 1) := by decide +kernel
theorem d_Mod_setsAsked_69 : decode m_Mod_setsAsked.2.1 69 = .ok (.aload_n 0, 1) := by decide +kernel
theorem d_Mod_setsAsked_70 : decode m_Mod_setsAsked.2.1 70 = .ok (.getfield 67, 3) := by decide +kernel
theorem d_Mod_setsAsked_73 : decode m_Mod_setsAsked.2.1 73 = .ok (.iconst 5, 1) := by decide +kernel
theorem d_Mod_setsAsked_74 : decode m_Mod_setsAsked.2.1 74 = .ok (.iload_n 1, 1) := by decide +kernel
theorem d_Mod_setsAsked_75 : decode m_Mod_setsAsked.2.1 75 = .ok (.iastore, 1) := by decide +kernel
theorem d_Mod_setsAsked_76 : decode m_Mod_setsAsked.2.1 76 = .ok (.aload_n 0, 1) := by decide +kernel
theorem d_Mod_setsAsked_77 : decode m_Mod_setsAsked.2.1 77 = .ok (.getfield 67, 3) := by decide +kernel
theorem d_Mod_setsAsked_80 : decode m_Mod_setsAsked.2.1 80 = .ok (.bipush 6, 2) := by decide +kernel
theorem d_Mod_setsAsked_82 : decode m_Mod_setsAsked.2.1 82 = .ok (.aload_n 0, 1) := by decide +kernel
theorem d_Mod_setsAsked_83 : decode m_Mod_setsAsked.2.1 83 = .ok (.invokevirtual 125, 3) := by decide +kernel
theorem d_Mod_setsAsked_86 : decode m_Mod_setsAsked.2.1 86 = .ok (.iastore, 1) := by decide +kernel
theorem d_Mod_setsAsked_87 : decode m_Mod_setsAsked.2.1 87 = .ok (.aload_n 0, 1) := by decide +kernel
theorem d_Mod_setsAsked_88 : decode m_Mod_setsAsked.2.1 88 = .ok (.getfield 67, 3) := by decide +kernel
theorem d_Mod_setsAsked_91 : decode m_Mod_setsAsked.2.1 91 = .ok (.bipush 7, 2) := by decide +kernel
theorem d_Mod_setsAsked_93 : decode m_Mod_setsAsked.2.1 93 = .ok (.aload_n 0, 1) := by decide +kernel
theorem d_Mod_setsAsked_94 : decode m_Mod_setsAsked.2.1 94 = .ok (.getfield 32, 3) := by decide +kernel
theorem d_Mod_setsAsked_97 : decode m_Mod_setsAsked.2.1 97 = .ok (.bipush 21, 2) := by decide +kernel
theorem d_Mod_setsAsked_99 : decode m_Mod_setsAsked.2.1 99 = .ok (.iaload, 1) := by decide +kernel
theorem d_Mod_setsAsked_100 : decode m_Mod_setsAsked.2.1 100 = .ok (.iastore, 1) := by decide +kernel
theorem d_Mod_setsAsked_101 : decode m_Mod_setsAsked.2.1 101 = .ok (.return_, 1) := by decide +kernel
theorem d_Mod_kindOf_0 : decode m_Mod_kindOf.2.1 0 = .ok (.iload_n 0, 1) := by decide +kernel
theorem d_Mod_kindOf_1 : decode m_Mod_kindOf.2.1 1 = .ok (.invokestatic 22, 3) := by decide +kernel
theorem d_Mod_kindOf_4 : decode m_Mod_kindOf.2.1 4 = .ok (.ifCond .eq 7, 3) := by decide +kernel
theorem d_Mod_kindOf_7 : decode m_Mod_kindOf.2.1 7 = .ok (.iconst (-1), 1) := by decide +kernel
theorem d_Mod_kindOf_8 : decode m_Mod_kindOf.2.1 8 = .ok (.goto 6, 3) := by decide +kernel
theorem d_Mod_kindOf_11 : decode m_Mod_kindOf.2.1 11 = .ok (.iload_n 0, 1) := by decide +kernel
theorem d_Mod_kindOf_12 : decode m_Mod_kindOf.2.1 12 = .ok (.iconst 3, 1) := by decide +kernel
theorem d_Mod_kindOf_13 : decode m_Mod_kindOf.2.1 13 = .ok (.irem, 1) := by decide +kernel
theorem d_Mod_kindOf_14 : decode m_Mod_kindOf.2.1 14 = .ok (.ireturn, 1) := by decide +kernel
theorem d_Mod_isName_0 : decode m_Mod_isName.2.1 0 = .ok (.iload_n 0, 1) := by decide +kernel
theorem d_Mod_isName_1 : decode m_Mod_isName.2.1 1 = .ok (.bipush 6, 2) := by decide +kernel
theorem d_Mod_isName_3 : decode m_Mod_isName.2.1 3 = .ok (.if_icmp .lt 7, 3) := by decide +kernel
theorem d_Mod_isName_6 : decode m_Mod_isName.2.1 6 = .ok (.iconst 1, 1) := by decide +kernel
theorem d_Mod_isName_7 : decode m_Mod_isName.2.1 7 = .ok (.goto 4, 3) := by decide +kernel
theorem d_Mod_isName_10 : decode m_Mod_isName.2.1 10 = .ok (.iconst 0, 1) := by decide +kernel
theorem d_Mod_isName_11 : decode m_Mod_isName.2.1 11 = .ok (.ireturn, 1) := by decide +kernel
theorem d_Mod_opens0_0 : decode m_Mod_opens0.2.1 0 = .ok (.iload_n 0, 1) := by decide +kernel
theorem d_Mod_opens0_1 : decode m_Mod_opens0.2.1 1 = .ok (.iconst 3, 1) := by decide +kernel
theorem d_Mod_opens0_2 : decode m_Mod_opens0.2.1 2 = .ok (.if_icmp .ge 7, 3) := by decide +kernel
theorem d_Mod_opens0_5 : decode m_Mod_opens0.2.1 5 = .ok (.iconst 1, 1) := by decide +kernel
theorem d_Mod_opens0_6 : decode m_Mod_opens0.2.1 6 = .ok (.goto 4, 3) := by decide +kernel
theorem d_Mod_opens0_9 : decode m_Mod_opens0.2.1 9 = .ok (.iconst 0, 1) := by decide +kernel
theorem d_Mod_opens0_10 : decode m_Mod_opens0.2.1 10 = .ok (.ireturn, 1) := by decide +kernel
theorem d_Mod_codeAt_0 : decode m_Mod_codeAt.2.1 0 = .ok (.iload_n 1, 1) := by decide +kernel
theorem d_Mod_codeAt_1 : decode m_Mod_codeAt.2.1 1 = .ok (.aload_n 0, 1) := by decide +kernel
theorem d_Mod_codeAt_2 : decode m_Mod_codeAt.2.1 2 = .ok (.getfield 246, 3) := by decide +kernel
theorem d_Mod_codeAt_5 : decode m_Mod_codeAt.2.1 5 = .ok (.if_icmp .ge 15, 3) := by decide +kernel
theorem d_Mod_codeAt_8 : decode m_Mod_codeAt.2.1 8 = .ok (.aload_n 0, 1) := by decide +kernel
theorem d_Mod_codeAt_9 : decode m_Mod_codeAt.2.1 9 = .ok (.getfield 32, 3) := by decide +kernel
theorem d_Mod_codeAt_12 : decode m_Mod_codeAt.2.1 12 = .ok (.bipush 33, 2) := by decide +kernel
theorem d_Mod_codeAt_14 : decode m_Mod_codeAt.2.1 14 = .ok (.iload_n 1, 1) := by decide +kernel
theorem d_Mod_codeAt_15 : decode m_Mod_codeAt.2.1 15 = .ok (.iadd, 1) := by decide +kernel
theorem d_Mod_codeAt_16 : decode m_Mod_codeAt.2.1 16 = .ok (.iaload, 1) := by decide +kernel
theorem d_Mod_codeAt_17 : decode m_Mod_codeAt.2.1 17 = .ok (.goto 4, 3) := by decide +kernel
theorem d_Mod_codeAt_20 : decode m_Mod_codeAt.2.1 20 = .ok (.iconst 0, 1) := by decide +kernel
theorem d_Mod_codeAt_21 : decode m_Mod_codeAt.2.1 21 = .ok (.ireturn, 1) := by decide +kernel
theorem d_Mod_sumOf_0 : decode m_Mod_sumOf.2.1 0 = .ok (.aload_n 0, 1) := by decide +kernel
theorem d_Mod_sumOf_1 : decode m_Mod_sumOf.2.1 1 = .ok (.iload_n 1, 1) := by decide +kernel
theorem d_Mod_sumOf_2 : decode m_Mod_sumOf.2.1 2 = .ok (.invokevirtual 262, 3) := by decide +kernel
theorem d_Mod_sumOf_5 : decode m_Mod_sumOf.2.1 5 = .ok (.lstore_n 2, 1) := by decide +kernel
theorem d_Mod_sumOf_6 : decode m_Mod_sumOf.2.1 6 = .ok (.aload_n 0, 1) := by decide +kernel
theorem d_Mod_sumOf_7 : decode m_Mod_sumOf.2.1 7 = .ok (.aload_n 0, 1) := by decide +kernel
theorem d_Mod_sumOf_8 : decode m_Mod_sumOf.2.1 8 = .ok (.getfield 249, 3) := by decide +kernel
theorem d_Mod_sumOf_11 : decode m_Mod_sumOf.2.1 11 = .ok (.invokevirtual 252, 3) := by decide +kernel
theorem d_Mod_sumOf_14 : decode m_Mod_sumOf.2.1 14 = .ok (.bipush 43, 2) := by decide +kernel
theorem d_Mod_sumOf_16 : decode m_Mod_sumOf.2.1 16 = .ok (.invokestatic 208, 3) := by decide +kernel
theorem d_Mod_sumOf_19 : decode m_Mod_sumOf.2.1 19 = .ok (.if_icmp .eq 19, 3) := by decide +kernel
theorem d_Mod_sumOf_22 : decode m_Mod_sumOf.2.1 22 = .ok (.aload_n 0, 1) := by decide +kernel
theorem d_Mod_sumOf_23 : decode m_Mod_sumOf.2.1 23 = .ok (.aload_n 0, 1) := by decide +kernel
theorem d_Mod_sumOf_24 : decode m_Mod_sumOf.2.1 24 = .ok (.getfield 249, 3) := by decide +kernel
theorem d_Mod_sumOf_27 : decode m_Mod_sumOf.2.1 27 = .ok (.invokevirtual 252, 3) := by decide +kernel
theorem d_Mod_sumOf_30 : decode m_Mod_sumOf.2.1 30 = .ok (.bipush 45, 2) := by decide +kernel
theorem d_Mod_sumOf_32 : decode m_Mod_sumOf.2.1 32 = .ok (.invokestatic 208, 3) := by decide +kernel
theorem d_Mod_sumOf_35 : decode m_Mod_sumOf.2.1 35 = .ok (.if_icmp .ne 68, 3) := by decide +kernel
theorem d_Mod_sumOf_38 : decode m_Mod_sumOf.2.1 38 = .ok (.aload_n 0, 1) := by decide +kernel
theorem d_Mod_sumOf_39 : decode m_Mod_sumOf.2.1 39 = .ok (.aload_n 0, 1) := by decide +kernel
theorem d_Mod_sumOf_40 : decode m_Mod_sumOf.2.1 40 = .ok (.getfield 249, 3) := by decide +kernel
theorem d_Mod_sumOf_43 : decode m_Mod_sumOf.2.1 43 = .ok (.invokevirtual 252, 3) := by decide +kernel
theorem d_Mod_sumOf_46 : decode m_Mod_sumOf.2.1 46 = .ok (.bipush 43, 2) := by decide +kernel
theorem d_Mod_sumOf_48 : decode m_Mod_sumOf.2.1 48 = .ok (.invokestatic 208, 3) := by decide +kernel
theorem d_Mod_sumOf_51 : decode m_Mod_sumOf.2.1 51 = .ok (.if_icmp .ne 7, 3) := by decide +kernel
theorem d_Mod_sumOf_54 : decode m_Mod_sumOf.2.1 54 = .ok (.iconst 1, 1) := by decide +kernel
theorem d_Mod_sumOf_55 : decode m_Mod_sumOf.2.1 55 = .ok (.goto 4, 3) := by decide +kernel
theorem d_Mod_sumOf_58 : decode m_Mod_sumOf.2.1 58 = .ok (.iconst 0, 1) := by decide +kernel
theorem d_Mod_sumOf_59 : decode m_Mod_sumOf.2.1 59 = .ok (.istore 4, 2) := by decide +kernel
theorem d_Mod_sumOf_61 : decode m_Mod_sumOf.2.1 61 = .ok (.aload_n 0, 1) := by decide +kernel
theorem d_Mod_sumOf_62 : decode m_Mod_sumOf.2.1 62 = .ok (.dup, 1) := by decide +kernel
theorem d_Mod_sumOf_63 : decode m_Mod_sumOf.2.1 63 = .ok (.getfield 249, 3) := by decide +kernel
theorem d_Mod_sumOf_66 : decode m_Mod_sumOf.2.1 66 = .ok (.iconst 1, 1) := by decide +kernel
theorem d_Mod_sumOf_67 : decode m_Mod_sumOf.2.1 67 = .ok (.iadd, 1) := by decide +kernel
theorem d_Mod_sumOf_68 : decode m_Mod_sumOf.2.1 68 = .ok (.putfield 249, 3) := by decide +kernel
theorem d_Mod_sumOf_71 : decode m_Mod_sumOf.2.1 71 = .ok (.aload_n 0, 1) := by decide +kernel
theorem d_Mod_sumOf_72 : decode m_Mod_sumOf.2.1 72 = .ok (.iload_n 1, 1) := by decide +kernel
theorem d_Mod_sumOf_73 : decode m_Mod_sumOf.2.1 73 = .ok (.invokevirtual 262, 3) := by decide +kernel
theorem d_Mod_sumOf_76 : decode m_Mod_sumOf.2.1 76 = .ok (.lstore 5, 2) := by decide +kernel
theorem d_Mod_sumOf_78 : decode m_Mod_sumOf.2.1 78 = .ok (.aload_n 0, 1) := by decide +kernel
theorem d_Mod_sumOf_79 : decode m_Mod_sumOf.2.1 79 = .ok (.iload 4, 2) := by decide +kernel
theorem d_Mod_sumOf_81 : decode m_Mod_sumOf.2.1 81 = .ok (.ifCond .eq 10, 3) := by decide +kernel
theorem d_Mod_sumOf_84 : decode m_Mod_sumOf.2.1 84 = .ok (.lload_n 2, 1) := by decide +kernel
theorem d_Mod_sumOf_85 : decode m_Mod_sumOf.2.1 85 = .ok (.lload 5, 2) := by decide +kernel
theorem d_Mod_sumOf_87 : decode m_Mod_sumOf.2.1 87 = .ok (.ladd, 1) := by decide +kernel
theorem d_Mod_sumOf_88 : decode m_Mod_sumOf.2.1 88 = .ok (.goto 7, 3) := by decide +kernel
theorem d_Mod_sumOf_91 : decode m_Mod_sumOf.2.1 91 = .ok (.lload_n 2, 1) := by decide +kernel
theorem d_Mod_sumOf_92 : decode m_Mod_sumOf.2.1 92 = .ok (.lload 5, 2) := by decide +kernel
theorem d_Mod_sumOf_94 : decode m_Mod_sumOf.2.1 94 = .ok (.lsub, 1) := by decide +kernel
theorem d_Mod_sumOf_95 : decode m_Mod_sumOf.2.1 95 = .ok (.iload_n 1, 1) := by decide +kernel
theorem d_Mod_sumOf_96 : decode m_Mod_sumOf.2.1 96 = .ok (.invokevirtual 266, 3) := by decide +kernel
theorem d_Mod_sumOf_99 : decode m_Mod_sumOf.2.1 99 = .ok (.lstore_n 2, 1) := by decide +kernel
theorem d_Mod_sumOf_100 : decode m_Mod_sumOf.2.1 100 = .ok (.goto (-94), 3) := by decide +kernel
theorem d_Mod_sumOf_103 : decode m_Mod_sumOf.2.1 103 = .ok (.lload_n 2, 1) := by decide +kernel
theorem d_Mod_sumOf_104 : decode m_Mod_sumOf.2.1 104 = .ok (.lreturn, 1) := by decide +kernel
theorem d_Mod_termOf_0 : decode m_Mod_termOf.2.1 0 = .ok (.aload_n 0, 1) := by decide +kernel
theorem d_Mod_termOf_1 : decode m_Mod_termOf.2.1 1 = .ok (.iload_n 1, 1) := by decide +kernel
theorem d_Mod_termOf_2 : decode m_Mod_termOf.2.1 2 = .ok (.invokevirtual 270, 3) := by decide +kernel
theorem d_Mod_termOf_5 : decode m_Mod_termOf.2.1 5 = .ok (.lstore_n 2, 1) := by decide +kernel
theorem d_Mod_termOf_6 : decode m_Mod_termOf.2.1 6 = .ok (.aload_n 0, 1) := by decide +kernel
theorem d_Mod_termOf_7 : decode m_Mod_termOf.2.1 7 = .ok (.aload_n 0, 1) := by decide +kernel
theorem d_Mod_termOf_8 : decode m_Mod_termOf.2.1 8 = .ok (.getfield 249, 3) := by decide +kernel
theorem d_Mod_termOf_11 : decode m_Mod_termOf.2.1 11 = .ok (.invokevirtual 252, 3) := by decide +kernel
theorem d_Mod_termOf_14 : decode m_Mod_termOf.2.1 14 = .ok (.bipush 42, 2) := by decide +kernel
theorem d_Mod_termOf_16 : decode m_Mod_termOf.2.1 16 = .ok (.invokestatic 208, 3) := by decide +kernel
theorem d_Mod_termOf_19 : decode m_Mod_termOf.2.1 19 = .ok (.if_icmp .eq 35, 3) := by decide +kernel
theorem d_Mod_termOf_22 : decode m_Mod_termOf.2.1 22 = .ok (.aload_n 0, 1) := by decide +kernel
theorem d_Mod_termOf_23 : decode m_Mod_termOf.2.1 23 = .ok (.aload_n 0, 1) := by decide +kernel
theorem d_Mod_termOf_24 : decode m_Mod_termOf.2.1 24 = .ok (.getfield 249, 3) := by decide +kernel
theorem d_Mod_termOf_27 : decode m_Mod_termOf.2.1 27 = .ok (.invokevirtual 252, 3) := by decide +kernel
theorem d_Mod_termOf_30 : decode m_Mod_termOf.2.1 30 = .ok (.bipush 47, 2) := by decide +kernel
theorem d_Mod_termOf_32 : decode m_Mod_termOf.2.1 32 = .ok (.invokestatic 208, 3) := by decide +kernel
theorem d_Mod_termOf_35 : decode m_Mod_termOf.2.1 35 = .ok (.if_icmp .eq 19, 3) := by decide +kernel
theorem d_Mod_termOf_38 : decode m_Mod_termOf.2.1 38 = .ok (.aload_n 0, 1) := by decide +kernel
theorem d_Mod_termOf_39 : decode m_Mod_termOf.2.1 39 = .ok (.aload_n 0, 1) := by decide +kernel
theorem d_Mod_termOf_40 : decode m_Mod_termOf.2.1 40 = .ok (.getfield 249, 3) := by decide +kernel
theorem d_Mod_termOf_43 : decode m_Mod_termOf.2.1 43 = .ok (.invokevirtual 252, 3) := by decide +kernel
theorem d_Mod_termOf_46 : decode m_Mod_termOf.2.1 46 = .ok (.bipush 37, 2) := by decide +kernel
theorem d_Mod_termOf_48 : decode m_Mod_termOf.2.1 48 = .ok (.invokestatic 208, 3) := by decide +kernel
theorem d_Mod_termOf_51 : decode m_Mod_termOf.2.1 51 = .ok (.if_icmp .ne 117, 3) := by decide +kernel
theorem d_Mod_termOf_54 : decode m_Mod_termOf.2.1 54 = .ok (.aload_n 0, 1) := by decide +kernel
theorem d_Mod_termOf_55 : decode m_Mod_termOf.2.1 55 = .ok (.aload_n 0, 1) := by decide +kernel
theorem d_Mod_termOf_56 : decode m_Mod_termOf.2.1 56 = .ok (.getfield 249, 3) := by decide +kernel
theorem d_Mod_termOf_59 : decode m_Mod_termOf.2.1 59 = .ok (.invokevirtual 252, 3) := by decide +kernel
theorem d_Mod_termOf_62 : decode m_Mod_termOf.2.1 62 = .ok (.istore 4, 2) := by decide +kernel
theorem d_Mod_termOf_64 : decode m_Mod_termOf.2.1 64 = .ok (.aload_n 0, 1) := by decide +kernel
theorem d_Mod_termOf_65 : decode m_Mod_termOf.2.1 65 = .ok (.dup, 1) := by decide +kernel
theorem d_Mod_termOf_66 : decode m_Mod_termOf.2.1 66 = .ok (.getfield 249, 3) := by decide +kernel
theorem d_Mod_termOf_69 : decode m_Mod_termOf.2.1 69 = .ok (.iconst 1, 1) := by decide +kernel
theorem d_Mod_termOf_70 : decode m_Mod_termOf.2.1 70 = .ok (.iadd, 1) := by decide +kernel
theorem d_Mod_termOf_71 : decode m_Mod_termOf.2.1 71 = .ok (.putfield 249, 3) := by decide +kernel
theorem d_Mod_termOf_74 : decode m_Mod_termOf.2.1 74 = .ok (.aload_n 0, 1) := by decide +kernel
theorem d_Mod_termOf_75 : decode m_Mod_termOf.2.1 75 = .ok (.iload_n 1, 1) := by decide +kernel
theorem d_Mod_termOf_76 : decode m_Mod_termOf.2.1 76 = .ok (.invokevirtual 270, 3) := by decide +kernel
theorem d_Mod_termOf_79 : decode m_Mod_termOf.2.1 79 = .ok (.lstore 5, 2) := by decide +kernel
theorem d_Mod_termOf_81 : decode m_Mod_termOf.2.1 81 = .ok (.iload 4, 2) := by decide +kernel
theorem d_Mod_termOf_83 : decode m_Mod_termOf.2.1 83 = .ok (.bipush 42, 2) := by decide +kernel
theorem d_Mod_termOf_85 : decode m_Mod_termOf.2.1 85 = .ok (.invokestatic 208, 3) := by decide +kernel
theorem d_Mod_termOf_88 : decode m_Mod_termOf.2.1 88 = .ok (.if_icmp .eq 33, 3) := by decide +kernel
theorem d_Mod_termOf_91 : decode m_Mod_termOf.2.1 91 = .ok (.lload 5, 2) := by decide +kernel
theorem d_Mod_termOf_93 : decode m_Mod_termOf.2.1 93 = .ok (.lconst 0, 1) := by decide +kernel
theorem d_Mod_termOf_94 : decode m_Mod_termOf.2.1 94 = .ok (.lcmp, 1) := by decide +kernel
theorem d_Mod_termOf_95 : decode m_Mod_termOf.2.1 95 = .ok (.ifCond .ne 26, 3) := by decide +kernel
theorem d_Mod_termOf_98 : decode m_Mod_termOf.2.1 98 = .ok (.aload_n 0, 1) := by decide +kernel
theorem d_Mod_termOf_99 : decode m_Mod_termOf.2.1 99 = .ok (.aload_n 0, 1) := by decide +kernel
theorem d_Mod_termOf_100 : decode m_Mod_termOf.2.1 100 = .ok (.getfield 259, 3) := by decide +kernel
theorem d_Mod_termOf_103 : decode m_Mod_termOf.2.1 103 = .ok (.ifCond .ne 7, 3) := by decide +kernel
theorem d_Mod_termOf_106 : decode m_Mod_termOf.2.1 106 = .ok (.iload_n 1, 1) := by decide +kernel
theorem d_Mod_termOf_107 : decode m_Mod_termOf.2.1 107 = .ok (.ifCond .eq 7, 3) := by decide +kernel
theorem d_Mod_termOf_110 : decode m_Mod_termOf.2.1 110 = .ok (.iconst 1, 1) := by decide +kernel
theorem d_Mod_termOf_111 : decode m_Mod_termOf.2.1 111 = .ok (.goto 4, 3) := by decide +kernel
theorem d_Mod_termOf_114 : decode m_Mod_termOf.2.1 114 = .ok (.iconst 0, 1) := by decide +kernel
theorem d_Mod_termOf_115 : decode m_Mod_termOf.2.1 115 = .ok (.putfield 259, 3) := by decide +kernel
theorem d_Mod_termOf_118 : decode m_Mod_termOf.2.1 118 = .ok (.lconst 1, 1) := by decide +kernel
theorem d_Mod_termOf_119 : decode m_Mod_termOf.2.1 119 = .ok (.lstore 5, 2) := by decide +kernel
theorem d_Mod_termOf_121 : decode m_Mod_termOf.2.1 121 = .ok (.aload_n 0, 1) := by decide +kernel
theorem d_Mod_termOf_122 : decode m_Mod_termOf.2.1 122 = .ok (.iload 4, 2) := by decide +kernel
theorem d_Mod_termOf_124 : decode m_Mod_termOf.2.1 124 = .ok (.bipush 42, 2) := by decide +kernel
theorem d_Mod_termOf_126 : decode m_Mod_termOf.2.1 126 = .ok (.invokestatic 208, 3) := by decide +kernel
theorem d_Mod_termOf_129 : decode m_Mod_termOf.2.1 129 = .ok (.if_icmp .ne 10, 3) := by decide +kernel
theorem d_Mod_termOf_132 : decode m_Mod_termOf.2.1 132 = .ok (.lload_n 2, 1) := by decide +kernel
theorem d_Mod_termOf_133 : decode m_Mod_termOf.2.1 133 = .ok (.lload 5, 2) := by decide +kernel
theorem d_Mod_termOf_135 : decode m_Mod_termOf.2.1 135 = .ok (.lmul, 1) := by decide +kernel
theorem d_Mod_termOf_136 : decode m_Mod_termOf.2.1 136 = .ok (.goto 24, 3) := by decide +kernel
theorem d_Mod_termOf_139 : decode m_Mod_termOf.2.1 139 = .ok (.iload 4, 2) := by decide +kernel
theorem d_Mod_termOf_141 : decode m_Mod_termOf.2.1 141 = .ok (.bipush 47, 2) := by decide +kernel
theorem d_Mod_termOf_143 : decode m_Mod_termOf.2.1 143 = .ok (.invokestatic 208, 3) := by decide +kernel
theorem d_Mod_termOf_146 : decode m_Mod_termOf.2.1 146 = .ok (.if_icmp .ne 10, 3) := by decide +kernel
theorem d_Mod_termOf_149 : decode m_Mod_termOf.2.1 149 = .ok (.lload_n 2, 1) := by decide +kernel
theorem d_Mod_termOf_150 : decode m_Mod_termOf.2.1 150 = .ok (.lload 5, 2) := by decide +kernel
theorem d_Mod_termOf_152 : decode m_Mod_termOf.2.1 152 = .ok (.ldiv, 1) := by decide +kernel
theorem d_Mod_termOf_153 : decode m_Mod_termOf.2.1 153 = .ok (.goto 7, 3) := by decide +kernel
theorem d_Mod_termOf_156 : decode m_Mod_termOf.2.1 156 = .ok (.lload_n 2, 1) := by decide +kernel
theorem d_Mod_termOf_157 : decode m_Mod_termOf.2.1 157 = .ok (.lload 5, 2) := by decide +kernel
theorem d_Mod_termOf_159 : decode m_Mod_termOf.2.1 159 = .ok (.lrem, 1) := by decide +kernel
theorem d_Mod_termOf_160 : decode m_Mod_termOf.2.1 160 = .ok (.iload_n 1, 1) := by decide +kernel
theorem d_Mod_termOf_161 : decode m_Mod_termOf.2.1 161 = .ok (.invokevirtual 266, 3) := by decide +kernel
theorem d_Mod_termOf_164 : decode m_Mod_termOf.2.1 164 = .ok (.lstore_n 2, 1) := by decide +kernel
theorem d_Mod_termOf_165 : decode m_Mod_termOf.2.1 165 = .ok (.goto (-159), 3) := by decide +kernel
theorem d_Mod_termOf_168 : decode m_Mod_termOf.2.1 168 = .ok (.lload_n 2, 1) := by decide +kernel
theorem d_Mod_termOf_169 : decode m_Mod_termOf.2.1 169 = .ok (.lreturn, 1) := by decide +kernel
theorem d_Mod_partOf_0 : decode m_Mod_partOf.2.1 0 = .ok (.aload_n 0, 1) := by decide +kernel
theorem d_Mod_partOf_1 : decode m_Mod_partOf.2.1 1 = .ok (.bipush 91, 2) := by decide +kernel
theorem d_Mod_partOf_3 : decode m_Mod_partOf.2.1 3 = .ok (.invokestatic 208, 3) := by decide +kernel
theorem d_Mod_partOf_6 : decode m_Mod_partOf.2.1 6 = .ok (.invokevirtual 273, 3) := by decide +kernel
theorem d_Mod_partOf_9 : decode m_Mod_partOf.2.1 9 = .ok (.ifCond .eq 21, 3) := by decide +kernel
theorem d_Mod_partOf_12 : decode m_Mod_partOf.2.1 12 = .ok (.aload_n 0, 1) := by decide +kernel
theorem d_Mod_partOf_13 : decode m_Mod_partOf.2.1 13 = .ok (.iload_n 1, 1) := by decide +kernel
theorem d_Mod_partOf_14 : decode m_Mod_partOf.2.1 14 = .ok (.invokevirtual 276, 3) := by decide +kernel
theorem d_Mod_partOf_17 : decode m_Mod_partOf.2.1 17 = .ok (.lstore_n 2, 1) := by decide +kernel
theorem d_Mod_partOf_18 : decode m_Mod_partOf.2.1 18 = .ok (.aload_n 0, 1) := by decide +kernel
theorem d_Mod_partOf_19 : decode m_Mod_partOf.2.1 19 = .ok (.dup, 1) := by decide +kernel
theorem d_Mod_partOf_20 : decode m_Mod_partOf.2.1 20 = .ok (.getfield 249, 3) := by decide +kernel
theorem d_Mod_partOf_23 : decode m_Mod_partOf.2.1 23 = .ok (.iconst 1, 1) := by decide +kernel
theorem d_Mod_partOf_24 : decode m_Mod_partOf.2.1 24 = .ok (.iadd, 1) := by decide +kernel
theorem d_Mod_partOf_25 : decode m_Mod_partOf.2.1 25 = .ok (.putfield 249, 3) := by decide +kernel
theorem d_Mod_partOf_28 : decode m_Mod_partOf.2.1 28 = .ok (.lload_n 2, 1) := by decide +kernel
theorem d_Mod_partOf_29 : decode m_Mod_partOf.2.1 29 = .ok (.lreturn, 1) := by decide +kernel
theorem d_Mod_partOf_30 : decode m_Mod_partOf.2.1 30 = .ok (.aload_n 0, 1) := by decide +kernel
theorem d_Mod_partOf_31 : decode m_Mod_partOf.2.1 31 = .ok (.aload_n 0, 1) := by decide +kernel
theorem d_Mod_partOf_32 : decode m_Mod_partOf.2.1 32 = .ok (.getfield 249, 3) := by decide +kernel
theorem d_Mod_partOf_35 : decode m_Mod_partOf.2.1 35 = .ok (.invokevirtual 252, 3) := by decide +kernel
theorem d_Mod_partOf_38 : decode m_Mod_partOf.2.1 38 = .ok (.istore_n 2, 1) := by decide +kernel
theorem d_Mod_partOf_39 : decode m_Mod_partOf.2.1 39 = .ok (.iconst 0, 1) := by decide +kernel
theorem d_Mod_partOf_40 : decode m_Mod_partOf.2.1 40 = .ok (.istore_n 3, 1) := by decide +kernel
theorem d_Mod_partOf_41 : decode m_Mod_partOf.2.1 41 = .ok (.aload_n 0, 1) := by decide +kernel
theorem d_Mod_partOf_42 : decode m_Mod_partOf.2.1 42 = .ok (.dup, 1) := by decide +kernel
theorem d_Mod_partOf_43 : decode m_Mod_partOf.2.1 43 = .ok (.getfield 249, 3) := by decide +kernel
theorem d_Mod_partOf_46 : decode m_Mod_partOf.2.1 46 = .ok (.iconst 1, 1) := by decide +kernel
theorem d_Mod_partOf_47 : decode m_Mod_partOf.2.1 47 = .ok (.iadd, 1) := by decide +kernel
theorem d_Mod_partOf_48 : decode m_Mod_partOf.2.1 48 = .ok (.putfield 249, 3) := by decide +kernel
theorem d_Mod_partOf_51 : decode m_Mod_partOf.2.1 51 = .ok (.aload_n 0, 1) := by decide +kernel
theorem d_Mod_partOf_52 : decode m_Mod_partOf.2.1 52 = .ok (.getfield 279, 3) := by decide +kernel
theorem d_Mod_partOf_55 : decode m_Mod_partOf.2.1 55 = .ok (.ifCond .eq 39, 3) := by decide +kernel
theorem d_Mod_partOf_58 : decode m_Mod_partOf.2.1 58 = .ok (.iload_n 2, 1) := by decide +kernel
theorem d_Mod_partOf_59 : decode m_Mod_partOf.2.1 59 = .ok (.bipush 14, 2) := by decide +kernel
theorem d_Mod_partOf_61 : decode m_Mod_partOf.2.1 61 = .ok (.if_icmp .eq 9, 3) := by decide +kernel
theorem d_Mod_partOf_64 : decode m_Mod_partOf.2.1 64 = .ok (.iload_n 2, 1) := by decide +kernel
theorem d_Mod_partOf_65 : decode m_Mod_partOf.2.1 65 = .ok (.bipush 20, 2) := by decide +kernel
theorem d_Mod_partOf_67 : decode m_Mod_partOf.2.1 67 = .ok (.if_icmp .ne 27, 3) := by decide +kernel
theorem d_Mod_partOf_70 : decode m_Mod_partOf.2.1 70 = .ok (.aload_n 0, 1) := by decide +kernel
theorem d_Mod_partOf_71 : decode m_Mod_partOf.2.1 71 = .ok (.getfield 32, 3) := by decide +kernel
theorem d_Mod_partOf_74 : decode m_Mod_partOf.2.1 74 = .ok (.sipush 2833, 3) := by decide +kernel
theorem d_Mod_partOf_77 : decode m_Mod_partOf.2.1 77 = .ok (.aload_n 0, 1) := by decide +kernel
theorem d_Mod_partOf_78 : decode m_Mod_partOf.2.1 78 = .ok (.getfield 249, 3) := by decide +kernel
theorem d_Mod_partOf_81 : decode m_Mod_partOf.2.1 81 = .ok (.iadd, 1) := by decide +kernel
theorem d_Mod_partOf_82 : decode m_Mod_partOf.2.1 82 = .ok (.iaload, 1) := by decide +kernel
theorem d_Mod_partOf_83 : decode m_Mod_partOf.2.1 83 = .ok (.istore_n 3, 1) := by decide +kernel
theorem d_Mod_partOf_84 : decode m_Mod_partOf.2.1 84 = .ok (.aload_n 0, 1) := by decide +kernel
theorem d_Mod_partOf_85 : decode m_Mod_partOf.2.1 85 = .ok (.dup, 1) := by decide +kernel
theorem d_Mod_partOf_86 : decode m_Mod_partOf.2.1 86 = .ok (.getfield 249, 3) := by decide +kernel
theorem d_Mod_partOf_89 : decode m_Mod_partOf.2.1 89 = .ok (.iconst 1, 1) := by decide +kernel
theorem d_Mod_partOf_90 : decode m_Mod_partOf.2.1 90 = .ok (.iadd, 1) := by decide +kernel
theorem d_Mod_partOf_91 : decode m_Mod_partOf.2.1 91 = .ok (.putfield 249, 3) := by decide +kernel
theorem d_Mod_partOf_94 : decode m_Mod_partOf.2.1 94 = .ok (.iload_n 1, 1) := by decide +kernel
theorem d_Mod_partOf_95 : decode m_Mod_partOf.2.1 95 = .ok (.ifCond .eq 10, 3) := by decide +kernel
theorem d_Mod_partOf_98 : decode m_Mod_partOf.2.1 98 = .ok (.aload_n 0, 1) := by decide +kernel
theorem d_Mod_partOf_99 : decode m_Mod_partOf.2.1 99 = .ok (.getfield 259, 3) := by decide +kernel
theorem d_Mod_partOf_102 : decode m_Mod_partOf.2.1 102 = .ok (.ifCond .eq 5, 3) := by decide +kernel
theorem d_Mod_partOf_105 : decode m_Mod_partOf.2.1 105 = .ok (.lconst 0, 1) := by decide +kernel
theorem d_Mod_partOf_106 : decode m_Mod_partOf.2.1 106 = .ok (.lreturn, 1) := by decide +kernel
theorem d_Mod_partOf_107 : decode m_Mod_partOf.2.1 107 = .ok (.iload_n 2, 1) := by decide +kernel
theorem d_Mod_partOf_108 : decode m_Mod_partOf.2.1 108 = .ok (.bipush 50, 2) := by decide +kernel
theorem d_Mod_partOf_110 : decode m_Mod_partOf.2.1 110 = .ok (.if_icmp .ne 20, 3) := by decide +kernel
theorem d_Mod_partOf_113 : decode m_Mod_partOf.2.1 113 = .ok (.aload_n 0, 1) := by decide +kernel
theorem d_Mod_partOf_114 : decode m_Mod_partOf.2.1 114 = .ok (.getfield 32, 3) := by decide +kernel
theorem d_Mod_partOf_117 : decode m_Mod_partOf.2.1 117 = .ok (.sipush 2833, 3) := by decide +kernel
theorem d_Mod_partOf_120 : decode m_Mod_partOf.2.1 120 = .ok (.aload_n 0, 1) := by decide +kernel
theorem d_Mod_partOf_121 : decode m_Mod_partOf.2.1 121 = .ok (.getfield 249, 3) := by decide +kernel
theorem d_Mod_partOf_124 : decode m_Mod_partOf.2.1 124 = .ok (.iadd, 1) := by decide +kernel
theorem d_Mod_partOf_125 : decode m_Mod_partOf.2.1 125 = .ok (.iconst 1, 1) := by decide +kernel
theorem d_Mod_partOf_126 : decode m_Mod_partOf.2.1 126 = .ok (.isub, 1) := by decide +kernel
theorem d_Mod_partOf_127 : decode m_Mod_partOf.2.1 127 = .ok (.iaload, 1) := by decide +kernel
theorem d_Mod_partOf_128 : decode m_Mod_partOf.2.1 128 = .ok (.i2l, 1) := by decide +kernel
theorem d_Mod_partOf_129 : decode m_Mod_partOf.2.1 129 = .ok (.lreturn, 1) := by decide +kernel
theorem d_Mod_partOf_130 : decode m_Mod_partOf.2.1 130 = .ok (.aload_n 0, 1) := by decide +kernel
theorem d_Mod_partOf_131 : decode m_Mod_partOf.2.1 131 = .ok (.getfield 279, 3) := by decide +kernel
theorem d_Mod_partOf_134 : decode m_Mod_partOf.2.1 134 = .ok (.ifCond .eq 13, 3) := by decide +kernel
theorem d_Mod_partOf_137 : decode m_Mod_partOf.2.1 137 = .ok (.aload_n 0, 1) := by decide +kernel
theorem d_Mod_partOf_138 : decode m_Mod_partOf.2.1 138 = .ok (.iload_n 2, 1) := by decide +kernel
theorem d_Mod_partOf_139 : decode m_Mod_partOf.2.1 139 = .ok (.iload_n 3, 1) := by decide +kernel
theorem d_Mod_partOf_140 : decode m_Mod_partOf.2.1 140 = .ok (.invokevirtual 282, 3) := by decide +kernel
theorem d_Mod_partOf_143 : decode m_Mod_partOf.2.1 143 = .ok (.i2l, 1) := by decide +kernel
theorem d_Mod_partOf_144 : decode m_Mod_partOf.2.1 144 = .ok (.goto 13, 3) := by decide +kernel
theorem d_Mod_partOf_147 : decode m_Mod_partOf.2.1 147 = .ok (.aload_n 0, 1) := by decide +kernel
theorem d_Mod_partOf_148 : decode m_Mod_partOf.2.1 148 = .ok (.getfield 67, 3) := by decide +kernel
theorem d_Mod_partOf_151 : decode m_Mod_partOf.2.1 151 = .ok (.iload_n 2, 1) := by decide +kernel
theorem d_Mod_partOf_152 : decode m_Mod_partOf.2.1 152 = .ok (.bipush 9, 2) := by decide +kernel
theorem d_Mod_partOf_154 : decode m_Mod_partOf.2.1 154 = .ok (.isub, 1) := by decide +kernel
theorem d_Mod_partOf_155 : decode m_Mod_partOf.2.1 155 = .ok (.iaload, 1) := by decide +kernel
theorem d_Mod_partOf_156 : decode m_Mod_partOf.2.1 156 = .ok (.i2l, 1) := by decide +kernel
theorem d_Mod_partOf_157 : decode m_Mod_partOf.2.1 157 = .ok (.lreturn, 1) := by decide +kernel
theorem d_Mod_passes0_0 : decode m_Mod_passes0.2.1 0 = .ok (.aload_n 0, 1) := by decide +kernel
theorem d_Mod_passes0_1 : decode m_Mod_passes0.2.1 1 = .ok (.aload_n 0, 1) := by decide +kernel
theorem d_Mod_passes0_2 : decode m_Mod_passes0.2.1 2 = .ok (.getfield 249, 3) := by decide +kernel
theorem d_Mod_passes0_5 : decode m_Mod_passes0.2.1 5 = .ok (.invokevirtual 252, 3) := by decide +kernel
theorem d_Mod_passes0_8 : decode m_Mod_passes0.2.1 8 = .ok (.iload_n 1, 1) := by decide +kernel
theorem d_Mod_passes0_9 : decode m_Mod_passes0.2.1 9 = .ok (.if_icmp .ne 7, 3) := by decide +kernel
theorem d_Mod_passes0_12 : decode m_Mod_passes0.2.1 12 = .ok (.iconst 1, 1) := by decide +kernel
theorem d_Mod_passes0_13 : decode m_Mod_passes0.2.1 13 = .ok (.goto 4, 3) := by decide +kernel
theorem d_Mod_passes0_16 : decode m_Mod_passes0.2.1 16 = .ok (.iconst 0, 1) := by decide +kernel
theorem d_Mod_passes0_17 : decode m_Mod_passes0.2.1 17 = .ok (.istore_n 2, 1) := by decide +kernel
theorem d_Mod_passes0_18 : decode m_Mod_passes0.2.1 18 = .ok (.iload_n 2, 1) := by decide +kernel
theorem d_Mod_passes0_19 : decode m_Mod_passes0.2.1 19 = .ok (.ifCond .eq 13, 3) := by decide +kernel
theorem d_Mod_passes0_22 : decode m_Mod_passes0.2.1 22 = .ok (.aload_n 0, 1) := by decide +kernel
theorem d_Mod_passes0_23 : decode m_Mod_passes0.2.1 23 = .ok (.dup, 1) := by decide +kernel
theorem d_Mod_passes0_24 : decode m_Mod_passes0.2.1 24 = .ok (.getfield 249, 3) := by decide +kernel
theorem d_Mod_passes0_27 : decode m_Mod_passes0.2.1 27 = .ok (.iconst 1, 1) := by decide +kernel
theorem d_Mod_passes0_28 : decode m_Mod_passes0.2.1 28 = .ok (.iadd, 1) := by decide +kernel
theorem d_Mod_passes0_29 : decode m_Mod_passes0.2.1 29 = .ok (.putfield 249, 3) := by decide +kernel
theorem d_Mod_passes0_32 : decode m_Mod_passes0.2.1 32 = .ok (.iload_n 2, 1) := by decide +kernel
theorem d_Mod_passes0_33 : decode m_Mod_passes0.2.1 33 = .ok (.ireturn, 1) := by decide +kernel
theorem d_Mod_orderValue_0 : decode m_Mod_orderValue.2.1 0 = .ok (.iload_n 1, 1) := by decide +kernel
theorem d_Mod_orderValue_1 : decode m_Mod_orderValue.2.1 1 = .ok (.tableswitch 80 14 20 #[43, 57, 62, 70, 75, 80, 50], 43) := by decide +kernel
theorem d_Mod_orderValue_44 : decode m_Mod_orderValue.2.1 44 = .ok (.aload_n 0, 1) := by decide +kernel
theorem d_Mod_orderValue_45 : decode m_Mod_orderValue.2.1 45 = .ok (.iload_n 2, 1) := by decide +kernel
theorem d_Mod_orderValue_46 : decode m_Mod_orderValue.2.1 46 = .ok (.iconst 0, 1) := by decide +kernel
theorem d_Mod_orderValue_47 : decode m_Mod_orderValue.2.1 47 = .ok (.invokevirtual 285, 3) := by decide +kernel
theorem d_Mod_orderValue_50 : decode m_Mod_orderValue.2.1 50 = .ok (.ireturn, 1) := by decide +kernel
theorem d_Mod_orderValue_51 : decode m_Mod_orderValue.2.1 51 = .ok (.aload_n 0, 1) := by decide +kernel
theorem d_Mod_orderValue_52 : decode m_Mod_orderValue.2.1 52 = .ok (.iload_n 2, 1) := by decide +kernel
theorem d_Mod_orderValue_53 : decode m_Mod_orderValue.2.1 53 = .ok (.iconst 2, 1) := by decide +kernel
theorem d_Mod_orderValue_54 : decode m_Mod_orderValue.2.1 54 = .ok (.invokevirtual 285, 3) := by decide +kernel
theorem d_Mod_orderValue_57 : decode m_Mod_orderValue.2.1 57 = .ok (.ireturn, 1) := by decide +kernel
theorem d_Mod_orderValue_58 : decode m_Mod_orderValue.2.1 58 = .ok (.aload_n 0, 1) := by decide +kernel
theorem d_Mod_orderValue_59 : decode m_Mod_orderValue.2.1 59 = .ok (.invokevirtual 125, 3) := by decide +kernel
theorem d_Mod_orderValue_62 : decode m_Mod_orderValue.2.1 62 = .ok (.ireturn, 1) := by decide +kernel
theorem d_Mod_orderValue_63 : decode m_Mod_orderValue.2.1 63 = .ok (.aload_n 0, 1) := by decide +kernel
theorem d_Mod_orderValue_64 : decode m_Mod_orderValue.2.1 64 = .ok (.getfield 32, 3) := by decide +kernel
theorem d_Mod_orderValue_67 : decode m_Mod_orderValue.2.1 67 = .ok (.bipush 21, 2) := by decide +kernel
theorem d_Mod_orderValue_69 : decode m_Mod_orderValue.2.1 69 = .ok (.iaload, 1) := by decide +kernel
theorem d_Mod_orderValue_70 : decode m_Mod_orderValue.2.1 70 = .ok (.ireturn, 1) := by decide +kernel
theorem d_Mod_orderValue_71 : decode m_Mod_orderValue.2.1 71 = .ok (.aload_n 0, 1) := by decide +kernel
theorem d_Mod_orderValue_72 : decode m_Mod_orderValue.2.1 72 = .ok (.getfield 288, 3) := by decide +kernel
theorem d_Mod_orderValue_75 : decode m_Mod_orderValue.2.1 75 = .ok (.ireturn, 1) := by decide +kernel
theorem d_Mod_orderValue_76 : decode m_Mod_orderValue.2.1 76 = .ok (.aload_n 0, 1) := by decide +kernel
theorem d_Mod_orderValue_77 : decode m_Mod_orderValue.2.1 77 = .ok (.getfield 291, 3) := by decide +kernel
theorem d_Mod_orderValue_80 : decode m_Mod_orderValue.2.1 80 = .ok (.ireturn, 1) := by decide +kernel
theorem d_Mod_orderValue_81 : decode m_Mod_orderValue.2.1 81 = .ok (.aload_n 0, 1) := by decide +kernel
theorem d_Mod_orderValue_82 : decode m_Mod_orderValue.2.1 82 = .ok (.invokevirtual 294, 3) := by decide +kernel
theorem d_Mod_orderValue_85 : decode m_Mod_orderValue.2.1 85 = .ok (.ireturn, 1) := by decide +kernel
theorem d_Mod_at_0 : decode m_Mod_at.2.1 0 = .ok (.aload_n 0, 1) := by decide +kernel
theorem d_Mod_at_1 : decode m_Mod_at.2.1 1 = .ok (.iload_n 1, 1) := by decide +kernel
theorem d_Mod_at_2 : decode m_Mod_at.2.1 2 = .ok (.invokevirtual 339, 3) := by decide +kernel
theorem d_Mod_at_5 : decode m_Mod_at.2.1 5 = .ok (.ifCond .ne 5, 3) := by decide +kernel
theorem d_Mod_at_8 : decode m_Mod_at.2.1 8 = .ok (.iconst (-1), 1) := by decide +kernel
theorem d_Mod_at_9 : decode m_Mod_at.2.1 9 = .ok (.ireturn, 1) := by decide +kernel
theorem d_Mod_at_10 : decode m_Mod_at.2.1 10 = .ok (.aload_n 0, 1) := by decide +kernel
theorem d_Mod_at_11 : decode m_Mod_at.2.1 11 = .ok (.invokevirtual 294, 3) := by decide +kernel
theorem d_Mod_at_14 : decode m_Mod_at.2.1 14 = .ok (.pop, 1) := by decide +kernel
theorem d_Mod_at_15 : decode m_Mod_at.2.1 15 = .ok (.iload_n 2, 1) := by decide +kernel
theorem d_Mod_at_16 : decode m_Mod_at.2.1 16 = .ok (.tableswitch 78 0 3 #[32, 38, 45, 51], 32) := by decide +kernel
theorem d_Mod_at_48 : decode m_Mod_at.2.1 48 = .ok (.aload_n 0, 1) := by decide +kernel
theorem d_Mod_at_49 : decode m_Mod_at.2.1 49 = .ok (.iload_n 1, 1) := by decide +kernel
theorem d_Mod_at_50 : decode m_Mod_at.2.1 50 = .ok (.invokevirtual 324, 3) := by decide +kernel
theorem d_Mod_at_53 : decode m_Mod_at.2.1 53 = .ok (.ireturn, 1) := by decide +kernel
theorem d_Mod_at_54 : decode m_Mod_at.2.1 54 = .ok (.aload_n 0, 1) := by decide +kernel
theorem d_Mod_at_55 : decode m_Mod_at.2.1 55 = .ok (.getfield 70, 3) := by decide +kernel
theorem d_Mod_at_58 : decode m_Mod_at.2.1 58 = .ok (.iload_n 1, 1) := by decide +kernel
theorem d_Mod_at_59 : decode m_Mod_at.2.1 59 = .ok (.iaload, 1) := by decide +kernel
theorem d_Mod_at_60 : decode m_Mod_at.2.1 60 = .ok (.ireturn, 1) := by decide +kernel
theorem d_Mod_at_61 : decode m_Mod_at.2.1 61 = .ok (.aload_n 0, 1) := by decide +kernel
theorem d_Mod_at_62 : decode m_Mod_at.2.1 62 = .ok (.iload_n 1, 1) := by decide +kernel
theorem d_Mod_at_63 : decode m_Mod_at.2.1 63 = .ok (.invokevirtual 342, 3) := by decide +kernel
theorem d_Mod_at_66 : decode m_Mod_at.2.1 66 = .ok (.ireturn, 1) := by decide +kernel
theorem d_Mod_at_67 : decode m_Mod_at.2.1 67 = .ok (.aload_n 0, 1) := by decide +kernel
theorem d_Mod_at_68 : decode m_Mod_at.2.1 68 = .ok (.iload_n 1, 1) := by decide +kernel
theorem d_Mod_at_69 : decode m_Mod_at.2.1 69 = .ok (.invokevirtual 324, 3) := by decide +kernel
theorem d_Mod_at_72 : decode m_Mod_at.2.1 72 = .ok (.invokestatic 22, 3) := by decide +kernel
theorem d_Mod_at_75 : decode m_Mod_at.2.1 75 = .ok (.ifCond .ne 17, 3) := by decide +kernel
theorem d_Mod_at_78 : decode m_Mod_at.2.1 78 = .ok (.aload_n 0, 1) := by decide +kernel
theorem d_Mod_at_79 : decode m_Mod_at.2.1 79 = .ok (.getfield 70, 3) := by decide +kernel
theorem d_Mod_at_82 : decode m_Mod_at.2.1 82 = .ok (.iload_n 1, 1) := by decide +kernel
theorem d_Mod_at_83 : decode m_Mod_at.2.1 83 = .ok (.iaload, 1) := by decide +kernel
theorem d_Mod_at_84 : decode m_Mod_at.2.1 84 = .ok (.iconst (-1), 1) := by decide +kernel
theorem d_Mod_at_85 : decode m_Mod_at.2.1 85 = .ok (.if_icmp .ne 7, 3) := by decide +kernel
theorem d_Mod_at_88 : decode m_Mod_at.2.1 88 = .ok (.iconst 1, 1) := by decide +kernel
theorem d_Mod_at_89 : decode m_Mod_at.2.1 89 = .ok (.goto 4, 3) := by decide +kernel
theorem d_Mod_at_92 : decode m_Mod_at.2.1 92 = .ok (.iconst 0, 1) := by decide +kernel
theorem d_Mod_at_93 : decode m_Mod_at.2.1 93 = .ok (.ireturn, 1) := by decide +kernel
theorem d_Mod_at_94 : decode m_Mod_at.2.1 94 = .ok (.iconst (-1), 1) := by decide +kernel
theorem d_Mod_at_95 : decode m_Mod_at.2.1 95 = .ok (.ireturn, 1) := by decide +kernel
theorem d_Mod_isPlace_0 : decode m_Mod_isPlace.2.1 0 = .ok (.iload_n 1, 1) := by decide +kernel
theorem d_Mod_isPlace_1 : decode m_Mod_isPlace.2.1 1 = .ok (.iconst 0, 1) := by decide +kernel
theorem d_Mod_isPlace_2 : decode m_Mod_isPlace.2.1 2 = .ok (.aload_n 0, 1) := by decide +kernel
theorem d_Mod_isPlace_3 : decode m_Mod_isPlace.2.1 3 = .ok (.invokevirtual 125, 3) := by decide +kernel
theorem d_Mod_isPlace_6 : decode m_Mod_isPlace.2.1 6 = .ok (.iconst 1, 1) := by decide +kernel
theorem d_Mod_isPlace_7 : decode m_Mod_isPlace.2.1 7 = .ok (.isub, 1) := by decide +kernel
theorem d_Mod_isPlace_8 : decode m_Mod_isPlace.2.1 8 = .ok (.invokestatic 18, 3) := by decide +kernel
theorem d_Mod_isPlace_11 : decode m_Mod_isPlace.2.1 11 = .ok (.ireturn, 1) := by decide +kernel
theorem d_Mod_looseMany_0 : decode m_Mod_looseMany.2.1 0 = .ok (.aload_n 0, 1) := by decide +kernel
theorem d_Mod_looseMany_1 : decode m_Mod_looseMany.2.1 1 = .ok (.iconst 0, 1) := by decide +kernel
theorem d_Mod_looseMany_2 : decode m_Mod_looseMany.2.1 2 = .ok (.aload_n 0, 1) := by decide +kernel
theorem d_Mod_looseMany_3 : decode m_Mod_looseMany.2.1 3 = .ok (.invokevirtual 125, 3) := by decide +kernel
theorem d_Mod_looseMany_6 : decode m_Mod_looseMany.2.1 6 = .ok (.invokevirtual 336, 3) := by decide +kernel
theorem d_Mod_looseMany_9 : decode m_Mod_looseMany.2.1 9 = .ok (.ireturn, 1) := by decide +kernel
theorem d_Mod_pairs_0 : decode m_Mod_pairs.2.1 0 = .ok (.iconst 0, 1) := by decide +kernel
theorem d_Mod_pairs_1 : decode m_Mod_pairs.2.1 1 = .ok (.istore_n 3, 1) := by decide +kernel
theorem d_Mod_pairs_2 : decode m_Mod_pairs.2.1 2 = .ok (.iconst 0, 1) := by decide +kernel
theorem d_Mod_pairs_3 : decode m_Mod_pairs.2.1 3 = .ok (.istore 4, 2) := by decide +kernel
theorem d_Mod_pairs_5 : decode m_Mod_pairs.2.1 5 = .ok (.iload_n 1, 1) := by decide +kernel
theorem d_Mod_pairs_6 : decode m_Mod_pairs.2.1 6 = .ok (.istore 5, 2) := by decide +kernel
theorem d_Mod_pairs_8 : decode m_Mod_pairs.2.1 8 = .ok (.iload 5, 2) := by decide +kernel
theorem d_Mod_pairs_10 : decode m_Mod_pairs.2.1 10 = .ok (.iload_n 2, 1) := by decide +kernel
theorem d_Mod_pairs_11 : decode m_Mod_pairs.2.1 11 = .ok (.if_icmp .ge 125, 3) := by decide +kernel
theorem d_Mod_pairs_14 : decode m_Mod_pairs.2.1 14 = .ok (.aload_n 0, 1) := by decide +kernel
theorem d_Mod_pairs_15 : decode m_Mod_pairs.2.1 15 = .ok (.getfield 70, 3) := by decide +kernel
theorem d_Mod_pairs_18 : decode m_Mod_pairs.2.1 18 = .ok (.iload 5, 2) := by decide +kernel
theorem d_Mod_pairs_20 : decode m_Mod_pairs.2.1 20 = .ok (.iconst (-1), 1) := by decide +kernel
theorem d_Mod_pairs_21 : decode m_Mod_pairs.2.1 21 = .ok (.iastore, 1) := by decide +kernel
theorem d_Mod_pairs_22 : decode m_Mod_pairs.2.1 22 = .ok (.aload_n 0, 1) := by decide +kernel
theorem d_Mod_pairs_23 : decode m_Mod_pairs.2.1 23 = .ok (.iload 5, 2) := by decide +kernel
theorem d_Mod_pairs_25 : decode m_Mod_pairs.2.1 25 = .ok (.invokevirtual 324, 3) := by decide +kernel
theorem d_Mod_pairs_28 : decode m_Mod_pairs.2.1 28 = .ok (.istore 6, 2) := by decide +kernel
theorem d_Mod_pairs_30 : decode m_Mod_pairs.2.1 30 = .ok (.iload 6, 2) := by decide +kernel
theorem d_Mod_pairs_32 : decode m_Mod_pairs.2.1 32 = .ok (.invokestatic 312, 3) := by decide +kernel
theorem d_Mod_pairs_35 : decode m_Mod_pairs.2.1 35 = .ok (.ifCond .eq 17, 3) := by decide +kernel
theorem d_Mod_pairs_38 : decode m_Mod_pairs.2.1 38 = .ok (.aload_n 0, 1) := by decide +kernel
theorem d_Mod_pairs_39 : decode m_Mod_pairs.2.1 39 = .ok (.getfield 73, 3) := by decide +kernel
theorem d_Mod_pairs_42 : decode m_Mod_pairs.2.1 42 = .ok (.iload_n 3, 1) := by decide +kernel
theorem d_Mod_pairs_43 : decode m_Mod_pairs.2.1 43 = .ok (.iload 5, 2) := by decide +kernel
theorem d_Mod_pairs_45 : decode m_Mod_pairs.2.1 45 = .ok (.iastore, 1) := by decide +kernel
theorem d_Mod_pairs_46 : decode m_Mod_pairs.2.1 46 = .ok (.iinc 3 1, 3) := by decide +kernel
theorem d_Mod_pairs_49 : decode m_Mod_pairs.2.1 49 = .ok (.goto 81, 3) := by decide +kernel
theorem d_Mod_pairs_52 : decode m_Mod_pairs.2.1 52 = .ok (.iload 6, 2) := by decide +kernel
theorem d_Mod_pairs_54 : decode m_Mod_pairs.2.1 54 = .ok (.invokestatic 333, 3) := by decide +kernel
theorem d_Mod_pairs_57 : decode m_Mod_pairs.2.1 57 = .ok (.ifCond .eq 62, 3) := by decide +kernel
theorem d_Mod_pairs_60 : decode m_Mod_pairs.2.1 60 = .ok (.iload_n 3, 1) := by decide +kernel
theorem d_Mod_pairs_61 : decode m_Mod_pairs.2.1 61 = .ok (.ifCond .le 58, 3) := by decide +kernel
theorem d_Mod_pairs_64 : decode m_Mod_pairs.2.1 64 = .ok (.aload_n 0, 1) := by decide +kernel
theorem d_Mod_pairs_65 : decode m_Mod_pairs.2.1 65 = .ok (.aload_n 0, 1) := by decide +kernel
theorem d_Mod_pairs_66 : decode m_Mod_pairs.2.1 66 = .ok (.getfield 73, 3) := by decide +kernel
theorem d_Mod_pairs_69 : decode m_Mod_pairs.2.1 69 = .ok (.iload_n 3, 1) := by decide +kernel
theorem d_Mod_pairs_70 : decode m_Mod_pairs.2.1 70 = .ok (.iconst 1, 1) := by decide +kernel
theorem d_Mod_pairs_71 : decode m_Mod_pairs.2.1 71 = .ok (.isub, 1) := by decide +kernel
theorem d_Mod_pairs_72 : decode m_Mod_pairs.2.1 72 = .ok (.iaload, 1) := by decide +kernel
theorem d_Mod_pairs_73 : decode m_Mod_pairs.2.1 73 = .ok (.invokevirtual 324, 3) := by decide +kernel
theorem d_Mod_pairs_76 : decode m_Mod_pairs.2.1 76 = .ok (.invokestatic 309, 3) := by decide +kernel
theorem d_Mod_pairs_79 : decode m_Mod_pairs.2.1 79 = .ok (.iload 6, 2) := by decide +kernel
theorem d_Mod_pairs_81 : decode m_Mod_pairs.2.1 81 = .ok (.invokestatic 309, 3) := by decide +kernel
theorem d_Mod_pairs_84 : decode m_Mod_pairs.2.1 84 = .ok (.if_icmp .ne 35, 3) := by decide +kernel
theorem d_Mod_pairs_87 : decode m_Mod_pairs.2.1 87 = .ok (.iinc 3 (-1), 3) := by decide +kernel
theorem d_Mod_pairs_90 : decode m_Mod_pairs.2.1 90 = .ok (.aload_n 0, 1) := by decide +kernel
theorem d_Mod_pairs_91 : decode m_Mod_pairs.2.1 91 = .ok (.getfield 70, 3) := by decide +kernel
theorem d_Mod_pairs_94 : decode m_Mod_pairs.2.1 94 = .ok (.iload 5, 2) := by decide +kernel
theorem d_Mod_pairs_96 : decode m_Mod_pairs.2.1 96 = .ok (.aload_n 0, 1) := by decide +kernel
theorem d_Mod_pairs_97 : decode m_Mod_pairs.2.1 97 = .ok (.getfield 73, 3) := by decide +kernel
theorem d_Mod_pairs_100 : decode m_Mod_pairs.2.1 100 = .ok (.iload_n 3, 1) := by decide +kernel
theorem d_Mod_pairs_101 : decode m_Mod_pairs.2.1 101 = .ok (.iaload, 1) := by decide +kernel
theorem d_Mod_pairs_102 : decode m_Mod_pairs.2.1 102 = .ok (.iastore, 1) := by decide +kernel
theorem d_Mod_pairs_103 : decode m_Mod_pairs.2.1 103 = .ok (.aload_n 0, 1) := by decide +kernel
theorem d_Mod_pairs_104 : decode m_Mod_pairs.2.1 104 = .ok (.getfield 70, 3) := by decide +kernel
theorem d_Mod_pairs_107 : decode m_Mod_pairs.2.1 107 = .ok (.aload_n 0, 1) := by decide +kernel
theorem d_Mod_pairs_108 : decode m_Mod_pairs.2.1 108 = .ok (.getfield 73, 3) := by decide +kernel
theorem d_Mod_pairs_111 : decode m_Mod_pairs.2.1 111 = .ok (.iload_n 3, 1) := by decide +kernel
theorem d_Mod_pairs_112 : decode m_Mod_pairs.2.1 112 = .ok (.iaload, 1) := by decide +kernel
theorem d_Mod_pairs_113 : decode m_Mod_pairs.2.1 113 = .ok (.iload 5, 2) := by decide +kernel
theorem d_Mod_pairs_115 : decode m_Mod_pairs.2.1 115 = .ok (.iastore, 1) := by decide +kernel
theorem d_Mod_pairs_116 : decode m_Mod_pairs.2.1 116 = .ok (.goto 14, 3) := by decide +kernel
theorem d_Mod_pairs_119 : decode m_Mod_pairs.2.1 119 = .ok (.iload 6, 2) := by decide +kernel
theorem d_Mod_pairs_121 : decode m_Mod_pairs.2.1 121 = .ok (.invokestatic 333, 3) := by decide +kernel
theorem d_Mod_pairs_124 : decode m_Mod_pairs.2.1 124 = .ok (.ifCond .eq 6, 3) := by decide +kernel
theorem d_Mod_pairs_127 : decode m_Mod_pairs.2.1 127 = .ok (.iinc 4 1, 3) := by decide +kernel
theorem d_Mod_pairs_130 : decode m_Mod_pairs.2.1 130 = .ok (.iinc 5 1, 3) := by decide +kernel
theorem d_Mod_pairs_133 : decode m_Mod_pairs.2.1 133 = .ok (.goto (-125), 3) := by decide +kernel
theorem d_Mod_pairs_136 : decode m_Mod_pairs.2.1 136 = .ok (.iload 4, 2) := by decide +kernel
theorem d_Mod_pairs_138 : decode m_Mod_pairs.2.1 138 = .ok (.iload_n 3, 1) := by decide +kernel
theorem d_Mod_pairs_139 : decode m_Mod_pairs.2.1 139 = .ok (.iadd, 1) := by decide +kernel
theorem d_Mod_pairs_140 : decode m_Mod_pairs.2.1 140 = .ok (.ireturn, 1) := by decide +kernel
theorem d_Mod_signAt_0 : decode m_Mod_signAt.2.1 0 = .ok (.aload_n 0, 1) := by decide +kernel
theorem d_Mod_signAt_1 : decode m_Mod_signAt.2.1 1 = .ok (.getfield 32, 3) := by decide +kernel
theorem d_Mod_signAt_4 : decode m_Mod_signAt.2.1 4 = .ok (.iconst 1, 1) := by decide +kernel
theorem d_Mod_signAt_5 : decode m_Mod_signAt.2.1 5 = .ok (.iload_n 1, 1) := by decide +kernel
theorem d_Mod_signAt_6 : decode m_Mod_signAt.2.1 6 = .ok (.iadd, 1) := by decide +kernel
theorem d_Mod_signAt_7 : decode m_Mod_signAt.2.1 7 = .ok (.iaload, 1) := by decide +kernel
theorem d_Mod_signAt_8 : decode m_Mod_signAt.2.1 8 = .ok (.ireturn, 1) := by decide +kernel
theorem d_Mod_closes0_0 : decode m_Mod_closes0.2.1 0 = .ok (.iload_n 0, 1) := by decide +kernel
theorem d_Mod_closes0_1 : decode m_Mod_closes0.2.1 1 = .ok (.iconst 3, 1) := by decide +kernel
theorem d_Mod_closes0_2 : decode m_Mod_closes0.2.1 2 = .ok (.iconst 5, 1) := by decide +kernel
theorem d_Mod_closes0_3 : decode m_Mod_closes0.2.1 3 = .ok (.invokestatic 18, 3) := by decide +kernel
theorem d_Mod_closes0_6 : decode m_Mod_closes0.2.1 6 = .ok (.ireturn, 1) := by decide +kernel
theorem d_Mod_deepOf_0 : decode m_Mod_deepOf.2.1 0 = .ok (.iconst 0, 1) := by decide +kernel
theorem d_Mod_deepOf_1 : decode m_Mod_deepOf.2.1 1 = .ok (.istore_n 2, 1) := by decide +kernel
theorem d_Mod_deepOf_2 : decode m_Mod_deepOf.2.1 2 = .ok (.iconst 0, 1) := by decide +kernel
theorem d_Mod_deepOf_3 : decode m_Mod_deepOf.2.1 3 = .ok (.istore_n 3, 1) := by decide +kernel
theorem d_Mod_deepOf_4 : decode m_Mod_deepOf.2.1 4 = .ok (.iload_n 3, 1) := by decide +kernel
theorem d_Mod_deepOf_5 : decode m_Mod_deepOf.2.1 5 = .ok (.iload_n 1, 1) := by decide +kernel
theorem d_Mod_deepOf_6 : decode m_Mod_deepOf.2.1 6 = .ok (.if_icmp .ge 27, 3) := by decide +kernel
theorem d_Mod_deepOf_9 : decode m_Mod_deepOf.2.1 9 = .ok (.iload_n 2, 1) := by decide +kernel
theorem d_Mod_deepOf_10 : decode m_Mod_deepOf.2.1 10 = .ok (.aload_n 0, 1) := by decide +kernel
theorem d_Mod_deepOf_11 : decode m_Mod_deepOf.2.1 11 = .ok (.getfield 70, 3) := by decide +kernel
theorem d_Mod_deepOf_14 : decode m_Mod_deepOf.2.1 14 = .ok (.iload_n 3, 1) := by decide +kernel
theorem d_Mod_deepOf_15 : decode m_Mod_deepOf.2.1 15 = .ok (.iaload, 1) := by decide +kernel
theorem d_Mod_deepOf_16 : decode m_Mod_deepOf.2.1 16 = .ok (.iload_n 1, 1) := by decide +kernel
theorem d_Mod_deepOf_17 : decode m_Mod_deepOf.2.1 17 = .ok (.if_icmp .le 7, 3) := by decide +kernel
theorem d_Mod_deepOf_20 : decode m_Mod_deepOf.2.1 20 = .ok (.iconst 1, 1) := by decide +kernel
theorem d_Mod_deepOf_21 : decode m_Mod_deepOf.2.1 21 = .ok (.goto 4, 3) := by decide +kernel
theorem d_Mod_deepOf_24 : decode m_Mod_deepOf.2.1 24 = .ok (.iconst 0, 1) := by decide +kernel
theorem d_Mod_deepOf_25 : decode m_Mod_deepOf.2.1 25 = .ok (.iadd, 1) := by decide +kernel
theorem d_Mod_deepOf_26 : decode m_Mod_deepOf.2.1 26 = .ok (.istore_n 2, 1) := by decide +kernel
theorem d_Mod_deepOf_27 : decode m_Mod_deepOf.2.1 27 = .ok (.iinc 3 1, 3) := by decide +kernel
theorem d_Mod_deepOf_30 : decode m_Mod_deepOf.2.1 30 = .ok (.goto (-26), 3) := by decide +kernel
theorem d_Mod_deepOf_33 : decode m_Mod_deepOf.2.1 33 = .ok (.iload_n 2, 1) := by decide +kernel
theorem d_Mod_deepOf_34 : decode m_Mod_deepOf.2.1 34 = .ok (.ireturn, 1) := by decide +kernel
theorem d_Mod_bounded_0 : decode m_Mod_bounded.2.1 0 = .ok (.iload_n 3, 1) := by decide +kernel
theorem d_Mod_bounded_1 : decode m_Mod_bounded.2.1 1 = .ok (.ifCond .eq 24, 3) := by decide +kernel
theorem d_Mod_bounded_4 : decode m_Mod_bounded.2.1 4 = .ok (.lload_n 1, 1) := by decide +kernel
theorem d_Mod_bounded_5 : decode m_Mod_bounded.2.1 5 = .ok (.ldc2_w 255, 3) := by decide +kernel
theorem d_Mod_bounded_8 : decode m_Mod_bounded.2.1 8 = .ok (.lcmp, 1) := by decide +kernel
theorem d_Mod_bounded_9 : decode m_Mod_bounded.2.1 9 = .ok (.ifCond .gt 11, 3) := by decide +kernel
theorem d_Mod_bounded_12 : decode m_Mod_bounded.2.1 12 = .ok (.lload_n 1, 1) := by decide +kernel
theorem d_Mod_bounded_13 : decode m_Mod_bounded.2.1 13 = .ok (.ldc2_w 257, 3) := by decide +kernel
theorem d_Mod_bounded_16 : decode m_Mod_bounded.2.1 16 = .ok (.lcmp, 1) := by decide +kernel
theorem d_Mod_bounded_17 : decode m_Mod_bounded.2.1 17 = .ok (.ifCond .ge 8, 3) := by decide +kernel
theorem d_Mod_bounded_20 : decode m_Mod_bounded.2.1 20 = .ok (.aload_n 0, 1) := by decide +kernel
theorem d_Mod_bounded_21 : decode m_Mod_bounded.2.1 21 = .ok (.iconst 1, 1) := by decide +kernel
theorem d_Mod_bounded_22 : decode m_Mod_bounded.2.1 22 = .ok (.putfield 259, 3) := by decide +kernel
theorem d_Mod_bounded_25 : decode m_Mod_bounded.2.1 25 = .ok (.aload_n 0, 1) := by decide +kernel
theorem d_Mod_bounded_26 : decode m_Mod_bounded.2.1 26 = .ok (.getfield 259, 3) := by decide +kernel
theorem d_Mod_bounded_29 : decode m_Mod_bounded.2.1 29 = .ok (.ifCond .eq 7, 3) := by decide +kernel
theorem d_Mod_bounded_32 : decode m_Mod_bounded.2.1 32 = .ok (.lconst 0, 1) := by decide +kernel
theorem d_Mod_bounded_33 : decode m_Mod_bounded.2.1 33 = .ok (.goto 4, 3) := by decide +kernel
theorem d_Mod_bounded_36 : decode m_Mod_bounded.2.1 36 = .ok (.lload_n 1, 1) := by decide +kernel
theorem d_Mod_bounded_37 : decode m_Mod_bounded.2.1 37 = .ok (.lreturn, 1) := by decide +kernel
theorem d_Mod_testOf_0 : decode m_Mod_testOf.2.1 0 = .ok (.aload_n 0, 1) := by decide +kernel
theorem d_Mod_testOf_1 : decode m_Mod_testOf.2.1 1 = .ok (.iload_n 1, 1) := by decide +kernel
theorem d_Mod_testOf_2 : decode m_Mod_testOf.2.1 2 = .ok (.invokevirtual 297, 3) := by decide +kernel
theorem d_Mod_testOf_5 : decode m_Mod_testOf.2.1 5 = .ok (.istore_n 2, 1) := by decide +kernel
theorem d_Mod_testOf_6 : decode m_Mod_testOf.2.1 6 = .ok (.aload_n 0, 1) := by decide +kernel
theorem d_Mod_testOf_7 : decode m_Mod_testOf.2.1 7 = .ok (.bipush 6, 2) := by decide +kernel
theorem d_Mod_testOf_9 : decode m_Mod_testOf.2.1 9 = .ok (.invokevirtual 273, 3) := by decide +kernel
theorem d_Mod_testOf_12 : decode m_Mod_testOf.2.1 12 = .ok (.ifCond .eq 38, 3) := by decide +kernel
theorem d_Mod_testOf_15 : decode m_Mod_testOf.2.1 15 = .ok (.aload_n 0, 1) := by decide +kernel
theorem d_Mod_testOf_16 : decode m_Mod_testOf.2.1 16 = .ok (.iload_n 1, 1) := by decide +kernel
theorem d_Mod_testOf_17 : decode m_Mod_testOf.2.1 17 = .ok (.ifCond .eq 11, 3) := by decide +kernel
theorem d_Mod_testOf_20 : decode m_Mod_testOf.2.1 20 = .ok (.iload_n 2, 1) := by decide +kernel
theorem d_Mod_testOf_21 : decode m_Mod_testOf.2.1 21 = .ok (.ifCond .ne 7, 3) := by decide +kernel
theorem d_Mod_testOf_24 : decode m_Mod_testOf.2.1 24 = .ok (.iconst 1, 1) := by decide +kernel
theorem d_Mod_testOf_25 : decode m_Mod_testOf.2.1 25 = .ok (.goto 4, 3) := by decide +kernel
theorem d_Mod_testOf_28 : decode m_Mod_testOf.2.1 28 = .ok (.iconst 0, 1) := by decide +kernel
theorem d_Mod_testOf_29 : decode m_Mod_testOf.2.1 29 = .ok (.invokevirtual 297, 3) := by decide +kernel
theorem d_Mod_testOf_32 : decode m_Mod_testOf.2.1 32 = .ok (.istore_n 3, 1) := by decide +kernel
theorem d_Mod_testOf_33 : decode m_Mod_testOf.2.1 33 = .ok (.iload_n 2, 1) := by decide +kernel
theorem d_Mod_testOf_34 : decode m_Mod_testOf.2.1 34 = .ok (.ifCond .ne 7, 3) := by decide +kernel
theorem d_Mod_testOf_37 : decode m_Mod_testOf.2.1 37 = .ok (.iload_n 3, 1) := by decide +kernel
theorem d_Mod_testOf_38 : decode m_Mod_testOf.2.1 38 = .ok (.ifCond .eq 7, 3) := by decide +kernel
theorem d_Mod_testOf_41 : decode m_Mod_testOf.2.1 41 = .ok (.iconst 1, 1) := by decide +kernel
theorem d_Mod_testOf_42 : decode m_Mod_testOf.2.1 42 = .ok (.goto 4, 3) := by decide +kernel
theorem d_Mod_testOf_45 : decode m_Mod_testOf.2.1 45 = .ok (.iconst 0, 1) := by decide +kernel
theorem d_Mod_testOf_46 : decode m_Mod_testOf.2.1 46 = .ok (.istore_n 2, 1) := by decide +kernel
theorem d_Mod_testOf_47 : decode m_Mod_testOf.2.1 47 = .ok (.goto (-41), 3) := by decide +kernel
theorem d_Mod_testOf_50 : decode m_Mod_testOf.2.1 50 = .ok (.iload_n 2, 1) := by decide +kernel
theorem d_Mod_testOf_51 : decode m_Mod_testOf.2.1 51 = .ok (.ireturn, 1) := by decide +kernel
theorem d_Mod_bothOf_0 : decode m_Mod_bothOf.2.1 0 = .ok (.aload_n 0, 1) := by decide +kernel
theorem d_Mod_bothOf_1 : decode m_Mod_bothOf.2.1 1 = .ok (.iload_n 1, 1) := by decide +kernel
theorem d_Mod_bothOf_2 : decode m_Mod_bothOf.2.1 2 = .ok (.invokevirtual 300, 3) := by decide +kernel
theorem d_Mod_bothOf_5 : decode m_Mod_bothOf.2.1 5 = .ok (.istore_n 2, 1) := by decide +kernel
theorem d_Mod_bothOf_6 : decode m_Mod_bothOf.2.1 6 = .ok (.aload_n 0, 1) := by decide +kernel
theorem d_Mod_bothOf_7 : decode m_Mod_bothOf.2.1 7 = .ok (.bipush 7, 2) := by decide +kernel
theorem d_Mod_bothOf_9 : decode m_Mod_bothOf.2.1 9 = .ok (.invokevirtual 273, 3) := by decide +kernel
theorem d_Mod_bothOf_12 : decode m_Mod_bothOf.2.1 12 = .ok (.ifCond .eq 38, 3) := by decide +kernel
theorem d_Mod_bothOf_15 : decode m_Mod_bothOf.2.1 15 = .ok (.aload_n 0, 1) := by decide +kernel
theorem d_Mod_bothOf_16 : decode m_Mod_bothOf.2.1 16 = .ok (.iload_n 1, 1) := by decide +kernel
theorem d_Mod_bothOf_17 : decode m_Mod_bothOf.2.1 17 = .ok (.ifCond .eq 11, 3) := by decide +kernel
theorem d_Mod_bothOf_20 : decode m_Mod_bothOf.2.1 20 = .ok (.iload_n 2, 1) := by decide +kernel
theorem d_Mod_bothOf_21 : decode m_Mod_bothOf.2.1 21 = .ok (.ifCond .eq 7, 3) := by decide +kernel
theorem d_Mod_bothOf_24 : decode m_Mod_bothOf.2.1 24 = .ok (.iconst 1, 1) := by decide +kernel
theorem d_Mod_bothOf_25 : decode m_Mod_bothOf.2.1 25 = .ok (.goto 4, 3) := by decide +kernel
theorem d_Mod_bothOf_28 : decode m_Mod_bothOf.2.1 28 = .ok (.iconst 0, 1) := by decide +kernel
theorem d_Mod_bothOf_29 : decode m_Mod_bothOf.2.1 29 = .ok (.invokevirtual 300, 3) := by decide +kernel
theorem d_Mod_bothOf_32 : decode m_Mod_bothOf.2.1 32 = .ok (.istore_n 3, 1) := by decide +kernel
theorem d_Mod_bothOf_33 : decode m_Mod_bothOf.2.1 33 = .ok (.iload_n 2, 1) := by decide +kernel
theorem d_Mod_bothOf_34 : decode m_Mod_bothOf.2.1 34 = .ok (.ifCond .eq 11, 3) := by decide +kernel
theorem d_Mod_bothOf_37 : decode m_Mod_bothOf.2.1 37 = .ok (.iload_n 3, 1) := by decide +kernel
theorem d_Mod_bothOf_38 : decode m_Mod_bothOf.2.1 38 = .ok (.ifCond .eq 7, 3) := by decide +kernel
theorem d_Mod_bothOf_41 : decode m_Mod_bothOf.2.1 41 = .ok (.iconst 1, 1) := by decide +kernel
theorem d_Mod_bothOf_42 : decode m_Mod_bothOf.2.1 42 = .ok (.goto 4, 3) := by decide +kernel
theorem d_Mod_bothOf_45 : decode m_Mod_bothOf.2.1 45 = .ok (.iconst 0, 1) := by decide +kernel
theorem d_Mod_bothOf_46 : decode m_Mod_bothOf.2.1 46 = .ok (.istore_n 2, 1) := by decide +kernel
theorem d_Mod_bothOf_47 : decode m_Mod_bothOf.2.1 47 = .ok (.goto (-41), 3) := by decide +kernel
theorem d_Mod_bothOf_50 : decode m_Mod_bothOf.2.1 50 = .ok (.iload_n 2, 1) := by decide +kernel
theorem d_Mod_bothOf_51 : decode m_Mod_bothOf.2.1 51 = .ok (.ireturn, 1) := by decide +kernel
theorem d_Mod_plainOf_0 : decode m_Mod_plainOf.2.1 0 = .ok (.iconst 0, 1) := by decide +kernel
theorem d_Mod_plainOf_1 : decode m_Mod_plainOf.2.1 1 = .ok (.istore_n 2, 1) := by decide +kernel
theorem d_Mod_plainOf_2 : decode m_Mod_plainOf.2.1 2 = .ok (.aload_n 0, 1) := by decide +kernel
theorem d_Mod_plainOf_3 : decode m_Mod_plainOf.2.1 3 = .ok (.bipush 8, 2) := by decide +kernel
theorem d_Mod_plainOf_5 : decode m_Mod_plainOf.2.1 5 = .ok (.invokevirtual 273, 3) := by decide +kernel
theorem d_Mod_plainOf_8 : decode m_Mod_plainOf.2.1 8 = .ok (.ifCond .eq 16, 3) := by decide +kernel
theorem d_Mod_plainOf_11 : decode m_Mod_plainOf.2.1 11 = .ok (.iload_n 2, 1) := by decide +kernel
theorem d_Mod_plainOf_12 : decode m_Mod_plainOf.2.1 12 = .ok (.ifCond .ne 7, 3) := by decide +kernel
theorem d_Mod_plainOf_15 : decode m_Mod_plainOf.2.1 15 = .ok (.iconst 1, 1) := by decide +kernel
theorem d_Mod_plainOf_16 : decode m_Mod_plainOf.2.1 16 = .ok (.goto 4, 3) := by decide +kernel
theorem d_Mod_plainOf_19 : decode m_Mod_plainOf.2.1 19 = .ok (.iconst 0, 1) := by decide +kernel
theorem d_Mod_plainOf_20 : decode m_Mod_plainOf.2.1 20 = .ok (.istore_n 2, 1) := by decide +kernel
theorem d_Mod_plainOf_21 : decode m_Mod_plainOf.2.1 21 = .ok (.goto (-19), 3) := by decide +kernel
theorem d_Mod_plainOf_24 : decode m_Mod_plainOf.2.1 24 = .ok (.aload_n 0, 1) := by decide +kernel
theorem d_Mod_plainOf_25 : decode m_Mod_plainOf.2.1 25 = .ok (.iload_n 1, 1) := by decide +kernel
theorem d_Mod_plainOf_26 : decode m_Mod_plainOf.2.1 26 = .ok (.invokevirtual 303, 3) := by decide +kernel
theorem d_Mod_plainOf_29 : decode m_Mod_plainOf.2.1 29 = .ok (.iload_n 2, 1) := by decide +kernel
theorem d_Mod_plainOf_30 : decode m_Mod_plainOf.2.1 30 = .ok (.if_icmp .eq 7, 3) := by decide +kernel
theorem d_Mod_plainOf_33 : decode m_Mod_plainOf.2.1 33 = .ok (.iconst 1, 1) := by decide +kernel
theorem d_Mod_plainOf_34 : decode m_Mod_plainOf.2.1 34 = .ok (.goto 4, 3) := by decide +kernel
theorem d_Mod_plainOf_37 : decode m_Mod_plainOf.2.1 37 = .ok (.iconst 0, 1) := by decide +kernel
theorem d_Mod_plainOf_38 : decode m_Mod_plainOf.2.1 38 = .ok (.ireturn, 1) := by decide +kernel
theorem d_Mod_positiveOf_0 : decode m_Mod_positiveOf.2.1 0 = .ok (.aload_n 0, 1) := by decide +kernel
theorem d_Mod_positiveOf_1 : decode m_Mod_positiveOf.2.1 1 = .ok (.bipush 40, 2) := by decide +kernel
theorem d_Mod_positiveOf_3 : decode m_Mod_positiveOf.2.1 3 = .ok (.invokestatic 208, 3) := by decide +kernel
theorem d_Mod_positiveOf_6 : decode m_Mod_positiveOf.2.1 6 = .ok (.invokevirtual 273, 3) := by decide +kernel
theorem d_Mod_positiveOf_9 : decode m_Mod_positiveOf.2.1 9 = .ok (.ifCond .eq 21, 3) := by decide +kernel
theorem d_Mod_positiveOf_12 : decode m_Mod_positiveOf.2.1 12 = .ok (.aload_n 0, 1) := by decide +kernel
theorem d_Mod_positiveOf_13 : decode m_Mod_positiveOf.2.1 13 = .ok (.iload_n 1, 1) := by decide +kernel
theorem d_Mod_positiveOf_14 : decode m_Mod_positiveOf.2.1 14 = .ok (.invokevirtual 306, 3) := by decide +kernel
theorem d_Mod_positiveOf_17 : decode m_Mod_positiveOf.2.1 17 = .ok (.istore_n 2, 1) := by decide +kernel
theorem d_Mod_positiveOf_18 : decode m_Mod_positiveOf.2.1 18 = .ok (.aload_n 0, 1) := by decide +kernel
theorem d_Mod_positiveOf_19 : decode m_Mod_positiveOf.2.1 19 = .ok (.dup, 1) := by decide +kernel
theorem d_Mod_positiveOf_20 : decode m_Mod_positiveOf.2.1 20 = .ok (.getfield 249, 3) := by decide +kernel
theorem d_Mod_positiveOf_23 : decode m_Mod_positiveOf.2.1 23 = .ok (.iconst 1, 1) := by decide +kernel
theorem d_Mod_positiveOf_24 : decode m_Mod_positiveOf.2.1 24 = .ok (.iadd, 1) := by decide +kernel
theorem d_Mod_positiveOf_25 : decode m_Mod_positiveOf.2.1 25 = .ok (.putfield 249, 3) := by decide +kernel
theorem d_Mod_positiveOf_28 : decode m_Mod_positiveOf.2.1 28 = .ok (.iload_n 2, 1) := by decide +kernel
theorem d_Mod_positiveOf_29 : decode m_Mod_positiveOf.2.1 29 = .ok (.ireturn, 1) := by decide +kernel
theorem d_Mod_positiveOf_30 : decode m_Mod_positiveOf.2.1 30 = .ok (.aload_n 0, 1) := by decide +kernel
theorem d_Mod_positiveOf_31 : decode m_Mod_positiveOf.2.1 31 = .ok (.iload_n 1, 1) := by decide +kernel
theorem d_Mod_positiveOf_32 : decode m_Mod_positiveOf.2.1 32 = .ok (.invokevirtual 276, 3) := by decide +kernel
theorem d_Mod_positiveOf_35 : decode m_Mod_positiveOf.2.1 35 = .ok (.lstore_n 2, 1) := by decide +kernel
theorem d_Mod_positiveOf_36 : decode m_Mod_positiveOf.2.1 36 = .ok (.aload_n 0, 1) := by decide +kernel
theorem d_Mod_positiveOf_37 : decode m_Mod_positiveOf.2.1 37 = .ok (.aload_n 0, 1) := by decide +kernel
theorem d_Mod_positiveOf_38 : decode m_Mod_positiveOf.2.1 38 = .ok (.getfield 249, 3) := by decide +kernel
theorem d_Mod_positiveOf_41 : decode m_Mod_positiveOf.2.1 41 = .ok (.invokevirtual 252, 3) := by decide +kernel
theorem d_Mod_positiveOf_44 : decode m_Mod_positiveOf.2.1 44 = .ok (.istore 4, 2) := by decide +kernel
theorem d_Mod_positiveOf_46 : decode m_Mod_positiveOf.2.1 46 = .ok (.aload_n 0, 1) := by decide +kernel
theorem d_Mod_positiveOf_47 : decode m_Mod_positiveOf.2.1 47 = .ok (.dup, 1) := by decide +kernel
theorem d_Mod_positiveOf_48 : decode m_Mod_positiveOf.2.1 48 = .ok (.getfield 249, 3) := by decide +kernel
theorem d_Mod_positiveOf_51 : decode m_Mod_positiveOf.2.1 51 = .ok (.iconst 1, 1) := by decide +kernel
theorem d_Mod_positiveOf_52 : decode m_Mod_positiveOf.2.1 52 = .ok (.iadd, 1) := by decide +kernel
theorem d_Mod_positiveOf_53 : decode m_Mod_positiveOf.2.1 53 = .ok (.putfield 249, 3) := by decide +kernel
theorem d_Mod_positiveOf_56 : decode m_Mod_positiveOf.2.1 56 = .ok (.aload_n 0, 1) := by decide +kernel
theorem d_Mod_positiveOf_57 : decode m_Mod_positiveOf.2.1 57 = .ok (.iload_n 1, 1) := by decide +kernel
theorem d_Mod_positiveOf_58 : decode m_Mod_positiveOf.2.1 58 = .ok (.invokevirtual 276, 3) := by decide +kernel
theorem d_Mod_positiveOf_61 : decode m_Mod_positiveOf.2.1 61 = .ok (.lstore 5, 2) := by decide +kernel
theorem d_Mod_positiveOf_63 : decode m_Mod_positiveOf.2.1 63 = .ok (.iload_n 1, 1) := by decide +kernel
theorem d_Mod_positiveOf_64 : decode m_Mod_positiveOf.2.1 64 = .ok (.ifCond .eq 61, 3) := by decide +kernel
theorem d_Mod_positiveOf_67 : decode m_Mod_positiveOf.2.1 67 = .ok (.aload_n 0, 1) := by decide +kernel
theorem d_Mod_positiveOf_68 : decode m_Mod_positiveOf.2.1 68 = .ok (.getfield 259, 3) := by decide +kernel
theorem d_Mod_positiveOf_71 : decode m_Mod_positiveOf.2.1 71 = .ok (.ifCond .ne 54, 3) := by decide +kernel
theorem d_Mod_positiveOf_74 : decode m_Mod_positiveOf.2.1 74 = .ok (.iload 4, 2) := by decide +kernel
theorem d_Mod_positiveOf_76 : decode m_Mod_positiveOf.2.1 76 = .ok (.bipush 60, 2) := by decide +kernel
theorem d_Mod_positiveOf_78 : decode m_Mod_positiveOf.2.1 78 = .ok (.invokestatic 208, 3) := by decide +kernel
theorem d_Mod_positiveOf_81 : decode m_Mod_positiveOf.2.1 81 = .ok (.if_icmp .ne 13, 3) := by decide +kernel
theorem d_Mod_positiveOf_84 : decode m_Mod_positiveOf.2.1 84 = .ok (.lload_n 2, 1) := by decide +kernel
theorem d_Mod_positiveOf_85 : decode m_Mod_positiveOf.2.1 85 = .ok (.lload 5, 2) := by decide +kernel
theorem d_Mod_positiveOf_87 : decode m_Mod_positiveOf.2.1 87 = .ok (.lcmp, 1) := by decide +kernel
theorem d_Mod_positiveOf_88 : decode m_Mod_positiveOf.2.1 88 = .ok (.ifCond .ge 37, 3) := by decide +kernel
theorem d_Mod_positiveOf_91 : decode m_Mod_positiveOf.2.1 91 = .ok (.goto 30, 3) := by decide +kernel
theorem d_Mod_positiveOf_94 : decode m_Mod_positiveOf.2.1 94 = .ok (.iload 4, 2) := by decide +kernel
theorem d_Mod_positiveOf_96 : decode m_Mod_positiveOf.2.1 96 = .ok (.bipush 62, 2) := by decide +kernel
theorem d_Mod_positiveOf_98 : decode m_Mod_positiveOf.2.1 98 = .ok (.invokestatic 208, 3) := by decide +kernel
theorem d_Mod_positiveOf_101 : decode m_Mod_positiveOf.2.1 101 = .ok (.if_icmp .ne 13, 3) := by decide +kernel
theorem d_Mod_positiveOf_104 : decode m_Mod_positiveOf.2.1 104 = .ok (.lload_n 2, 1) := by decide +kernel
theorem d_Mod_positiveOf_105 : decode m_Mod_positiveOf.2.1 105 = .ok (.lload 5, 2) := by decide +kernel
theorem d_Mod_positiveOf_107 : decode m_Mod_positiveOf.2.1 107 = .ok (.lcmp, 1) := by decide +kernel
theorem d_Mod_positiveOf_108 : decode m_Mod_positiveOf.2.1 108 = .ok (.ifCond .le 17, 3) := by decide +kernel
theorem d_Mod_positiveOf_111 : decode m_Mod_positiveOf.2.1 111 = .ok (.goto 10, 3) := by decide +kernel
theorem d_Mod_positiveOf_114 : decode m_Mod_positiveOf.2.1 114 = .ok (.lload_n 2, 1) := by decide +kernel
theorem d_Mod_positiveOf_115 : decode m_Mod_positiveOf.2.1 115 = .ok (.lload 5, 2) := by decide +kernel
theorem d_Mod_positiveOf_117 : decode m_Mod_positiveOf.2.1 117 = .ok (.lcmp, 1) := by decide +kernel
theorem d_Mod_positiveOf_118 : decode m_Mod_positiveOf.2.1 118 = .ok (.ifCond .ne 7, 3) := by decide +kernel
theorem d_Mod_positiveOf_121 : decode m_Mod_positiveOf.2.1 121 = .ok (.iconst 1, 1) := by decide +kernel
theorem d_Mod_positiveOf_122 : decode m_Mod_positiveOf.2.1 122 = .ok (.goto 4, 3) := by decide +kernel
theorem d_Mod_positiveOf_125 : decode m_Mod_positiveOf.2.1 125 = .ok (.iconst 0, 1) := by decide +kernel
theorem d_Mod_positiveOf_126 : decode m_Mod_positiveOf.2.1 126 = .ok (.ireturn, 1) := by decide +kernel
theorem d_Mod_isBarred_0 : decode m_Mod_isBarred.2.1 0 = .ok (.aload_n 0, 1) := by decide +kernel
theorem d_Mod_isBarred_1 : decode m_Mod_isBarred.2.1 1 = .ok (.iconst 4, 1) := by decide +kernel
theorem d_Mod_isBarred_2 : decode m_Mod_isBarred.2.1 2 = .ok (.iload_n 1, 1) := by decide +kernel
theorem d_Mod_isBarred_3 : decode m_Mod_isBarred.2.1 3 = .ok (.iload_n 2, 1) := by decide +kernel
theorem d_Mod_isBarred_4 : decode m_Mod_isBarred.2.1 4 = .ok (.iconst 0, 1) := by decide +kernel
theorem d_Mod_isBarred_5 : decode m_Mod_isBarred.2.1 5 = .ok (.invokevirtual 320, 3) := by decide +kernel
theorem d_Mod_isBarred_8 : decode m_Mod_isBarred.2.1 8 = .ok (.iconst 1, 1) := by decide +kernel
theorem d_Mod_isBarred_9 : decode m_Mod_isBarred.2.1 9 = .ok (.if_icmp .ne 7, 3) := by decide +kernel
theorem d_Mod_isBarred_12 : decode m_Mod_isBarred.2.1 12 = .ok (.iconst 1, 1) := by decide +kernel
theorem d_Mod_isBarred_13 : decode m_Mod_isBarred.2.1 13 = .ok (.goto 4, 3) := by decide +kernel
theorem d_Mod_isBarred_16 : decode m_Mod_isBarred.2.1 16 = .ok (.iconst 0, 1) := by decide +kernel
theorem d_Mod_isBarred_17 : decode m_Mod_isBarred.2.1 17 = .ok (.ireturn, 1) := by decide +kernel
theorem d_Mod_said_0 : decode m_Mod_said.2.1 0 = .ok (.aload_n 0, 1) := by decide +kernel
theorem d_Mod_said_1 : decode m_Mod_said.2.1 1 = .ok (.invokevirtual 294, 3) := by decide +kernel
theorem d_Mod_said_4 : decode m_Mod_said.2.1 4 = .ok (.pop, 1) := by decide +kernel
theorem d_Mod_said_5 : decode m_Mod_said.2.1 5 = .ok (.iconst 0, 1) := by decide +kernel
theorem d_Mod_said_6 : decode m_Mod_said.2.1 6 = .ok (.istore_n 1, 1) := by decide +kernel
theorem d_Mod_said_7 : decode m_Mod_said.2.1 7 = .ok (.iconst 0, 1) := by decide +kernel
theorem d_Mod_said_8 : decode m_Mod_said.2.1 8 = .ok (.istore_n 2, 1) := by decide +kernel
theorem d_Mod_said_9 : decode m_Mod_said.2.1 9 = .ok (.iload_n 2, 1) := by decide +kernel
theorem d_Mod_said_10 : decode m_Mod_said.2.1 10 = .ok (.aload_n 0, 1) := by decide +kernel
theorem d_Mod_said_11 : decode m_Mod_said.2.1 11 = .ok (.invokevirtual 125, 3) := by decide +kernel
theorem d_Mod_said_14 : decode m_Mod_said.2.1 14 = .ok (.if_icmp .ge 36, 3) := by decide +kernel
theorem d_Mod_said_17 : decode m_Mod_said.2.1 17 = .ok (.iload_n 1, 1) := by decide +kernel
theorem d_Mod_said_18 : decode m_Mod_said.2.1 18 = .ok (.aload_n 0, 1) := by decide +kernel
theorem d_Mod_said_19 : decode m_Mod_said.2.1 19 = .ok (.iload_n 2, 1) := by decide +kernel
theorem d_Mod_said_20 : decode m_Mod_said.2.1 20 = .ok (.bipush 63, 2) := by decide +kernel
theorem d_Mod_said_22 : decode m_Mod_said.2.1 22 = .ok (.invokevirtual 345, 3) := by decide +kernel
theorem d_Mod_said_25 : decode m_Mod_said.2.1 25 = .ok (.ifCond .eq 16, 3) := by decide +kernel
theorem d_Mod_said_28 : decode m_Mod_said.2.1 28 = .ok (.iconst 1, 1) := by decide +kernel
theorem d_Mod_said_29 : decode m_Mod_said.2.1 29 = .ok (.aload_n 0, 1) := by decide +kernel
theorem d_Mod_said_30 : decode m_Mod_said.2.1 30 = .ok (.iload_n 2, 1) := by decide +kernel
theorem d_Mod_said_31 : decode m_Mod_said.2.1 31 = .ok (.invokevirtual 324, 3) := by decide +kernel
theorem d_Mod_said_34 : decode m_Mod_said.2.1 34 = .ok (.bipush 6, 2) := by decide +kernel
theorem d_Mod_said_36 : decode m_Mod_said.2.1 36 = .ok (.isub, 1) := by decide +kernel
theorem d_Mod_said_37 : decode m_Mod_said.2.1 37 = .ok (.ishl, 1) := by decide +kernel
theorem d_Mod_said_38 : decode m_Mod_said.2.1 38 = .ok (.goto 4, 3) := by decide +kernel
theorem d_Mod_said_41 : decode m_Mod_said.2.1 41 = .ok (.iconst 0, 1) := by decide +kernel
theorem d_Mod_said_42 : decode m_Mod_said.2.1 42 = .ok (.ior, 1) := by decide +kernel
theorem d_Mod_said_43 : decode m_Mod_said.2.1 43 = .ok (.istore_n 1, 1) := by decide +kernel
theorem d_Mod_said_44 : decode m_Mod_said.2.1 44 = .ok (.iinc 2 1, 3) := by decide +kernel
theorem d_Mod_said_47 : decode m_Mod_said.2.1 47 = .ok (.goto (-38), 3) := by decide +kernel
theorem d_Mod_said_50 : decode m_Mod_said.2.1 50 = .ok (.iload_n 1, 1) := by decide +kernel
theorem d_Mod_said_51 : decode m_Mod_said.2.1 51 = .ok (.ireturn, 1) := by decide +kernel
theorem d_Mod_isSaid_0 : decode m_Mod_isSaid.2.1 0 = .ok (.aload_n 0, 1) := by decide +kernel
theorem d_Mod_isSaid_1 : decode m_Mod_isSaid.2.1 1 = .ok (.iload_n 1, 1) := by decide +kernel
theorem d_Mod_isSaid_2 : decode m_Mod_isSaid.2.1 2 = .ok (.invokevirtual 324, 3) := by decide +kernel
theorem d_Mod_isSaid_5 : decode m_Mod_isSaid.2.1 5 = .ok (.invokestatic 22, 3) := by decide +kernel
theorem d_Mod_isSaid_8 : decode m_Mod_isSaid.2.1 8 = .ok (.ifCond .eq 31, 3) := by decide +kernel
theorem d_Mod_isSaid_11 : decode m_Mod_isSaid.2.1 11 = .ok (.iload_n 2, 1) := by decide +kernel
theorem d_Mod_isSaid_12 : decode m_Mod_isSaid.2.1 12 = .ok (.aload_n 0, 1) := by decide +kernel
theorem d_Mod_isSaid_13 : decode m_Mod_isSaid.2.1 13 = .ok (.iload_n 1, 1) := by decide +kernel
theorem d_Mod_isSaid_14 : decode m_Mod_isSaid.2.1 14 = .ok (.invokevirtual 324, 3) := by decide +kernel
theorem d_Mod_isSaid_17 : decode m_Mod_isSaid.2.1 17 = .ok (.bipush 6, 2) := by decide +kernel
theorem d_Mod_isSaid_19 : decode m_Mod_isSaid.2.1 19 = .ok (.isub, 1) := by decide +kernel
theorem d_Mod_isSaid_20 : decode m_Mod_isSaid.2.1 20 = .ok (.ishr, 1) := by decide +kernel
theorem d_Mod_isSaid_21 : decode m_Mod_isSaid.2.1 21 = .ok (.iconst 1, 1) := by decide +kernel
theorem d_Mod_isSaid_22 : decode m_Mod_isSaid.2.1 22 = .ok (.iand, 1) := by decide +kernel
theorem d_Mod_isSaid_23 : decode m_Mod_isSaid.2.1 23 = .ok (.iconst 1, 1) := by decide +kernel
theorem d_Mod_isSaid_24 : decode m_Mod_isSaid.2.1 24 = .ok (.if_icmp .ne 15, 3) := by decide +kernel
theorem d_Mod_isSaid_27 : decode m_Mod_isSaid.2.1 27 = .ok (.aload_n 0, 1) := by decide +kernel
theorem d_Mod_isSaid_28 : decode m_Mod_isSaid.2.1 28 = .ok (.iload_n 1, 1) := by decide +kernel
theorem d_Mod_isSaid_29 : decode m_Mod_isSaid.2.1 29 = .ok (.invokevirtual 342, 3) := by decide +kernel
theorem d_Mod_isSaid_32 : decode m_Mod_isSaid.2.1 32 = .ok (.ifCond .ne 7, 3) := by decide +kernel
theorem d_Mod_isSaid_35 : decode m_Mod_isSaid.2.1 35 = .ok (.iconst 1, 1) := by decide +kernel
theorem d_Mod_isSaid_36 : decode m_Mod_isSaid.2.1 36 = .ok (.goto 4, 3) := by decide +kernel
theorem d_Mod_isSaid_39 : decode m_Mod_isSaid.2.1 39 = .ok (.iconst 0, 1) := by decide +kernel
theorem d_Mod_isSaid_40 : decode m_Mod_isSaid.2.1 40 = .ok (.ireturn, 1) := by decide +kernel
theorem d_Mod_whole_0 : decode m_Mod_whole.2.1 0 = .ok (.aload_n 0, 1) := by decide +kernel
theorem d_Mod_whole_1 : decode m_Mod_whole.2.1 1 = .ok (.iload_n 1, 1) := by decide +kernel
theorem d_Mod_whole_2 : decode m_Mod_whole.2.1 2 = .ok (.invokevirtual 339, 3) := by decide +kernel
theorem d_Mod_whole_5 : decode m_Mod_whole.2.1 5 = .ok (.ifCond .eq 16, 3) := by decide +kernel
theorem d_Mod_whole_8 : decode m_Mod_whole.2.1 8 = .ok (.aload_n 0, 1) := by decide +kernel
theorem d_Mod_whole_9 : decode m_Mod_whole.2.1 9 = .ok (.iload_n 2, 1) := by decide +kernel
theorem d_Mod_whole_10 : decode m_Mod_whole.2.1 10 = .ok (.invokevirtual 339, 3) := by decide +kernel
theorem d_Mod_whole_13 : decode m_Mod_whole.2.1 13 = .ok (.ifCond .eq 8, 3) := by decide +kernel
theorem d_Mod_whole_16 : decode m_Mod_whole.2.1 16 = .ok (.iload_n 2, 1) := by decide +kernel
theorem d_Mod_whole_17 : decode m_Mod_whole.2.1 17 = .ok (.iload_n 1, 1) := by decide +kernel
theorem d_Mod_whole_18 : decode m_Mod_whole.2.1 18 = .ok (.if_icmp .ge 5, 3) := by decide +kernel
theorem d_Mod_whole_21 : decode m_Mod_whole.2.1 21 = .ok (.iconst (-1), 1) := by decide +kernel
theorem d_Mod_whole_22 : decode m_Mod_whole.2.1 22 = .ok (.ireturn, 1) := by decide +kernel
theorem d_Mod_whole_23 : decode m_Mod_whole.2.1 23 = .ok (.aload_n 0, 1) := by decide +kernel
theorem d_Mod_whole_24 : decode m_Mod_whole.2.1 24 = .ok (.iload_n 1, 1) := by decide +kernel
theorem d_Mod_whole_25 : decode m_Mod_whole.2.1 25 = .ok (.iload_n 2, 1) := by decide +kernel
theorem d_Mod_whole_26 : decode m_Mod_whole.2.1 26 = .ok (.iconst 1, 1) := by decide +kernel
theorem d_Mod_whole_27 : decode m_Mod_whole.2.1 27 = .ok (.iadd, 1) := by decide +kernel
theorem d_Mod_whole_28 : decode m_Mod_whole.2.1 28 = .ok (.invokevirtual 348, 3) := by decide +kernel
theorem d_Mod_whole_31 : decode m_Mod_whole.2.1 31 = .ok (.ifCond .eq 7, 3) := by decide +kernel
theorem d_Mod_whole_34 : decode m_Mod_whole.2.1 34 = .ok (.iconst 1, 1) := by decide +kernel
theorem d_Mod_whole_35 : decode m_Mod_whole.2.1 35 = .ok (.goto 4, 3) := by decide +kernel
theorem d_Mod_whole_38 : decode m_Mod_whole.2.1 38 = .ok (.iconst 0, 1) := by decide +kernel
theorem d_Mod_whole_39 : decode m_Mod_whole.2.1 39 = .ok (.ireturn, 1) := by decide +kernel
theorem d_Mod_isWhole_0 : decode m_Mod_isWhole.2.1 0 = .ok (.aload_n 0, 1) := by decide +kernel
theorem d_Mod_isWhole_1 : decode m_Mod_isWhole.2.1 1 = .ok (.iload_n 1, 1) := by decide +kernel
theorem d_Mod_isWhole_2 : decode m_Mod_isWhole.2.1 2 = .ok (.iload_n 2, 1) := by decide +kernel
theorem d_Mod_isWhole_3 : decode m_Mod_isWhole.2.1 3 = .ok (.invokevirtual 336, 3) := by decide +kernel
theorem d_Mod_isWhole_6 : decode m_Mod_isWhole.2.1 6 = .ok (.ifCond .ne 7, 3) := by decide +kernel
theorem d_Mod_isWhole_9 : decode m_Mod_isWhole.2.1 9 = .ok (.iconst 1, 1) := by decide +kernel
theorem d_Mod_isWhole_10 : decode m_Mod_isWhole.2.1 10 = .ok (.goto 4, 3) := by decide +kernel
theorem d_Mod_isWhole_13 : decode m_Mod_isWhole.2.1 13 = .ok (.iconst 0, 1) := by decide +kernel
theorem d_Mod_isWhole_14 : decode m_Mod_isWhole.2.1 14 = .ok (.ireturn, 1) := by decide +kernel
theorem d_Mod_undo_0 : decode m_Mod_undo.2.1 0 = .ok (.aload_n 0, 1) := by decide +kernel
theorem d_Mod_undo_1 : decode m_Mod_undo.2.1 1 = .ok (.getfield 11, 3) := by decide +kernel
theorem d_Mod_undo_4 : decode m_Mod_undo.2.1 4 = .ok (.ifCond .ne 10, 3) := by decide +kernel
theorem d_Mod_undo_7 : decode m_Mod_undo.2.1 7 = .ok (.aload_n 0, 1) := by decide +kernel
theorem d_Mod_undo_8 : decode m_Mod_undo.2.1 8 = .ok (.bipush (-3), 2) := by decide +kernel
theorem d_Mod_undo_10 : decode m_Mod_undo.2.1 10 = .ok (.invokevirtual 119, 3) := by decide +kernel
theorem d_Mod_undo_13 : decode m_Mod_undo.2.1 13 = .ok (.ireturn, 1) := by decide +kernel
theorem d_Mod_undo_14 : decode m_Mod_undo.2.1 14 = .ok (.aload_n 0, 1) := by decide +kernel
theorem d_Mod_undo_15 : decode m_Mod_undo.2.1 15 = .ok (.dup, 1) := by decide +kernel
theorem d_Mod_undo_16 : decode m_Mod_undo.2.1 16 = .ok (.getfield 11, 3) := by decide +kernel
theorem d_Mod_undo_19 : decode m_Mod_undo.2.1 19 = .ok (.iconst 1, 1) := by decide +kernel
theorem d_Mod_undo_20 : decode m_Mod_undo.2.1 20 = .ok (.isub, 1) := by decide +kernel
theorem d_Mod_undo_21 : decode m_Mod_undo.2.1 21 = .ok (.putfield 11, 3) := by decide +kernel
theorem d_Mod_undo_24 : decode m_Mod_undo.2.1 24 = .ok (.bipush 23, 2) := by decide +kernel
theorem d_Mod_undo_26 : decode m_Mod_undo.2.1 26 = .ok (.aload_n 0, 1) := by decide +kernel
theorem d_Mod_undo_27 : decode m_Mod_undo.2.1 27 = .ok (.getfield 11, 3) := by decide +kernel
theorem d_Mod_undo_30 : decode m_Mod_undo.2.1 30 = .ok (.imul, 1) := by decide +kernel
theorem d_Mod_undo_31 : decode m_Mod_undo.2.1 31 = .ok (.istore_n 1, 1) := by decide +kernel
theorem d_Mod_undo_32 : decode m_Mod_undo.2.1 32 = .ok (.iconst 0, 1) := by decide +kernel
theorem d_Mod_undo_33 : decode m_Mod_undo.2.1 33 = .ok (.istore_n 2, 1) := by decide +kernel
theorem d_Mod_undo_34 : decode m_Mod_undo.2.1 34 = .ok (.iload_n 2, 1) := by decide +kernel
theorem d_Mod_undo_35 : decode m_Mod_undo.2.1 35 = .ok (.bipush 22, 2) := by decide +kernel
theorem d_Mod_undo_37 : decode m_Mod_undo.2.1 37 = .ok (.if_icmp .ge 23, 3) := by decide +kernel
theorem d_Mod_undo_40 : decode m_Mod_undo.2.1 40 = .ok (.aload_n 0, 1) := by decide +kernel
theorem d_Mod_undo_41 : decode m_Mod_undo.2.1 41 = .ok (.getfield 32, 3) := by decide +kernel
theorem d_Mod_undo_44 : decode m_Mod_undo.2.1 44 = .ok (.iload_n 2, 1) := by decide +kernel
theorem d_Mod_undo_45 : decode m_Mod_undo.2.1 45 = .ok (.aload_n 0, 1) := by decide +kernel
theorem d_Mod_undo_46 : decode m_Mod_undo.2.1 46 = .ok (.getfield 76, 3) := by decide +kernel
theorem d_Mod_undo_49 : decode m_Mod_undo.2.1 49 = .ok (.iload_n 1, 1) := by decide +kernel
theorem d_Mod_undo_50 : decode m_Mod_undo.2.1 50 = .ok (.iload_n 2, 1) := by decide +kernel
theorem d_Mod_undo_51 : decode m_Mod_undo.2.1 51 = .ok (.iadd, 1) := by decide +kernel
theorem d_Mod_undo_52 : decode m_Mod_undo.2.1 52 = .ok (.iaload, 1) := by decide +kernel
theorem d_Mod_undo_53 : decode m_Mod_undo.2.1 53 = .ok (.iastore, 1) := by decide +kernel
theorem d_Mod_undo_54 : decode m_Mod_undo.2.1 54 = .ok (.iinc 2 1, 3) := by decide +kernel
theorem d_Mod_undo_57 : decode m_Mod_undo.2.1 57 = .ok (.goto (-23), 3) := by decide +kernel
theorem d_Mod_undo_60 : decode m_Mod_undo.2.1 60 = .ok (.aload_n 0, 1) := by decide +kernel
theorem d_Mod_undo_61 : decode m_Mod_undo.2.1 61 = .ok (.aload_n 0, 1) := by decide +kernel
theorem d_Mod_undo_62 : decode m_Mod_undo.2.1 62 = .ok (.getfield 76, 3) := by decide +kernel
theorem d_Mod_undo_65 : decode m_Mod_undo.2.1 65 = .ok (.iload_n 1, 1) := by decide +kernel
theorem d_Mod_undo_66 : decode m_Mod_undo.2.1 66 = .ok (.bipush 22, 2) := by decide +kernel
theorem d_Mod_undo_68 : decode m_Mod_undo.2.1 68 = .ok (.iadd, 1) := by decide +kernel
theorem d_Mod_undo_69 : decode m_Mod_undo.2.1 69 = .ok (.iaload, 1) := by decide +kernel
theorem d_Mod_undo_70 : decode m_Mod_undo.2.1 70 = .ok (.invokevirtual 14, 3) := by decide +kernel
theorem d_Mod_undo_73 : decode m_Mod_undo.2.1 73 = .ok (.ireturn, 1) := by decide +kernel
theorem d_Mod_put_0 : decode m_Mod_put.2.1 0 = .ok (.aload_n 0, 1) := by decide +kernel
theorem d_Mod_put_1 : decode m_Mod_put.2.1 1 = .ok (.aload_n 0, 1) := by decide +kernel
theorem d_Mod_put_2 : decode m_Mod_put.2.1 2 = .ok (.iload_n 1, 1) := by decide +kernel
theorem d_Mod_put_3 : decode m_Mod_put.2.1 3 = .ok (.iload_n 2, 1) := by decide +kernel
theorem d_Mod_put_4 : decode m_Mod_put.2.1 4 = .ok (.invokevirtual 366, 3) := by decide +kernel
theorem d_Mod_put_7 : decode m_Mod_put.2.1 7 = .ok (.invokevirtual 369, 3) := by decide +kernel
theorem d_Mod_put_10 : decode m_Mod_put.2.1 10 = .ok (.ireturn, 1) := by decide +kernel
theorem d_Mod_putsKept_0 : decode m_Mod_putsKept.2.1 0 = .ok (.iload_n 1, 1) := by decide +kernel
theorem d_Mod_putsKept_1 : decode m_Mod_putsKept.2.1 1 = .ok (.invokestatic 142, 3) := by decide +kernel
theorem d_Mod_putsKept_4 : decode m_Mod_putsKept.2.1 4 = .ok (.ifCond .ne 5, 3) := by decide +kernel
theorem d_Mod_putsKept_7 : decode m_Mod_putsKept.2.1 7 = .ok (.iconst (-1), 1) := by decide +kernel
theorem d_Mod_putsKept_8 : decode m_Mod_putsKept.2.1 8 = .ok (.ireturn, 1) := by decide +kernel
theorem d_Mod_putsKept_9 : decode m_Mod_putsKept.2.1 9 = .ok (.iload_n 2, 1) := by decide +kernel
theorem d_Mod_putsKept_10 : decode m_Mod_putsKept.2.1 10 = .ok (.iconst 0, 1) := by decide +kernel
theorem d_Mod_putsKept_11 : decode m_Mod_putsKept.2.1 11 = .ok (.aload_n 0, 1) := by decide +kernel
theorem d_Mod_putsKept_12 : decode m_Mod_putsKept.2.1 12 = .ok (.invokevirtual 125, 3) := by decide +kernel
theorem d_Mod_putsKept_15 : decode m_Mod_putsKept.2.1 15 = .ok (.invokestatic 18, 3) := by decide +kernel
theorem d_Mod_putsKept_18 : decode m_Mod_putsKept.2.1 18 = .ok (.ifCond .ne 6, 3) := by decide +kernel
theorem d_Mod_putsKept_21 : decode m_Mod_putsKept.2.1 21 = .ok (.bipush (-2), 2) := by decide +kernel
theorem d_Mod_putsKept_23 : decode m_Mod_putsKept.2.1 23 = .ok (.ireturn, 1) := by decide +kernel
theorem d_Mod_putsKept_24 : decode m_Mod_putsKept.2.1 24 = .ok (.aload_n 0, 1) := by decide +kernel
theorem d_Mod_putsKept_25 : decode m_Mod_putsKept.2.1 25 = .ok (.iload_n 1, 1) := by decide +kernel
theorem d_Mod_putsKept_26 : decode m_Mod_putsKept.2.1 26 = .ok (.iload_n 2, 1) := by decide +kernel
theorem d_Mod_putsKept_27 : decode m_Mod_putsKept.2.1 27 = .ok (.invokevirtual 330, 3) := by decide +kernel
theorem d_Mod_putsKept_30 : decode m_Mod_putsKept.2.1 30 = .ok (.ifCond .eq 6, 3) := by decide +kernel
theorem d_Mod_putsKept_33 : decode m_Mod_putsKept.2.1 33 = .ok (.bipush (-3), 2) := by decide +kernel
theorem d_Mod_putsKept_35 : decode m_Mod_putsKept.2.1 35 = .ok (.ireturn, 1) := by decide +kernel
theorem d_Mod_putsKept_36 : decode m_Mod_putsKept.2.1 36 = .ok (.aload_n 0, 1) := by decide +kernel
theorem d_Mod_putsKept_37 : decode m_Mod_putsKept.2.1 37 = .ok (.invokevirtual 125, 3) := by decide +kernel
theorem d_Mod_putsKept_40 : decode m_Mod_putsKept.2.1 40 = .ok (.bipush 20, 2) := by decide +kernel
theorem d_Mod_putsKept_42 : decode m_Mod_putsKept.2.1 42 = .ok (.if_icmp .ne 6, 3) := by decide +kernel
theorem d_Mod_putsKept_45 : decode m_Mod_putsKept.2.1 45 = .ok (.bipush (-5), 2) := by decide +kernel
theorem d_Mod_putsKept_47 : decode m_Mod_putsKept.2.1 47 = .ok (.ireturn, 1) := by decide +kernel
theorem d_Mod_putsKept_48 : decode m_Mod_putsKept.2.1 48 = .ok (.aload_n 0, 1) := by decide +kernel
theorem d_Mod_putsKept_49 : decode m_Mod_putsKept.2.1 49 = .ok (.iconst 0, 1) := by decide +kernel
theorem d_Mod_putsKept_50 : decode m_Mod_putsKept.2.1 50 = .ok (.invokevirtual 354, 3) := by decide +kernel
theorem d_Mod_putsKept_53 : decode m_Mod_putsKept.2.1 53 = .ok (.aload_n 0, 1) := by decide +kernel
theorem d_Mod_putsKept_54 : decode m_Mod_putsKept.2.1 54 = .ok (.iload_n 1, 1) := by decide +kernel
theorem d_Mod_putsKept_55 : decode m_Mod_putsKept.2.1 55 = .ok (.iload_n 2, 1) := by decide +kernel
theorem d_Mod_putsKept_56 : decode m_Mod_putsKept.2.1 56 = .ok (.invokevirtual 327, 3) := by decide +kernel
theorem d_Mod_putsKept_59 : decode m_Mod_putsKept.2.1 59 = .ok (.istore_n 3, 1) := by decide +kernel
theorem d_Mod_putsKept_60 : decode m_Mod_putsKept.2.1 60 = .ok (.aload_n 0, 1) := by decide +kernel
theorem d_Mod_putsKept_61 : decode m_Mod_putsKept.2.1 61 = .ok (.iload_n 1, 1) := by decide +kernel
theorem d_Mod_putsKept_62 : decode m_Mod_putsKept.2.1 62 = .ok (.iload_n 2, 1) := by decide +kernel
theorem d_Mod_putsKept_63 : decode m_Mod_putsKept.2.1 63 = .ok (.invokevirtual 357, 3) := by decide +kernel
theorem d_Mod_putsKept_66 : decode m_Mod_putsKept.2.1 66 = .ok (.iload_n 3, 1) := by decide +kernel
theorem d_Mod_putsKept_67 : decode m_Mod_putsKept.2.1 67 = .ok (.ireturn, 1) := by decide +kernel
theorem d_Mod_keeps_0 : decode m_Mod_keeps.2.1 0 = .ok (.bipush 23, 2) := by decide +kernel
theorem d_Mod_keeps_2 : decode m_Mod_keeps.2.1 2 = .ok (.istore_n 2, 1) := by decide +kernel
theorem d_Mod_keeps_3 : decode m_Mod_keeps.2.1 3 = .ok (.aload_n 0, 1) := by decide +kernel
theorem d_Mod_keeps_4 : decode m_Mod_keeps.2.1 4 = .ok (.getfield 11, 3) := by decide +kernel
theorem d_Mod_keeps_7 : decode m_Mod_keeps.2.1 7 = .ok (.bipush 16, 2) := by decide +kernel
theorem d_Mod_keeps_9 : decode m_Mod_keeps.2.1 9 = .ok (.if_icmp .ne 7, 3) := by decide +kernel
theorem d_Mod_keeps_12 : decode m_Mod_keeps.2.1 12 = .ok (.aload_n 0, 1) := by decide +kernel
theorem d_Mod_keeps_13 : decode m_Mod_keeps.2.1 13 = .ok (.invokevirtual 351, 3) := by decide +kernel
theorem d_Mod_keeps_16 : decode m_Mod_keeps.2.1 16 = .ok (.iconst 0, 1) := by decide +kernel
theorem d_Mod_keeps_17 : decode m_Mod_keeps.2.1 17 = .ok (.istore_n 3, 1) := by decide +kernel
theorem d_Mod_keeps_18 : decode m_Mod_keeps.2.1 18 = .ok (.iload_n 3, 1) := by decide +kernel
theorem d_Mod_keeps_19 : decode m_Mod_keeps.2.1 19 = .ok (.bipush 22, 2) := by decide +kernel
theorem d_Mod_keeps_21 : decode m_Mod_keeps.2.1 21 = .ok (.if_icmp .ge 28, 3) := by decide +kernel
theorem d_Mod_keeps_24 : decode m_Mod_keeps.2.1 24 = .ok (.aload_n 0, 1) := by decide +kernel
theorem d_Mod_keeps_25 : decode m_Mod_keeps.2.1 25 = .ok (.getfield 76, 3) := by decide +kernel
theorem d_Mod_keeps_28 : decode m_Mod_keeps.2.1 28 = .ok (.iload_n 2, 1) := by decide +kernel
theorem d_Mod_keeps_29 : decode m_Mod_keeps.2.1 29 = .ok (.aload_n 0, 1) := by decide +kernel
theorem d_Mod_keeps_30 : decode m_Mod_keeps.2.1 30 = .ok (.getfield 11, 3) := by decide +kernel
theorem d_Mod_keeps_33 : decode m_Mod_keeps.2.1 33 = .ok (.imul, 1) := by decide +kernel
theorem d_Mod_keeps_34 : decode m_Mod_keeps.2.1 34 = .ok (.iload_n 3, 1) := by decide +kernel
theorem d_Mod_keeps_35 : decode m_Mod_keeps.2.1 35 = .ok (.iadd, 1) := by decide +kernel
theorem d_Mod_keeps_36 : decode m_Mod_keeps.2.1 36 = .ok (.aload_n 0, 1) := by decide +kernel
theorem d_Mod_keeps_37 : decode m_Mod_keeps.2.1 37 = .ok (.getfield 32, 3) := by decide +kernel
theorem d_Mod_keeps_40 : decode m_Mod_keeps.2.1 40 = .ok (.iload_n 3, 1) := by decide +kernel
theorem d_Mod_keeps_41 : decode m_Mod_keeps.2.1 41 = .ok (.iaload, 1) := by decide +kernel
theorem d_Mod_keeps_42 : decode m_Mod_keeps.2.1 42 = .ok (.iastore, 1) := by decide +kernel
theorem d_Mod_keeps_43 : decode m_Mod_keeps.2.1 43 = .ok (.iinc 3 1, 3) := by decide +kernel
theorem d_Mod_keeps_46 : decode m_Mod_keeps.2.1 46 = .ok (.goto (-28), 3) := by decide +kernel
theorem d_Mod_keeps_49 : decode m_Mod_keeps.2.1 49 = .ok (.aload_n 0, 1) := by decide +kernel
theorem d_Mod_keeps_50 : decode m_Mod_keeps.2.1 50 = .ok (.getfield 76, 3) := by decide +kernel
theorem d_Mod_keeps_53 : decode m_Mod_keeps.2.1 53 = .ok (.iload_n 2, 1) := by decide +kernel
theorem d_Mod_keeps_54 : decode m_Mod_keeps.2.1 54 = .ok (.aload_n 0, 1) := by decide +kernel
theorem d_Mod_keeps_55 : decode m_Mod_keeps.2.1 55 = .ok (.getfield 11, 3) := by decide +kernel
theorem d_Mod_keeps_58 : decode m_Mod_keeps.2.1 58 = .ok (.imul, 1) := by decide +kernel
theorem d_Mod_keeps_59 : decode m_Mod_keeps.2.1 59 = .ok (.bipush 22, 2) := by decide +kernel
theorem d_Mod_keeps_61 : decode m_Mod_keeps.2.1 61 = .ok (.iadd, 1) := by decide +kernel
theorem d_Mod_keeps_62 : decode m_Mod_keeps.2.1 62 = .ok (.iload_n 1, 1) := by decide +kernel
theorem d_Mod_keeps_63 : decode m_Mod_keeps.2.1 63 = .ok (.iastore, 1) := by decide +kernel
theorem d_Mod_keeps_64 : decode m_Mod_keeps.2.1 64 = .ok (.aload_n 0, 1) := by decide +kernel
theorem d_Mod_keeps_65 : decode m_Mod_keeps.2.1 65 = .ok (.dup, 1) := by decide +kernel
theorem d_Mod_keeps_66 : decode m_Mod_keeps.2.1 66 = .ok (.getfield 11, 3) := by decide +kernel
theorem d_Mod_keeps_69 : decode m_Mod_keeps.2.1 69 = .ok (.iconst 1, 1) := by decide +kernel
theorem d_Mod_keeps_70 : decode m_Mod_keeps.2.1 70 = .ok (.iadd, 1) := by decide +kernel
theorem d_Mod_keeps_71 : decode m_Mod_keeps.2.1 71 = .ok (.putfield 11, 3) := by decide +kernel
theorem d_Mod_keeps_74 : decode m_Mod_keeps.2.1 74 = .ok (.return_, 1) := by decide +kernel
theorem d_Mod_forgetsEldest_0 : decode m_Mod_forgetsEldest.2.1 0 = .ok (.bipush 23, 2) := by decide +kernel
theorem d_Mod_forgetsEldest_2 : decode m_Mod_forgetsEldest.2.1 2 = .ok (.istore_n 1, 1) := by decide +kernel
theorem d_Mod_forgetsEldest_3 : decode m_Mod_forgetsEldest.2.1 3 = .ok (.iconst 0, 1) := by decide +kernel
theorem d_Mod_forgetsEldest_4 : decode m_Mod_forgetsEldest.2.1 4 = .ok (.istore_n 2, 1) := by decide +kernel
