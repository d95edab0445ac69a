theorem d_Mod_forgetsEldest_5 : decode m_Mod_forgetsEldest.2.1 5 = .ok (.iload_n 2, 1) := by decide +kernel
theorem d_Mod_forgetsEldest_6 : decode m_Mod_forgetsEldest.2.1 6 = .ok (.bipush 15, 2) := by decide +kernel
theorem d_Mod_forgetsEldest_8 : decode m_Mod_forgetsEldest.2.1 8 = .ok (.iload_n 1, 1) := by decide +kernel
theorem d_Mod_forgetsEldest_9 : decode m_Mod_forgetsEldest.2.1 9 = .ok (.imul, 1) := by decide +kernel
theorem d_Mod_forgetsEldest_10 : decode m_Mod_forgetsEldest.2.1 10 = .ok (.if_icmp .ge 23, 3) := by decide +kernel
theorem d_Mod_forgetsEldest_13 : decode m_Mod_forgetsEldest.2.1 13 = .ok (.aload_n 0, 1) := by decide +kernel
theorem d_Mod_forgetsEldest_14 : decode m_Mod_forgetsEldest.2.1 14 = .ok (.getfield 76, 3) := by decide +kernel
theorem d_Mod_forgetsEldest_17 : decode m_Mod_forgetsEldest.2.1 17 = .ok (.iload_n 2, 1) := by decide +kernel
theorem d_Mod_forgetsEldest_18 : decode m_Mod_forgetsEldest.2.1 18 = .ok (.aload_n 0, 1) := by decide +kernel
theorem d_Mod_forgetsEldest_19 : decode m_Mod_forgetsEldest.2.1 19 = .ok (.getfield 76, 3) := by decide +kernel
theorem d_Mod_forgetsEldest_22 : decode m_Mod_forgetsEldest.2.1 22 = .ok (.iload_n 2, 1) := by decide +kernel
theorem d_Mod_forgetsEldest_23 : decode m_Mod_forgetsEldest.2.1 23 = .ok (.iload_n 1, 1) := by decide +kernel
theorem d_Mod_forgetsEldest_24 : decode m_Mod_forgetsEldest.2.1 24 = .ok (.iadd, 1) := by decide +kernel
theorem d_Mod_forgetsEldest_25 : decode m_Mod_forgetsEldest.2.1 25 = .ok (.iaload, 1) := by decide +kernel
theorem d_Mod_forgetsEldest_26 : decode m_Mod_forgetsEldest.2.1 26 = .ok (.iastore, 1) := by decide +kernel
theorem d_Mod_forgetsEldest_27 : decode m_Mod_forgetsEldest.2.1 27 = .ok (.iinc 2 1, 3) := by decide +kernel
theorem d_Mod_forgetsEldest_30 : decode m_Mod_forgetsEldest.2.1 30 = .ok (.goto (-25), 3) := by decide +kernel
theorem d_Mod_forgetsEldest_33 : decode m_Mod_forgetsEldest.2.1 33 = .ok (.aload_n 0, 1) := by decide +kernel
theorem d_Mod_forgetsEldest_34 : decode m_Mod_forgetsEldest.2.1 34 = .ok (.dup, 1) := by decide +kernel
theorem d_Mod_forgetsEldest_35 : decode m_Mod_forgetsEldest.2.1 35 = .ok (.getfield 11, 3) := by decide +kernel
theorem d_Mod_forgetsEldest_38 : decode m_Mod_forgetsEldest.2.1 38 = .ok (.iconst 1, 1) := by decide +kernel
theorem d_Mod_forgetsEldest_39 : decode m_Mod_forgetsEldest.2.1 39 = .ok (.isub, 1) := by decide +kernel
theorem d_Mod_forgetsEldest_40 : decode m_Mod_forgetsEldest.2.1 40 = .ok (.putfield 11, 3) := by decide +kernel
theorem d_Mod_forgetsEldest_43 : decode m_Mod_forgetsEldest.2.1 43 = .ok (.return_, 1) := by decide +kernel
theorem d_Mod_puts_0 : decode m_Mod_puts.2.1 0 = .ok (.aload_n 0, 1) := by decide +kernel
theorem d_Mod_puts_1 : decode m_Mod_puts.2.1 1 = .ok (.invokevirtual 125, 3) := by decide +kernel
theorem d_Mod_puts_4 : decode m_Mod_puts.2.1 4 = .ok (.istore_n 3, 1) := by decide +kernel
theorem d_Mod_puts_5 : decode m_Mod_puts.2.1 5 = .ok (.iload_n 3, 1) := by decide +kernel
theorem d_Mod_puts_6 : decode m_Mod_puts.2.1 6 = .ok (.iload_n 2, 1) := by decide +kernel
theorem d_Mod_puts_7 : decode m_Mod_puts.2.1 7 = .ok (.if_icmp .le 27, 3) := by decide +kernel
theorem d_Mod_puts_10 : decode m_Mod_puts.2.1 10 = .ok (.aload_n 0, 1) := by decide +kernel
theorem d_Mod_puts_11 : decode m_Mod_puts.2.1 11 = .ok (.getfield 32, 3) := by decide +kernel
theorem d_Mod_puts_14 : decode m_Mod_puts.2.1 14 = .ok (.iconst 1, 1) := by decide +kernel
theorem d_Mod_puts_15 : decode m_Mod_puts.2.1 15 = .ok (.iload_n 3, 1) := by decide +kernel
theorem d_Mod_puts_16 : decode m_Mod_puts.2.1 16 = .ok (.iadd, 1) := by decide +kernel
theorem d_Mod_puts_17 : decode m_Mod_puts.2.1 17 = .ok (.aload_n 0, 1) := by decide +kernel
theorem d_Mod_puts_18 : decode m_Mod_puts.2.1 18 = .ok (.getfield 32, 3) := by decide +kernel
theorem d_Mod_puts_21 : decode m_Mod_puts.2.1 21 = .ok (.iconst 1, 1) := by decide +kernel
theorem d_Mod_puts_22 : decode m_Mod_puts.2.1 22 = .ok (.iload_n 3, 1) := by decide +kernel
theorem d_Mod_puts_23 : decode m_Mod_puts.2.1 23 = .ok (.iadd, 1) := by decide +kernel
theorem d_Mod_puts_24 : decode m_Mod_puts.2.1 24 = .ok (.iconst 1, 1) := by decide +kernel
theorem d_Mod_puts_25 : decode m_Mod_puts.2.1 25 = .ok (.isub, 1) := by decide +kernel
theorem d_Mod_puts_26 : decode m_Mod_puts.2.1 26 = .ok (.iaload, 1) := by decide +kernel
theorem d_Mod_puts_27 : decode m_Mod_puts.2.1 27 = .ok (.iastore, 1) := by decide +kernel
theorem d_Mod_puts_28 : decode m_Mod_puts.2.1 28 = .ok (.iinc 3 (-1), 3) := by decide +kernel
theorem d_Mod_puts_31 : decode m_Mod_puts.2.1 31 = .ok (.goto (-26), 3) := by decide +kernel
theorem d_Mod_puts_34 : decode m_Mod_puts.2.1 34 = .ok (.aload_n 0, 1) := by decide +kernel
theorem d_Mod_puts_35 : decode m_Mod_puts.2.1 35 = .ok (.getfield 32, 3) := by decide +kernel
theorem d_Mod_puts_38 : decode m_Mod_puts.2.1 38 = .ok (.iconst 1, 1) := by decide +kernel
theorem d_Mod_puts_39 : decode m_Mod_puts.2.1 39 = .ok (.iload_n 2, 1) := by decide +kernel
theorem d_Mod_puts_40 : decode m_Mod_puts.2.1 40 = .ok (.iadd, 1) := by decide +kernel
theorem d_Mod_puts_41 : decode m_Mod_puts.2.1 41 = .ok (.iload_n 1, 1) := by decide +kernel
theorem d_Mod_puts_42 : decode m_Mod_puts.2.1 42 = .ok (.iastore, 1) := by decide +kernel
theorem d_Mod_puts_43 : decode m_Mod_puts.2.1 43 = .ok (.aload_n 0, 1) := by decide +kernel
theorem d_Mod_puts_44 : decode m_Mod_puts.2.1 44 = .ok (.getfield 32, 3) := by decide +kernel
theorem d_Mod_puts_47 : decode m_Mod_puts.2.1 47 = .ok (.iconst 0, 1) := by decide +kernel
theorem d_Mod_puts_48 : decode m_Mod_puts.2.1 48 = .ok (.dup2, 1) := by decide +kernel
theorem d_Mod_puts_49 : decode m_Mod_puts.2.1 49 = .ok (.iaload, 1) := by decide +kernel
theorem d_Mod_puts_50 : decode m_Mod_puts.2.1 50 = .ok (.iconst 1, 1) := by decide +kernel
theorem d_Mod_puts_51 : decode m_Mod_puts.2.1 51 = .ok (.iadd, 1) := by decide +kernel
theorem d_Mod_puts_52 : decode m_Mod_puts.2.1 52 = .ok (.iastore, 1) := by decide +kernel
theorem d_Mod_puts_53 : decode m_Mod_puts.2.1 53 = .ok (.return_, 1) := by decide +kernel
theorem d_Mod_goodOr_0 : decode m_Mod_goodOr.2.1 0 = .ok (.iload_n 1, 1) := by decide +kernel
theorem d_Mod_goodOr_1 : decode m_Mod_goodOr.2.1 1 = .ok (.ifCond .ge 11, 3) := by decide +kernel
theorem d_Mod_goodOr_4 : decode m_Mod_goodOr.2.1 4 = .ok (.aload_n 0, 1) := by decide +kernel
theorem d_Mod_goodOr_5 : decode m_Mod_goodOr.2.1 5 = .ok (.iload_n 1, 1) := by decide +kernel
theorem d_Mod_goodOr_6 : decode m_Mod_goodOr.2.1 6 = .ok (.invokevirtual 119, 3) := by decide +kernel
theorem d_Mod_goodOr_9 : decode m_Mod_goodOr.2.1 9 = .ok (.goto 8, 3) := by decide +kernel
theorem d_Mod_goodOr_12 : decode m_Mod_goodOr.2.1 12 = .ok (.aload_n 0, 1) := by decide +kernel
theorem d_Mod_goodOr_13 : decode m_Mod_goodOr.2.1 13 = .ok (.iload_n 1, 1) := by decide +kernel
theorem d_Mod_goodOr_14 : decode m_Mod_goodOr.2.1 14 = .ok (.invokevirtual 14, 3) := by decide +kernel
theorem d_Mod_goodOr_17 : decode m_Mod_goodOr.2.1 17 = .ok (.ireturn, 1) := by decide +kernel
theorem d_Mod_cut_0 : decode m_Mod_cut.2.1 0 = .ok (.aload_n 0, 1) := by decide +kernel
theorem d_Mod_cut_1 : decode m_Mod_cut.2.1 1 = .ok (.aload_n 0, 1) := by decide +kernel
theorem d_Mod_cut_2 : decode m_Mod_cut.2.1 2 = .ok (.iload_n 1, 1) := by decide +kernel
theorem d_Mod_cut_3 : decode m_Mod_cut.2.1 3 = .ok (.invokevirtual 372, 3) := by decide +kernel
theorem d_Mod_cut_6 : decode m_Mod_cut.2.1 6 = .ok (.invokevirtual 369, 3) := by decide +kernel
theorem d_Mod_cut_9 : decode m_Mod_cut.2.1 9 = .ok (.ireturn, 1) := by decide +kernel
theorem d_Mod_cutsKept_0 : decode m_Mod_cutsKept.2.1 0 = .ok (.aload_n 0, 1) := by decide +kernel
theorem d_Mod_cutsKept_1 : decode m_Mod_cutsKept.2.1 1 = .ok (.iload_n 1, 1) := by decide +kernel
theorem d_Mod_cutsKept_2 : decode m_Mod_cutsKept.2.1 2 = .ok (.invokevirtual 339, 3) := by decide +kernel
theorem d_Mod_cutsKept_5 : decode m_Mod_cutsKept.2.1 5 = .ok (.ifCond .ne 6, 3) := by decide +kernel
theorem d_Mod_cutsKept_8 : decode m_Mod_cutsKept.2.1 8 = .ok (.bipush (-2), 2) := by decide +kernel
theorem d_Mod_cutsKept_10 : decode m_Mod_cutsKept.2.1 10 = .ok (.ireturn, 1) := by decide +kernel
theorem d_Mod_cutsKept_11 : decode m_Mod_cutsKept.2.1 11 = .ok (.aload_n 0, 1) := by decide +kernel
theorem d_Mod_cutsKept_12 : decode m_Mod_cutsKept.2.1 12 = .ok (.iconst 1, 1) := by decide +kernel
theorem d_Mod_cutsKept_13 : decode m_Mod_cutsKept.2.1 13 = .ok (.invokevirtual 354, 3) := by decide +kernel
theorem d_Mod_cutsKept_16 : decode m_Mod_cutsKept.2.1 16 = .ok (.aload_n 0, 1) := by decide +kernel
theorem d_Mod_cutsKept_17 : decode m_Mod_cutsKept.2.1 17 = .ok (.iload_n 1, 1) := by decide +kernel
theorem d_Mod_cutsKept_18 : decode m_Mod_cutsKept.2.1 18 = .ok (.invokevirtual 360, 3) := by decide +kernel
theorem d_Mod_cutsKept_21 : decode m_Mod_cutsKept.2.1 21 = .ok (.istore_n 2, 1) := by decide +kernel
theorem d_Mod_cutsKept_22 : decode m_Mod_cutsKept.2.1 22 = .ok (.aload_n 0, 1) := by decide +kernel
theorem d_Mod_cutsKept_23 : decode m_Mod_cutsKept.2.1 23 = .ok (.iload_n 1, 1) := by decide +kernel
theorem d_Mod_cutsKept_24 : decode m_Mod_cutsKept.2.1 24 = .ok (.invokevirtual 363, 3) := by decide +kernel
theorem d_Mod_cutsKept_27 : decode m_Mod_cutsKept.2.1 27 = .ok (.iload_n 2, 1) := by decide +kernel
theorem d_Mod_cutsKept_28 : decode m_Mod_cutsKept.2.1 28 = .ok (.ireturn, 1) := by decide +kernel
theorem d_Mod_strikesFor_0 : decode m_Mod_strikesFor.2.1 0 = .ok (.aload_n 0, 1) := by decide +kernel
theorem d_Mod_strikesFor_1 : decode m_Mod_strikesFor.2.1 1 = .ok (.iconst 2, 1) := by decide +kernel
theorem d_Mod_strikesFor_2 : decode m_Mod_strikesFor.2.1 2 = .ok (.aload_n 0, 1) := by decide +kernel
theorem d_Mod_strikesFor_3 : decode m_Mod_strikesFor.2.1 3 = .ok (.iload_n 1, 1) := by decide +kernel
theorem d_Mod_strikesFor_4 : decode m_Mod_strikesFor.2.1 4 = .ok (.invokevirtual 324, 3) := by decide +kernel
theorem d_Mod_strikesFor_7 : decode m_Mod_strikesFor.2.1 7 = .ok (.iload_n 1, 1) := by decide +kernel
theorem d_Mod_strikesFor_8 : decode m_Mod_strikesFor.2.1 8 = .ok (.iconst 1, 1) := by decide +kernel
theorem d_Mod_strikesFor_9 : decode m_Mod_strikesFor.2.1 9 = .ok (.invokevirtual 320, 3) := by decide +kernel
theorem d_Mod_strikesFor_12 : decode m_Mod_strikesFor.2.1 12 = .ok (.ireturn, 1) := by decide +kernel
theorem d_Mod_cuts_0 : decode m_Mod_cuts.2.1 0 = .ok (.aload_n 0, 1) := by decide +kernel
theorem d_Mod_cuts_1 : decode m_Mod_cuts.2.1 1 = .ok (.getfield 32, 3) := by decide +kernel
theorem d_Mod_cuts_4 : decode m_Mod_cuts.2.1 4 = .ok (.iconst 0, 1) := by decide +kernel
theorem d_Mod_cuts_5 : decode m_Mod_cuts.2.1 5 = .ok (.dup2, 1) := by decide +kernel
theorem d_Mod_cuts_6 : decode m_Mod_cuts.2.1 6 = .ok (.iaload, 1) := by decide +kernel
theorem d_Mod_cuts_7 : decode m_Mod_cuts.2.1 7 = .ok (.iconst 1, 1) := by decide +kernel
theorem d_Mod_cuts_8 : decode m_Mod_cuts.2.1 8 = .ok (.isub, 1) := by decide +kernel
theorem d_Mod_cuts_9 : decode m_Mod_cuts.2.1 9 = .ok (.iastore, 1) := by decide +kernel
theorem d_Mod_cuts_10 : decode m_Mod_cuts.2.1 10 = .ok (.iload_n 1, 1) := by decide +kernel
theorem d_Mod_cuts_11 : decode m_Mod_cuts.2.1 11 = .ok (.istore_n 2, 1) := by decide +kernel
theorem d_Mod_cuts_12 : decode m_Mod_cuts.2.1 12 = .ok (.iload_n 2, 1) := by decide +kernel
theorem d_Mod_cuts_13 : decode m_Mod_cuts.2.1 13 = .ok (.aload_n 0, 1) := by decide +kernel
theorem d_Mod_cuts_14 : decode m_Mod_cuts.2.1 14 = .ok (.invokevirtual 125, 3) := by decide +kernel
theorem d_Mod_cuts_17 : decode m_Mod_cuts.2.1 17 = .ok (.if_icmp .ge 27, 3) := by decide +kernel
theorem d_Mod_cuts_20 : decode m_Mod_cuts.2.1 20 = .ok (.aload_n 0, 1) := by decide +kernel
theorem d_Mod_cuts_21 : decode m_Mod_cuts.2.1 21 = .ok (.getfield 32, 3) := by decide +kernel
theorem d_Mod_cuts_24 : decode m_Mod_cuts.2.1 24 = .ok (.iconst 1, 1) := by decide +kernel
theorem d_Mod_cuts_25 : decode m_Mod_cuts.2.1 25 = .ok (.iload_n 2, 1) := by decide +kernel
theorem d_Mod_cuts_26 : decode m_Mod_cuts.2.1 26 = .ok (.iadd, 1) := by decide +kernel
theorem d_Mod_cuts_27 : decode m_Mod_cuts.2.1 27 = .ok (.aload_n 0, 1) := by decide +kernel
theorem d_Mod_cuts_28 : decode m_Mod_cuts.2.1 28 = .ok (.getfield 32, 3) := by decide +kernel
theorem d_Mod_cuts_31 : decode m_Mod_cuts.2.1 31 = .ok (.iconst 1, 1) := by decide +kernel
theorem d_Mod_cuts_32 : decode m_Mod_cuts.2.1 32 = .ok (.iload_n 2, 1) := by decide +kernel
theorem d_Mod_cuts_33 : decode m_Mod_cuts.2.1 33 = .ok (.iadd, 1) := by decide +kernel
theorem d_Mod_cuts_34 : decode m_Mod_cuts.2.1 34 = .ok (.iconst 1, 1) := by decide +kernel
theorem d_Mod_cuts_35 : decode m_Mod_cuts.2.1 35 = .ok (.iadd, 1) := by decide +kernel
theorem d_Mod_cuts_36 : decode m_Mod_cuts.2.1 36 = .ok (.iaload, 1) := by decide +kernel
theorem d_Mod_cuts_37 : decode m_Mod_cuts.2.1 37 = .ok (.iastore, 1) := by decide +kernel
theorem d_Mod_cuts_38 : decode m_Mod_cuts.2.1 38 = .ok (.iinc 2 1, 3) := by decide +kernel
theorem d_Mod_cuts_41 : decode m_Mod_cuts.2.1 41 = .ok (.goto (-29), 3) := by decide +kernel
theorem d_Mod_cuts_44 : decode m_Mod_cuts.2.1 44 = .ok (.aload_n 0, 1) := by decide +kernel
theorem d_Mod_cuts_45 : decode m_Mod_cuts.2.1 45 = .ok (.getfield 32, 3) := by decide +kernel
theorem d_Mod_cuts_48 : decode m_Mod_cuts.2.1 48 = .ok (.iconst 1, 1) := by decide +kernel
theorem d_Mod_cuts_49 : decode m_Mod_cuts.2.1 49 = .ok (.aload_n 0, 1) := by decide +kernel
theorem d_Mod_cuts_50 : decode m_Mod_cuts.2.1 50 = .ok (.invokevirtual 125, 3) := by decide +kernel
theorem d_Mod_cuts_53 : decode m_Mod_cuts.2.1 53 = .ok (.iadd, 1) := by decide +kernel
theorem d_Mod_cuts_54 : decode m_Mod_cuts.2.1 54 = .ok (.iconst 0, 1) := by decide +kernel
theorem d_Mod_cuts_55 : decode m_Mod_cuts.2.1 55 = .ok (.iastore, 1) := by decide +kernel
theorem d_Mod_cuts_56 : decode m_Mod_cuts.2.1 56 = .ok (.return_, 1) := by decide +kernel
theorem d_Mod_turn_0 : decode m_Mod_turn.2.1 0 = .ok (.aload_n 0, 1) := by decide +kernel
theorem d_Mod_turn_1 : decode m_Mod_turn.2.1 1 = .ok (.aload_n 0, 1) := by decide +kernel
theorem d_Mod_turn_2 : decode m_Mod_turn.2.1 2 = .ok (.iload_n 1, 1) := by decide +kernel
theorem d_Mod_turn_3 : decode m_Mod_turn.2.1 3 = .ok (.iload_n 2, 1) := by decide +kernel
theorem d_Mod_turn_4 : decode m_Mod_turn.2.1 4 = .ok (.invokevirtual 375, 3) := by decide +kernel
theorem d_Mod_turn_7 : decode m_Mod_turn.2.1 7 = .ok (.invokevirtual 369, 3) := by decide +kernel
theorem d_Mod_turn_10 : decode m_Mod_turn.2.1 10 = .ok (.ireturn, 1) := by decide +kernel
theorem d_Mod_turnsKept_0 : decode m_Mod_turnsKept.2.1 0 = .ok (.iload_n 2, 1) := by decide +kernel
theorem d_Mod_turnsKept_1 : decode m_Mod_turnsKept.2.1 1 = .ok (.invokestatic 142, 3) := by decide +kernel
theorem d_Mod_turnsKept_4 : decode m_Mod_turnsKept.2.1 4 = .ok (.ifCond .ne 5, 3) := by decide +kernel
theorem d_Mod_turnsKept_7 : decode m_Mod_turnsKept.2.1 7 = .ok (.iconst (-1), 1) := by decide +kernel
theorem d_Mod_turnsKept_8 : decode m_Mod_turnsKept.2.1 8 = .ok (.ireturn, 1) := by decide +kernel
theorem d_Mod_turnsKept_9 : decode m_Mod_turnsKept.2.1 9 = .ok (.aload_n 0, 1) := by decide +kernel
theorem d_Mod_turnsKept_10 : decode m_Mod_turnsKept.2.1 10 = .ok (.iload_n 1, 1) := by decide +kernel
theorem d_Mod_turnsKept_11 : decode m_Mod_turnsKept.2.1 11 = .ok (.invokevirtual 339, 3) := by decide +kernel
theorem d_Mod_turnsKept_14 : decode m_Mod_turnsKept.2.1 14 = .ok (.ifCond .ne 6, 3) := by decide +kernel
theorem d_Mod_turnsKept_17 : decode m_Mod_turnsKept.2.1 17 = .ok (.bipush (-2), 2) := by decide +kernel
theorem d_Mod_turnsKept_19 : decode m_Mod_turnsKept.2.1 19 = .ok (.ireturn, 1) := by decide +kernel
theorem d_Mod_turnsKept_20 : decode m_Mod_turnsKept.2.1 20 = .ok (.aload_n 0, 1) := by decide +kernel
theorem d_Mod_turnsKept_21 : decode m_Mod_turnsKept.2.1 21 = .ok (.iload_n 1, 1) := by decide +kernel
theorem d_Mod_turnsKept_22 : decode m_Mod_turnsKept.2.1 22 = .ok (.invokevirtual 324, 3) := by decide +kernel
theorem d_Mod_turnsKept_25 : decode m_Mod_turnsKept.2.1 25 = .ok (.istore_n 3, 1) := by decide +kernel
theorem d_Mod_turnsKept_26 : decode m_Mod_turnsKept.2.1 26 = .ok (.iload_n 3, 1) := by decide +kernel
theorem d_Mod_turnsKept_27 : decode m_Mod_turnsKept.2.1 27 = .ok (.iload_n 2, 1) := by decide +kernel
theorem d_Mod_turnsKept_28 : decode m_Mod_turnsKept.2.1 28 = .ok (.if_icmp .eq 12, 3) := by decide +kernel
theorem d_Mod_turnsKept_31 : decode m_Mod_turnsKept.2.1 31 = .ok (.aload_n 0, 1) := by decide +kernel
theorem d_Mod_turnsKept_32 : decode m_Mod_turnsKept.2.1 32 = .ok (.iload_n 2, 1) := by decide +kernel
theorem d_Mod_turnsKept_33 : decode m_Mod_turnsKept.2.1 33 = .ok (.iload_n 1, 1) := by decide +kernel
theorem d_Mod_turnsKept_34 : decode m_Mod_turnsKept.2.1 34 = .ok (.invokevirtual 330, 3) := by decide +kernel
theorem d_Mod_turnsKept_37 : decode m_Mod_turnsKept.2.1 37 = .ok (.ifCond .eq 6, 3) := by decide +kernel
theorem d_Mod_turnsKept_40 : decode m_Mod_turnsKept.2.1 40 = .ok (.bipush (-3), 2) := by decide +kernel
theorem d_Mod_turnsKept_42 : decode m_Mod_turnsKept.2.1 42 = .ok (.ireturn, 1) := by decide +kernel
theorem d_Mod_turnsKept_43 : decode m_Mod_turnsKept.2.1 43 = .ok (.aload_n 0, 1) := by decide +kernel
theorem d_Mod_turnsKept_44 : decode m_Mod_turnsKept.2.1 44 = .ok (.iconst 2, 1) := by decide +kernel
theorem d_Mod_turnsKept_45 : decode m_Mod_turnsKept.2.1 45 = .ok (.invokevirtual 354, 3) := by decide +kernel
theorem d_Mod_turnsKept_48 : decode m_Mod_turnsKept.2.1 48 = .ok (.aload_n 0, 1) := by decide +kernel
theorem d_Mod_turnsKept_49 : decode m_Mod_turnsKept.2.1 49 = .ok (.getfield 32, 3) := by decide +kernel
theorem d_Mod_turnsKept_52 : decode m_Mod_turnsKept.2.1 52 = .ok (.iconst 1, 1) := by decide +kernel
theorem d_Mod_turnsKept_53 : decode m_Mod_turnsKept.2.1 53 = .ok (.iload_n 1, 1) := by decide +kernel
theorem d_Mod_turnsKept_54 : decode m_Mod_turnsKept.2.1 54 = .ok (.iadd, 1) := by decide +kernel
theorem d_Mod_turnsKept_55 : decode m_Mod_turnsKept.2.1 55 = .ok (.iload_n 2, 1) := by decide +kernel
theorem d_Mod_turnsKept_56 : decode m_Mod_turnsKept.2.1 56 = .ok (.iastore, 1) := by decide +kernel
theorem d_Mod_turnsKept_57 : decode m_Mod_turnsKept.2.1 57 = .ok (.iload_n 3, 1) := by decide +kernel
theorem d_Mod_turnsKept_58 : decode m_Mod_turnsKept.2.1 58 = .ok (.ireturn, 1) := by decide +kernel
theorem d_Mod_pass_0 : decode m_Mod_pass.2.1 0 = .ok (.aload_n 0, 1) := by decide +kernel
theorem d_Mod_pass_1 : decode m_Mod_pass.2.1 1 = .ok (.aload_n 0, 1) := by decide +kernel
theorem d_Mod_pass_2 : decode m_Mod_pass.2.1 2 = .ok (.invokevirtual 378, 3) := by decide +kernel
theorem d_Mod_pass_5 : decode m_Mod_pass.2.1 5 = .ok (.invokevirtual 369, 3) := by decide +kernel
theorem d_Mod_pass_8 : decode m_Mod_pass.2.1 8 = .ok (.ireturn, 1) := by decide +kernel
theorem d_Mod_passesKept_0 : decode m_Mod_passesKept.2.1 0 = .ok (.aload_n 0, 1) := by decide +kernel
theorem d_Mod_passesKept_1 : decode m_Mod_passesKept.2.1 1 = .ok (.getfield 32, 3) := by decide +kernel
theorem d_Mod_passesKept_4 : decode m_Mod_passesKept.2.1 4 = .ok (.bipush 21, 2) := by decide +kernel
theorem d_Mod_passesKept_6 : decode m_Mod_passesKept.2.1 6 = .ok (.iaload, 1) := by decide +kernel
theorem d_Mod_passesKept_7 : decode m_Mod_passesKept.2.1 7 = .ok (.sipush 999, 3) := by decide +kernel
theorem d_Mod_passesKept_10 : decode m_Mod_passesKept.2.1 10 = .ok (.if_icmp .ne 6, 3) := by decide +kernel
theorem d_Mod_passesKept_13 : decode m_Mod_passesKept.2.1 13 = .ok (.bipush (-3), 2) := by decide +kernel
theorem d_Mod_passesKept_15 : decode m_Mod_passesKept.2.1 15 = .ok (.ireturn, 1) := by decide +kernel
theorem d_Mod_passesKept_16 : decode m_Mod_passesKept.2.1 16 = .ok (.aload_n 0, 1) := by decide +kernel
theorem d_Mod_passesKept_17 : decode m_Mod_passesKept.2.1 17 = .ok (.iconst 3, 1) := by decide +kernel
theorem d_Mod_passesKept_18 : decode m_Mod_passesKept.2.1 18 = .ok (.invokevirtual 354, 3) := by decide +kernel
theorem d_Mod_passesKept_21 : decode m_Mod_passesKept.2.1 21 = .ok (.aload_n 0, 1) := by decide +kernel
theorem d_Mod_passesKept_22 : decode m_Mod_passesKept.2.1 22 = .ok (.getfield 32, 3) := by decide +kernel
theorem d_Mod_passesKept_25 : decode m_Mod_passesKept.2.1 25 = .ok (.bipush 21, 2) := by decide +kernel
theorem d_Mod_passesKept_27 : decode m_Mod_passesKept.2.1 27 = .ok (.dup2, 1) := by decide +kernel
theorem d_Mod_passesKept_28 : decode m_Mod_passesKept.2.1 28 = .ok (.iaload, 1) := by decide +kernel
theorem d_Mod_passesKept_29 : decode m_Mod_passesKept.2.1 29 = .ok (.iconst 1, 1) := by decide +kernel
theorem d_Mod_passesKept_30 : decode m_Mod_passesKept.2.1 30 = .ok (.iadd, 1) := by decide +kernel
theorem d_Mod_passesKept_31 : decode m_Mod_passesKept.2.1 31 = .ok (.iastore, 1) := by decide +kernel
theorem d_Mod_passesKept_32 : decode m_Mod_passesKept.2.1 32 = .ok (.aload_n 0, 1) := by decide +kernel
theorem d_Mod_passesKept_33 : decode m_Mod_passesKept.2.1 33 = .ok (.getfield 32, 3) := by decide +kernel
theorem d_Mod_passesKept_36 : decode m_Mod_passesKept.2.1 36 = .ok (.bipush 21, 2) := by decide +kernel
theorem d_Mod_passesKept_38 : decode m_Mod_passesKept.2.1 38 = .ok (.iaload, 1) := by decide +kernel
theorem d_Mod_passesKept_39 : decode m_Mod_passesKept.2.1 39 = .ok (.ireturn, 1) := by decide +kernel
theorem d_Mod_mend_0 : decode m_Mod_mend.2.1 0 = .ok (.iload_n 1, 1) := by decide +kernel
theorem d_Mod_mend_1 : decode m_Mod_mend.2.1 1 = .ok (.iconst 0, 1) := by decide +kernel
theorem d_Mod_mend_2 : decode m_Mod_mend.2.1 2 = .ok (.iconst 1, 1) := by decide +kernel
theorem d_Mod_mend_3 : decode m_Mod_mend.2.1 3 = .ok (.invokestatic 18, 3) := by decide +kernel
theorem d_Mod_mend_6 : decode m_Mod_mend.2.1 6 = .ok (.ifCond .ne 5, 3) := by decide +kernel
theorem d_Mod_mend_9 : decode m_Mod_mend.2.1 9 = .ok (.iconst (-1), 1) := by decide +kernel
theorem d_Mod_mend_10 : decode m_Mod_mend.2.1 10 = .ok (.ireturn, 1) := by decide +kernel
theorem d_Mod_mend_11 : decode m_Mod_mend.2.1 11 = .ok (.aload_n 0, 1) := by decide +kernel
theorem d_Mod_mend_12 : decode m_Mod_mend.2.1 12 = .ok (.invokevirtual 399, 3) := by decide +kernel
theorem d_Mod_mend_15 : decode m_Mod_mend.2.1 15 = .ok (.istore_n 2, 1) := by decide +kernel
theorem d_Mod_mend_16 : decode m_Mod_mend.2.1 16 = .ok (.iload_n 2, 1) := by decide +kernel
theorem d_Mod_mend_17 : decode m_Mod_mend.2.1 17 = .ok (.ldc 158, 2) := by decide +kernel
theorem d_Mod_mend_19 : decode m_Mod_mend.2.1 19 = .ok (.if_icmp .ne 5, 3) := by decide +kernel
theorem d_Mod_mend_22 : decode m_Mod_mend.2.1 22 = .ok (.iconst (-1), 1) := by decide +kernel
theorem d_Mod_mend_23 : decode m_Mod_mend.2.1 23 = .ok (.ireturn, 1) := by decide +kernel
theorem d_Mod_mend_24 : decode m_Mod_mend.2.1 24 = .ok (.iload_n 1, 1) := by decide +kernel
theorem d_Mod_mend_25 : decode m_Mod_mend.2.1 25 = .ok (.ifCond .ne 10, 3) := by decide +kernel
theorem d_Mod_mend_28 : decode m_Mod_mend.2.1 28 = .ok (.iload_n 2, 1) := by decide +kernel
theorem d_Mod_mend_29 : decode m_Mod_mend.2.1 29 = .ok (.bipush 64, 2) := by decide +kernel
theorem d_Mod_mend_31 : decode m_Mod_mend.2.1 31 = .ok (.idiv, 1) := by decide +kernel
theorem d_Mod_mend_32 : decode m_Mod_mend.2.1 32 = .ok (.goto 7, 3) := by decide +kernel
theorem d_Mod_mend_35 : decode m_Mod_mend.2.1 35 = .ok (.iload_n 2, 1) := by decide +kernel
theorem d_Mod_mend_36 : decode m_Mod_mend.2.1 36 = .ok (.bipush 64, 2) := by decide +kernel
theorem d_Mod_mend_38 : decode m_Mod_mend.2.1 38 = .ok (.irem, 1) := by decide +kernel
theorem d_Mod_mend_39 : decode m_Mod_mend.2.1 39 = .ok (.ireturn, 1) := by decide +kernel
theorem d_Mod_laysMended_0 : decode m_Mod_laysMended.2.1 0 = .ok (.aload_n 0, 1) := by decide +kernel
theorem d_Mod_laysMended_1 : decode m_Mod_laysMended.2.1 1 = .ok (.invokevirtual 390, 3) := by decide +kernel
theorem d_Mod_laysMended_4 : decode m_Mod_laysMended.2.1 4 = .ok (.aload_n 0, 1) := by decide +kernel
theorem d_Mod_laysMended_5 : decode m_Mod_laysMended.2.1 5 = .ok (.invokevirtual 125, 3) := by decide +kernel
theorem d_Mod_laysMended_8 : decode m_Mod_laysMended.2.1 8 = .ok (.istore_n 1, 1) := by decide +kernel
theorem d_Mod_laysMended_9 : decode m_Mod_laysMended.2.1 9 = .ok (.iload_n 1, 1) := by decide +kernel
theorem d_Mod_laysMended_10 : decode m_Mod_laysMended.2.1 10 = .ok (.istore_n 2, 1) := by decide +kernel
theorem d_Mod_laysMended_11 : decode m_Mod_laysMended.2.1 11 = .ok (.iload_n 2, 1) := by decide +kernel
theorem d_Mod_laysMended_12 : decode m_Mod_laysMended.2.1 12 = .ok (.ifCond .lt 112, 3) := by decide +kernel
theorem d_Mod_laysMended_15 : decode m_Mod_laysMended.2.1 15 = .ok (.aload_n 0, 1) := by decide +kernel
theorem d_Mod_laysMended_16 : decode m_Mod_laysMended.2.1 16 = .ok (.getfield 82, 3) := by decide +kernel
theorem d_Mod_laysMended_19 : decode m_Mod_laysMended.2.1 19 = .ok (.bipush 21, 2) := by decide +kernel
theorem d_Mod_laysMended_21 : decode m_Mod_laysMended.2.1 21 = .ok (.iload_n 2, 1) := by decide +kernel
theorem d_Mod_laysMended_22 : decode m_Mod_laysMended.2.1 22 = .ok (.imul, 1) := by decide +kernel
theorem d_Mod_laysMended_23 : decode m_Mod_laysMended.2.1 23 = .ok (.iload_n 2, 1) := by decide +kernel
theorem d_Mod_laysMended_24 : decode m_Mod_laysMended.2.1 24 = .ok (.iadd, 1) := by decide +kernel
theorem d_Mod_laysMended_25 : decode m_Mod_laysMended.2.1 25 = .ok (.iconst 0, 1) := by decide +kernel
theorem d_Mod_laysMended_26 : decode m_Mod_laysMended.2.1 26 = .ok (.iastore, 1) := by decide +kernel
theorem d_Mod_laysMended_27 : decode m_Mod_laysMended.2.1 27 = .ok (.iload_n 2, 1) := by decide +kernel
theorem d_Mod_laysMended_28 : decode m_Mod_laysMended.2.1 28 = .ok (.iconst 1, 1) := by decide +kernel
theorem d_Mod_laysMended_29 : decode m_Mod_laysMended.2.1 29 = .ok (.iadd, 1) := by decide +kernel
theorem d_Mod_laysMended_30 : decode m_Mod_laysMended.2.1 30 = .ok (.istore_n 3, 1) := by decide +kernel
theorem d_Mod_laysMended_31 : decode m_Mod_laysMended.2.1 31 = .ok (.iload_n 3, 1) := by decide +kernel
theorem d_Mod_laysMended_32 : decode m_Mod_laysMended.2.1 32 = .ok (.iload_n 1, 1) := by decide +kernel
theorem d_Mod_laysMended_33 : decode m_Mod_laysMended.2.1 33 = .ok (.if_icmp .gt 85, 3) := by decide +kernel
theorem d_Mod_laysMended_36 : decode m_Mod_laysMended.2.1 36 = .ok (.aload_n 0, 1) := by decide +kernel
theorem d_Mod_laysMended_37 : decode m_Mod_laysMended.2.1 37 = .ok (.iload_n 2, 1) := by decide +kernel
theorem d_Mod_laysMended_38 : decode m_Mod_laysMended.2.1 38 = .ok (.iload_n 3, 1) := by decide +kernel
theorem d_Mod_laysMended_39 : decode m_Mod_laysMended.2.1 39 = .ok (.invokevirtual 393, 3) := by decide +kernel
theorem d_Mod_laysMended_42 : decode m_Mod_laysMended.2.1 42 = .ok (.istore 4, 2) := by decide +kernel
theorem d_Mod_laysMended_44 : decode m_Mod_laysMended.2.1 44 = .ok (.aload_n 0, 1) := by decide +kernel
theorem d_Mod_laysMended_45 : decode m_Mod_laysMended.2.1 45 = .ok (.iload_n 2, 1) := by decide +kernel
theorem d_Mod_laysMended_46 : decode m_Mod_laysMended.2.1 46 = .ok (.invokevirtual 324, 3) := by decide +kernel
theorem d_Mod_laysMended_49 : decode m_Mod_laysMended.2.1 49 = .ok (.invokestatic 22, 3) := by decide +kernel
theorem d_Mod_laysMended_52 : decode m_Mod_laysMended.2.1 52 = .ok (.ifCond .eq 18, 3) := by decide +kernel
theorem d_Mod_laysMended_55 : decode m_Mod_laysMended.2.1 55 = .ok (.iload 4, 2) := by decide +kernel
theorem d_Mod_laysMended_57 : decode m_Mod_laysMended.2.1 57 = .ok (.aload_n 0, 1) := by decide +kernel
theorem d_Mod_laysMended_58 : decode m_Mod_laysMended.2.1 58 = .ok (.iload_n 2, 1) := by decide +kernel
theorem d_Mod_laysMended_59 : decode m_Mod_laysMended.2.1 59 = .ok (.iconst 1, 1) := by decide +kernel
theorem d_Mod_laysMended_60 : decode m_Mod_laysMended.2.1 60 = .ok (.iadd, 1) := by decide +kernel
theorem d_Mod_laysMended_61 : decode m_Mod_laysMended.2.1 61 = .ok (.iload_n 3, 1) := by decide +kernel
theorem d_Mod_laysMended_62 : decode m_Mod_laysMended.2.1 62 = .ok (.invokevirtual 384, 3) := by decide +kernel
theorem d_Mod_laysMended_65 : decode m_Mod_laysMended.2.1 65 = .ok (.invokestatic 387, 3) := by decide +kernel
theorem d_Mod_laysMended_68 : decode m_Mod_laysMended.2.1 68 = .ok (.istore 4, 2) := by decide +kernel
theorem d_Mod_laysMended_70 : decode m_Mod_laysMended.2.1 70 = .ok (.aload_n 0, 1) := by decide +kernel
theorem d_Mod_laysMended_71 : decode m_Mod_laysMended.2.1 71 = .ok (.iload_n 2, 1) := by decide +kernel
theorem d_Mod_laysMended_72 : decode m_Mod_laysMended.2.1 72 = .ok (.invokevirtual 324, 3) := by decide +kernel
theorem d_Mod_laysMended_75 : decode m_Mod_laysMended.2.1 75 = .ok (.invokestatic 312, 3) := by decide +kernel
theorem d_Mod_laysMended_78 : decode m_Mod_laysMended.2.1 78 = .ok (.ifCond .eq 16, 3) := by decide +kernel
theorem d_Mod_laysMended_81 : decode m_Mod_laysMended.2.1 81 = .ok (.iload 4, 2) := by decide +kernel
theorem d_Mod_laysMended_83 : decode m_Mod_laysMended.2.1 83 = .ok (.aload_n 0, 1) := by decide +kernel
theorem d_Mod_laysMended_84 : decode m_Mod_laysMended.2.1 84 = .ok (.iload_n 2, 1) := by decide +kernel
theorem d_Mod_laysMended_85 : decode m_Mod_laysMended.2.1 85 = .ok (.iload_n 3, 1) := by decide +kernel
theorem d_Mod_laysMended_86 : decode m_Mod_laysMended.2.1 86 = .ok (.invokevirtual 396, 3) := by decide +kernel
theorem d_Mod_laysMended_89 : decode m_Mod_laysMended.2.1 89 = .ok (.invokestatic 387, 3) := by decide +kernel
theorem d_Mod_laysMended_92 : decode m_Mod_laysMended.2.1 92 = .ok (.istore 4, 2) := by decide +kernel
theorem d_Mod_laysMended_94 : decode m_Mod_laysMended.2.1 94 = .ok (.aload_n 0, 1) := by decide +kernel
theorem d_Mod_laysMended_95 : decode m_Mod_laysMended.2.1 95 = .ok (.getfield 82, 3) := by decide +kernel
theorem d_Mod_laysMended_98 : decode m_Mod_laysMended.2.1 98 = .ok (.bipush 21, 2) := by decide +kernel
theorem d_Mod_laysMended_100 : decode m_Mod_laysMended.2.1 100 = .ok (.iload_n 2, 1) := by decide +kernel
theorem d_Mod_laysMended_101 : decode m_Mod_laysMended.2.1 101 = .ok (.imul, 1) := by decide +kernel
theorem d_Mod_laysMended_102 : decode m_Mod_laysMended.2.1 102 = .ok (.iload_n 3, 1) := by decide +kernel
theorem d_Mod_laysMended_103 : decode m_Mod_laysMended.2.1 103 = .ok (.iadd, 1) := by decide +kernel
theorem d_Mod_laysMended_104 : decode m_Mod_laysMended.2.1 104 = .ok (.ldc 158, 2) := by decide +kernel
theorem d_Mod_laysMended_106 : decode m_Mod_laysMended.2.1 106 = .ok (.iload 4, 2) := by decide +kernel
theorem d_Mod_laysMended_108 : decode m_Mod_laysMended.2.1 108 = .ok (.invokestatic 387, 3) := by decide +kernel
theorem d_Mod_laysMended_111 : decode m_Mod_laysMended.2.1 111 = .ok (.iastore, 1) := by decide +kernel
theorem d_Mod_laysMended_112 : decode m_Mod_laysMended.2.1 112 = .ok (.iinc 3 1, 3) := by decide +kernel
theorem d_Mod_laysMended_115 : decode m_Mod_laysMended.2.1 115 = .ok (.goto (-84), 3) := by decide +kernel
theorem d_Mod_laysMended_118 : decode m_Mod_laysMended.2.1 118 = .ok (.iinc 2 (-1), 3) := by decide +kernel
theorem d_Mod_laysMended_121 : decode m_Mod_laysMended.2.1 121 = .ok (.goto (-110), 3) := by decide +kernel
theorem d_Mod_laysMended_124 : decode m_Mod_laysMended.2.1 124 = .ok (.aload_n 0, 1) := by decide +kernel
theorem d_Mod_laysMended_125 : decode m_Mod_laysMended.2.1 125 = .ok (.iconst 0, 1) := by decide +kernel
theorem d_Mod_laysMended_126 : decode m_Mod_laysMended.2.1 126 = .ok (.iload_n 1, 1) := by decide +kernel
theorem d_Mod_laysMended_127 : decode m_Mod_laysMended.2.1 127 = .ok (.invokevirtual 384, 3) := by decide +kernel
theorem d_Mod_laysMended_130 : decode m_Mod_laysMended.2.1 130 = .ok (.ireturn, 1) := by decide +kernel
theorem d_Mod_laysCosts_0 : decode m_Mod_laysCosts.2.1 0 = .ok (.iconst 0, 1) := by decide +kernel
theorem d_Mod_laysCosts_1 : decode m_Mod_laysCosts.2.1 1 = .ok (.istore_n 1, 1) := by decide +kernel
theorem d_Mod_laysCosts_2 : decode m_Mod_laysCosts.2.1 2 = .ok (.iload_n 1, 1) := by decide +kernel
theorem d_Mod_laysCosts_3 : decode m_Mod_laysCosts.2.1 3 = .ok (.bipush 6, 2) := by decide +kernel
theorem d_Mod_laysCosts_5 : decode m_Mod_laysCosts.2.1 5 = .ok (.if_icmp .ge 61, 3) := by decide +kernel
theorem d_Mod_laysCosts_8 : decode m_Mod_laysCosts.2.1 8 = .ok (.iconst 0, 1) := by decide +kernel
theorem d_Mod_laysCosts_9 : decode m_Mod_laysCosts.2.1 9 = .ok (.istore_n 2, 1) := by decide +kernel
theorem d_Mod_laysCosts_10 : decode m_Mod_laysCosts.2.1 10 = .ok (.iload_n 2, 1) := by decide +kernel
theorem d_Mod_laysCosts_11 : decode m_Mod_laysCosts.2.1 11 = .ok (.aload_n 0, 1) := by decide +kernel
theorem d_Mod_laysCosts_12 : decode m_Mod_laysCosts.2.1 12 = .ok (.invokevirtual 125, 3) := by decide +kernel
theorem d_Mod_laysCosts_15 : decode m_Mod_laysCosts.2.1 15 = .ok (.if_icmp .gt 45, 3) := by decide +kernel
theorem d_Mod_laysCosts_18 : decode m_Mod_laysCosts.2.1 18 = .ok (.aload_n 0, 1) := by decide +kernel
theorem d_Mod_laysCosts_19 : decode m_Mod_laysCosts.2.1 19 = .ok (.getfield 85, 3) := by decide +kernel
theorem d_Mod_laysCosts_22 : decode m_Mod_laysCosts.2.1 22 = .ok (.bipush 21, 2) := by decide +kernel
theorem d_Mod_laysCosts_24 : decode m_Mod_laysCosts.2.1 24 = .ok (.iload_n 1, 1) := by decide +kernel
theorem d_Mod_laysCosts_25 : decode m_Mod_laysCosts.2.1 25 = .ok (.imul, 1) := by decide +kernel
theorem d_Mod_laysCosts_26 : decode m_Mod_laysCosts.2.1 26 = .ok (.iload_n 2, 1) := by decide +kernel
theorem d_Mod_laysCosts_27 : decode m_Mod_laysCosts.2.1 27 = .ok (.iadd, 1) := by decide +kernel
theorem d_Mod_laysCosts_28 : decode m_Mod_laysCosts.2.1 28 = .ok (.aload_n 0, 1) := by decide +kernel
theorem d_Mod_laysCosts_29 : decode m_Mod_laysCosts.2.1 29 = .ok (.iload_n 1, 1) := by decide +kernel
theorem d_Mod_laysCosts_30 : decode m_Mod_laysCosts.2.1 30 = .ok (.iload_n 2, 1) := by decide +kernel
theorem d_Mod_laysCosts_31 : decode m_Mod_laysCosts.2.1 31 = .ok (.invokevirtual 330, 3) := by decide +kernel
theorem d_Mod_laysCosts_34 : decode m_Mod_laysCosts.2.1 34 = .ok (.ifCond .eq 8, 3) := by decide +kernel
theorem d_Mod_laysCosts_37 : decode m_Mod_laysCosts.2.1 37 = .ok (.ldc 158, 2) := by decide +kernel
theorem d_Mod_laysCosts_39 : decode m_Mod_laysCosts.2.1 39 = .ok (.goto 14, 3) := by decide +kernel
theorem d_Mod_laysCosts_42 : decode m_Mod_laysCosts.2.1 42 = .ok (.bipush 64, 2) := by decide +kernel
theorem d_Mod_laysCosts_44 : decode m_Mod_laysCosts.2.1 44 = .ok (.aload_n 0, 1) := by decide +kernel
theorem d_Mod_laysCosts_45 : decode m_Mod_laysCosts.2.1 45 = .ok (.iload_n 1, 1) := by decide +kernel
theorem d_Mod_laysCosts_46 : decode m_Mod_laysCosts.2.1 46 = .ok (.iload_n 2, 1) := by decide +kernel
theorem d_Mod_laysCosts_47 : decode m_Mod_laysCosts.2.1 47 = .ok (.invokevirtual 327, 3) := by decide +kernel
theorem d_Mod_laysCosts_50 : decode m_Mod_laysCosts.2.1 50 = .ok (.imul, 1) := by decide +kernel
theorem d_Mod_laysCosts_51 : decode m_Mod_laysCosts.2.1 51 = .ok (.iconst 1, 1) := by decide +kernel
theorem d_Mod_laysCosts_52 : decode m_Mod_laysCosts.2.1 52 = .ok (.iadd, 1) := by decide +kernel
theorem d_Mod_laysCosts_53 : decode m_Mod_laysCosts.2.1 53 = .ok (.iastore, 1) := by decide +kernel
theorem d_Mod_laysCosts_54 : decode m_Mod_laysCosts.2.1 54 = .ok (.iinc 2 1, 3) := by decide +kernel
theorem d_Mod_laysCosts_57 : decode m_Mod_laysCosts.2.1 57 = .ok (.goto (-47), 3) := by decide +kernel
theorem d_Mod_laysCosts_60 : decode m_Mod_laysCosts.2.1 60 = .ok (.iinc 1 1, 3) := by decide +kernel
theorem d_Mod_laysCosts_63 : decode m_Mod_laysCosts.2.1 63 = .ok (.goto (-61), 3) := by decide +kernel
theorem d_Mod_laysCosts_66 : decode m_Mod_laysCosts.2.1 66 = .ok (.return_, 1) := by decide +kernel
theorem d_Mod_mendsAhead_0 : decode m_Mod_mendsAhead.2.1 0 = .ok (.ldc 158, 2) := by decide +kernel
theorem d_Mod_mendsAhead_2 : decode m_Mod_mendsAhead.2.1 2 = .ok (.istore_n 3, 1) := by decide +kernel
theorem d_Mod_mendsAhead_3 : decode m_Mod_mendsAhead.2.1 3 = .ok (.iload_n 1, 1) := by decide +kernel
theorem d_Mod_mendsAhead_4 : decode m_Mod_mendsAhead.2.1 4 = .ok (.istore 4, 2) := by decide +kernel
theorem d_Mod_mendsAhead_6 : decode m_Mod_mendsAhead.2.1 6 = .ok (.iload 4, 2) := by decide +kernel
theorem d_Mod_mendsAhead_8 : decode m_Mod_mendsAhead.2.1 8 = .ok (.iload_n 2, 1) := by decide +kernel
theorem d_Mod_mendsAhead_9 : decode m_Mod_mendsAhead.2.1 9 = .ok (.if_icmp .ge 63, 3) := by decide +kernel
theorem d_Mod_mendsAhead_12 : decode m_Mod_mendsAhead.2.1 12 = .ok (.aload_n 0, 1) := by decide +kernel
theorem d_Mod_mendsAhead_13 : decode m_Mod_mendsAhead.2.1 13 = .ok (.iload 4, 2) := by decide +kernel
theorem d_Mod_mendsAhead_15 : decode m_Mod_mendsAhead.2.1 15 = .ok (.invokevirtual 324, 3) := by decide +kernel
theorem d_Mod_mendsAhead_18 : decode m_Mod_mendsAhead.2.1 18 = .ok (.invokestatic 333, 3) := by decide +kernel
theorem d_Mod_mendsAhead_21 : decode m_Mod_mendsAhead.2.1 21 = .ok (.ifCond .eq 45, 3) := by decide +kernel
theorem d_Mod_mendsAhead_24 : decode m_Mod_mendsAhead.2.1 24 = .ok (.iload_n 3, 1) := by decide +kernel
theorem d_Mod_mendsAhead_25 : decode m_Mod_mendsAhead.2.1 25 = .ok (.aload_n 0, 1) := by decide +kernel
theorem d_Mod_mendsAhead_26 : decode m_Mod_mendsAhead.2.1 26 = .ok (.getfield 85, 3) := by decide +kernel
theorem d_Mod_mendsAhead_29 : decode m_Mod_mendsAhead.2.1 29 = .ok (.bipush 21, 2) := by decide +kernel
theorem d_Mod_mendsAhead_31 : decode m_Mod_mendsAhead.2.1 31 = .ok (.aload_n 0, 1) := by decide +kernel
theorem d_Mod_mendsAhead_32 : decode m_Mod_mendsAhead.2.1 32 = .ok (.iload 4, 2) := by decide +kernel
theorem d_Mod_mendsAhead_34 : decode m_Mod_mendsAhead.2.1 34 = .ok (.invokevirtual 324, 3) := by decide +kernel
theorem d_Mod_mendsAhead_37 : decode m_Mod_mendsAhead.2.1 37 = .ok (.invokestatic 309, 3) := by decide +kernel
theorem d_Mod_mendsAhead_40 : decode m_Mod_mendsAhead.2.1 40 = .ok (.imul, 1) := by decide +kernel
theorem d_Mod_mendsAhead_41 : decode m_Mod_mendsAhead.2.1 41 = .ok (.iload_n 1, 1) := by decide +kernel
theorem d_Mod_mendsAhead_42 : decode m_Mod_mendsAhead.2.1 42 = .ok (.iadd, 1) := by decide +kernel
theorem d_Mod_mendsAhead_43 : decode m_Mod_mendsAhead.2.1 43 = .ok (.iaload, 1) := by decide +kernel
theorem d_Mod_mendsAhead_44 : decode m_Mod_mendsAhead.2.1 44 = .ok (.aload_n 0, 1) := by decide +kernel
theorem d_Mod_mendsAhead_45 : decode m_Mod_mendsAhead.2.1 45 = .ok (.iload_n 1, 1) := by decide +kernel
theorem d_Mod_mendsAhead_46 : decode m_Mod_mendsAhead.2.1 46 = .ok (.iload 4, 2) := by decide +kernel
theorem d_Mod_mendsAhead_48 : decode m_Mod_mendsAhead.2.1 48 = .ok (.invokevirtual 384, 3) := by decide +kernel
theorem d_Mod_mendsAhead_51 : decode m_Mod_mendsAhead.2.1 51 = .ok (.iadd, 1) := by decide +kernel
theorem d_Mod_mendsAhead_52 : decode m_Mod_mendsAhead.2.1 52 = .ok (.aload_n 0, 1) := by decide +kernel
theorem d_Mod_mendsAhead_53 : decode m_Mod_mendsAhead.2.1 53 = .ok (.iload 4, 2) := by decide +kernel
theorem d_Mod_mendsAhead_55 : decode m_Mod_mendsAhead.2.1 55 = .ok (.iconst 1, 1) := by decide +kernel
theorem d_Mod_mendsAhead_56 : decode m_Mod_mendsAhead.2.1 56 = .ok (.iadd, 1) := by decide +kernel
theorem d_Mod_mendsAhead_57 : decode m_Mod_mendsAhead.2.1 57 = .ok (.iload_n 2, 1) := by decide +kernel
theorem d_Mod_mendsAhead_58 : decode m_Mod_mendsAhead.2.1 58 = .ok (.invokevirtual 384, 3) := by decide +kernel
theorem d_Mod_mendsAhead_61 : decode m_Mod_mendsAhead.2.1 61 = .ok (.iadd, 1) := by decide +kernel
theorem d_Mod_mendsAhead_62 : decode m_Mod_mendsAhead.2.1 62 = .ok (.invokestatic 387, 3) := by decide +kernel
theorem d_Mod_mendsAhead_65 : decode m_Mod_mendsAhead.2.1 65 = .ok (.istore_n 3, 1) := by decide +kernel
theorem d_Mod_mendsAhead_66 : decode m_Mod_mendsAhead.2.1 66 = .ok (.iinc 4 1, 3) := by decide +kernel
theorem d_Mod_mendsAhead_69 : decode m_Mod_mendsAhead.2.1 69 = .ok (.goto (-63), 3) := by decide +kernel
theorem d_Mod_mendsAhead_72 : decode m_Mod_mendsAhead.2.1 72 = .ok (.iload_n 3, 1) := by decide +kernel
theorem d_Mod_mendsAhead_73 : decode m_Mod_mendsAhead.2.1 73 = .ok (.ireturn, 1) := by decide +kernel
theorem d_Mod_leastOf_0 : decode m_Mod_leastOf.2.1 0 = .ok (.aload_n 0, 1) := by decide +kernel
theorem d_Mod_leastOf_1 : decode m_Mod_leastOf.2.1 1 = .ok (.getfield 82, 3) := by decide +kernel
theorem d_Mod_leastOf_4 : decode m_Mod_leastOf.2.1 4 = .ok (.bipush 21, 2) := by decide +kernel
theorem d_Mod_leastOf_6 : decode m_Mod_leastOf.2.1 6 = .ok (.iload_n 1, 1) := by decide +kernel
theorem d_Mod_leastOf_7 : decode m_Mod_leastOf.2.1 7 = .ok (.imul, 1) := by decide +kernel
theorem d_Mod_leastOf_8 : decode m_Mod_leastOf.2.1 8 = .ok (.iload_n 2, 1) := by decide +kernel
theorem d_Mod_leastOf_9 : decode m_Mod_leastOf.2.1 9 = .ok (.iadd, 1) := by decide +kernel
theorem d_Mod_leastOf_10 : decode m_Mod_leastOf.2.1 10 = .ok (.iaload, 1) := by decide +kernel
theorem d_Mod_leastOf_11 : decode m_Mod_leastOf.2.1 11 = .ok (.ireturn, 1) := by decide +kernel
theorem d_Mod_lesser_0 : decode m_Mod_lesser.2.1 0 = .ok (.iload_n 0, 1) := by decide +kernel
theorem d_Mod_lesser_1 : decode m_Mod_lesser.2.1 1 = .ok (.iload_n 1, 1) := by decide +kernel
theorem d_Mod_lesser_2 : decode m_Mod_lesser.2.1 2 = .ok (.if_icmp .ge 7, 3) := by decide +kernel
theorem d_Mod_lesser_5 : decode m_Mod_lesser.2.1 5 = .ok (.iload_n 0, 1) := by decide +kernel
theorem d_Mod_lesser_6 : decode m_Mod_lesser.2.1 6 = .ok (.goto 4, 3) := by decide +kernel
theorem d_Mod_lesser_9 : decode m_Mod_lesser.2.1 9 = .ok (.iload_n 1, 1) := by decide +kernel
theorem d_Mod_lesser_10 : decode m_Mod_lesser.2.1 10 = .ok (.ireturn, 1) := by decide +kernel
theorem d_Mod_mendsOpen_0 : decode m_Mod_mendsOpen.2.1 0 = .ok (.ldc 158, 2) := by decide +kernel
theorem d_Mod_mendsOpen_2 : decode m_Mod_mendsOpen.2.1 2 = .ok (.istore_n 3, 1) := by decide +kernel
theorem d_Mod_mendsOpen_3 : decode m_Mod_mendsOpen.2.1 3 = .ok (.iload_n 1, 1) := by decide +kernel
theorem d_Mod_mendsOpen_4 : decode m_Mod_mendsOpen.2.1 4 = .ok (.iconst 1, 1) := by decide +kernel
theorem d_Mod_mendsOpen_5 : decode m_Mod_mendsOpen.2.1 5 = .ok (.iadd, 1) := by decide +kernel
theorem d_Mod_mendsOpen_6 : decode m_Mod_mendsOpen.2.1 6 = .ok (.istore 4, 2) := by decide +kernel
theorem d_Mod_mendsOpen_8 : decode m_Mod_mendsOpen.2.1 8 = .ok (.iload 4, 2) := by decide +kernel
theorem d_Mod_mendsOpen_10 : decode m_Mod_mendsOpen.2.1 10 = .ok (.iload_n 2, 1) := by decide +kernel
theorem d_Mod_mendsOpen_11 : decode m_Mod_mendsOpen.2.1 11 = .ok (.if_icmp .ge 43, 3) := by decide +kernel
theorem d_Mod_mendsOpen_14 : decode m_Mod_mendsOpen.2.1 14 = .ok (.aload_n 0, 1) := by decide +kernel
theorem d_Mod_mendsOpen_15 : decode m_Mod_mendsOpen.2.1 15 = .ok (.iload_n 1, 1) := by decide +kernel
theorem d_Mod_mendsOpen_16 : decode m_Mod_mendsOpen.2.1 16 = .ok (.iload 4, 2) := by decide +kernel
theorem d_Mod_mendsOpen_18 : decode m_Mod_mendsOpen.2.1 18 = .ok (.invokevirtual 381, 3) := by decide +kernel
theorem d_Mod_mendsOpen_21 : decode m_Mod_mendsOpen.2.1 21 = .ok (.ifCond .eq 27, 3) := by decide +kernel
theorem d_Mod_mendsOpen_24 : decode m_Mod_mendsOpen.2.1 24 = .ok (.iload_n 3, 1) := by decide +kernel
theorem d_Mod_mendsOpen_25 : decode m_Mod_mendsOpen.2.1 25 = .ok (.aload_n 0, 1) := by decide +kernel
theorem d_Mod_mendsOpen_26 : decode m_Mod_mendsOpen.2.1 26 = .ok (.iload_n 1, 1) := by decide +kernel
theorem d_Mod_mendsOpen_27 : decode m_Mod_mendsOpen.2.1 27 = .ok (.iconst 1, 1) := by decide +kernel
theorem d_Mod_mendsOpen_28 : decode m_Mod_mendsOpen.2.1 28 = .ok (.iadd, 1) := by decide +kernel
theorem d_Mod_mendsOpen_29 : decode m_Mod_mendsOpen.2.1 29 = .ok (.iload 4, 2) := by decide +kernel
theorem d_Mod_mendsOpen_31 : decode m_Mod_mendsOpen.2.1 31 = .ok (.invokevirtual 384, 3) := by decide +kernel
theorem d_Mod_mendsOpen_34 : decode m_Mod_mendsOpen.2.1 34 = .ok (.aload_n 0, 1) := by decide +kernel
theorem d_Mod_mendsOpen_35 : decode m_Mod_mendsOpen.2.1 35 = .ok (.iload 4, 2) := by decide +kernel
theorem d_Mod_mendsOpen_37 : decode m_Mod_mendsOpen.2.1 37 = .ok (.iconst 1, 1) := by decide +kernel
theorem d_Mod_mendsOpen_38 : decode m_Mod_mendsOpen.2.1 38 = .ok (.iadd, 1) := by decide +kernel
theorem d_Mod_mendsOpen_39 : decode m_Mod_mendsOpen.2.1 39 = .ok (.iload_n 2, 1) := by decide +kernel
theorem d_Mod_mendsOpen_40 : decode m_Mod_mendsOpen.2.1 40 = .ok (.invokevirtual 384, 3) := by decide +kernel
theorem d_Mod_mendsOpen_43 : decode m_Mod_mendsOpen.2.1 43 = .ok (.iadd, 1) := by decide +kernel
theorem d_Mod_mendsOpen_44 : decode m_Mod_mendsOpen.2.1 44 = .ok (.invokestatic 387, 3) := by decide +kernel
theorem d_Mod_mendsOpen_47 : decode m_Mod_mendsOpen.2.1 47 = .ok (.istore_n 3, 1) := by decide +kernel
theorem d_Mod_mendsOpen_48 : decode m_Mod_mendsOpen.2.1 48 = .ok (.iinc 4 1, 3) := by decide +kernel
theorem d_Mod_mendsOpen_51 : decode m_Mod_mendsOpen.2.1 51 = .ok (.goto (-43), 3) := by decide +kernel
theorem d_Mod_mendsOpen_54 : decode m_Mod_mendsOpen.2.1 54 = .ok (.bipush 21, 2) := by decide +kernel
theorem d_Mod_mendsOpen_56 : decode m_Mod_mendsOpen.2.1 56 = .ok (.iconst 3, 1) := by decide +kernel
theorem d_Mod_mendsOpen_57 : decode m_Mod_mendsOpen.2.1 57 = .ok (.aload_n 0, 1) := by decide +kernel
theorem d_Mod_mendsOpen_58 : decode m_Mod_mendsOpen.2.1 58 = .ok (.iload_n 1, 1) := by decide +kernel
theorem d_Mod_mendsOpen_59 : decode m_Mod_mendsOpen.2.1 59 = .ok (.invokevirtual 324, 3) := by decide +kernel
theorem d_Mod_mendsOpen_62 : decode m_Mod_mendsOpen.2.1 62 = .ok (.invokestatic 309, 3) := by decide +kernel
theorem d_Mod_mendsOpen_65 : decode m_Mod_mendsOpen.2.1 65 = .ok (.iadd, 1) := by decide +kernel
theorem d_Mod_mendsOpen_66 : decode m_Mod_mendsOpen.2.1 66 = .ok (.imul, 1) := by decide +kernel
theorem d_Mod_mendsOpen_67 : decode m_Mod_mendsOpen.2.1 67 = .ok (.istore 4, 2) := by decide +kernel
theorem d_Mod_mendsOpen_69 : decode m_Mod_mendsOpen.2.1 69 = .ok (.iload_n 1, 1) := by decide +kernel
theorem d_Mod_mendsOpen_70 : decode m_Mod_mendsOpen.2.1 70 = .ok (.iconst 1, 1) := by decide +kernel
theorem d_Mod_mendsOpen_71 : decode m_Mod_mendsOpen.2.1 71 = .ok (.iadd, 1) := by decide +kernel
theorem d_Mod_mendsOpen_72 : decode m_Mod_mendsOpen.2.1 72 = .ok (.istore 5, 2) := by decide +kernel
theorem d_Mod_mendsOpen_74 : decode m_Mod_mendsOpen.2.1 74 = .ok (.iload 5, 2) := by decide +kernel
theorem d_Mod_mendsOpen_76 : decode m_Mod_mendsOpen.2.1 76 = .ok (.iload_n 2, 1) := by decide +kernel
theorem d_Mod_mendsOpen_77 : decode m_Mod_mendsOpen.2.1 77 = .ok (.if_icmp .gt 42, 3) := by decide +kernel
theorem d_Mod_mendsOpen_80 : decode m_Mod_mendsOpen.2.1 80 = .ok (.iload_n 3, 1) := by decide +kernel
theorem d_Mod_mendsOpen_81 : decode m_Mod_mendsOpen.2.1 81 = .ok (.aload_n 0, 1) := by decide +kernel
theorem d_Mod_mendsOpen_82 : decode m_Mod_mendsOpen.2.1 82 = .ok (.iload_n 1, 1) := by decide +kernel
theorem d_Mod_mendsOpen_83 : decode m_Mod_mendsOpen.2.1 83 = .ok (.iconst 1, 1) := by decide +kernel
theorem d_Mod_mendsOpen_84 : decode m_Mod_mendsOpen.2.1 84 = .ok (.iadd, 1) := by decide +kernel
theorem d_Mod_mendsOpen_85 : decode m_Mod_mendsOpen.2.1 85 = .ok (.iload 5, 2) := by decide +kernel
theorem d_Mod_mendsOpen_87 : decode m_Mod_mendsOpen.2.1 87 = .ok (.invokevirtual 384, 3) := by decide +kernel
theorem d_Mod_mendsOpen_90 : decode m_Mod_mendsOpen.2.1 90 = .ok (.aload_n 0, 1) := by decide +kernel
theorem d_Mod_mendsOpen_91 : decode m_Mod_mendsOpen.2.1 91 = .ok (.getfield 85, 3) := by decide +kernel
theorem d_Mod_mendsOpen_94 : decode m_Mod_mendsOpen.2.1 94 = .ok (.iload 4, 2) := by decide +kernel
theorem d_Mod_mendsOpen_96 : decode m_Mod_mendsOpen.2.1 96 = .ok (.iload 5, 2) := by decide +kernel
theorem d_Mod_mendsOpen_98 : decode m_Mod_mendsOpen.2.1 98 = .ok (.iadd, 1) := by decide +kernel
theorem d_Mod_mendsOpen_99 : decode m_Mod_mendsOpen.2.1 99 = .ok (.iaload, 1) := by decide +kernel
theorem d_Mod_mendsOpen_100 : decode m_Mod_mendsOpen.2.1 100 = .ok (.iadd, 1) := by decide +kernel
theorem d_Mod_mendsOpen_101 : decode m_Mod_mendsOpen.2.1 101 = .ok (.aload_n 0, 1) := by decide +kernel
theorem d_Mod_mendsOpen_102 : decode m_Mod_mendsOpen.2.1 102 = .ok (.iload 5, 2) := by decide +kernel
theorem d_Mod_mendsOpen_104 : decode m_Mod_mendsOpen.2.1 104 = .ok (.iload_n 2, 1) := by decide +kernel
theorem d_Mod_mendsOpen_105 : decode m_Mod_mendsOpen.2.1 105 = .ok (.invokevirtual 384, 3) := by decide +kernel
theorem d_Mod_mendsOpen_108 : decode m_Mod_mendsOpen.2.1 108 = .ok (.iadd, 1) := by decide +kernel
theorem d_Mod_mendsOpen_109 : decode m_Mod_mendsOpen.2.1 109 = .ok (.invokestatic 387, 3) := by decide +kernel
theorem d_Mod_mendsOpen_112 : decode m_Mod_mendsOpen.2.1 112 = .ok (.istore_n 3, 1) := by decide +kernel
theorem d_Mod_mendsOpen_113 : decode m_Mod_mendsOpen.2.1 113 = .ok (.iinc 5 1, 3) := by decide +kernel
theorem d_Mod_mendsOpen_116 : decode m_Mod_mendsOpen.2.1 116 = .ok (.goto (-42), 3) := by decide +kernel
theorem d_Mod_mendsOpen_119 : decode m_Mod_mendsOpen.2.1 119 = .ok (.iload_n 3, 1) := by decide +kernel
theorem d_Mod_mendsOpen_120 : decode m_Mod_mendsOpen.2.1 120 = .ok (.ireturn, 1) := by decide +kernel
theorem d_Mod_arePair_0 : decode m_Mod_arePair.2.1 0 = .ok (.aload_n 0, 1) := by decide +kernel
theorem d_Mod_arePair_1 : decode m_Mod_arePair.2.1 1 = .ok (.iload_n 1, 1) := by decide +kernel
theorem d_Mod_arePair_2 : decode m_Mod_arePair.2.1 2 = .ok (.invokevirtual 324, 3) := by decide +kernel
theorem d_Mod_arePair_5 : decode m_Mod_arePair.2.1 5 = .ok (.invokestatic 312, 3) := by decide +kernel
theorem d_Mod_arePair_8 : decode m_Mod_arePair.2.1 8 = .ok (.ifCond .eq 37, 3) := by decide +kernel
theorem d_Mod_arePair_11 : decode m_Mod_arePair.2.1 11 = .ok (.aload_n 0, 1) := by decide +kernel
theorem d_Mod_arePair_12 : decode m_Mod_arePair.2.1 12 = .ok (.iload_n 2, 1) := by decide +kernel
theorem d_Mod_arePair_13 : decode m_Mod_arePair.2.1 13 = .ok (.invokevirtual 324, 3) := by decide +kernel
theorem d_Mod_arePair_16 : decode m_Mod_arePair.2.1 16 = .ok (.invokestatic 333, 3) := by decide +kernel
theorem d_Mod_arePair_19 : decode m_Mod_arePair.2.1 19 = .ok (.ifCond .eq 26, 3) := by decide +kernel
theorem d_Mod_arePair_22 : decode m_Mod_arePair.2.1 22 = .ok (.aload_n 0, 1) := by decide +kernel
theorem d_Mod_arePair_23 : decode m_Mod_arePair.2.1 23 = .ok (.iload_n 1, 1) := by decide +kernel
theorem d_Mod_arePair_24 : decode m_Mod_arePair.2.1 24 = .ok (.invokevirtual 324, 3) := by decide +kernel
theorem d_Mod_arePair_27 : decode m_Mod_arePair.2.1 27 = .ok (.invokestatic 309, 3) := by decide +kernel
theorem d_Mod_arePair_30 : decode m_Mod_arePair.2.1 30 = .ok (.aload_n 0, 1) := by decide +kernel
theorem d_Mod_arePair_31 : decode m_Mod_arePair.2.1 31 = .ok (.iload_n 2, 1) := by decide +kernel
theorem d_Mod_arePair_32 : decode m_Mod_arePair.2.1 32 = .ok (.invokevirtual 324, 3) := by decide +kernel
theorem d_Mod_arePair_35 : decode m_Mod_arePair.2.1 35 = .ok (.invokestatic 309, 3) := by decide +kernel
theorem d_Mod_arePair_38 : decode m_Mod_arePair.2.1 38 = .ok (.if_icmp .ne 7, 3) := by decide +kernel
theorem d_Mod_arePair_41 : decode m_Mod_arePair.2.1 41 = .ok (.iconst 1, 1) := by decide +kernel
theorem d_Mod_arePair_42 : decode m_Mod_arePair.2.1 42 = .ok (.goto 4, 3) := by decide +kernel
theorem d_Mod_arePair_45 : decode m_Mod_arePair.2.1 45 = .ok (.iconst 0, 1) := by decide +kernel
theorem d_Mod_arePair_46 : decode m_Mod_arePair.2.1 46 = .ok (.ireturn, 1) := by decide +kernel
theorem d_Mod_compare_0 : decode m_Mod_compare.2.1 0 = .ok (.aload_n 0, 1) := by decide +kernel
theorem d_Mod_compare_1 : decode m_Mod_compare.2.1 1 = .ok (.iload_n 1, 1) := by decide +kernel
theorem d_Mod_compare_2 : decode m_Mod_compare.2.1 2 = .ok (.invokevirtual 243, 3) := by decide +kernel
theorem d_Mod_compare_5 : decode m_Mod_compare.2.1 5 = .ok (.ifCond .ne 5, 3) := by decide +kernel
theorem d_Mod_compare_8 : decode m_Mod_compare.2.1 8 = .ok (.iconst (-1), 1) := by decide +kernel
theorem d_Mod_compare_9 : decode m_Mod_compare.2.1 9 = .ok (.ireturn, 1) := by decide +kernel
theorem d_Mod_compare_10 : decode m_Mod_compare.2.1 10 = .ok (.aload_n 0, 1) := by decide +kernel
theorem d_Mod_compare_11 : decode m_Mod_compare.2.1 11 = .ok (.getfield 32, 3) := by decide +kernel
theorem d_Mod_compare_14 : decode m_Mod_compare.2.1 14 = .ok (.bipush 25, 2) := by decide +kernel
theorem d_Mod_compare_16 : decode m_Mod_compare.2.1 16 = .ok (.iaload, 1) := by decide +kernel
theorem d_Mod_compare_17 : decode m_Mod_compare.2.1 17 = .ok (.istore_n 2, 1) := by decide +kernel
theorem d_Mod_compare_18 : decode m_Mod_compare.2.1 18 = .ok (.aload_n 0, 1) := by decide +kernel
theorem d_Mod_compare_19 : decode m_Mod_compare.2.1 19 = .ok (.getfield 32, 3) := by decide +kernel
theorem d_Mod_compare_22 : decode m_Mod_compare.2.1 22 = .ok (.bipush 25, 2) := by decide +kernel
theorem d_Mod_compare_24 : decode m_Mod_compare.2.1 24 = .ok (.iload_n 1, 1) := by decide +kernel
theorem d_Mod_compare_25 : decode m_Mod_compare.2.1 25 = .ok (.iastore, 1) := by decide +kernel
theorem d_Mod_compare_26 : decode m_Mod_compare.2.1 26 = .ok (.aload_n 0, 1) := by decide +kernel
theorem d_Mod_compare_27 : decode m_Mod_compare.2.1 27 = .ok (.iconst 0, 1) := by decide +kernel
theorem d_Mod_compare_28 : decode m_Mod_compare.2.1 28 = .ok (.invokevirtual 402, 3) := by decide +kernel
theorem d_Mod_compare_31 : decode m_Mod_compare.2.1 31 = .ok (.istore_n 3, 1) := by decide +kernel
theorem d_Mod_compare_32 : decode m_Mod_compare.2.1 32 = .ok (.aload_n 0, 1) := by decide +kernel
theorem d_Mod_compare_33 : decode m_Mod_compare.2.1 33 = .ok (.getfield 32, 3) := by decide +kernel
theorem d_Mod_compare_36 : decode m_Mod_compare.2.1 36 = .ok (.bipush 25, 2) := by decide +kernel
theorem d_Mod_compare_38 : decode m_Mod_compare.2.1 38 = .ok (.iload_n 2, 1) := by decide +kernel
theorem d_Mod_compare_39 : decode m_Mod_compare.2.1 39 = .ok (.iastore, 1) := by decide +kernel
theorem d_Mod_compare_40 : decode m_Mod_compare.2.1 40 = .ok (.iload_n 3, 1) := by decide +kernel
theorem d_Mod_compare_41 : decode m_Mod_compare.2.1 41 = .ok (.ireturn, 1) := by decide +kernel
theorem d_Mod_strike_0 : decode m_Mod_strike.2.1 0 = .ok (.iload_n 1, 1) := by decide +kernel
theorem d_Mod_strike_1 : decode m_Mod_strike.2.1 1 = .ok (.iconst 0, 1) := by decide +kernel
theorem d_Mod_strike_2 : decode m_Mod_strike.2.1 2 = .ok (.aload_n 0, 1) := by decide +kernel
theorem d_Mod_strike_3 : decode m_Mod_strike.2.1 3 = .ok (.invokevirtual 125, 3) := by decide +kernel
theorem d_Mod_strike_6 : decode m_Mod_strike.2.1 6 = .ok (.invokestatic 18, 3) := by decide +kernel
theorem d_Mod_strike_9 : decode m_Mod_strike.2.1 9 = .ok (.ifCond .ne 5, 3) := by decide +kernel
theorem d_Mod_strike_12 : decode m_Mod_strike.2.1 12 = .ok (.iconst (-1), 1) := by decide +kernel
theorem d_Mod_strike_13 : decode m_Mod_strike.2.1 13 = .ok (.ireturn, 1) := by decide +kernel
theorem d_Mod_strike_14 : decode m_Mod_strike.2.1 14 = .ok (.aload_n 0, 1) := by decide +kernel
theorem d_Mod_strike_15 : decode m_Mod_strike.2.1 15 = .ok (.invokevirtual 411, 3) := by decide +kernel
theorem d_Mod_strike_18 : decode m_Mod_strike.2.1 18 = .ok (.iload_n 1, 1) := by decide +kernel
theorem d_Mod_strike_19 : decode m_Mod_strike.2.1 19 = .ok (.ifCond .ne 13, 3) := by decide +kernel
theorem d_Mod_strike_22 : decode m_Mod_strike.2.1 22 = .ok (.aload_n 0, 1) := by decide +kernel
theorem d_Mod_strike_23 : decode m_Mod_strike.2.1 23 = .ok (.iconst 0, 1) := by decide +kernel
theorem d_Mod_strike_24 : decode m_Mod_strike.2.1 24 = .ok (.aload_n 0, 1) := by decide +kernel
theorem d_Mod_strike_25 : decode m_Mod_strike.2.1 25 = .ok (.invokevirtual 125, 3) := by decide +kernel
theorem d_Mod_strike_28 : decode m_Mod_strike.2.1 28 = .ok (.invokevirtual 384, 3) := by decide +kernel
theorem d_Mod_strike_31 : decode m_Mod_strike.2.1 31 = .ok (.ireturn, 1) := by decide +kernel
theorem d_Mod_strike_32 : decode m_Mod_strike.2.1 32 = .ok (.aload_n 0, 1) := by decide +kernel
theorem d_Mod_strike_33 : decode m_Mod_strike.2.1 33 = .ok (.iconst 0, 1) := by decide +kernel
theorem d_Mod_strike_34 : decode m_Mod_strike.2.1 34 = .ok (.aload_n 0, 1) := by decide +kernel
theorem d_Mod_strike_35 : decode m_Mod_strike.2.1 35 = .ok (.invokevirtual 125, 3) := by decide +kernel
theorem d_Mod_strike_38 : decode m_Mod_strike.2.1 38 = .ok (.invokevirtual 408, 3) := by decide +kernel
theorem d_Mod_strike_41 : decode m_Mod_strike.2.1 41 = .ok (.aload_n 0, 1) := by decide +kernel
theorem d_Mod_strike_42 : decode m_Mod_strike.2.1 42 = .ok (.getfield 91, 3) := by decide +kernel
theorem d_Mod_strike_45 : decode m_Mod_strike.2.1 45 = .ok (.iload_n 1, 1) := by decide +kernel
theorem d_Mod_strike_46 : decode m_Mod_strike.2.1 46 = .ok (.iconst 1, 1) := by decide +kernel
theorem d_Mod_strike_47 : decode m_Mod_strike.2.1 47 = .ok (.isub, 1) := by decide +kernel
theorem d_Mod_strike_48 : decode m_Mod_strike.2.1 48 = .ok (.baload, 1) := by decide +kernel
theorem d_Mod_strike_49 : decode m_Mod_strike.2.1 49 = .ok (.ifCond .eq 7, 3) := by decide +kernel
theorem d_Mod_strike_52 : decode m_Mod_strike.2.1 52 = .ok (.iconst 1, 1) := by decide +kernel
theorem d_Mod_strike_53 : decode m_Mod_strike.2.1 53 = .ok (.goto 4, 3) := by decide +kernel
theorem d_Mod_strike_56 : decode m_Mod_strike.2.1 56 = .ok (.iconst 0, 1) := by decide +kernel
theorem d_Mod_strike_57 : decode m_Mod_strike.2.1 57 = .ok (.ireturn, 1) := by decide +kernel
theorem d_Mod_laysStruck_0 : decode m_Mod_laysStruck.2.1 0 = .ok (.aload_n 0, 1) := by decide +kernel
theorem d_Mod_laysStruck_1 : decode m_Mod_laysStruck.2.1 1 = .ok (.invokevirtual 125, 3) := by decide +kernel
theorem d_Mod_laysStruck_4 : decode m_Mod_laysStruck.2.1 4 = .ok (.istore_n 1, 1) := by decide +kernel
theorem d_Mod_laysStruck_5 : decode m_Mod_laysStruck.2.1 5 = .ok (.iconst 0, 1) := by decide +kernel
theorem d_Mod_laysStruck_6 : decode m_Mod_laysStruck.2.1 6 = .ok (.istore_n 2, 1) := by decide +kernel
theorem d_Mod_laysStruck_7 : decode m_Mod_laysStruck.2.1 7 = .ok (.iload_n 2, 1) := by decide +kernel
theorem d_Mod_laysStruck_8 : decode m_Mod_laysStruck.2.1 8 = .ok (.iload_n 1, 1) := by decide +kernel
theorem d_Mod_laysStruck_9 : decode m_Mod_laysStruck.2.1 9 = .ok (.if_icmp .ge 20, 3) := by decide +kernel
theorem d_Mod_laysStruck_12 : decode m_Mod_laysStruck.2.1 12 = .ok (.aload_n 0, 1) := by decide +kernel
theorem d_Mod_laysStruck_13 : decode m_Mod_laysStruck.2.1 13 = .ok (.getfield 88, 3) := by decide +kernel
theorem d_Mod_laysStruck_16 : decode m_Mod_laysStruck.2.1 16 = .ok (.iload_n 2, 1) := by decide +kernel
theorem d_Mod_laysStruck_17 : decode m_Mod_laysStruck.2.1 17 = .ok (.aload_n 0, 1) := by decide +kernel
theorem d_Mod_laysStruck_18 : decode m_Mod_laysStruck.2.1 18 = .ok (.iload_n 2, 1) := by decide +kernel
theorem d_Mod_laysStruck_19 : decode m_Mod_laysStruck.2.1 19 = .ok (.invokevirtual 360, 3) := by decide +kernel
theorem d_Mod_laysStruck_22 : decode m_Mod_laysStruck.2.1 22 = .ok (.iastore, 1) := by decide +kernel
theorem d_Mod_laysStruck_23 : decode m_Mod_laysStruck.2.1 23 = .ok (.iinc 2 1, 3) := by decide +kernel
theorem d_Mod_laysStruck_26 : decode m_Mod_laysStruck.2.1 26 = .ok (.goto (-19), 3) := by decide +kernel
theorem d_Mod_laysStruck_29 : decode m_Mod_laysStruck.2.1 29 = .ok (.iload_n 1, 1) := by decide +kernel
theorem d_Mod_laysStruck_30 : decode m_Mod_laysStruck.2.1 30 = .ok (.istore_n 2, 1) := by decide +kernel
theorem d_Mod_laysStruck_31 : decode m_Mod_laysStruck.2.1 31 = .ok (.iload_n 2, 1) := by decide +kernel
theorem d_Mod_laysStruck_32 : decode m_Mod_laysStruck.2.1 32 = .ok (.ifCond .lt 134, 3) := by decide +kernel
theorem d_Mod_laysStruck_35 : decode m_Mod_laysStruck.2.1 35 = .ok (.aload_n 0, 1) := by decide +kernel
theorem d_Mod_laysStruck_36 : decode m_Mod_laysStruck.2.1 36 = .ok (.getfield 82, 3) := by decide +kernel
theorem d_Mod_laysStruck_39 : decode m_Mod_laysStruck.2.1 39 = .ok (.bipush 21, 2) := by decide +kernel
theorem d_Mod_laysStruck_41 : decode m_Mod_laysStruck.2.1 41 = .ok (.iload_n 2, 1) := by decide +kernel
theorem d_Mod_laysStruck_42 : decode m_Mod_laysStruck.2.1 42 = .ok (.imul, 1) := by decide +kernel
theorem d_Mod_laysStruck_43 : decode m_Mod_laysStruck.2.1 43 = .ok (.iload_n 2, 1) := by decide +kernel
theorem d_Mod_laysStruck_44 : decode m_Mod_laysStruck.2.1 44 = .ok (.iadd, 1) := by decide +kernel
theorem d_Mod_laysStruck_45 : decode m_Mod_laysStruck.2.1 45 = .ok (.iconst 0, 1) := by decide +kernel
theorem d_Mod_laysStruck_46 : decode m_Mod_laysStruck.2.1 46 = .ok (.iastore, 1) := by decide +kernel
theorem d_Mod_laysStruck_47 : decode m_Mod_laysStruck.2.1 47 = .ok (.iload_n 2, 1) := by decide +kernel
theorem d_Mod_laysStruck_48 : decode m_Mod_laysStruck.2.1 48 = .ok (.iconst 1, 1) := by decide +kernel
theorem d_Mod_laysStruck_49 : decode m_Mod_laysStruck.2.1 49 = .ok (.iadd, 1) := by decide +kernel
theorem d_Mod_laysStruck_50 : decode m_Mod_laysStruck.2.1 50 = .ok (.istore_n 3, 1) := by decide +kernel
theorem d_Mod_laysStruck_51 : decode m_Mod_laysStruck.2.1 51 = .ok (.iload_n 3, 1) := by decide +kernel
theorem d_Mod_laysStruck_52 : decode m_Mod_laysStruck.2.1 52 = .ok (.iload_n 1, 1) := by decide +kernel
theorem d_Mod_laysStruck_53 : decode m_Mod_laysStruck.2.1 53 = .ok (.if_icmp .gt 107, 3) := by decide +kernel
theorem d_Mod_laysStruck_56 : decode m_Mod_laysStruck.2.1 56 = .ok (.aload_n 0, 1) := by decide +kernel
theorem d_Mod_laysStruck_57 : decode m_Mod_laysStruck.2.1 57 = .ok (.iload_n 2, 1) := by decide +kernel
theorem d_Mod_laysStruck_58 : decode m_Mod_laysStruck.2.1 58 = .ok (.iconst 1, 1) := by decide +kernel
theorem d_Mod_laysStruck_59 : decode m_Mod_laysStruck.2.1 59 = .ok (.iadd, 1) := by decide +kernel
theorem d_Mod_laysStruck_60 : decode m_Mod_laysStruck.2.1 60 = .ok (.iload_n 3, 1) := by decide +kernel
theorem d_Mod_laysStruck_61 : decode m_Mod_laysStruck.2.1 61 = .ok (.invokevirtual 384, 3) := by decide +kernel
theorem d_Mod_laysStruck_64 : decode m_Mod_laysStruck.2.1 64 = .ok (.aload_n 0, 1) := by decide +kernel
theorem d_Mod_laysStruck_65 : decode m_Mod_laysStruck.2.1 65 = .ok (.iload_n 2, 1) := by decide +kernel
theorem d_Mod_laysStruck_66 : decode m_Mod_laysStruck.2.1 66 = .ok (.invokevirtual 324, 3) := by decide +kernel
theorem d_Mod_laysStruck_69 : decode m_Mod_laysStruck.2.1 69 = .ok (.invokestatic 22, 3) := by decide +kernel
theorem d_Mod_laysStruck_72 : decode m_Mod_laysStruck.2.1 72 = .ok (.ifCond .eq 7, 3) := by decide +kernel
theorem d_Mod_laysStruck_75 : decode m_Mod_laysStruck.2.1 75 = .ok (.iconst 0, 1) := by decide +kernel
theorem d_Mod_laysStruck_76 : decode m_Mod_laysStruck.2.1 76 = .ok (.goto 9, 3) := by decide +kernel
theorem d_Mod_laysStruck_79 : decode m_Mod_laysStruck.2.1 79 = .ok (.aload_n 0, 1) := by decide +kernel
theorem d_Mod_laysStruck_80 : decode m_Mod_laysStruck.2.1 80 = .ok (.getfield 88, 3) := by decide +kernel
theorem d_Mod_laysStruck_83 : decode m_Mod_laysStruck.2.1 83 = .ok (.iload_n 2, 1) := by decide +kernel
theorem d_Mod_laysStruck_84 : decode m_Mod_laysStruck.2.1 84 = .ok (.iaload, 1) := by decide +kernel
theorem d_Mod_laysStruck_85 : decode m_Mod_laysStruck.2.1 85 = .ok (.iadd, 1) := by decide +kernel
theorem d_Mod_laysStruck_86 : decode m_Mod_laysStruck.2.1 86 = .ok (.istore 4, 2) := by decide +kernel
theorem d_Mod_laysStruck_88 : decode m_Mod_laysStruck.2.1 88 = .ok (.iload_n 2, 1) := by decide +kernel
theorem d_Mod_laysStruck_89 : decode m_Mod_laysStruck.2.1 89 = .ok (.iconst 1, 1) := by decide +kernel
theorem d_Mod_laysStruck_90 : decode m_Mod_laysStruck.2.1 90 = .ok (.iadd, 1) := by decide +kernel
theorem d_Mod_laysStruck_91 : decode m_Mod_laysStruck.2.1 91 = .ok (.istore 5, 2) := by decide +kernel
theorem d_Mod_laysStruck_93 : decode m_Mod_laysStruck.2.1 93 = .ok (.iload 5, 2) := by decide +kernel
theorem d_Mod_laysStruck_95 : decode m_Mod_laysStruck.2.1 95 = .ok (.iload_n 3, 1) := by decide +kernel
theorem d_Mod_laysStruck_96 : decode m_Mod_laysStruck.2.1 96 = .ok (.if_icmp .ge 45, 3) := by decide +kernel
theorem d_Mod_laysStruck_99 : decode m_Mod_laysStruck.2.1 99 = .ok (.aload_n 0, 1) := by decide +kernel
theorem d_Mod_laysStruck_100 : decode m_Mod_laysStruck.2.1 100 = .ok (.iload_n 2, 1) := by decide +kernel
theorem d_Mod_laysStruck_101 : decode m_Mod_laysStruck.2.1 101 = .ok (.iload 5, 2) := by decide +kernel
theorem d_Mod_laysStruck_103 : decode m_Mod_laysStruck.2.1 103 = .ok (.invokevirtual 381, 3) := by decide +kernel
theorem d_Mod_laysStruck_106 : decode m_Mod_laysStruck.2.1 106 = .ok (.ifCond .eq 29, 3) := by decide +kernel
theorem d_Mod_laysStruck_109 : decode m_Mod_laysStruck.2.1 109 = .ok (.iload 4, 2) := by decide +kernel
theorem d_Mod_laysStruck_111 : decode m_Mod_laysStruck.2.1 111 = .ok (.aload_n 0, 1) := by decide +kernel
theorem d_Mod_laysStruck_112 : decode m_Mod_laysStruck.2.1 112 = .ok (.iload_n 2, 1) := by decide +kernel
theorem d_Mod_laysStruck_113 : decode m_Mod_laysStruck.2.1 113 = .ok (.iconst 1, 1) := by decide +kernel
theorem d_Mod_laysStruck_114 : decode m_Mod_laysStruck.2.1 114 = .ok (.iadd, 1) := by decide +kernel
theorem d_Mod_laysStruck_115 : decode m_Mod_laysStruck.2.1 115 = .ok (.iload 5, 2) := by decide +kernel
theorem d_Mod_laysStruck_117 : decode m_Mod_laysStruck.2.1 117 = .ok (.invokevirtual 384, 3) := by decide +kernel
theorem d_Mod_laysStruck_120 : decode m_Mod_laysStruck.2.1 120 = .ok (.aload_n 0, 1) := by decide +kernel
theorem d_Mod_laysStruck_121 : decode m_Mod_laysStruck.2.1 121 = .ok (.iload 5, 2) := by decide +kernel
theorem d_Mod_laysStruck_123 : decode m_Mod_laysStruck.2.1 123 = .ok (.iconst 1, 1) := by decide +kernel
theorem d_Mod_laysStruck_124 : decode m_Mod_laysStruck.2.1 124 = .ok (.iadd, 1) := by decide +kernel
theorem d_Mod_laysStruck_125 : decode m_Mod_laysStruck.2.1 125 = .ok (.iload_n 3, 1) := by decide +kernel
theorem d_Mod_laysStruck_126 : decode m_Mod_laysStruck.2.1 126 = .ok (.invokevirtual 384, 3) := by decide +kernel
theorem d_Mod_laysStruck_129 : decode m_Mod_laysStruck.2.1 129 = .ok (.iadd, 1) := by decide +kernel
theorem d_Mod_laysStruck_130 : decode m_Mod_laysStruck.2.1 130 = .ok (.invokestatic 387, 3) := by decide +kernel
theorem d_Mod_laysStruck_133 : decode m_Mod_laysStruck.2.1 133 = .ok (.istore 4, 2) := by decide +kernel
theorem d_Mod_laysStruck_135 : decode m_Mod_laysStruck.2.1 135 = .ok (.iinc 5 1, 3) := by decide +kernel
theorem d_Mod_laysStruck_138 : decode m_Mod_laysStruck.2.1 138 = .ok (.goto (-45), 3) := by decide +kernel
theorem d_Mod_laysStruck_141 : decode m_Mod_laysStruck.2.1 141 = .ok (.aload_n 0, 1) := by decide +kernel
theorem d_Mod_laysStruck_142 : decode m_Mod_laysStruck.2.1 142 = .ok (.getfield 82, 3) := by decide +kernel
theorem d_Mod_laysStruck_145 : decode m_Mod_laysStruck.2.1 145 = .ok (.bipush 21, 2) := by decide +kernel
theorem d_Mod_laysStruck_147 : decode m_Mod_laysStruck.2.1 147 = .ok (.iload_n 2, 1) := by decide +kernel
theorem d_Mod_laysStruck_148 : decode m_Mod_laysStruck.2.1 148 = .ok (.imul, 1) := by decide +kernel
theorem d_Mod_laysStruck_149 : decode m_Mod_laysStruck.2.1 149 = .ok (.iload_n 3, 1) := by decide +kernel
theorem d_Mod_laysStruck_150 : decode m_Mod_laysStruck.2.1 150 = .ok (.iadd, 1) := by decide +kernel
theorem d_Mod_laysStruck_151 : decode m_Mod_laysStruck.2.1 151 = .ok (.iload 4, 2) := by decide +kernel
theorem d_Mod_laysStruck_153 : decode m_Mod_laysStruck.2.1 153 = .ok (.iastore, 1) := by decide +kernel
theorem d_Mod_laysStruck_154 : decode m_Mod_laysStruck.2.1 154 = .ok (.iinc 3 1, 3) := by decide +kernel
theorem d_Mod_laysStruck_157 : decode m_Mod_laysStruck.2.1 157 = .ok (.goto (-106), 3) := by decide +kernel
theorem d_Mod_laysStruck_160 : decode m_Mod_laysStruck.2.1 160 = .ok (.iinc 2 (-1), 3) := by decide +kernel
theorem d_Mod_laysStruck_163 : decode m_Mod_laysStruck.2.1 163 = .ok (.goto (-132), 3) := by decide +kernel
theorem d_Mod_laysStruck_166 : decode m_Mod_laysStruck.2.1 166 = .ok (.return_, 1) := by decide +kernel
theorem d_Mod_laysCut_0 : decode m_Mod_laysCut.2.1 0 = .ok (.iload_n 1, 1) := by decide +kernel
theorem d_Mod_laysCut_1 : decode m_Mod_laysCut.2.1 1 = .ok (.istore_n 3, 1) := by decide +kernel
theorem d_Mod_laysCut_2 : decode m_Mod_laysCut.2.1 2 = .ok (.iload_n 3, 1) := by decide +kernel
theorem d_Mod_laysCut_3 : decode m_Mod_laysCut.2.1 3 = .ok (.iload_n 2, 1) := by decide +kernel
theorem d_Mod_laysCut_4 : decode m_Mod_laysCut.2.1 4 = .ok (.if_icmp .ge 71, 3) := by decide +kernel
theorem d_Mod_laysCut_7 : decode m_Mod_laysCut.2.1 7 = .ok (.aload_n 0, 1) := by decide +kernel
theorem d_Mod_laysCut_8 : decode m_Mod_laysCut.2.1 8 = .ok (.iload_n 3, 1) := by decide +kernel
theorem d_Mod_laysCut_9 : decode m_Mod_laysCut.2.1 9 = .ok (.iload_n 2, 1) := by decide +kernel
theorem d_Mod_laysCut_10 : decode m_Mod_laysCut.2.1 10 = .ok (.invokevirtual 405, 3) := by decide +kernel
theorem d_Mod_laysCut_13 : decode m_Mod_laysCut.2.1 13 = .ok (.istore 4, 2) := by decide +kernel
theorem d_Mod_laysCut_15 : decode m_Mod_laysCut.2.1 15 = .ok (.aload_n 0, 1) := by decide +kernel
theorem d_Mod_laysCut_16 : decode m_Mod_laysCut.2.1 16 = .ok (.getfield 91, 3) := by decide +kernel
theorem d_Mod_laysCut_19 : decode m_Mod_laysCut.2.1 19 = .ok (.iload_n 3, 1) := by decide +kernel
theorem d_Mod_laysCut_20 : decode m_Mod_laysCut.2.1 20 = .ok (.aload_n 0, 1) := by decide +kernel
theorem d_Mod_laysCut_21 : decode m_Mod_laysCut.2.1 21 = .ok (.iload_n 3, 1) := by decide +kernel
theorem d_Mod_laysCut_22 : decode m_Mod_laysCut.2.1 22 = .ok (.invokevirtual 324, 3) := by decide +kernel
theorem d_Mod_laysCut_25 : decode m_Mod_laysCut.2.1 25 = .ok (.invokestatic 22, 3) := by decide +kernel
theorem d_Mod_laysCut_28 : decode m_Mod_laysCut.2.1 28 = .ok (.ifCond .ne 13, 3) := by decide +kernel
theorem d_Mod_laysCut_31 : decode m_Mod_laysCut.2.1 31 = .ok (.iload 4, 2) := by decide +kernel
theorem d_Mod_laysCut_33 : decode m_Mod_laysCut.2.1 33 = .ok (.iconst (-1), 1) := by decide +kernel
theorem d_Mod_laysCut_34 : decode m_Mod_laysCut.2.1 34 = .ok (.if_icmp .ne 7, 3) := by decide +kernel
theorem d_Mod_laysCut_37 : decode m_Mod_laysCut.2.1 37 = .ok (.iconst 1, 1) := by decide +kernel
theorem d_Mod_laysCut_38 : decode m_Mod_laysCut.2.1 38 = .ok (.goto 4, 3) := by decide +kernel
theorem d_Mod_laysCut_41 : decode m_Mod_laysCut.2.1 41 = .ok (.iconst 0, 1) := by decide +kernel
theorem d_Mod_laysCut_42 : decode m_Mod_laysCut.2.1 42 = .ok (.bastore, 1) := by decide +kernel
theorem d_Mod_laysCut_43 : decode m_Mod_laysCut.2.1 43 = .ok (.iload 4, 2) := by decide +kernel
theorem d_Mod_laysCut_45 : decode m_Mod_laysCut.2.1 45 = .ok (.iconst (-1), 1) := by decide +kernel
theorem d_Mod_laysCut_46 : decode m_Mod_laysCut.2.1 46 = .ok (.if_icmp .eq 23, 3) := by decide +kernel
theorem d_Mod_laysCut_49 : decode m_Mod_laysCut.2.1 49 = .ok (.aload_n 0, 1) := by decide +kernel
theorem d_Mod_laysCut_50 : decode m_Mod_laysCut.2.1 50 = .ok (.getfield 91, 3) := by decide +kernel
theorem d_Mod_laysCut_53 : decode m_Mod_laysCut.2.1 53 = .ok (.iload 4, 2) := by decide +kernel
theorem d_Mod_laysCut_55 : decode m_Mod_laysCut.2.1 55 = .ok (.iconst 0, 1) := by decide +kernel
theorem d_Mod_laysCut_56 : decode m_Mod_laysCut.2.1 56 = .ok (.bastore, 1) := by decide +kernel
theorem d_Mod_laysCut_57 : decode m_Mod_laysCut.2.1 57 = .ok (.aload_n 0, 1) := by decide +kernel
theorem d_Mod_laysCut_58 : decode m_Mod_laysCut.2.1 58 = .ok (.iload_n 3, 1) := by decide +kernel
theorem d_Mod_laysCut_59 : decode m_Mod_laysCut.2.1 59 = .ok (.iconst 1, 1) := by decide +kernel
theorem d_Mod_laysCut_60 : decode m_Mod_laysCut.2.1 60 = .ok (.iadd, 1) := by decide +kernel
theorem d_Mod_laysCut_61 : decode m_Mod_laysCut.2.1 61 = .ok (.iload 4, 2) := by decide +kernel
theorem d_Mod_laysCut_63 : decode m_Mod_laysCut.2.1 63 = .ok (.invokevirtual 408, 3) := by decide +kernel
theorem d_Mod_laysCut_66 : decode m_Mod_laysCut.2.1 66 = .ok (.iload 4, 2) := by decide +kernel
theorem d_Mod_laysCut_68 : decode m_Mod_laysCut.2.1 68 = .ok (.istore_n 3, 1) := by decide +kernel
theorem d_Mod_laysCut_69 : decode m_Mod_laysCut.2.1 69 = .ok (.iinc 3 1, 3) := by decide +kernel
theorem d_Mod_laysCut_72 : decode m_Mod_laysCut.2.1 72 = .ok (.goto (-70), 3) := by decide +kernel
theorem d_Mod_laysCut_75 : decode m_Mod_laysCut.2.1 75 = .ok (.return_, 1) := by decide +kernel
theorem d_Mod_mateOf_0 : decode m_Mod_mateOf.2.1 0 = .ok (.iload_n 1, 1) := by decide +kernel
theorem d_Mod_mateOf_1 : decode m_Mod_mateOf.2.1 1 = .ok (.iconst 1, 1) := by decide +kernel
theorem d_Mod_mateOf_2 : decode m_Mod_mateOf.2.1 2 = .ok (.iadd, 1) := by decide +kernel
theorem d_Mod_mateOf_3 : decode m_Mod_mateOf.2.1 3 = .ok (.istore_n 3, 1) := by decide +kernel
theorem d_Mod_mateOf_4 : decode m_Mod_mateOf.2.1 4 = .ok (.iload_n 3, 1) := by decide +kernel
theorem d_Mod_mateOf_5 : decode m_Mod_mateOf.2.1 5 = .ok (.iload_n 2, 1) := by decide +kernel
theorem d_Mod_mateOf_6 : decode m_Mod_mateOf.2.1 6 = .ok (.if_icmp .ge 46, 3) := by decide +kernel
theorem d_Mod_mateOf_9 : decode m_Mod_mateOf.2.1 9 = .ok (.aload_n 0, 1) := by decide +kernel
theorem d_Mod_mateOf_10 : decode m_Mod_mateOf.2.1 10 = .ok (.iload_n 1, 1) := by decide +kernel
theorem d_Mod_mateOf_11 : decode m_Mod_mateOf.2.1 11 = .ok (.iload_n 3, 1) := by decide +kernel
theorem d_Mod_mateOf_12 : decode m_Mod_mateOf.2.1 12 = .ok (.invokevirtual 381, 3) := by decide +kernel
theorem d_Mod_mateOf_15 : decode m_Mod_mateOf.2.1 15 = .ok (.ifCond .eq 31, 3) := by decide +kernel
theorem d_Mod_mateOf_18 : decode m_Mod_mateOf.2.1 18 = .ok (.aload_n 0, 1) := by decide +kernel
theorem d_Mod_mateOf_19 : decode m_Mod_mateOf.2.1 19 = .ok (.iload_n 1, 1) := by decide +kernel
theorem d_Mod_mateOf_20 : decode m_Mod_mateOf.2.1 20 = .ok (.iconst 1, 1) := by decide +kernel
theorem d_Mod_mateOf_21 : decode m_Mod_mateOf.2.1 21 = .ok (.iadd, 1) := by decide +kernel
theorem d_Mod_mateOf_22 : decode m_Mod_mateOf.2.1 22 = .ok (.iload_n 3, 1) := by decide +kernel
theorem d_Mod_mateOf_23 : decode m_Mod_mateOf.2.1 23 = .ok (.invokevirtual 384, 3) := by decide +kernel
theorem d_Mod_mateOf_26 : decode m_Mod_mateOf.2.1 26 = .ok (.aload_n 0, 1) := by decide +kernel
theorem d_Mod_mateOf_27 : decode m_Mod_mateOf.2.1 27 = .ok (.iload_n 3, 1) := by decide +kernel
theorem d_Mod_mateOf_28 : decode m_Mod_mateOf.2.1 28 = .ok (.iconst 1, 1) := by decide +kernel
theorem d_Mod_mateOf_29 : decode m_Mod_mateOf.2.1 29 = .ok (.iadd, 1) := by decide +kernel
theorem d_Mod_mateOf_30 : decode m_Mod_mateOf.2.1 30 = .ok (.iload_n 2, 1) := by decide +kernel
theorem d_Mod_mateOf_31 : decode m_Mod_mateOf.2.1 31 = .ok (.invokevirtual 384, 3) := by decide +kernel
theorem d_Mod_mateOf_34 : decode m_Mod_mateOf.2.1 34 = .ok (.iadd, 1) := by decide +kernel
theorem d_Mod_mateOf_35 : decode m_Mod_mateOf.2.1 35 = .ok (.aload_n 0, 1) := by decide +kernel
theorem d_Mod_mateOf_36 : decode m_Mod_mateOf.2.1 36 = .ok (.iload_n 1, 1) := by decide +kernel
theorem d_Mod_mateOf_37 : decode m_Mod_mateOf.2.1 37 = .ok (.iload_n 2, 1) := by decide +kernel
theorem d_Mod_mateOf_38 : decode m_Mod_mateOf.2.1 38 = .ok (.invokevirtual 384, 3) := by decide +kernel
theorem d_Mod_mateOf_41 : decode m_Mod_mateOf.2.1 41 = .ok (.if_icmp .ne 5, 3) := by decide +kernel
theorem d_Mod_mateOf_44 : decode m_Mod_mateOf.2.1 44 = .ok (.iload_n 3, 1) := by decide +kernel
theorem d_Mod_mateOf_45 : decode m_Mod_mateOf.2.1 45 = .ok (.ireturn, 1) := by decide +kernel
theorem d_Mod_mateOf_46 : decode m_Mod_mateOf.2.1 46 = .ok (.iinc 3 1, 3) := by decide +kernel
theorem d_Mod_mateOf_49 : decode m_Mod_mateOf.2.1 49 = .ok (.goto (-45), 3) := by decide +kernel
theorem d_Mod_mateOf_52 : decode m_Mod_mateOf.2.1 52 = .ok (.iconst (-1), 1) := by decide +kernel
theorem d_Mod_mateOf_53 : decode m_Mod_mateOf.2.1 53 = .ok (.ireturn, 1) := by decide +kernel
theorem d_Mod_run_0 : decode m_Mod_run.2.1 0 = .ok (.iload_n 1, 1) := by decide +kernel
theorem d_Mod_run_1 : decode m_Mod_run.2.1 1 = .ok (.iconst 0, 1) := by decide +kernel
theorem d_Mod_run_2 : decode m_Mod_run.2.1 2 = .ok (.iconst 1, 1) := by decide +kernel
theorem d_Mod_run_3 : decode m_Mod_run.2.1 3 = .ok (.invokestatic 18, 3) := by decide +kernel
theorem d_Mod_run_6 : decode m_Mod_run.2.1 6 = .ok (.ifCond .ne 5, 3) := by decide +kernel
theorem d_Mod_run_9 : decode m_Mod_run.2.1 9 = .ok (.iconst (-1), 1) := by decide +kernel
theorem d_Mod_run_10 : decode m_Mod_run.2.1 10 = .ok (.ireturn, 1) := by decide +kernel
theorem d_Mod_run_11 : decode m_Mod_run.2.1 11 = .ok (.iconst 0, 1) := by decide +kernel
theorem d_Mod_run_12 : decode m_Mod_run.2.1 12 = .ok (.istore_n 2, 1) := by decide +kernel
theorem d_Mod_run_13 : decode m_Mod_run.2.1 13 = .ok (.iconst (-1), 1) := by decide +kernel
theorem d_Mod_run_14 : decode m_Mod_run.2.1 14 = .ok (.istore_n 3, 1) := by decide +kernel
theorem d_Mod_run_15 : decode m_Mod_run.2.1 15 = .ok (.iconst 0, 1) := by decide +kernel
theorem d_Mod_run_16 : decode m_Mod_run.2.1 16 = .ok (.istore 4, 2) := by decide +kernel
theorem d_Mod_run_18 : decode m_Mod_run.2.1 18 = .ok (.iload 4, 2) := by decide +kernel
theorem d_Mod_run_20 : decode m_Mod_run.2.1 20 = .ok (.aload_n 0, 1) := by decide +kernel
theorem d_Mod_run_21 : decode m_Mod_run.2.1 21 = .ok (.invokevirtual 125, 3) := by decide +kernel
theorem d_Mod_run_24 : decode m_Mod_run.2.1 24 = .ok (.if_icmp .ge 62, 3) := by decide +kernel
theorem d_Mod_run_27 : decode m_Mod_run.2.1 27 = .ok (.iload 4, 2) := by decide +kernel
theorem d_Mod_run_29 : decode m_Mod_run.2.1 29 = .ok (.iconst 1, 1) := by decide +kernel
theorem d_Mod_run_30 : decode m_Mod_run.2.1 30 = .ok (.iadd, 1) := by decide +kernel
theorem d_Mod_run_31 : decode m_Mod_run.2.1 31 = .ok (.istore 5, 2) := by decide +kernel
theorem d_Mod_run_33 : decode m_Mod_run.2.1 33 = .ok (.iload 5, 2) := by decide +kernel
theorem d_Mod_run_35 : decode m_Mod_run.2.1 35 = .ok (.aload_n 0, 1) := by decide +kernel
theorem d_Mod_run_36 : decode m_Mod_run.2.1 36 = .ok (.invokevirtual 125, 3) := by decide +kernel
theorem d_Mod_run_39 : decode m_Mod_run.2.1 39 = .ok (.if_icmp .gt 41, 3) := by decide +kernel
theorem d_Mod_run_42 : decode m_Mod_run.2.1 42 = .ok (.iload 5, 2) := by decide +kernel
theorem d_Mod_run_44 : decode m_Mod_run.2.1 44 = .ok (.iload 4, 2) := by decide +kernel
theorem d_Mod_run_46 : decode m_Mod_run.2.1 46 = .ok (.isub, 1) := by decide +kernel
theorem d_Mod_run_47 : decode m_Mod_run.2.1 47 = .ok (.iload_n 2, 1) := by decide +kernel
theorem d_Mod_run_48 : decode m_Mod_run.2.1 48 = .ok (.if_icmp .le 26, 3) := by decide +kernel
theorem d_Mod_run_51 : decode m_Mod_run.2.1 51 = .ok (.aload_n 0, 1) := by decide +kernel
theorem d_Mod_run_52 : decode m_Mod_run.2.1 52 = .ok (.iload 4, 2) := by decide +kernel
theorem d_Mod_run_54 : decode m_Mod_run.2.1 54 = .ok (.iload 5, 2) := by decide +kernel
theorem d_Mod_run_56 : decode m_Mod_run.2.1 56 = .ok (.invokevirtual 348, 3) := by decide +kernel
theorem d_Mod_run_59 : decode m_Mod_run.2.1 59 = .ok (.ifCond .ne 6, 3) := by decide +kernel
theorem d_Mod_run_62 : decode m_Mod_run.2.1 62 = .ok (.goto 12, 3) := by decide +kernel
theorem d_Mod_run_65 : decode m_Mod_run.2.1 65 = .ok (.iload 5, 2) := by decide +kernel
theorem d_Mod_run_67 : decode m_Mod_run.2.1 67 = .ok (.iload 4, 2) := by decide +kernel
theorem d_Mod_run_69 : decode m_Mod_run.2.1 69 = .ok (.isub, 1) := by decide +kernel
theorem d_Mod_run_70 : decode m_Mod_run.2.1 70 = .ok (.istore_n 2, 1) := by decide +kernel
theorem d_Mod_run_71 : decode m_Mod_run.2.1 71 = .ok (.iload 4, 2) := by decide +kernel
theorem d_Mod_run_73 : decode m_Mod_run.2.1 73 = .ok (.istore_n 3, 1) := by decide +kernel
theorem d_Mod_run_74 : decode m_Mod_run.2.1 74 = .ok (.iinc 5 1, 3) := by decide +kernel
theorem d_Mod_run_77 : decode m_Mod_run.2.1 77 = .ok (.goto (-44), 3) := by decide +kernel
theorem d_Mod_run_80 : decode m_Mod_run.2.1 80 = .ok (.iinc 4 1, 3) := by decide +kernel
theorem d_Mod_run_83 : decode m_Mod_run.2.1 83 = .ok (.goto (-65), 3) := by decide +kernel
theorem d_Mod_run_86 : decode m_Mod_run.2.1 86 = .ok (.iload_n 1, 1) := by decide +kernel
theorem d_Mod_run_87 : decode m_Mod_run.2.1 87 = .ok (.ifCond .ne 7, 3) := by decide +kernel
theorem d_Mod_run_90 : decode m_Mod_run.2.1 90 = .ok (.iload_n 2, 1) := by decide +kernel
theorem d_Mod_run_91 : decode m_Mod_run.2.1 91 = .ok (.goto 4, 3) := by decide +kernel
theorem d_Mod_run_94 : decode m_Mod_run.2.1 94 = .ok (.iload_n 3, 1) := by decide +kernel
theorem d_Mod_run_95 : decode m_Mod_run.2.1 95 = .ok (.ireturn, 1) := by decide +kernel
theorem d_Mod_fits_0 : decode m_Mod_fits.2.1 0 = .ok (.aload_n 0, 1) := by decide +kernel
theorem d_Mod_fits_1 : decode m_Mod_fits.2.1 1 = .ok (.iload_n 1, 1) := by decide +kernel
theorem d_Mod_fits_2 : decode m_Mod_fits.2.1 2 = .ok (.invokevirtual 339, 3) := by decide +kernel
theorem d_Mod_fits_5 : decode m_Mod_fits.2.1 5 = .ok (.ifCond .ne 5, 3) := by decide +kernel
theorem d_Mod_fits_8 : decode m_Mod_fits.2.1 8 = .ok (.iconst (-1), 1) := by decide +kernel
theorem d_Mod_fits_9 : decode m_Mod_fits.2.1 9 = .ok (.ireturn, 1) := by decide +kernel
theorem d_Mod_fits_10 : decode m_Mod_fits.2.1 10 = .ok (.aload_n 0, 1) := by decide +kernel
theorem d_Mod_fits_11 : decode m_Mod_fits.2.1 11 = .ok (.iload_n 1, 1) := by decide +kernel
theorem d_Mod_fits_12 : decode m_Mod_fits.2.1 12 = .ok (.invokevirtual 324, 3) := by decide +kernel
theorem d_Mod_fits_15 : decode m_Mod_fits.2.1 15 = .ok (.istore_n 2, 1) := by decide +kernel
theorem d_Mod_fits_16 : decode m_Mod_fits.2.1 16 = .ok (.iconst 0, 1) := by decide +kernel
theorem d_Mod_fits_17 : decode m_Mod_fits.2.1 17 = .ok (.istore_n 3, 1) := by decide +kernel
theorem d_Mod_fits_18 : decode m_Mod_fits.2.1 18 = .ok (.iconst 0, 1) := by decide +kernel
theorem d_Mod_fits_19 : decode m_Mod_fits.2.1 19 = .ok (.istore 4, 2) := by decide +kernel
theorem d_Mod_fits_21 : decode m_Mod_fits.2.1 21 = .ok (.iload 4, 2) := by decide +kernel
theorem d_Mod_fits_23 : decode m_Mod_fits.2.1 23 = .ok (.bipush 6, 2) := by decide +kernel
theorem d_Mod_fits_25 : decode m_Mod_fits.2.1 25 = .ok (.if_icmp .ge 42, 3) := by decide +kernel
theorem d_Mod_fits_28 : decode m_Mod_fits.2.1 28 = .ok (.aload_n 0, 1) := by decide +kernel
theorem d_Mod_fits_29 : decode m_Mod_fits.2.1 29 = .ok (.getfield 32, 3) := by decide +kernel
theorem d_Mod_fits_32 : decode m_Mod_fits.2.1 32 = .ok (.iconst 1, 1) := by decide +kernel
theorem d_Mod_fits_33 : decode m_Mod_fits.2.1 33 = .ok (.iload_n 1, 1) := by decide +kernel
theorem d_Mod_fits_34 : decode m_Mod_fits.2.1 34 = .ok (.iadd, 1) := by decide +kernel
theorem d_Mod_fits_35 : decode m_Mod_fits.2.1 35 = .ok (.iload 4, 2) := by decide +kernel
theorem d_Mod_fits_37 : decode m_Mod_fits.2.1 37 = .ok (.iastore, 1) := by decide +kernel
theorem d_Mod_fits_38 : decode m_Mod_fits.2.1 38 = .ok (.iload_n 3, 1) := by decide +kernel
theorem d_Mod_fits_39 : decode m_Mod_fits.2.1 39 = .ok (.aload_n 0, 1) := by decide +kernel
theorem d_Mod_fits_40 : decode m_Mod_fits.2.1 40 = .ok (.iconst 0, 1) := by decide +kernel
theorem d_Mod_fits_41 : decode m_Mod_fits.2.1 41 = .ok (.aload_n 0, 1) := by decide +kernel
theorem d_Mod_fits_42 : decode m_Mod_fits.2.1 42 = .ok (.invokevirtual 125, 3) := by decide +kernel
theorem d_Mod_fits_45 : decode m_Mod_fits.2.1 45 = .ok (.invokevirtual 348, 3) := by decide +kernel
theorem d_Mod_fits_48 : decode m_Mod_fits.2.1 48 = .ok (.ifCond .eq 10, 3) := by decide +kernel
theorem d_Mod_fits_51 : decode m_Mod_fits.2.1 51 = .ok (.iconst 1, 1) := by decide +kernel
theorem d_Mod_fits_52 : decode m_Mod_fits.2.1 52 = .ok (.iload 4, 2) := by decide +kernel
theorem d_Mod_fits_54 : decode m_Mod_fits.2.1 54 = .ok (.ishl, 1) := by decide +kernel
theorem d_Mod_fits_55 : decode m_Mod_fits.2.1 55 = .ok (.goto 4, 3) := by decide +kernel
theorem d_Mod_fits_58 : decode m_Mod_fits.2.1 58 = .ok (.iconst 0, 1) := by decide +kernel
theorem d_Mod_fits_59 : decode m_Mod_fits.2.1 59 = .ok (.ior, 1) := by decide +kernel
theorem d_Mod_fits_60 : decode m_Mod_fits.2.1 60 = .ok (.istore_n 3, 1) := by decide +kernel
theorem d_Mod_fits_61 : decode m_Mod_fits.2.1 61 = .ok (.iinc 4 1, 3) := by decide +kernel
theorem d_Mod_fits_64 : decode m_Mod_fits.2.1 64 = .ok (.goto (-43), 3) := by decide +kernel
theorem d_Mod_fits_67 : decode m_Mod_fits.2.1 67 = .ok (.aload_n 0, 1) := by decide +kernel
theorem d_Mod_fits_68 : decode m_Mod_fits.2.1 68 = .ok (.getfield 32, 3) := by decide +kernel
theorem d_Mod_fits_71 : decode m_Mod_fits.2.1 71 = .ok (.iconst 1, 1) := by decide +kernel
theorem d_Mod_fits_72 : decode m_Mod_fits.2.1 72 = .ok (.iload_n 1, 1) := by decide +kernel
theorem d_Mod_fits_73 : decode m_Mod_fits.2.1 73 = .ok (.iadd, 1) := by decide +kernel
theorem d_Mod_fits_74 : decode m_Mod_fits.2.1 74 = .ok (.iload_n 2, 1) := by decide +kernel
theorem d_Mod_fits_75 : decode m_Mod_fits.2.1 75 = .ok (.iastore, 1) := by decide +kernel
theorem d_Mod_fits_76 : decode m_Mod_fits.2.1 76 = .ok (.iload_n 3, 1) := by decide +kernel
theorem d_Mod_fits_77 : decode m_Mod_fits.2.1 77 = .ok (.ireturn, 1) := by decide +kernel
theorem d_Mod_rows_0 : decode m_Mod_rows.2.1 0 = .ok (.iload_n 1, 1) := by decide +kernel
theorem d_Mod_rows_1 : decode m_Mod_rows.2.1 1 = .ok (.iconst 0, 1) := by decide +kernel
theorem d_Mod_rows_2 : decode m_Mod_rows.2.1 2 = .ok (.bipush 12, 2) := by decide +kernel
theorem d_Mod_rows_4 : decode m_Mod_rows.2.1 4 = .ok (.invokestatic 18, 3) := by decide +kernel
theorem d_Mod_rows_7 : decode m_Mod_rows.2.1 7 = .ok (.ifCond .eq 13, 3) := by decide +kernel
theorem d_Mod_rows_10 : decode m_Mod_rows.2.1 10 = .ok (.iload_n 2, 1) := by decide +kernel
theorem d_Mod_rows_11 : decode m_Mod_rows.2.1 11 = .ok (.iconst 0, 1) := by decide +kernel
theorem d_Mod_rows_12 : decode m_Mod_rows.2.1 12 = .ok (.bipush 12, 2) := by decide +kernel
theorem d_Mod_rows_14 : decode m_Mod_rows.2.1 14 = .ok (.invokestatic 18, 3) := by decide +kernel
theorem d_Mod_rows_17 : decode m_Mod_rows.2.1 17 = .ok (.ifCond .ne 7, 3) := by decide +kernel
theorem d_Mod_rows_20 : decode m_Mod_rows.2.1 20 = .ok (.ldc2_w 420, 3) := by decide +kernel
theorem d_Mod_rows_23 : decode m_Mod_rows.2.1 23 = .ok (.lreturn, 1) := by decide +kernel
theorem d_Mod_rows_24 : decode m_Mod_rows.2.1 24 = .ok (.aload_n 0, 1) := by decide +kernel
theorem d_Mod_rows_25 : decode m_Mod_rows.2.1 25 = .ok (.iload_n 1, 1) := by decide +kernel
theorem d_Mod_rows_26 : decode m_Mod_rows.2.1 26 = .ok (.iload_n 2, 1) := by decide +kernel
theorem d_Mod_rows_27 : decode m_Mod_rows.2.1 27 = .ok (.invokevirtual 422, 3) := by decide +kernel
theorem d_Mod_rows_30 : decode m_Mod_rows.2.1 30 = .ok (.aload_n 0, 1) := by decide +kernel
theorem d_Mod_rows_31 : decode m_Mod_rows.2.1 31 = .ok (.iconst 2, 1) := by decide +kernel
theorem d_Mod_rows_32 : decode m_Mod_rows.2.1 32 = .ok (.iload_n 1, 1) := by decide +kernel
theorem d_Mod_rows_33 : decode m_Mod_rows.2.1 33 = .ok (.imul, 1) := by decide +kernel
theorem d_Mod_rows_34 : decode m_Mod_rows.2.1 34 = .ok (.iconst 0, 1) := by decide +kernel
theorem d_Mod_rows_35 : decode m_Mod_rows.2.1 35 = .ok (.invokevirtual 414, 3) := by decide +kernel
theorem d_Mod_rows_38 : decode m_Mod_rows.2.1 38 = .ok (.lreturn, 1) := by decide +kernel
theorem d_Mod_laysRows_0 : decode m_Mod_laysRows.2.1 0 = .ok (.iconst 0, 1) := by decide +kernel
theorem d_Mod_laysRows_1 : decode m_Mod_laysRows.2.1 1 = .ok (.istore_n 3, 1) := by decide +kernel
theorem d_Mod_laysRows_2 : decode m_Mod_laysRows.2.1 2 = .ok (.iload_n 3, 1) := by decide +kernel
theorem d_Mod_laysRows_3 : decode m_Mod_laysRows.2.1 3 = .ok (.iconst 2, 1) := by decide +kernel
theorem d_Mod_laysRows_4 : decode m_Mod_laysRows.2.1 4 = .ok (.iload_n 1, 1) := by decide +kernel
theorem d_Mod_laysRows_5 : decode m_Mod_laysRows.2.1 5 = .ok (.imul, 1) := by decide +kernel
theorem d_Mod_laysRows_6 : decode m_Mod_laysRows.2.1 6 = .ok (.if_icmp .gt 105, 3) := by decide +kernel
theorem d_Mod_laysRows_9 : decode m_Mod_laysRows.2.1 9 = .ok (.iconst 0, 1) := by decide +kernel
theorem d_Mod_laysRows_10 : decode m_Mod_laysRows.2.1 10 = .ok (.istore 4, 2) := by decide +kernel
theorem d_Mod_laysRows_12 : decode m_Mod_laysRows.2.1 12 = .ok (.iload 4, 2) := by decide +kernel
theorem d_Mod_laysRows_14 : decode m_Mod_laysRows.2.1 14 = .ok (.bipush 12, 2) := by decide +kernel
theorem d_Mod_laysRows_16 : decode m_Mod_laysRows.2.1 16 = .ok (.if_icmp .gt 89, 3) := by decide +kernel
theorem d_Mod_laysRows_19 : decode m_Mod_laysRows.2.1 19 = .ok (.iload_n 3, 1) := by decide +kernel
theorem d_Mod_laysRows_20 : decode m_Mod_laysRows.2.1 20 = .ok (.ifCond .ne 16, 3) := by decide +kernel
theorem d_Mod_laysRows_23 : decode m_Mod_laysRows.2.1 23 = .ok (.iload 4, 2) := by decide +kernel
theorem d_Mod_laysRows_25 : decode m_Mod_laysRows.2.1 25 = .ok (.ifCond .ne 7, 3) := by decide +kernel
theorem d_Mod_laysRows_28 : decode m_Mod_laysRows.2.1 28 = .ok (.lconst 1, 1) := by decide +kernel
theorem d_Mod_laysRows_29 : decode m_Mod_laysRows.2.1 29 = .ok (.goto 44, 3) := by decide +kernel
theorem d_Mod_laysRows_32 : decode m_Mod_laysRows.2.1 32 = .ok (.lconst 0, 1) := by decide +kernel
theorem d_Mod_laysRows_33 : decode m_Mod_laysRows.2.1 33 = .ok (.goto 40, 3) := by decide +kernel
theorem d_Mod_laysRows_36 : decode m_Mod_laysRows.2.1 36 = .ok (.aload_n 0, 1) := by decide +kernel
theorem d_Mod_laysRows_37 : decode m_Mod_laysRows.2.1 37 = .ok (.iload_n 3, 1) := by decide +kernel
theorem d_Mod_laysRows_38 : decode m_Mod_laysRows.2.1 38 = .ok (.iconst 1, 1) := by decide +kernel
theorem d_Mod_laysRows_39 : decode m_Mod_laysRows.2.1 39 = .ok (.isub, 1) := by decide +kernel
theorem d_Mod_laysRows_40 : decode m_Mod_laysRows.2.1 40 = .ok (.iload 4, 2) := by decide +kernel
theorem d_Mod_laysRows_42 : decode m_Mod_laysRows.2.1 42 = .ok (.iconst 1, 1) := by decide +kernel
theorem d_Mod_laysRows_43 : decode m_Mod_laysRows.2.1 43 = .ok (.isub, 1) := by decide +kernel
theorem d_Mod_laysRows_44 : decode m_Mod_laysRows.2.1 44 = .ok (.invokevirtual 414, 3) := by decide +kernel
theorem d_Mod_laysRows_47 : decode m_Mod_laysRows.2.1 47 = .ok (.iload 4, 2) := by decide +kernel
theorem d_Mod_laysRows_49 : decode m_Mod_laysRows.2.1 49 = .ok (.iload_n 2, 1) := by decide +kernel
theorem d_Mod_laysRows_50 : decode m_Mod_laysRows.2.1 50 = .ok (.if_icmp .ge 21, 3) := by decide +kernel
theorem d_Mod_laysRows_53 : decode m_Mod_laysRows.2.1 53 = .ok (.ldc2_w 418, 3) := by decide +kernel
theorem d_Mod_laysRows_56 : decode m_Mod_laysRows.2.1 56 = .ok (.aload_n 0, 1) := by decide +kernel
theorem d_Mod_laysRows_57 : decode m_Mod_laysRows.2.1 57 = .ok (.iload_n 3, 1) := by decide +kernel
theorem d_Mod_laysRows_58 : decode m_Mod_laysRows.2.1 58 = .ok (.iconst 1, 1) := by decide +kernel
theorem d_Mod_laysRows_59 : decode m_Mod_laysRows.2.1 59 = .ok (.isub, 1) := by decide +kernel
theorem d_Mod_laysRows_60 : decode m_Mod_laysRows.2.1 60 = .ok (.iload 4, 2) := by decide +kernel
theorem d_Mod_laysRows_62 : decode m_Mod_laysRows.2.1 62 = .ok (.iconst 1, 1) := by decide +kernel
theorem d_Mod_laysRows_63 : decode m_Mod_laysRows.2.1 63 = .ok (.iadd, 1) := by decide +kernel
theorem d_Mod_laysRows_64 : decode m_Mod_laysRows.2.1 64 = .ok (.invokevirtual 414, 3) := by decide +kernel
theorem d_Mod_laysRows_67 : decode m_Mod_laysRows.2.1 67 = .ok (.lmul, 1) := by decide +kernel
theorem d_Mod_laysRows_68 : decode m_Mod_laysRows.2.1 68 = .ok (.goto 4, 3) := by decide +kernel
theorem d_Mod_laysRows_71 : decode m_Mod_laysRows.2.1 71 = .ok (.lconst 0, 1) := by decide +kernel
theorem d_Mod_laysRows_72 : decode m_Mod_laysRows.2.1 72 = .ok (.ladd, 1) := by decide +kernel
theorem d_Mod_laysRows_73 : decode m_Mod_laysRows.2.1 73 = .ok (.lstore 5, 2) := by decide +kernel
theorem d_Mod_laysRows_75 : decode m_Mod_laysRows.2.1 75 = .ok (.aload_n 0, 1) := by decide +kernel
theorem d_Mod_laysRows_76 : decode m_Mod_laysRows.2.1 76 = .ok (.getfield 94, 3) := by decide +kernel
theorem d_Mod_laysRows_79 : decode m_Mod_laysRows.2.1 79 = .ok (.bipush 14, 2) := by decide +kernel
theorem d_Mod_laysRows_81 : decode m_Mod_laysRows.2.1 81 = .ok (.iload_n 3, 1) := by decide +kernel
theorem d_Mod_laysRows_82 : decode m_Mod_laysRows.2.1 82 = .ok (.imul, 1) := by decide +kernel
theorem d_Mod_laysRows_83 : decode m_Mod_laysRows.2.1 83 = .ok (.iload 4, 2) := by decide +kernel
theorem d_Mod_laysRows_85 : decode m_Mod_laysRows.2.1 85 = .ok (.iadd, 1) := by decide +kernel
theorem d_Mod_laysRows_86 : decode m_Mod_laysRows.2.1 86 = .ok (.iload 4, 2) := by decide +kernel
theorem d_Mod_laysRows_88 : decode m_Mod_laysRows.2.1 88 = .ok (.iload_n 2, 1) := by decide +kernel
theorem d_Mod_laysRows_89 : decode m_Mod_laysRows.2.1 89 = .ok (.if_icmp .le 7, 3) := by decide +kernel
theorem d_Mod_laysRows_92 : decode m_Mod_laysRows.2.1 92 = .ok (.lconst 0, 1) := by decide +kernel
theorem d_Mod_laysRows_93 : decode m_Mod_laysRows.2.1 93 = .ok (.goto 5, 3) := by decide +kernel
theorem d_Mod_laysRows_96 : decode m_Mod_laysRows.2.1 96 = .ok (.lload 5, 2) := by decide +kernel
theorem d_Mod_laysRows_98 : decode m_Mod_laysRows.2.1 98 = .ok (.lastore, 1) := by decide +kernel
theorem d_Mod_laysRows_99 : decode m_Mod_laysRows.2.1 99 = .ok (.iinc 4 1, 3) := by decide +kernel
theorem d_Mod_laysRows_102 : decode m_Mod_laysRows.2.1 102 = .ok (.goto (-90), 3) := by decide +kernel
theorem d_Mod_laysRows_105 : decode m_Mod_laysRows.2.1 105 = .ok (.iinc 3 1, 3) := by decide +kernel
theorem d_Mod_laysRows_108 : decode m_Mod_laysRows.2.1 108 = .ok (.goto (-106), 3) := by decide +kernel
theorem d_Mod_laysRows_111 : decode m_Mod_laysRows.2.1 111 = .ok (.return_, 1) := by decide +kernel
theorem d_Mod_goOn_0 : decode m_Mod_goOn.2.1 0 = .ok (.iload_n 2, 1) := by decide +kernel
theorem d_Mod_goOn_1 : decode m_Mod_goOn.2.1 1 = .ok (.ifCond .lt 9, 3) := by decide +kernel
theorem d_Mod_goOn_4 : decode m_Mod_goOn.2.1 4 = .ok (.iload_n 2, 1) := by decide +kernel
theorem d_Mod_goOn_5 : decode m_Mod_goOn.2.1 5 = .ok (.bipush 12, 2) := by decide +kernel
theorem d_Mod_goOn_7 : decode m_Mod_goOn.2.1 7 = .ok (.if_icmp .le 7, 3) := by decide +kernel
theorem d_Mod_goOn_10 : decode m_Mod_goOn.2.1 10 = .ok (.lconst 0, 1) := by decide +kernel
theorem d_Mod_goOn_11 : decode m_Mod_goOn.2.1 11 = .ok (.goto 14, 3) := by decide +kernel
theorem d_Mod_goOn_14 : decode m_Mod_goOn.2.1 14 = .ok (.aload_n 0, 1) := by decide +kernel
theorem d_Mod_goOn_15 : decode m_Mod_goOn.2.1 15 = .ok (.getfield 94, 3) := by decide +kernel
theorem d_Mod_goOn_18 : decode m_Mod_goOn.2.1 18 = .ok (.bipush 14, 2) := by decide +kernel
theorem d_Mod_goOn_20 : decode m_Mod_goOn.2.1 20 = .ok (.iload_n 1, 1) := by decide +kernel
theorem d_Mod_goOn_21 : decode m_Mod_goOn.2.1 21 = .ok (.imul, 1) := by decide +kernel
theorem d_Mod_goOn_22 : decode m_Mod_goOn.2.1 22 = .ok (.iload_n 2, 1) := by decide +kernel
theorem d_Mod_goOn_23 : decode m_Mod_goOn.2.1 23 = .ok (.iadd, 1) := by decide +kernel
theorem d_Mod_goOn_24 : decode m_Mod_goOn.2.1 24 = .ok (.laload, 1) := by decide +kernel
theorem d_Mod_goOn_25 : decode m_Mod_goOn.2.1 25 = .ok (.lreturn, 1) := by decide +kernel
theorem d_Mod_nth_0 : decode m_Mod_nth.2.1 0 = .ok (.iload_n 1, 1) := by decide +kernel
theorem d_Mod_nth_1 : decode m_Mod_nth.2.1 1 = .ok (.iconst 1, 1) := by decide +kernel
theorem d_Mod_nth_2 : decode m_Mod_nth.2.1 2 = .ok (.bipush 12, 2) := by decide +kernel
theorem d_Mod_nth_4 : decode m_Mod_nth.2.1 4 = .ok (.invokestatic 18, 3) := by decide +kernel
theorem d_Mod_nth_7 : decode m_Mod_nth.2.1 7 = .ok (.ifCond .eq 23, 3) := by decide +kernel
theorem d_Mod_nth_10 : decode m_Mod_nth.2.1 10 = .ok (.lload_n 2, 1) := by decide +kernel
theorem d_Mod_nth_11 : decode m_Mod_nth.2.1 11 = .ok (.lconst 0, 1) := by decide +kernel
theorem d_Mod_nth_12 : decode m_Mod_nth.2.1 12 = .ok (.lcmp, 1) := by decide +kernel
theorem d_Mod_nth_13 : decode m_Mod_nth.2.1 13 = .ok (.ifCond .lt 17, 3) := by decide +kernel
theorem d_Mod_nth_16 : decode m_Mod_nth.2.1 16 = .ok (.iload 4, 2) := by decide +kernel
theorem d_Mod_nth_18 : decode m_Mod_nth.2.1 18 = .ok (.iconst 0, 1) := by decide +kernel
theorem d_Mod_nth_19 : decode m_Mod_nth.2.1 19 = .ok (.iconst 2, 1) := by decide +kernel
theorem d_Mod_nth_20 : decode m_Mod_nth.2.1 20 = .ok (.iload_n 1, 1) := by decide +kernel
theorem d_Mod_nth_21 : decode m_Mod_nth.2.1 21 = .ok (.imul, 1) := by decide +kernel
theorem d_Mod_nth_22 : decode m_Mod_nth.2.1 22 = .ok (.iconst 1, 1) := by decide +kernel
theorem d_Mod_nth_23 : decode m_Mod_nth.2.1 23 = .ok (.isub, 1) := by decide +kernel
theorem d_Mod_nth_24 : decode m_Mod_nth.2.1 24 = .ok (.invokestatic 18, 3) := by decide +kernel
theorem d_Mod_nth_27 : decode m_Mod_nth.2.1 27 = .ok (.ifCond .ne 5, 3) := by decide +kernel
theorem d_Mod_nth_30 : decode m_Mod_nth.2.1 30 = .ok (.iconst (-1), 1) := by decide +kernel
theorem d_Mod_nth_31 : decode m_Mod_nth.2.1 31 = .ok (.ireturn, 1) := by decide +kernel
theorem d_Mod_nth_32 : decode m_Mod_nth.2.1 32 = .ok (.aload_n 0, 1) := by decide +kernel
theorem d_Mod_nth_33 : decode m_Mod_nth.2.1 33 = .ok (.iload_n 1, 1) := by decide +kernel
theorem d_Mod_nth_34 : decode m_Mod_nth.2.1 34 = .ok (.aload_n 0, 1) := by decide +kernel
theorem d_Mod_nth_35 : decode m_Mod_nth.2.1 35 = .ok (.getfield 32, 3) := by decide +kernel
theorem d_Mod_nth_38 : decode m_Mod_nth.2.1 38 = .ok (.bipush 22, 2) := by decide +kernel
theorem d_Mod_nth_40 : decode m_Mod_nth.2.1 40 = .ok (.iaload, 1) := by decide +kernel
theorem d_Mod_nth_41 : decode m_Mod_nth.2.1 41 = .ok (.invokevirtual 422, 3) := by decide +kernel
theorem d_Mod_nth_44 : decode m_Mod_nth.2.1 44 = .ok (.lload_n 2, 1) := by decide +kernel
theorem d_Mod_nth_45 : decode m_Mod_nth.2.1 45 = .ok (.aload_n 0, 1) := by decide +kernel
theorem d_Mod_nth_46 : decode m_Mod_nth.2.1 46 = .ok (.iconst 2, 1) := by decide +kernel
theorem d_Mod_nth_47 : decode m_Mod_nth.2.1 47 = .ok (.iload_n 1, 1) := by decide +kernel
theorem d_Mod_nth_48 : decode m_Mod_nth.2.1 48 = .ok (.imul, 1) := by decide +kernel
theorem d_Mod_nth_49 : decode m_Mod_nth.2.1 49 = .ok (.iconst 0, 1) := by decide +kernel
theorem d_Mod_nth_50 : decode m_Mod_nth.2.1 50 = .ok (.invokevirtual 414, 3) := by decide +kernel
theorem d_Mod_nth_53 : decode m_Mod_nth.2.1 53 = .ok (.lcmp, 1) := by decide +kernel
theorem d_Mod_nth_54 : decode m_Mod_nth.2.1 54 = .ok (.ifCond .lt 5, 3) := by decide +kernel
theorem d_Mod_nth_57 : decode m_Mod_nth.2.1 57 = .ok (.iconst (-1), 1) := by decide +kernel
theorem d_Mod_nth_58 : decode m_Mod_nth.2.1 58 = .ok (.ireturn, 1) := by decide +kernel
theorem d_Mod_nth_59 : decode m_Mod_nth.2.1 59 = .ok (.lload_n 2, 1) := by decide +kernel
theorem d_Mod_nth_60 : decode m_Mod_nth.2.1 60 = .ok (.lstore 5, 2) := by decide +kernel
theorem d_Mod_nth_62 : decode m_Mod_nth.2.1 62 = .ok (.iconst 0, 1) := by decide +kernel
theorem d_Mod_nth_63 : decode m_Mod_nth.2.1 63 = .ok (.istore 7, 2) := by decide +kernel
theorem d_Mod_nth_65 : decode m_Mod_nth.2.1 65 = .ok (.iconst 0, 1) := by decide +kernel
theorem d_Mod_nth_66 : decode m_Mod_nth.2.1 66 = .ok (.istore 8, 2) := by decide +kernel
theorem d_Mod_nth_68 : decode m_Mod_nth.2.1 68 = .ok (.iload 8, 2) := by decide +kernel
theorem d_Mod_nth_70 : decode m_Mod_nth.2.1 70 = .ok (.iload 4, 2) := by decide +kernel
theorem d_Mod_nth_72 : decode m_Mod_nth.2.1 72 = .ok (.if_icmp .gt 129, 3) := by decide +kernel
theorem d_Mod_nth_75 : decode m_Mod_nth.2.1 75 = .ok (.iconst 2, 1) := by decide +kernel
theorem d_Mod_nth_76 : decode m_Mod_nth.2.1 76 = .ok (.iload_n 1, 1) := by decide +kernel
theorem d_Mod_nth_77 : decode m_Mod_nth.2.1 77 = .ok (.imul, 1) := by decide +kernel
theorem d_Mod_nth_78 : decode m_Mod_nth.2.1 78 = .ok (.iload 8, 2) := by decide +kernel
theorem d_Mod_nth_80 : decode m_Mod_nth.2.1 80 = .ok (.isub, 1) := by decide +kernel
theorem d_Mod_nth_81 : decode m_Mod_nth.2.1 81 = .ok (.iconst 1, 1) := by decide +kernel
theorem d_Mod_nth_82 : decode m_Mod_nth.2.1 82 = .ok (.isub, 1) := by decide +kernel
theorem d_Mod_nth_83 : decode m_Mod_nth.2.1 83 = .ok (.istore 9, 2) := by decide +kernel
theorem d_Mod_nth_85 : decode m_Mod_nth.2.1 85 = .ok (.iload 7, 2) := by decide +kernel
theorem d_Mod_nth_87 : decode m_Mod_nth.2.1 87 = .ok (.aload_n 0, 1) := by decide +kernel
theorem d_Mod_nth_88 : decode m_Mod_nth.2.1 88 = .ok (.getfield 32, 3) := by decide +kernel
theorem d_Mod_nth_91 : decode m_Mod_nth.2.1 91 = .ok (.bipush 22, 2) := by decide +kernel
theorem d_Mod_nth_93 : decode m_Mod_nth.2.1 93 = .ok (.iaload, 1) := by decide +kernel
theorem d_Mod_nth_94 : decode m_Mod_nth.2.1 94 = .ok (.if_icmp .ge 16, 3) := by decide +kernel
theorem d_Mod_nth_97 : decode m_Mod_nth.2.1 97 = .ok (.aload_n 0, 1) := by decide +kernel
theorem d_Mod_nth_98 : decode m_Mod_nth.2.1 98 = .ok (.iload 9, 2) := by decide +kernel
theorem d_Mod_nth_100 : decode m_Mod_nth.2.1 100 = .ok (.iload 7, 2) := by decide +kernel
theorem d_Mod_nth_102 : decode m_Mod_nth.2.1 102 = .ok (.iconst 1, 1) := by decide +kernel
theorem d_Mod_nth_103 : decode m_Mod_nth.2.1 103 = .ok (.iadd, 1) := by decide +kernel
theorem d_Mod_nth_104 : decode m_Mod_nth.2.1 104 = .ok (.invokevirtual 414, 3) := by decide +kernel
theorem d_Mod_nth_107 : decode m_Mod_nth.2.1 107 = .ok (.goto 4, 3) := by decide +kernel
theorem d_Mod_nth_110 : decode m_Mod_nth.2.1 110 = .ok (.lconst 0, 1) := by decide +kernel
theorem d_Mod_nth_111 : decode m_Mod_nth.2.1 111 = .ok (.lstore 10, 2) := by decide +kernel
theorem d_Mod_nth_113 : decode m_Mod_nth.2.1 113 = .ok (.lload 5, 2) := by decide +kernel
theorem d_Mod_nth_115 : decode m_Mod_nth.2.1 115 = .ok (.ldc2_w 418, 3) := by decide +kernel
theorem d_Mod_nth_118 : decode m_Mod_nth.2.1 118 = .ok (.lload 10, 2) := by decide +kernel
theorem d_Mod_nth_120 : decode m_Mod_nth.2.1 120 = .ok (.lmul, 1) := by decide +kernel
theorem d_Mod_nth_121 : decode m_Mod_nth.2.1 121 = .ok (.lcmp, 1) := by decide +kernel
theorem d_Mod_nth_122 : decode m_Mod_nth.2.1 122 = .ok (.ifCond .ge 43, 3) := by decide +kernel
theorem d_Mod_nth_125 : decode m_Mod_nth.2.1 125 = .ok (.aload_n 0, 1) := by decide +kernel
theorem d_Mod_nth_126 : decode m_Mod_nth.2.1 126 = .ok (.getfield 98, 3) := by decide +kernel
theorem d_Mod_nth_129 : decode m_Mod_nth.2.1 129 = .ok (.iload 8, 2) := by decide +kernel
theorem d_Mod_nth_131 : decode m_Mod_nth.2.1 131 = .ok (.lload 5, 2) := by decide +kernel
theorem d_Mod_nth_133 : decode m_Mod_nth.2.1 133 = .ok (.lload 10, 2) := by decide +kernel
theorem d_Mod_nth_135 : decode m_Mod_nth.2.1 135 = .ok (.ldiv, 1) := by decide +kernel
theorem d_Mod_nth_136 : decode m_Mod_nth.2.1 136 = .ok (.l2i, 1) := by decide +kernel
theorem d_Mod_nth_137 : decode m_Mod_nth.2.1 137 = .ok (.iastore, 1) := by decide +kernel
theorem d_Mod_nth_138 : decode m_Mod_nth.2.1 138 = .ok (.lload 5, 2) := by decide +kernel
theorem d_Mod_nth_140 : decode m_Mod_nth.2.1 140 = .ok (.lload 10, 2) := by decide +kernel
theorem d_Mod_nth_142 : decode m_Mod_nth.2.1 142 = .ok (.lrem, 1) := by decide +kernel
theorem d_Mod_nth_143 : decode m_Mod_nth.2.1 143 = .ok (.lstore 5, 2) := by decide +kernel
theorem d_Mod_nth_145 : decode m_Mod_nth.2.1 145 = .ok (.aload_n 0, 1) := by decide +kernel
theorem d_Mod_nth_146 : decode m_Mod_nth.2.1 146 = .ok (.getfield 73, 3) := by decide +kernel
theorem d_Mod_nth_149 : decode m_Mod_nth.2.1 149 = .ok (.iload 7, 2) := by decide +kernel
theorem d_Mod_nth_151 : decode m_Mod_nth.2.1 151 = .ok (.aload_n 0, 1) := by decide +kernel
theorem d_Mod_nth_152 : decode m_Mod_nth.2.1 152 = .ok (.getfield 98, 3) := by decide +kernel
theorem d_Mod_nth_155 : decode m_Mod_nth.2.1 155 = .ok (.iload 8, 2) := by decide +kernel
theorem d_Mod_nth_157 : decode m_Mod_nth.2.1 157 = .ok (.iaload, 1) := by decide +kernel
theorem d_Mod_nth_158 : decode m_Mod_nth.2.1 158 = .ok (.iastore, 1) := by decide +kernel
theorem d_Mod_nth_159 : decode m_Mod_nth.2.1 159 = .ok (.iinc 7 1, 3) := by decide +kernel
theorem d_Mod_nth_162 : decode m_Mod_nth.2.1 162 = .ok (.goto 33, 3) := by decide +kernel
theorem d_Mod_nth_165 : decode m_Mod_nth.2.1 165 = .ok (.lload 5, 2) := by decide +kernel
theorem d_Mod_nth_167 : decode m_Mod_nth.2.1 167 = .ok (.ldc2_w 418, 3) := by decide +kernel
theorem d_Mod_nth_170 : decode m_Mod_nth.2.1 170 = .ok (.lload 10, 2) := by decide +kernel
theorem d_Mod_nth_172 : decode m_Mod_nth.2.1 172 = .ok (.lmul, 1) := by decide +kernel
theorem d_Mod_nth_173 : decode m_Mod_nth.2.1 173 = .ok (.lsub, 1) := by decide +kernel
theorem d_Mod_nth_174 : decode m_Mod_nth.2.1 174 = .ok (.lstore 5, 2) := by decide +kernel
theorem d_Mod_nth_176 : decode m_Mod_nth.2.1 176 = .ok (.iinc 7 (-1), 3) := by decide +kernel
theorem d_Mod_nth_179 : decode m_Mod_nth.2.1 179 = .ok (.aload_n 0, 1) := by decide +kernel
theorem d_Mod_nth_180 : decode m_Mod_nth.2.1 180 = .ok (.getfield 98, 3) := by decide +kernel
theorem d_Mod_nth_183 : decode m_Mod_nth.2.1 183 = .ok (.iload 8, 2) := by decide +kernel
theorem d_Mod_nth_185 : decode m_Mod_nth.2.1 185 = .ok (.iconst 3, 1) := by decide +kernel
theorem d_Mod_nth_186 : decode m_Mod_nth.2.1 186 = .ok (.aload_n 0, 1) := by decide +kernel
theorem d_Mod_nth_187 : decode m_Mod_nth.2.1 187 = .ok (.getfield 73, 3) := by decide +kernel
theorem d_Mod_nth_190 : decode m_Mod_nth.2.1 190 = .ok (.iload 7, 2) := by decide +kernel
theorem d_Mod_nth_192 : decode m_Mod_nth.2.1 192 = .ok (.iaload, 1) := by decide +kernel
theorem d_Mod_nth_193 : decode m_Mod_nth.2.1 193 = .ok (.iadd, 1) := by decide +kernel
theorem d_Mod_nth_194 : decode m_Mod_nth.2.1 194 = .ok (.iastore, 1) := by decide +kernel
theorem d_Mod_nth_195 : decode m_Mod_nth.2.1 195 = .ok (.iinc 8 1, 3) := by decide +kernel
theorem d_Mod_nth_198 : decode m_Mod_nth.2.1 198 = .ok (.goto (-130), 3) := by decide +kernel
theorem d_Mod_nth_201 : decode m_Mod_nth.2.1 201 = .ok (.aload_n 0, 1) := by decide +kernel
theorem d_Mod_nth_202 : decode m_Mod_nth.2.1 202 = .ok (.getfield 98, 3) := by decide +kernel
theorem d_Mod_nth_205 : decode m_Mod_nth.2.1 205 = .ok (.iload 4, 2) := by decide +kernel
theorem d_Mod_nth_207 : decode m_Mod_nth.2.1 207 = .ok (.iaload, 1) := by decide +kernel
theorem d_Mod_nth_208 : decode m_Mod_nth.2.1 208 = .ok (.ireturn, 1) := by decide +kernel
theorem d_Mod_rank_0 : decode m_Mod_rank.2.1 0 = .ok (.aload_n 0, 1) := by decide +kernel
theorem d_Mod_rank_1 : decode m_Mod_rank.2.1 1 = .ok (.invokevirtual 425, 3) := by decide +kernel
theorem d_Mod_rank_4 : decode m_Mod_rank.2.1 4 = .ok (.ifCond .ne 7, 3) := by decide +kernel
theorem d_Mod_rank_7 : decode m_Mod_rank.2.1 7 = .ok (.ldc2_w 420, 3) := by decide +kernel
theorem d_Mod_rank_10 : decode m_Mod_rank.2.1 10 = .ok (.lreturn, 1) := by decide +kernel
theorem d_Mod_rank_11 : decode m_Mod_rank.2.1 11 = .ok (.aload_n 0, 1) := by decide +kernel
theorem d_Mod_rank_12 : decode m_Mod_rank.2.1 12 = .ok (.aload_n 0, 1) := by decide +kernel
theorem d_Mod_rank_13 : decode m_Mod_rank.2.1 13 = .ok (.invokevirtual 125, 3) := by decide +kernel
theorem d_Mod_rank_16 : decode m_Mod_rank.2.1 16 = .ok (.iconst 2, 1) := by decide +kernel
theorem d_Mod_rank_17 : decode m_Mod_rank.2.1 17 = .ok (.idiv, 1) := by decide +kernel
theorem d_Mod_rank_18 : decode m_Mod_rank.2.1 18 = .ok (.aload_n 0, 1) := by decide +kernel
theorem d_Mod_rank_19 : decode m_Mod_rank.2.1 19 = .ok (.getfield 32, 3) := by decide +kernel
theorem d_Mod_rank_22 : decode m_Mod_rank.2.1 22 = .ok (.bipush 22, 2) := by decide +kernel
theorem d_Mod_rank_24 : decode m_Mod_rank.2.1 24 = .ok (.iaload, 1) := by decide +kernel
theorem d_Mod_rank_25 : decode m_Mod_rank.2.1 25 = .ok (.invokevirtual 422, 3) := by decide +kernel
theorem d_Mod_rank_28 : decode m_Mod_rank.2.1 28 = .ok (.lconst 0, 1) := by decide +kernel
theorem d_Mod_rank_29 : decode m_Mod_rank.2.1 29 = .ok (.lstore_n 1, 1) := by decide +kernel
theorem d_Mod_rank_30 : decode m_Mod_rank.2.1 30 = .ok (.iconst 0, 1) := by decide +kernel
theorem d_Mod_rank_31 : decode m_Mod_rank.2.1 31 = .ok (.istore_n 3, 1) := by decide +kernel
theorem d_Mod_rank_32 : decode m_Mod_rank.2.1 32 = .ok (.iconst 0, 1) := by decide +kernel
theorem d_Mod_rank_33 : decode m_Mod_rank.2.1 33 = .ok (.istore 4, 2) := by decide +kernel
theorem d_Mod_rank_35 : decode m_Mod_rank.2.1 35 = .ok (.iload 4, 2) := by decide +kernel
theorem d_Mod_rank_37 : decode m_Mod_rank.2.1 37 = .ok (.aload_n 0, 1) := by decide +kernel
theorem d_Mod_rank_38 : decode m_Mod_rank.2.1 38 = .ok (.invokevirtual 125, 3) := by decide +kernel
theorem d_Mod_rank_41 : decode m_Mod_rank.2.1 41 = .ok (.if_icmp .ge 95, 3) := by decide +kernel
theorem d_Mod_rank_44 : decode m_Mod_rank.2.1 44 = .ok (.aload_n 0, 1) := by decide +kernel
theorem d_Mod_rank_45 : decode m_Mod_rank.2.1 45 = .ok (.invokevirtual 125, 3) := by decide +kernel
theorem d_Mod_rank_48 : decode m_Mod_rank.2.1 48 = .ok (.iload 4, 2) := by decide +kernel
theorem d_Mod_rank_50 : decode m_Mod_rank.2.1 50 = .ok (.isub, 1) := by decide +kernel
theorem d_Mod_rank_51 : decode m_Mod_rank.2.1 51 = .ok (.iconst 1, 1) := by decide +kernel
theorem d_Mod_rank_52 : decode m_Mod_rank.2.1 52 = .ok (.isub, 1) := by decide +kernel
theorem d_Mod_rank_53 : decode m_Mod_rank.2.1 53 = .ok (.istore 5, 2) := by decide +kernel
theorem d_Mod_rank_55 : decode m_Mod_rank.2.1 55 = .ok (.iload_n 3, 1) := by decide +kernel
theorem d_Mod_rank_56 : decode m_Mod_rank.2.1 56 = .ok (.aload_n 0, 1) := by decide +kernel
theorem d_Mod_rank_57 : decode m_Mod_rank.2.1 57 = .ok (.getfield 32, 3) := by decide +kernel
theorem d_Mod_rank_60 : decode m_Mod_rank.2.1 60 = .ok (.bipush 22, 2) := by decide +kernel
theorem d_Mod_rank_62 : decode m_Mod_rank.2.1 62 = .ok (.iaload, 1) := by decide +kernel
theorem d_Mod_rank_63 : decode m_Mod_rank.2.1 63 = .ok (.if_icmp .ge 15, 3) := by decide +kernel
theorem d_Mod_rank_66 : decode m_Mod_rank.2.1 66 = .ok (.aload_n 0, 1) := by decide +kernel
theorem d_Mod_rank_67 : decode m_Mod_rank.2.1 67 = .ok (.iload 5, 2) := by decide +kernel
theorem d_Mod_rank_69 : decode m_Mod_rank.2.1 69 = .ok (.iload_n 3, 1) := by decide +kernel
theorem d_Mod_rank_70 : decode m_Mod_rank.2.1 70 = .ok (.iconst 1, 1) := by decide +kernel
theorem d_Mod_rank_71 : decode m_Mod_rank.2.1 71 = .ok (.iadd, 1) := by decide +kernel
theorem d_Mod_rank_72 : decode m_Mod_rank.2.1 72 = .ok (.invokevirtual 414, 3) := by decide +kernel
theorem d_Mod_rank_75 : decode m_Mod_rank.2.1 75 = .ok (.goto 4, 3) := by decide +kernel
theorem d_Mod_rank_78 : decode m_Mod_rank.2.1 78 = .ok (.lconst 0, 1) := by decide +kernel
theorem d_Mod_rank_79 : decode m_Mod_rank.2.1 79 = .ok (.lstore 6, 2) := by decide +kernel
theorem d_Mod_rank_81 : decode m_Mod_rank.2.1 81 = .ok (.lload_n 1, 1) := by decide +kernel
theorem d_Mod_rank_82 : decode m_Mod_rank.2.1 82 = .ok (.lload 6, 2) := by decide +kernel
theorem d_Mod_rank_84 : decode m_Mod_rank.2.1 84 = .ok (.aload_n 0, 1) := by decide +kernel
theorem d_Mod_rank_85 : decode m_Mod_rank.2.1 85 = .ok (.iload 4, 2) := by decide +kernel
theorem d_Mod_rank_87 : decode m_Mod_rank.2.1 87 = .ok (.invokevirtual 324, 3) := by decide +kernel
theorem d_Mod_rank_90 : decode m_Mod_rank.2.1 90 = .ok (.invokestatic 312, 3) := by decide +kernel
theorem d_Mod_rank_93 : decode m_Mod_rank.2.1 93 = .ok (.ifCond .eq 12, 3) := by decide +kernel
theorem d_Mod_rank_96 : decode m_Mod_rank.2.1 96 = .ok (.aload_n 0, 1) := by decide +kernel
theorem d_Mod_rank_97 : decode m_Mod_rank.2.1 97 = .ok (.iload 4, 2) := by decide +kernel
theorem d_Mod_rank_99 : decode m_Mod_rank.2.1 99 = .ok (.invokevirtual 324, 3) := by decide +kernel
theorem d_Mod_rank_102 : decode m_Mod_rank.2.1 102 = .ok (.goto 4, 3) := by decide +kernel
theorem d_Mod_rank_105 : decode m_Mod_rank.2.1 105 = .ok (.iconst 3, 1) := by decide +kernel
theorem d_Mod_rank_106 : decode m_Mod_rank.2.1 106 = .ok (.i2l, 1) := by decide +kernel
theorem d_Mod_rank_107 : decode m_Mod_rank.2.1 107 = .ok (.lmul, 1) := by decide +kernel
theorem d_Mod_rank_108 : decode m_Mod_rank.2.1 108 = .ok (.ladd, 1) := by decide +kernel
theorem d_Mod_rank_109 : decode m_Mod_rank.2.1 109 = .ok (.lstore_n 1, 1) := by decide +kernel
theorem d_Mod_rank_110 : decode m_Mod_rank.2.1 110 = .ok (.iload_n 3, 1) := by decide +kernel
theorem d_Mod_rank_111 : decode m_Mod_rank.2.1 111 = .ok (.aload_n 0, 1) := by decide +kernel
theorem d_Mod_rank_112 : decode m_Mod_rank.2.1 112 = .ok (.iload 4, 2) := by decide +kernel
theorem d_Mod_rank_114 : decode m_Mod_rank.2.1 114 = .ok (.invokevirtual 324, 3) := by decide +kernel
theorem d_Mod_rank_117 : decode m_Mod_rank.2.1 117 = .ok (.invokestatic 312, 3) := by decide +kernel
theorem d_Mod_rank_120 : decode m_Mod_rank.2.1 120 = .ok (.ifCond .eq 7, 3) := by decide +kernel
theorem d_Mod_rank_123 : decode m_Mod_rank.2.1 123 = .ok (.iconst 1, 1) := by decide +kernel
theorem d_Mod_rank_124 : decode m_Mod_rank.2.1 124 = .ok (.goto 4, 3) := by decide +kernel
theorem d_Mod_rank_127 : decode m_Mod_rank.2.1 127 = .ok (.iconst (-1), 1) := by decide +kernel
theorem d_Mod_rank_128 : decode m_Mod_rank.2.1 128 = .ok (.iadd, 1) := by decide +kernel
theorem d_Mod_rank_129 : decode m_Mod_rank.2.1 129 = .ok (.istore_n 3, 1) := by decide +kernel
theorem d_Mod_rank_130 : decode m_Mod_rank.2.1 130 = .ok (.iinc 4 1, 3) := by decide +kernel
theorem d_Mod_rank_133 : decode m_Mod_rank.2.1 133 = .ok (.goto (-98), 3) := by decide +kernel
theorem d_Mod_rank_136 : decode m_Mod_rank.2.1 136 = .ok (.lload_n 1, 1) := by decide +kernel
theorem d_Mod_rank_137 : decode m_Mod_rank.2.1 137 = .ok (.lreturn, 1) := by decide +kernel
theorem d_Mod_hasRank_0 : decode m_Mod_hasRank.2.1 0 = .ok (.aload_n 0, 1) := by decide +kernel
theorem d_Mod_hasRank_1 : decode m_Mod_hasRank.2.1 1 = .ok (.invokevirtual 294, 3) := by decide +kernel
theorem d_Mod_hasRank_4 : decode m_Mod_hasRank.2.1 4 = .ok (.ifCond .ne 7, 3) := by decide +kernel
theorem d_Mod_hasRank_7 : decode m_Mod_hasRank.2.1 7 = .ok (.iconst 1, 1) := by decide +kernel
theorem d_Mod_hasRank_8 : decode m_Mod_hasRank.2.1 8 = .ok (.goto 4, 3) := by decide +kernel
theorem d_Mod_hasRank_11 : decode m_Mod_hasRank.2.1 11 = .ok (.iconst 0, 1) := by decide +kernel
theorem d_Mod_hasRank_12 : decode m_Mod_hasRank.2.1 12 = .ok (.istore_n 1, 1) := by decide +kernel
theorem d_Mod_hasRank_13 : decode m_Mod_hasRank.2.1 13 = .ok (.iconst 0, 1) := by decide +kernel
theorem d_Mod_hasRank_14 : decode m_Mod_hasRank.2.1 14 = .ok (.istore_n 2, 1) := by decide +kernel
theorem d_Mod_hasRank_15 : decode m_Mod_hasRank.2.1 15 = .ok (.iload_n 2, 1) := by decide +kernel
theorem d_Mod_hasRank_16 : decode m_Mod_hasRank.2.1 16 = .ok (.aload_n 0, 1) := by decide +kernel
theorem d_Mod_hasRank_17 : decode m_Mod_hasRank.2.1 17 = .ok (.invokevirtual 125, 3) := by decide +kernel
theorem d_Mod_hasRank_20 : decode m_Mod_hasRank.2.1 20 = .ok (.if_icmp .ge 56, 3) := by decide +kernel
theorem d_Mod_hasRank_23 : decode m_Mod_hasRank.2.1 23 = .ok (.iload_n 1, 1) := by decide +kernel
theorem d_Mod_hasRank_24 : decode m_Mod_hasRank.2.1 24 = .ok (.ifCond .eq 52, 3) := by decide +kernel
theorem d_Mod_hasRank_27 : decode m_Mod_hasRank.2.1 27 = .ok (.aload_n 0, 1) := by decide +kernel
theorem d_Mod_hasRank_28 : decode m_Mod_hasRank.2.1 28 = .ok (.iload_n 2, 1) := by decide +kernel
theorem d_Mod_hasRank_29 : decode m_Mod_hasRank.2.1 29 = .ok (.invokevirtual 324, 3) := by decide +kernel
theorem d_Mod_hasRank_32 : decode m_Mod_hasRank.2.1 32 = .ok (.invokestatic 22, 3) := by decide +kernel
theorem d_Mod_hasRank_35 : decode m_Mod_hasRank.2.1 35 = .ok (.ifCond .ne 33, 3) := by decide +kernel
theorem d_Mod_hasRank_38 : decode m_Mod_hasRank.2.1 38 = .ok (.aload_n 0, 1) := by decide +kernel
theorem d_Mod_hasRank_39 : decode m_Mod_hasRank.2.1 39 = .ok (.iload_n 2, 1) := by decide +kernel
theorem d_Mod_hasRank_40 : decode m_Mod_hasRank.2.1 40 = .ok (.invokevirtual 324, 3) := by decide +kernel
theorem d_Mod_hasRank_43 : decode m_Mod_hasRank.2.1 43 = .ok (.invokestatic 333, 3) := by decide +kernel
theorem d_Mod_hasRank_46 : decode m_Mod_hasRank.2.1 46 = .ok (.ifCond .ne 18, 3) := by decide +kernel
theorem d_Mod_hasRank_49 : decode m_Mod_hasRank.2.1 49 = .ok (.aload_n 0, 1) := by decide +kernel
theorem d_Mod_hasRank_50 : decode m_Mod_hasRank.2.1 50 = .ok (.iload_n 2, 1) := by decide +kernel
theorem d_Mod_hasRank_51 : decode m_Mod_hasRank.2.1 51 = .ok (.invokevirtual 342, 3) := by decide +kernel
theorem d_Mod_hasRank_54 : decode m_Mod_hasRank.2.1 54 = .ok (.aload_n 0, 1) := by decide +kernel
theorem d_Mod_hasRank_55 : decode m_Mod_hasRank.2.1 55 = .ok (.getfield 32, 3) := by decide +kernel
theorem d_Mod_hasRank_58 : decode m_Mod_hasRank.2.1 58 = .ok (.bipush 22, 2) := by decide +kernel
theorem d_Mod_hasRank_60 : decode m_Mod_hasRank.2.1 60 = .ok (.iaload, 1) := by decide +kernel
theorem d_Mod_hasRank_61 : decode m_Mod_hasRank.2.1 61 = .ok (.if_icmp .ge 7, 3) := by decide +kernel
theorem d_Mod_hasRank_64 : decode m_Mod_hasRank.2.1 64 = .ok (.iconst 1, 1) := by decide +kernel
theorem d_Mod_hasRank_65 : decode m_Mod_hasRank.2.1 65 = .ok (.goto 4, 3) := by decide +kernel
theorem d_Mod_hasRank_68 : decode m_Mod_hasRank.2.1 68 = .ok (.iconst 0, 1) := by decide +kernel
theorem d_Mod_hasRank_69 : decode m_Mod_hasRank.2.1 69 = .ok (.istore_n 1, 1) := by decide +kernel
theorem d_Mod_hasRank_70 : decode m_Mod_hasRank.2.1 70 = .ok (.iinc 2 1, 3) := by decide +kernel
theorem d_Mod_hasRank_73 : decode m_Mod_hasRank.2.1 73 = .ok (.goto (-58), 3) := by decide +kernel
theorem d_Mod_hasRank_76 : decode m_Mod_hasRank.2.1 76 = .ok (.iload_n 1, 1) := by decide +kernel
theorem d_Mod_hasRank_77 : decode m_Mod_hasRank.2.1 77 = .ok (.ireturn, 1) := by decide +kernel
theorem d_Mod_game_0 : decode m_Mod_game.2.1 0 = .ok (.iload_n 1, 1) := by decide +kernel
theorem d_Mod_game_1 : decode m_Mod_game.2.1 1 = .ok (.iconst 0, 1) := by decide +kernel
theorem d_Mod_game_2 : decode m_Mod_game.2.1 2 = .ok (.iconst 1, 1) := by decide +kernel
theorem d_Mod_game_3 : decode m_Mod_game.2.1 3 = .ok (.invokestatic 18, 3) := by decide +kernel
theorem d_Mod_game_6 : decode m_Mod_game.2.1 6 = .ok (.ifCond .eq 15, 3) := by decide +kernel
theorem d_Mod_game_9 : decode m_Mod_game.2.1 9 = .ok (.iload_n 1, 1) := by decide +kernel
theorem d_Mod_game_10 : decode m_Mod_game.2.1 10 = .ok (.iconst 1, 1) := by decide +kernel
theorem d_Mod_game_11 : decode m_Mod_game.2.1 11 = .ok (.if_icmp .ne 14, 3) := by decide +kernel
theorem d_Mod_game_14 : decode m_Mod_game.2.1 14 = .ok (.aload_n 0, 1) := by decide +kernel
theorem d_Mod_game_15 : decode m_Mod_game.2.1 15 = .ok (.invokevirtual 125, 3) := by decide +kernel
theorem d_Mod_game_18 : decode m_Mod_game.2.1 18 = .ok (.ifCond .ne 7, 3) := by decide +kernel
theorem d_Mod_game_21 : decode m_Mod_game.2.1 21 = .ok (.ldc_w 437, 3) := by decide +kernel
theorem d_Mod_game_24 : decode m_Mod_game.2.1 24 = .ok (.ireturn, 1) := by decide +kernel
theorem d_Mod_game_25 : decode m_Mod_game.2.1 25 = .ok (.iconst 0, 1) := by decide +kernel
theorem d_Mod_game_26 : decode m_Mod_game.2.1 26 = .ok (.istore_n 2, 1) := by decide +kernel
theorem d_Mod_game_27 : decode m_Mod_game.2.1 27 = .ok (.iload_n 2, 1) := by decide +kernel
theorem d_Mod_game_28 : decode m_Mod_game.2.1 28 = .ok (.aload_n 0, 1) := by decide +kernel
theorem d_Mod_game_29 : decode m_Mod_game.2.1 29 = .ok (.invokevirtual 125, 3) := by decide +kernel
theorem d_Mod_game_32 : decode m_Mod_game.2.1 32 = .ok (.if_icmp .ge 20, 3) := by decide +kernel
theorem d_Mod_game_35 : decode m_Mod_game.2.1 35 = .ok (.aload_n 0, 1) := by decide +kernel
theorem d_Mod_game_36 : decode m_Mod_game.2.1 36 = .ok (.getfield 88, 3) := by decide +kernel
theorem d_Mod_game_39 : decode m_Mod_game.2.1 39 = .ok (.iload_n 2, 1) := by decide +kernel
theorem d_Mod_game_40 : decode m_Mod_game.2.1 40 = .ok (.aload_n 0, 1) := by decide +kernel
theorem d_Mod_game_41 : decode m_Mod_game.2.1 41 = .ok (.iload_n 2, 1) := by decide +kernel
theorem d_Mod_game_42 : decode m_Mod_game.2.1 42 = .ok (.invokevirtual 438, 3) := by decide +kernel
theorem d_Mod_game_45 : decode m_Mod_game.2.1 45 = .ok (.iastore, 1) := by decide +kernel
theorem d_Mod_game_46 : decode m_Mod_game.2.1 46 = .ok (.iinc 2 1, 3) := by decide +kernel
theorem d_Mod_game_49 : decode m_Mod_game.2.1 49 = .ok (.goto (-22), 3) := by decide +kernel
theorem d_Mod_game_52 : decode m_Mod_game.2.1 52 = .ok (.aload_n 0, 1) := by decide +kernel
theorem d_Mod_game_53 : decode m_Mod_game.2.1 53 = .ok (.invokevirtual 441, 3) := by decide +kernel
theorem d_Mod_game_56 : decode m_Mod_game.2.1 56 = .ok (.iload_n 1, 1) := by decide +kernel
theorem d_Mod_game_57 : decode m_Mod_game.2.1 57 = .ok (.ifCond .ne 13, 3) := by decide +kernel
theorem d_Mod_game_60 : decode m_Mod_game.2.1 60 = .ok (.aload_n 0, 1) := by decide +kernel
theorem d_Mod_game_61 : decode m_Mod_game.2.1 61 = .ok (.iconst 0, 1) := by decide +kernel
theorem d_Mod_game_62 : decode m_Mod_game.2.1 62 = .ok (.aload_n 0, 1) := by decide +kernel
theorem d_Mod_game_63 : decode m_Mod_game.2.1 63 = .ok (.invokevirtual 125, 3) := by decide +kernel
theorem d_Mod_game_66 : decode m_Mod_game.2.1 66 = .ok (.invokevirtual 384, 3) := by decide +kernel
theorem d_Mod_game_69 : decode m_Mod_game.2.1 69 = .ok (.ireturn, 1) := by decide +kernel
theorem d_Mod_game_70 : decode m_Mod_game.2.1 70 = .ok (.aload_n 0, 1) := by decide +kernel
theorem d_Mod_game_71 : decode m_Mod_game.2.1 71 = .ok (.iconst 0, 1) := by decide +kernel
theorem d_Mod_game_72 : decode m_Mod_game.2.1 72 = .ok (.aload_n 0, 1) := by decide +kernel
theorem d_Mod_game_73 : decode m_Mod_game.2.1 73 = .ok (.invokevirtual 125, 3) := by decide +kernel
theorem d_Mod_game_76 : decode m_Mod_game.2.1 76 = .ok (.invokevirtual 428, 3) := by decide +kernel
theorem d_Mod_game_79 : decode m_Mod_game.2.1 79 = .ok (.aload_n 0, 1) := by decide +kernel
theorem d_Mod_game_80 : decode m_Mod_game.2.1 80 = .ok (.iconst 0, 1) := by decide +kernel
theorem d_Mod_game_81 : decode m_Mod_game.2.1 81 = .ok (.aload_n 0, 1) := by decide +kernel
theorem d_Mod_game_82 : decode m_Mod_game.2.1 82 = .ok (.invokevirtual 125, 3) := by decide +kernel
theorem d_Mod_game_85 : decode m_Mod_game.2.1 85 = .ok (.invokevirtual 431, 3) := by decide +kernel
theorem d_Mod_game_88 : decode m_Mod_game.2.1 88 = .ok (.if_icmp .lt 7, 3) := by decide +kernel
theorem d_Mod_game_91 : decode m_Mod_game.2.1 91 = .ok (.iconst 0, 1) := by decide +kernel
theorem d_Mod_game_92 : decode m_Mod_game.2.1 92 = .ok (.goto 4, 3) := by decide +kernel
theorem d_Mod_game_95 : decode m_Mod_game.2.1 95 = .ok (.iconst 1, 1) := by decide +kernel
theorem d_Mod_game_96 : decode m_Mod_game.2.1 96 = .ok (.ireturn, 1) := by decide +kernel
theorem d_Mod_worthAt_0 : decode m_Mod_worthAt.2.1 0 = .ok (.aload_n 0, 1) := by decide +kernel
theorem d_Mod_worthAt_1 : decode m_Mod_worthAt.2.1 1 = .ok (.iconst 3, 1) := by decide +kernel
theorem d_Mod_worthAt_2 : decode m_Mod_worthAt.2.1 2 = .ok (.aload_n 0, 1) := by decide +kernel
theorem d_Mod_worthAt_3 : decode m_Mod_worthAt.2.1 3 = .ok (.iload_n 1, 1) := by decide +kernel
theorem d_Mod_worthAt_4 : decode m_Mod_worthAt.2.1 4 = .ok (.invokevirtual 324, 3) := by decide +kernel
theorem d_Mod_worthAt_7 : decode m_Mod_worthAt.2.1 7 = .ok (.iload_n 1, 1) := by decide +kernel
theorem d_Mod_worthAt_8 : decode m_Mod_worthAt.2.1 8 = .ok (.iconst 1, 1) := by decide +kernel
theorem d_Mod_worthAt_9 : decode m_Mod_worthAt.2.1 9 = .ok (.invokevirtual 320, 3) := by decide +kernel
theorem d_Mod_worthAt_12 : decode m_Mod_worthAt.2.1 12 = .ok (.ireturn, 1) := by decide +kernel
theorem d_Mod_laysGame_0 : decode m_Mod_laysGame.2.1 0 = .ok (.aload_n 0, 1) := by decide +kernel
theorem d_Mod_laysGame_1 : decode m_Mod_laysGame.2.1 1 = .ok (.invokevirtual 125, 3) := by decide +kernel
theorem d_Mod_laysGame_4 : decode m_Mod_laysGame.2.1 4 = .ok (.istore_n 1, 1) := by decide +kernel
theorem d_Mod_laysGame_5 : decode m_Mod_laysGame.2.1 5 = .ok (.iload_n 1, 1) := by decide +kernel
theorem d_Mod_laysGame_6 : decode m_Mod_laysGame.2.1 6 = .ok (.ifCond .lt 65, 3) := by decide +kernel
theorem d_Mod_laysGame_9 : decode m_Mod_laysGame.2.1 9 = .ok (.aload_n 0, 1) := by decide +kernel
theorem d_Mod_laysGame_10 : decode m_Mod_laysGame.2.1 10 = .ok (.getfield 82, 3) := by decide +kernel
theorem d_Mod_laysGame_13 : decode m_Mod_laysGame.2.1 13 = .ok (.bipush 21, 2) := by decide +kernel
theorem d_Mod_laysGame_15 : decode m_Mod_laysGame.2.1 15 = .ok (.iload_n 1, 1) := by decide +kernel
theorem d_Mod_laysGame_16 : decode m_Mod_laysGame.2.1 16 = .ok (.imul, 1) := by decide +kernel
theorem d_Mod_laysGame_17 : decode m_Mod_laysGame.2.1 17 = .ok (.iload_n 1, 1) := by decide +kernel
theorem d_Mod_laysGame_18 : decode m_Mod_laysGame.2.1 18 = .ok (.iadd, 1) := by decide +kernel
theorem d_Mod_laysGame_19 : decode m_Mod_laysGame.2.1 19 = .ok (.iconst 0, 1) := by decide +kernel
theorem d_Mod_laysGame_20 : decode m_Mod_laysGame.2.1 20 = .ok (.iastore, 1) := by decide +kernel
theorem d_Mod_laysGame_21 : decode m_Mod_laysGame.2.1 21 = .ok (.iload_n 1, 1) := by decide +kernel
theorem d_Mod_laysGame_22 : decode m_Mod_laysGame.2.1 22 = .ok (.iconst 1, 1) := by decide +kernel
theorem d_Mod_laysGame_23 : decode m_Mod_laysGame.2.1 23 = .ok (.iadd, 1) := by decide +kernel
theorem d_Mod_laysGame_24 : decode m_Mod_laysGame.2.1 24 = .ok (.istore_n 2, 1) := by decide +kernel
theorem d_Mod_laysGame_25 : decode m_Mod_laysGame.2.1 25 = .ok (.iload_n 2, 1) := by decide +kernel
theorem d_Mod_laysGame_26 : decode m_Mod_laysGame.2.1 26 = .ok (.aload_n 0, 1) := by decide +kernel
theorem d_Mod_laysGame_27 : decode m_Mod_laysGame.2.1 27 = .ok (.invokevirtual 125, 3) := by decide +kernel
theorem d_Mod_laysGame_30 : decode m_Mod_laysGame.2.1 30 = .ok (.if_icmp .gt 35, 3) := by decide +kernel
theorem d_Mod_laysGame_33 : decode m_Mod_laysGame.2.1 33 = .ok (.aload_n 0, 1) := by decide +kernel
theorem d_Mod_laysGame_34 : decode m_Mod_laysGame.2.1 34 = .ok (.getfield 82, 3) := by decide +kernel
theorem d_Mod_laysGame_37 : decode m_Mod_laysGame.2.1 37 = .ok (.bipush 21, 2) := by decide +kernel
theorem d_Mod_laysGame_39 : decode m_Mod_laysGame.2.1 39 = .ok (.iload_n 1, 1) := by decide +kernel
theorem d_Mod_laysGame_40 : decode m_Mod_laysGame.2.1 40 = .ok (.imul, 1) := by decide +kernel
theorem d_Mod_laysGame_41 : decode m_Mod_laysGame.2.1 41 = .ok (.iload_n 2, 1) := by decide +kernel
theorem d_Mod_laysGame_42 : decode m_Mod_laysGame.2.1 42 = .ok (.iadd, 1) := by decide +kernel
theorem d_Mod_laysGame_43 : decode m_Mod_laysGame.2.1 43 = .ok (.aload_n 0, 1) := by decide +kernel
theorem d_Mod_laysGame_44 : decode m_Mod_laysGame.2.1 44 = .ok (.iload_n 1, 1) := by decide +kernel
theorem d_Mod_laysGame_45 : decode m_Mod_laysGame.2.1 45 = .ok (.iload_n 2, 1) := by decide +kernel
theorem d_Mod_laysGame_46 : decode m_Mod_laysGame.2.1 46 = .ok (.invokevirtual 428, 3) := by decide +kernel
theorem d_Mod_laysGame_49 : decode m_Mod_laysGame.2.1 49 = .ok (.aload_n 0, 1) := by decide +kernel
theorem d_Mod_laysGame_50 : decode m_Mod_laysGame.2.1 50 = .ok (.iload_n 1, 1) := by decide +kernel
theorem d_Mod_laysGame_51 : decode m_Mod_laysGame.2.1 51 = .ok (.iload_n 2, 1) := by decide +kernel
theorem d_Mod_laysGame_52 : decode m_Mod_laysGame.2.1 52 = .ok (.invokevirtual 431, 3) := by decide +kernel
theorem d_Mod_laysGame_55 : decode m_Mod_laysGame.2.1 55 = .ok (.invokestatic 434, 3) := by decide +kernel
theorem d_Mod_laysGame_58 : decode m_Mod_laysGame.2.1 58 = .ok (.iastore, 1) := by decide +kernel
theorem d_Mod_laysGame_59 : decode m_Mod_laysGame.2.1 59 = .ok (.iinc 2 1, 3) := by decide +kernel
theorem d_Mod_laysGame_62 : decode m_Mod_laysGame.2.1 62 = .ok (.goto (-37), 3) := by decide +kernel
theorem d_Mod_laysGame_65 : decode m_Mod_laysGame.2.1 65 = .ok (.iinc 1 (-1), 3) := by decide +kernel
theorem d_Mod_laysGame_68 : decode m_Mod_laysGame.2.1 68 = .ok (.goto (-63), 3) := by decide +kernel
theorem d_Mod_laysGame_71 : decode m_Mod_laysGame.2.1 71 = .ok (.return_, 1) := by decide +kernel
theorem d_Mod_byFirst_0 : decode m_Mod_byFirst.2.1 0 = .ok (.aload_n 0, 1) := by decide +kernel
theorem d_Mod_byFirst_1 : decode m_Mod_byFirst.2.1 1 = .ok (.getfield 88, 3) := by decide +kernel
theorem d_Mod_byFirst_4 : decode m_Mod_byFirst.2.1 4 = .ok (.iload_n 1, 1) := by decide +kernel
theorem d_Mod_byFirst_5 : decode m_Mod_byFirst.2.1 5 = .ok (.iaload, 1) := by decide +kernel
theorem d_Mod_byFirst_6 : decode m_Mod_byFirst.2.1 6 = .ok (.aload_n 0, 1) := by decide +kernel
theorem d_Mod_byFirst_7 : decode m_Mod_byFirst.2.1 7 = .ok (.iload_n 1, 1) := by decide +kernel
theorem d_Mod_byFirst_8 : decode m_Mod_byFirst.2.1 8 = .ok (.iconst 1, 1) := by decide +kernel
theorem d_Mod_byFirst_9 : decode m_Mod_byFirst.2.1 9 = .ok (.iadd, 1) := by decide +kernel
theorem d_Mod_byFirst_10 : decode m_Mod_byFirst.2.1 10 = .ok (.iload_n 2, 1) := by decide +kernel
theorem d_Mod_byFirst_11 : decode m_Mod_byFirst.2.1 11 = .ok (.invokevirtual 384, 3) := by decide +kernel
theorem d_Mod_byFirst_14 : decode m_Mod_byFirst.2.1 14 = .ok (.isub, 1) := by decide +kernel
theorem d_Mod_byFirst_15 : decode m_Mod_byFirst.2.1 15 = .ok (.ireturn, 1) := by decide +kernel
theorem d_Mod_byLast_0 : decode m_Mod_byLast.2.1 0 = .ok (.aload_n 0, 1) := by decide +kernel
theorem d_Mod_byLast_1 : decode m_Mod_byLast.2.1 1 = .ok (.getfield 88, 3) := by decide +kernel
theorem d_Mod_byLast_4 : decode m_Mod_byLast.2.1 4 = .ok (.iload_n 2, 1) := by decide +kernel
theorem d_Mod_byLast_5 : decode m_Mod_byLast.2.1 5 = .ok (.iconst 1, 1) := by decide +kernel
theorem d_Mod_byLast_6 : decode m_Mod_byLast.2.1 6 = .ok (.isub, 1) := by decide +kernel
theorem d_Mod_byLast_7 : decode m_Mod_byLast.2.1 7 = .ok (.iaload, 1) := by decide +kernel
theorem d_Mod_byLast_8 : decode m_Mod_byLast.2.1 8 = .ok (.aload_n 0, 1) := by decide +kernel
theorem d_Mod_byLast_9 : decode m_Mod_byLast.2.1 9 = .ok (.iload_n 1, 1) := by decide +kernel
theorem d_Mod_byLast_10 : decode m_Mod_byLast.2.1 10 = .ok (.iload_n 2, 1) := by decide +kernel
theorem d_Mod_byLast_11 : decode m_Mod_byLast.2.1 11 = .ok (.iconst 1, 1) := by decide +kernel
theorem d_Mod_byLast_12 : decode m_Mod_byLast.2.1 12 = .ok (.isub, 1) := by decide +kernel
theorem d_Mod_byLast_13 : decode m_Mod_byLast.2.1 13 = .ok (.invokevirtual 384, 3) := by decide +kernel
theorem d_Mod_byLast_16 : decode m_Mod_byLast.2.1 16 = .ok (.isub, 1) := by decide +kernel
theorem d_Mod_byLast_17 : decode m_Mod_byLast.2.1 17 = .ok (.ireturn, 1) := by decide +kernel
theorem d_Mod_greater_0 : decode m_Mod_greater.2.1 0 = .ok (.iload_n 0, 1) := by decide +kernel
theorem d_Mod_greater_1 : decode m_Mod_greater.2.1 1 = .ok (.iload_n 1, 1) := by decide +kernel
theorem d_Mod_greater_2 : decode m_Mod_greater.2.1 2 = .ok (.if_icmp .le 7, 3) := by decide +kernel
theorem d_Mod_greater_5 : decode m_Mod_greater.2.1 5 = .ok (.iload_n 0, 1) := by decide +kernel
theorem d_Mod_greater_6 : decode m_Mod_greater.2.1 6 = .ok (.goto 4, 3) := by decide +kernel
theorem d_Mod_greater_9 : decode m_Mod_greater.2.1 9 = .ok (.iload_n 1, 1) := by decide +kernel
theorem d_Mod_greater_10 : decode m_Mod_greater.2.1 10 = .ok (.ireturn, 1) := by decide +kernel
theorem d_Mod_hide_0 : decode m_Mod_hide.2.1 0 = .ok (.iload_n 1, 1) := by decide +kernel
theorem d_Mod_hide_1 : decode m_Mod_hide.2.1 1 = .ok (.iconst 0, 1) := by decide +kernel
theorem d_Mod_hide_2 : decode m_Mod_hide.2.1 2 = .ok (.bipush 63, 2) := by decide +kernel
theorem d_Mod_hide_4 : decode m_Mod_hide.2.1 4 = .ok (.invokestatic 18, 3) := by decide +kernel
theorem d_Mod_hide_7 : decode m_Mod_hide.2.1 7 = .ok (.ifCond .eq 21, 3) := by decide +kernel
theorem d_Mod_hide_10 : decode m_Mod_hide.2.1 10 = .ok (.iload_n 2, 1) := by decide +kernel
theorem d_Mod_hide_11 : decode m_Mod_hide.2.1 11 = .ok (.iconst 0, 1) := by decide +kernel
theorem d_Mod_hide_12 : decode m_Mod_hide.2.1 12 = .ok (.iconst 3, 1) := by decide +kernel
theorem d_Mod_hide_13 : decode m_Mod_hide.2.1 13 = .ok (.invokestatic 18, 3) := by decide +kernel
theorem d_Mod_hide_16 : decode m_Mod_hide.2.1 16 = .ok (.ifCond .eq 12, 3) := by decide +kernel
theorem d_Mod_hide_19 : decode m_Mod_hide.2.1 19 = .ok (.aload_n 0, 1) := by decide +kernel
theorem d_Mod_hide_20 : decode m_Mod_hide.2.1 20 = .ok (.invokevirtual 444, 3) := by decide +kernel
theorem d_Mod_hide_23 : decode m_Mod_hide.2.1 23 = .ok (.iload_n 1, 1) := by decide +kernel
theorem d_Mod_hide_24 : decode m_Mod_hide.2.1 24 = .ok (.iand, 1) := by decide +kernel
theorem d_Mod_hide_25 : decode m_Mod_hide.2.1 25 = .ok (.ifCond .ne 5, 3) := by decide +kernel
theorem d_Mod_hide_28 : decode m_Mod_hide.2.1 28 = .ok (.iconst (-1), 1) := by decide +kernel
theorem d_Mod_hide_29 : decode m_Mod_hide.2.1 29 = .ok (.ireturn, 1) := by decide +kernel
theorem d_Mod_hide_30 : decode m_Mod_hide.2.1 30 = .ok (.aload_n 0, 1) := by decide +kernel
theorem d_Mod_hide_31 : decode m_Mod_hide.2.1 31 = .ok (.invokevirtual 390, 3) := by decide +kernel
theorem d_Mod_hide_34 : decode m_Mod_hide.2.1 34 = .ok (.aload_n 0, 1) := by decide +kernel
theorem d_Mod_hide_35 : decode m_Mod_hide.2.1 35 = .ok (.getfield 101, 3) := by decide +kernel
theorem d_Mod_hide_38 : decode m_Mod_hide.2.1 38 = .ok (.iconst 0, 1) := by decide +kernel
theorem d_Mod_hide_39 : decode m_Mod_hide.2.1 39 = .ok (.ldc 158, 2) := by decide +kernel
theorem d_Mod_hide_41 : decode m_Mod_hide.2.1 41 = .ok (.iastore, 1) := by decide +kernel
theorem d_Mod_hide_42 : decode m_Mod_hide.2.1 42 = .ok (.iconst 0, 1) := by decide +kernel
theorem d_Mod_hide_43 : decode m_Mod_hide.2.1 43 = .ok (.istore_n 3, 1) := by decide +kernel
theorem d_Mod_hide_44 : decode m_Mod_hide.2.1 44 = .ok (.iload_n 3, 1) := by decide +kernel
theorem d_Mod_hide_45 : decode m_Mod_hide.2.1 45 = .ok (.iconst 3, 1) := by decide +kernel
theorem d_Mod_hide_46 : decode m_Mod_hide.2.1 46 = .ok (.if_icmp .ge 80, 3) := by decide +kernel
theorem d_Mod_hide_49 : decode m_Mod_hide.2.1 49 = .ok (.iconst 0, 1) := by decide +kernel
theorem d_Mod_hide_50 : decode m_Mod_hide.2.1 50 = .ok (.istore 4, 2) := by decide +kernel
theorem d_Mod_hide_52 : decode m_Mod_hide.2.1 52 = .ok (.iload 4, 2) := by decide +kernel
theorem d_Mod_hide_54 : decode m_Mod_hide.2.1 54 = .ok (.aload_n 0, 1) := by decide +kernel
theorem d_Mod_hide_55 : decode m_Mod_hide.2.1 55 = .ok (.invokevirtual 125, 3) := by decide +kernel
theorem d_Mod_hide_58 : decode m_Mod_hide.2.1 58 = .ok (.if_icmp .ge 62, 3) := by decide +kernel
theorem d_Mod_hide_61 : decode m_Mod_hide.2.1 61 = .ok (.iload 4, 2) := by decide +kernel
theorem d_Mod_hide_63 : decode m_Mod_hide.2.1 63 = .ok (.iconst 1, 1) := by decide +kernel
theorem d_Mod_hide_64 : decode m_Mod_hide.2.1 64 = .ok (.iadd, 1) := by decide +kernel
theorem d_Mod_hide_65 : decode m_Mod_hide.2.1 65 = .ok (.istore 5, 2) := by decide +kernel
theorem d_Mod_hide_67 : decode m_Mod_hide.2.1 67 = .ok (.iload 5, 2) := by decide +kernel
theorem d_Mod_hide_69 : decode m_Mod_hide.2.1 69 = .ok (.aload_n 0, 1) := by decide +kernel
theorem d_Mod_hide_70 : decode m_Mod_hide.2.1 70 = .ok (.invokevirtual 125, 3) := by decide +kernel
theorem d_Mod_hide_73 : decode m_Mod_hide.2.1 73 = .ok (.if_icmp .gt 41, 3) := by decide +kernel
theorem d_Mod_hide_76 : decode m_Mod_hide.2.1 76 = .ok (.aload_n 0, 1) := by decide +kernel
theorem d_Mod_hide_77 : decode m_Mod_hide.2.1 77 = .ok (.iload_n 1, 1) := by decide +kernel
theorem d_Mod_hide_78 : decode m_Mod_hide.2.1 78 = .ok (.iload 4, 2) := by decide +kernel
theorem d_Mod_hide_80 : decode m_Mod_hide.2.1 80 = .ok (.iload 5, 2) := by decide +kernel
theorem d_Mod_hide_82 : decode m_Mod_hide.2.1 82 = .ok (.invokevirtual 447, 3) := by decide +kernel
theorem d_Mod_hide_85 : decode m_Mod_hide.2.1 85 = .ok (.ifCond .eq 23, 3) := by decide +kernel
theorem d_Mod_hide_88 : decode m_Mod_hide.2.1 88 = .ok (.aload_n 0, 1) := by decide +kernel
theorem d_Mod_hide_89 : decode m_Mod_hide.2.1 89 = .ok (.iload 4, 2) := by decide +kernel
theorem d_Mod_hide_91 : decode m_Mod_hide.2.1 91 = .ok (.iload 5, 2) := by decide +kernel
theorem d_Mod_hide_93 : decode m_Mod_hide.2.1 93 = .ok (.invokevirtual 348, 3) := by decide +kernel
theorem d_Mod_hide_96 : decode m_Mod_hide.2.1 96 = .ok (.ifCond .eq 12, 3) := by decide +kernel
theorem d_Mod_hide_99 : decode m_Mod_hide.2.1 99 = .ok (.aload_n 0, 1) := by decide +kernel
theorem d_Mod_hide_100 : decode m_Mod_hide.2.1 100 = .ok (.iload_n 3, 1) := by decide +kernel
theorem d_Mod_hide_101 : decode m_Mod_hide.2.1 101 = .ok (.iload 4, 2) := by decide +kernel
theorem d_Mod_hide_103 : decode m_Mod_hide.2.1 103 = .ok (.iload 5, 2) := by decide +kernel
theorem d_Mod_hide_105 : decode m_Mod_hide.2.1 105 = .ok (.invokevirtual 450, 3) := by decide +kernel
theorem d_Mod_hide_108 : decode m_Mod_hide.2.1 108 = .ok (.iinc 5 1, 3) := by decide +kernel
theorem d_Mod_hide_111 : decode m_Mod_hide.2.1 111 = .ok (.goto (-44), 3) := by decide +kernel
theorem d_Mod_hide_114 : decode m_Mod_hide.2.1 114 = .ok (.iinc 4 1, 3) := by decide +kernel
theorem d_Mod_hide_117 : decode m_Mod_hide.2.1 117 = .ok (.goto (-65), 3) := by decide +kernel
theorem d_Mod_hide_120 : decode m_Mod_hide.2.1 120 = .ok (.iinc 3 1, 3) := by decide +kernel
theorem d_Mod_hide_123 : decode m_Mod_hide.2.1 123 = .ok (.goto (-79), 3) := by decide +kernel
theorem d_Mod_hide_126 : decode m_Mod_hide.2.1 126 = .ok (.aload_n 0, 1) := by decide +kernel
theorem d_Mod_hide_127 : decode m_Mod_hide.2.1 127 = .ok (.getfield 101, 3) := by decide +kernel
theorem d_Mod_hide_130 : decode m_Mod_hide.2.1 130 = .ok (.iconst 0, 1) := by decide +kernel
theorem d_Mod_hide_131 : decode m_Mod_hide.2.1 131 = .ok (.iaload, 1) := by decide +kernel
theorem d_Mod_hide_132 : decode m_Mod_hide.2.1 132 = .ok (.ldc 158, 2) := by decide +kernel
theorem d_Mod_hide_134 : decode m_Mod_hide.2.1 134 = .ok (.if_icmp .ne 7, 3) := by decide +kernel
theorem d_Mod_hide_137 : decode m_Mod_hide.2.1 137 = .ok (.iconst (-1), 1) := by decide +kernel
theorem d_Mod_hide_138 : decode m_Mod_hide.2.1 138 = .ok (.goto 9, 3) := by decide +kernel
theorem d_Mod_hide_141 : decode m_Mod_hide.2.1 141 = .ok (.aload_n 0, 1) := by decide +kernel
theorem d_Mod_hide_142 : decode m_Mod_hide.2.1 142 = .ok (.getfield 101, 3) := by decide +kernel
theorem d_Mod_hide_145 : decode m_Mod_hide.2.1 145 = .ok (.iload_n 2, 1) := by decide +kernel
theorem d_Mod_hide_146 : decode m_Mod_hide.2.1 146 = .ok (.iaload, 1) := by decide +kernel
theorem d_Mod_hide_147 : decode m_Mod_hide.2.1 147 = .ok (.ireturn, 1) := by decide +kernel
theorem d_Mod_hasAll_0 : decode m_Mod_hasAll.2.1 0 = .ok (.aload_n 0, 1) := by decide +kernel
theorem d_Mod_hasAll_1 : decode m_Mod_hasAll.2.1 1 = .ok (.invokevirtual 294, 3) := by decide +kernel
theorem d_Mod_hasAll_4 : decode m_Mod_hasAll.2.1 4 = .ok (.pop, 1) := by decide +kernel
theorem d_Mod_hasAll_5 : decode m_Mod_hasAll.2.1 5 = .ok (.iconst 1, 1) := by decide +kernel
theorem d_Mod_hasAll_6 : decode m_Mod_hasAll.2.1 6 = .ok (.istore 4, 2) := by decide +kernel
theorem d_Mod_hasAll_8 : decode m_Mod_hasAll.2.1 8 = .ok (.iconst 0, 1) := by decide +kernel
theorem d_Mod_hasAll_9 : decode m_Mod_hasAll.2.1 9 = .ok (.istore 5, 2) := by decide +kernel
theorem d_Mod_hasAll_11 : decode m_Mod_hasAll.2.1 11 = .ok (.iload 5, 2) := by decide +kernel
theorem d_Mod_hasAll_13 : decode m_Mod_hasAll.2.1 13 = .ok (.aload_n 0, 1) := by decide +kernel
theorem d_Mod_hasAll_14 : decode m_Mod_hasAll.2.1 14 = .ok (.invokevirtual 125, 3) := by decide +kernel
theorem d_Mod_hasAll_17 : decode m_Mod_hasAll.2.1 17 = .ok (.if_icmp .ge 43, 3) := by decide +kernel
theorem d_Mod_hasAll_20 : decode m_Mod_hasAll.2.1 20 = .ok (.iload 4, 2) := by decide +kernel
theorem d_Mod_hasAll_22 : decode m_Mod_hasAll.2.1 22 = .ok (.ifCond .eq 38, 3) := by decide +kernel
theorem d_Mod_hasAll_25 : decode m_Mod_hasAll.2.1 25 = .ok (.iload 5, 2) := by decide +kernel
theorem d_Mod_hasAll_27 : decode m_Mod_hasAll.2.1 27 = .ok (.iload_n 2, 1) := by decide +kernel
theorem d_Mod_hasAll_28 : decode m_Mod_hasAll.2.1 28 = .ok (.iload_n 3, 1) := by decide +kernel
theorem d_Mod_hasAll_29 : decode m_Mod_hasAll.2.1 29 = .ok (.iconst 1, 1) := by decide +kernel
theorem d_Mod_hasAll_30 : decode m_Mod_hasAll.2.1 30 = .ok (.isub, 1) := by decide +kernel
theorem d_Mod_hasAll_31 : decode m_Mod_hasAll.2.1 31 = .ok (.invokestatic 18, 3) := by decide +kernel
theorem d_Mod_hasAll_34 : decode m_Mod_hasAll.2.1 34 = .ok (.ifCond .ne 13, 3) := by decide +kernel
theorem d_Mod_hasAll_37 : decode m_Mod_hasAll.2.1 37 = .ok (.aload_n 0, 1) := by decide +kernel
theorem d_Mod_hasAll_38 : decode m_Mod_hasAll.2.1 38 = .ok (.iload 5, 2) := by decide +kernel
theorem d_Mod_hasAll_40 : decode m_Mod_hasAll.2.1 40 = .ok (.iload_n 1, 1) := by decide +kernel
theorem d_Mod_hasAll_41 : decode m_Mod_hasAll.2.1 41 = .ok (.invokevirtual 345, 3) := by decide +kernel
theorem d_Mod_hasAll_44 : decode m_Mod_hasAll.2.1 44 = .ok (.ifCond .ne 7, 3) := by decide +kernel
theorem d_Mod_hasAll_47 : decode m_Mod_hasAll.2.1 47 = .ok (.iconst 1, 1) := by decide +kernel
theorem d_Mod_hasAll_48 : decode m_Mod_hasAll.2.1 48 = .ok (.goto 4, 3) := by decide +kernel
theorem d_Mod_hasAll_51 : decode m_Mod_hasAll.2.1 51 = .ok (.iconst 0, 1) := by decide +kernel
theorem d_Mod_hasAll_52 : decode m_Mod_hasAll.2.1 52 = .ok (.istore 4, 2) := by decide +kernel
theorem d_Mod_hasAll_54 : decode m_Mod_hasAll.2.1 54 = .ok (.iinc 5 1, 3) := by decide +kernel
theorem d_Mod_hasAll_57 : decode m_Mod_hasAll.2.1 57 = .ok (.goto (-46), 3) := by decide +kernel
theorem d_Mod_hasAll_60 : decode m_Mod_hasAll.2.1 60 = .ok (.iload 4, 2) := by decide +kernel
theorem d_Mod_hasAll_62 : decode m_Mod_hasAll.2.1 62 = .ok (.ireturn, 1) := by decide +kernel
theorem d_Mod_triesPair_0 : decode m_Mod_triesPair.2.1 0 = .ok (.aload_n 0, 1) := by decide +kernel
theorem d_Mod_triesPair_1 : decode m_Mod_triesPair.2.1 1 = .ok (.getfield 85, 3) := by decide +kernel
theorem d_Mod_triesPair_4 : decode m_Mod_triesPair.2.1 4 = .ok (.bipush 21, 2) := by decide +kernel
theorem d_Mod_triesPair_6 : decode m_Mod_triesPair.2.1 6 = .ok (.iload_n 1, 1) := by decide +kernel
theorem d_Mod_triesPair_7 : decode m_Mod_triesPair.2.1 7 = .ok (.imul, 1) := by decide +kernel
theorem d_Mod_triesPair_8 : decode m_Mod_triesPair.2.1 8 = .ok (.iload_n 2, 1) := by decide +kernel
theorem d_Mod_triesPair_9 : decode m_Mod_triesPair.2.1 9 = .ok (.iadd, 1) := by decide +kernel
theorem d_Mod_triesPair_10 : decode m_Mod_triesPair.2.1 10 = .ok (.iaload, 1) := by decide +kernel
theorem d_Mod_triesPair_11 : decode m_Mod_triesPair.2.1 11 = .ok (.istore 4, 2) := by decide +kernel
theorem d_Mod_triesPair_13 : decode m_Mod_triesPair.2.1 13 = .ok (.aload_n 0, 1) := by decide +kernel
theorem d_Mod_triesPair_14 : decode m_Mod_triesPair.2.1 14 = .ok (.getfield 85, 3) := by decide +kernel
theorem d_Mod_triesPair_17 : decode m_Mod_triesPair.2.1 17 = .ok (.bipush 21, 2) := by decide +kernel
theorem d_Mod_triesPair_19 : decode m_Mod_triesPair.2.1 19 = .ok (.iconst 3, 1) := by decide +kernel
theorem d_Mod_triesPair_20 : decode m_Mod_triesPair.2.1 20 = .ok (.iload_n 1, 1) := by decide +kernel
theorem d_Mod_triesPair_21 : decode m_Mod_triesPair.2.1 21 = .ok (.iadd, 1) := by decide +kernel
theorem d_Mod_triesPair_22 : decode m_Mod_triesPair.2.1 22 = .ok (.imul, 1) := by decide +kernel
theorem d_Mod_triesPair_23 : decode m_Mod_triesPair.2.1 23 = .ok (.iload_n 3, 1) := by decide +kernel
theorem d_Mod_triesPair_24 : decode m_Mod_triesPair.2.1 24 = .ok (.iadd, 1) := by decide +kernel
theorem d_Mod_triesPair_25 : decode m_Mod_triesPair.2.1 25 = .ok (.iaload, 1) := by decide +kernel
theorem d_Mod_triesPair_26 : decode m_Mod_triesPair.2.1 26 = .ok (.istore 5, 2) := by decide +kernel
theorem d_Mod_triesPair_28 : decode m_Mod_triesPair.2.1 28 = .ok (.iload 4, 2) := by decide +kernel
theorem d_Mod_triesPair_30 : decode m_Mod_triesPair.2.1 30 = .ok (.ldc 158, 2) := by decide +kernel
theorem d_Mod_triesPair_32 : decode m_Mod_triesPair.2.1 32 = .ok (.if_icmp .eq 10, 3) := by decide +kernel
theorem d_Mod_triesPair_35 : decode m_Mod_triesPair.2.1 35 = .ok (.iload 5, 2) := by decide +kernel
theorem d_Mod_triesPair_37 : decode m_Mod_triesPair.2.1 37 = .ok (.ldc 158, 2) := by decide +kernel
theorem d_Mod_triesPair_39 : decode m_Mod_triesPair.2.1 39 = .ok (.if_icmp .ne 4, 3) := by decide +kernel
theorem d_Mod_triesPair_42 : decode m_Mod_triesPair.2.1 42 = .ok (.return_, 1) := by decide +kernel
theorem d_Mod_triesPair_43 : decode m_Mod_triesPair.2.1 43 = .ok (.iload 4, 2) := by decide +kernel
theorem d_Mod_triesPair_45 : decode m_Mod_triesPair.2.1 45 = .ok (.bipush 64, 2) := by decide +kernel
theorem d_Mod_triesPair_47 : decode m_Mod_triesPair.2.1 47 = .ok (.idiv, 1) := by decide +kernel
theorem d_Mod_triesPair_48 : decode m_Mod_triesPair.2.1 48 = .ok (.iload 5, 2) := by decide +kernel
theorem d_Mod_triesPair_50 : decode m_Mod_triesPair.2.1 50 = .ok (.bipush 64, 2) := by decide +kernel
theorem d_Mod_triesPair_52 : decode m_Mod_triesPair.2.1 52 = .ok (.idiv, 1) := by decide +kernel
theorem d_Mod_triesPair_53 : decode m_Mod_triesPair.2.1 53 = .ok (.iadd, 1) := by decide +kernel
theorem d_Mod_triesPair_54 : decode m_Mod_triesPair.2.1 54 = .ok (.istore 6, 2) := by decide +kernel
theorem d_Mod_triesPair_56 : decode m_Mod_triesPair.2.1 56 = .ok (.iload 6, 2) := by decide +kernel
theorem d_Mod_triesPair_58 : decode m_Mod_triesPair.2.1 58 = .ok (.aload_n 0, 1) := by decide +kernel
theorem d_Mod_triesPair_59 : decode m_Mod_triesPair.2.1 59 = .ok (.getfield 101, 3) := by decide +kernel
theorem d_Mod_triesPair_62 : decode m_Mod_triesPair.2.1 62 = .ok (.iconst 0, 1) := by decide +kernel
theorem d_Mod_triesPair_63 : decode m_Mod_triesPair.2.1 63 = .ok (.iaload, 1) := by decide +kernel
theorem d_Mod_triesPair_64 : decode m_Mod_triesPair.2.1 64 = .ok (.if_icmp .lt 4, 3) := by decide +kernel
theorem d_Mod_triesPair_67 : decode m_Mod_triesPair.2.1 67 = .ok (.return_, 1) := by decide +kernel
theorem d_Mod_triesPair_68 : decode m_Mod_triesPair.2.1 68 = .ok (.aload_n 0, 1) := by decide +kernel
theorem d_Mod_triesPair_69 : decode m_Mod_triesPair.2.1 69 = .ok (.getfield 101, 3) := by decide +kernel
theorem d_Mod_triesPair_72 : decode m_Mod_triesPair.2.1 72 = .ok (.iconst 0, 1) := by decide +kernel
theorem d_Mod_triesPair_73 : decode m_Mod_triesPair.2.1 73 = .ok (.iload 6, 2) := by decide +kernel
theorem d_Mod_triesPair_75 : decode m_Mod_triesPair.2.1 75 = .ok (.iastore, 1) := by decide +kernel
theorem d_Mod_triesPair_76 : decode m_Mod_triesPair.2.1 76 = .ok (.aload_n 0, 1) := by decide +kernel
theorem d_Mod_triesPair_77 : decode m_Mod_triesPair.2.1 77 = .ok (.getfield 101, 3) := by decide +kernel
theorem d_Mod_triesPair_80 : decode m_Mod_triesPair.2.1 80 = .ok (.iconst 1, 1) := by decide +kernel
theorem d_Mod_triesPair_81 : decode m_Mod_triesPair.2.1 81 = .ok (.iload_n 1, 1) := by decide +kernel
theorem d_Mod_triesPair_82 : decode m_Mod_triesPair.2.1 82 = .ok (.iastore, 1) := by decide +kernel
theorem d_Mod_triesPair_83 : decode m_Mod_triesPair.2.1 83 = .ok (.aload_n 0, 1) := by decide +kernel
theorem d_Mod_triesPair_84 : decode m_Mod_triesPair.2.1 84 = .ok (.getfield 101, 3) := by decide +kernel
theorem d_Mod_triesPair_87 : decode m_Mod_triesPair.2.1 87 = .ok (.iconst 2, 1) := by decide +kernel
theorem d_Mod_triesPair_88 : decode m_Mod_triesPair.2.1 88 = .ok (.iload_n 2, 1) := by decide +kernel
theorem d_Mod_triesPair_89 : decode m_Mod_triesPair.2.1 89 = .ok (.iastore, 1) := by decide +kernel
theorem d_Mod_triesPair_90 : decode m_Mod_triesPair.2.1 90 = .ok (.aload_n 0, 1) := by decide +kernel
theorem d_Mod_triesPair_91 : decode m_Mod_triesPair.2.1 91 = .ok (.getfield 101, 3) := by decide +kernel
theorem d_Mod_triesPair_94 : decode m_Mod_triesPair.2.1 94 = .ok (.iconst 3, 1) := by decide +kernel
theorem d_Mod_triesPair_95 : decode m_Mod_triesPair.2.1 95 = .ok (.iload_n 3, 1) := by decide +kernel
theorem d_Mod_triesPair_96 : decode m_Mod_triesPair.2.1 96 = .ok (.iastore, 1) := by decide +kernel
theorem d_Mod_triesPair_97 : decode m_Mod_triesPair.2.1 97 = .ok (.return_, 1) := by decide +kernel
theorem d_Mod_likely_0 : decode m_Mod_likely.2.1 0 = .ok (.iload_n 1, 1) := by decide +kernel
theorem d_Mod_likely_1 : decode m_Mod_likely.2.1 1 = .ok (.iconst 0, 1) := by decide +kernel
theorem d_Mod_likely_2 : decode m_Mod_likely.2.1 2 = .ok (.bipush 60, 2) := by decide +kernel
theorem d_Mod_likely_4 : decode m_Mod_likely.2.1 4 = .ok (.invokestatic 18, 3) := by decide +kernel
theorem d_Mod_likely_7 : decode m_Mod_likely.2.1 7 = .ok (.ifCond .ne 7, 3) := by decide +kernel
theorem d_Mod_likely_10 : decode m_Mod_likely.2.1 10 = .ok (.ldc2_w 420, 3) := by decide +kernel
theorem d_Mod_likely_13 : decode m_Mod_likely.2.1 13 = .ok (.lreturn, 1) := by decide +kernel
theorem d_Mod_likely_14 : decode m_Mod_likely.2.1 14 = .ok (.bipush 62, 2) := by decide +kernel
theorem d_Mod_likely_16 : decode m_Mod_likely.2.1 16 = .ok (.istore_n 2, 1) := by decide +kernel
theorem d_Mod_likely_17 : decode m_Mod_likely.2.1 17 = .ok (.iconst 0, 1) := by decide +kernel
theorem d_Mod_likely_18 : decode m_Mod_likely.2.1 18 = .ok (.istore_n 3, 1) := by decide +kernel
theorem d_Mod_likely_19 : decode m_Mod_likely.2.1 19 = .ok (.iload_n 3, 1) := by decide +kernel
theorem d_Mod_likely_20 : decode m_Mod_likely.2.1 20 = .ok (.iconst 2, 1) := by decide +kernel
theorem d_Mod_likely_21 : decode m_Mod_likely.2.1 21 = .ok (.iload_n 2, 1) := by decide +kernel
theorem d_Mod_likely_22 : decode m_Mod_likely.2.1 22 = .ok (.imul, 1) := by decide +kernel
theorem d_Mod_likely_23 : decode m_Mod_likely.2.1 23 = .ok (.if_icmp .ge 26, 3) := by decide +kernel
theorem d_Mod_likely_26 : decode m_Mod_likely.2.1 26 = .ok (.aload_n 0, 1) := by decide +kernel
theorem d_Mod_likely_27 : decode m_Mod_likely.2.1 27 = .ok (.getfield 104, 3) := by decide +kernel
theorem d_Mod_likely_30 : decode m_Mod_likely.2.1 30 = .ok (.iload_n 3, 1) := by decide +kernel
theorem d_Mod_likely_31 : decode m_Mod_likely.2.1 31 = .ok (.iload_n 3, 1) := by decide +kernel
theorem d_Mod_likely_32 : decode m_Mod_likely.2.1 32 = .ok (.ifCond .ne 9, 3) := by decide +kernel
theorem d_Mod_likely_35 : decode m_Mod_likely.2.1 35 = .ok (.ldc2_w 454, 3) := by decide +kernel
theorem d_Mod_likely_38 : decode m_Mod_likely.2.1 38 = .ok (.goto 4, 3) := by decide +kernel
theorem d_Mod_likely_41 : decode m_Mod_likely.2.1 41 = .ok (.lconst 0, 1) := by decide +kernel
theorem d_Mod_likely_42 : decode m_Mod_likely.2.1 42 = .ok (.lastore, 1) := by decide +kernel
theorem d_Mod_likely_43 : decode m_Mod_likely.2.1 43 = .ok (.iinc 3 1, 3) := by decide +kernel
theorem d_Mod_likely_46 : decode m_Mod_likely.2.1 46 = .ok (.goto (-27), 3) := by decide +kernel
theorem d_Mod_likely_49 : decode m_Mod_likely.2.1 49 = .ok (.iconst 0, 1) := by decide +kernel
theorem d_Mod_likely_50 : decode m_Mod_likely.2.1 50 = .ok (.istore_n 3, 1) := by decide +kernel
theorem d_Mod_likely_51 : decode m_Mod_likely.2.1 51 = .ok (.iload_n 3, 1) := by decide +kernel
theorem d_Mod_likely_52 : decode m_Mod_likely.2.1 52 = .ok (.iload_n 1, 1) := by decide +kernel
theorem d_Mod_likely_53 : decode m_Mod_likely.2.1 53 = .ok (.if_icmp .ge 130, 3) := by decide +kernel
theorem d_Mod_likely_56 : decode m_Mod_likely.2.1 56 = .ok (.iload_n 2, 1) := by decide +kernel
theorem d_Mod_likely_57 : decode m_Mod_likely.2.1 57 = .ok (.iload_n 3, 1) := by decide +kernel
theorem d_Mod_likely_58 : decode m_Mod_likely.2.1 58 = .ok (.iconst 2, 1) := by decide +kernel
theorem d_Mod_likely_59 : decode m_Mod_likely.2.1 59 = .ok (.irem, 1) := by decide +kernel
theorem d_Mod_likely_60 : decode m_Mod_likely.2.1 60 = .ok (.imul, 1) := by decide +kernel
theorem d_Mod_likely_61 : decode m_Mod_likely.2.1 61 = .ok (.istore 4, 2) := by decide +kernel
theorem d_Mod_likely_63 : decode m_Mod_likely.2.1 63 = .ok (.iload_n 2, 1) := by decide +kernel
theorem d_Mod_likely_64 : decode m_Mod_likely.2.1 64 = .ok (.iload 4, 2) := by decide +kernel
theorem d_Mod_likely_66 : decode m_Mod_likely.2.1 66 = .ok (.isub, 1) := by decide +kernel
theorem d_Mod_likely_67 : decode m_Mod_likely.2.1 67 = .ok (.istore 5, 2) := by decide +kernel
theorem d_Mod_likely_69 : decode m_Mod_likely.2.1 69 = .ok (.iconst 0, 1) := by decide +kernel
theorem d_Mod_likely_70 : decode m_Mod_likely.2.1 70 = .ok (.istore 6, 2) := by decide +kernel
theorem d_Mod_likely_72 : decode m_Mod_likely.2.1 72 = .ok (.iload 6, 2) := by decide +kernel
theorem d_Mod_likely_74 : decode m_Mod_likely.2.1 74 = .ok (.iload_n 2, 1) := by decide +kernel
theorem d_Mod_likely_75 : decode m_Mod_likely.2.1 75 = .ok (.if_icmp .ge 20, 3) := by decide +kernel
theorem d_Mod_likely_78 : decode m_Mod_likely.2.1 78 = .ok (.aload_n 0, 1) := by decide +kernel
theorem d_Mod_likely_79 : decode m_Mod_likely.2.1 79 = .ok (.getfield 104, 3) := by decide +kernel
theorem d_Mod_likely_82 : decode m_Mod_likely.2.1 82 = .ok (.iload 5, 2) := by decide +kernel
theorem d_Mod_likely_84 : decode m_Mod_likely.2.1 84 = .ok (.iload 6, 2) := by decide +kernel
theorem d_Mod_likely_86 : decode m_Mod_likely.2.1 86 = .ok (.iadd, 1) := by decide +kernel
theorem d_Mod_likely_87 : decode m_Mod_likely.2.1 87 = .ok (.lconst 0, 1) := by decide +kernel
theorem d_Mod_likely_88 : decode m_Mod_likely.2.1 88 = .ok (.lastore, 1) := by decide +kernel
theorem d_Mod_likely_89 : decode m_Mod_likely.2.1 89 = .ok (.iinc 6 1, 3) := by decide +kernel
theorem d_Mod_likely_92 : decode m_Mod_likely.2.1 92 = .ok (.goto (-20), 3) := by decide +kernel
theorem d_Mod_likely_95 : decode m_Mod_likely.2.1 95 = .ok (.iconst 0, 1) := by decide +kernel
theorem d_Mod_likely_96 : decode m_Mod_likely.2.1 96 = .ok (.istore 6, 2) := by decide +kernel
theorem d_Mod_likely_98 : decode m_Mod_likely.2.1 98 = .ok (.iload 6, 2) := by decide +kernel
theorem d_Mod_likely_100 : decode m_Mod_likely.2.1 100 = .ok (.iload_n 3, 1) := by decide +kernel
theorem d_Mod_likely_101 : decode m_Mod_likely.2.1 101 = .ok (.if_icmp .gt 76, 3) := by decide +kernel
theorem d_Mod_likely_104 : decode m_Mod_likely.2.1 104 = .ok (.aload_n 0, 1) := by decide +kernel
theorem d_Mod_likely_105 : decode m_Mod_likely.2.1 105 = .ok (.getfield 104, 3) := by decide +kernel
theorem d_Mod_likely_108 : decode m_Mod_likely.2.1 108 = .ok (.iload 5, 2) := by decide +kernel
theorem d_Mod_likely_110 : decode m_Mod_likely.2.1 110 = .ok (.iload 6, 2) := by decide +kernel
theorem d_Mod_likely_112 : decode m_Mod_likely.2.1 112 = .ok (.iadd, 1) := by decide +kernel
theorem d_Mod_likely_113 : decode m_Mod_likely.2.1 113 = .ok (.iconst 1, 1) := by decide +kernel
theorem d_Mod_likely_114 : decode m_Mod_likely.2.1 114 = .ok (.iadd, 1) := by decide +kernel
theorem d_Mod_likely_115 : decode m_Mod_likely.2.1 115 = .ok (.dup2, 1) := by decide +kernel
theorem d_Mod_likely_116 : decode m_Mod_likely.2.1 116 = .ok (.laload, 1) := by decide +kernel
theorem d_Mod_likely_117 : decode m_Mod_likely.2.1 117 = .ok (.aload_n 0, 1) := by decide +kernel
theorem d_Mod_likely_118 : decode m_Mod_likely.2.1 118 = .ok (.getfield 104, 3) := by decide +kernel
theorem d_Mod_likely_121 : decode m_Mod_likely.2.1 121 = .ok (.iload 4, 2) := by decide +kernel
theorem d_Mod_likely_123 : decode m_Mod_likely.2.1 123 = .ok (.iload 6, 2) := by decide +kernel
theorem d_Mod_likely_125 : decode m_Mod_likely.2.1 125 = .ok (.iadd, 1) := by decide +kernel
theorem d_Mod_likely_126 : decode m_Mod_likely.2.1 126 = .ok (.laload, 1) := by decide +kernel
theorem d_Mod_likely_127 : decode m_Mod_likely.2.1 127 = .ok (.ldc2_w 418, 3) := by decide +kernel
theorem d_Mod_likely_130 : decode m_Mod_likely.2.1 130 = .ok (.lmul, 1) := by decide +kernel
theorem d_Mod_likely_131 : decode m_Mod_likely.2.1 131 = .ok (.ldc2_w 456, 3) := by decide +kernel
theorem d_Mod_likely_134 : decode m_Mod_likely.2.1 134 = .ok (.ldiv, 1) := by decide +kernel
theorem d_Mod_likely_135 : decode m_Mod_likely.2.1 135 = .ok (.ladd, 1) := by decide +kernel
theorem d_Mod_likely_136 : decode m_Mod_likely.2.1 136 = .ok (.lastore, 1) := by decide +kernel
theorem d_Mod_likely_137 : decode m_Mod_likely.2.1 137 = .ok (.iload 6, 2) := by decide +kernel
theorem d_Mod_likely_139 : decode m_Mod_likely.2.1 139 = .ok (.ifCond .le 32, 3) := by decide +kernel
theorem d_Mod_likely_142 : decode m_Mod_likely.2.1 142 = .ok (.aload_n 0, 1) := by decide +kernel
theorem d_Mod_likely_143 : decode m_Mod_likely.2.1 143 = .ok (.getfield 104, 3) := by decide +kernel
theorem d_Mod_likely_146 : decode m_Mod_likely.2.1 146 = .ok (.iload 5, 2) := by decide +kernel
theorem d_Mod_likely_148 : decode m_Mod_likely.2.1 148 = .ok (.iload 6, 2) := by decide +kernel
theorem d_Mod_likely_150 : decode m_Mod_likely.2.1 150 = .ok (.iadd, 1) := by decide +kernel
theorem d_Mod_likely_151 : decode m_Mod_likely.2.1 151 = .ok (.iconst 1, 1) := by decide +kernel
theorem d_Mod_likely_152 : decode m_Mod_likely.2.1 152 = .ok (.isub, 1) := by decide +kernel
theorem d_Mod_likely_153 : decode m_Mod_likely.2.1 153 = .ok (.dup2, 1) := by decide +kernel
theorem d_Mod_likely_154 : decode m_Mod_likely.2.1 154 = .ok (.laload, 1) := by decide +kernel
theorem d_Mod_likely_155 : decode m_Mod_likely.2.1 155 = .ok (.aload_n 0, 1) := by decide +kernel
theorem d_Mod_likely_156 : decode m_Mod_likely.2.1 156 = .ok (.getfield 104, 3) := by decide +kernel
theorem d_Mod_likely_159 : decode m_Mod_likely.2.1 159 = .ok (.iload 4, 2) := by decide +kernel
theorem d_Mod_likely_161 : decode m_Mod_likely.2.1 161 = .ok (.iload 6, 2) := by decide +kernel
theorem d_Mod_likely_163 : decode m_Mod_likely.2.1 163 = .ok (.iadd, 1) := by decide +kernel
theorem d_Mod_likely_164 : decode m_Mod_likely.2.1 164 = .ok (.laload, 1) := by decide +kernel
theorem d_Mod_likely_165 : decode m_Mod_likely.2.1 165 = .ok (.ldc2_w 456, 3) := by decide +kernel
theorem d_Mod_likely_168 : decode m_Mod_likely.2.1 168 = .ok (.ldiv, 1) := by decide +kernel
theorem d_Mod_likely_169 : decode m_Mod_likely.2.1 169 = .ok (.ladd, 1) := by decide +kernel
theorem d_Mod_likely_170 : decode m_Mod_likely.2.1 170 = .ok (.lastore, 1) := by decide +kernel
theorem d_Mod_likely_171 : decode m_Mod_likely.2.1 171 = .ok (.iinc 6 1, 3) := by decide +kernel
theorem d_Mod_likely_174 : decode m_Mod_likely.2.1 174 = .ok (.goto (-76), 3) := by decide +kernel
theorem d_Mod_likely_177 : decode m_Mod_likely.2.1 177 = .ok (.iinc 3 1, 3) := by decide +kernel
theorem d_Mod_likely_180 : decode m_Mod_likely.2.1 180 = .ok (.goto (-129), 3) := by decide +kernel
theorem d_Mod_likely_183 : decode m_Mod_likely.2.1 183 = .ok (.aload_n 0, 1) := by decide +kernel
theorem d_Mod_likely_184 : decode m_Mod_likely.2.1 184 = .ok (.getfield 104, 3) := by decide +kernel
theorem d_Mod_likely_187 : decode m_Mod_likely.2.1 187 = .ok (.iload_n 2, 1) := by decide +kernel
theorem d_Mod_likely_188 : decode m_Mod_likely.2.1 188 = .ok (.iload_n 1, 1) := by decide +kernel
theorem d_Mod_likely_189 : decode m_Mod_likely.2.1 189 = .ok (.iconst 2, 1) := by decide +kernel
theorem d_Mod_likely_190 : decode m_Mod_likely.2.1 190 = .ok (.irem, 1) := by decide +kernel
theorem d_Mod_likely_191 : decode m_Mod_likely.2.1 191 = .ok (.imul, 1) := by decide +kernel
theorem d_Mod_likely_192 : decode m_Mod_likely.2.1 192 = .ok (.laload, 1) := by decide +kernel
theorem d_Mod_likely_193 : decode m_Mod_likely.2.1 193 = .ok (.lreturn, 1) := by decide +kernel
theorem d_Mod_stopped_0 : decode m_Mod_stopped.2.1 0 = .ok (.aload_n 0, 1) := by decide +kernel
theorem d_Mod_stopped_1 : decode m_Mod_stopped.2.1 1 = .ok (.getfield 107, 3) := by decide +kernel
theorem d_Mod_stopped_4 : decode m_Mod_stopped.2.1 4 = .ok (.ireturn, 1) := by decide +kernel
theorem d_Mod_orders_0 : decode m_Mod_orders.2.1 0 = .ok (.aload_n 0, 1) := by decide +kernel
theorem d_Mod_orders_1 : decode m_Mod_orders.2.1 1 = .ok (.iconst (-1), 1) := by decide +kernel
theorem d_Mod_orders_2 : decode m_Mod_orders.2.1 2 = .ok (.putfield 107, 3) := by decide +kernel
theorem d_Mod_orders_5 : decode m_Mod_orders.2.1 5 = .ok (.aload_n 0, 1) := by decide +kernel
theorem d_Mod_orders_6 : decode m_Mod_orders.2.1 6 = .ok (.iconst 1, 1) := by decide +kernel
theorem d_Mod_orders_7 : decode m_Mod_orders.2.1 7 = .ok (.invokevirtual 236, 3) := by decide +kernel
theorem d_Mod_orders_10 : decode m_Mod_orders.2.1 10 = .ok (.ifCond .ne 10, 3) := by decide +kernel
theorem d_Mod_orders_13 : decode m_Mod_orders.2.1 13 = .ok (.aload_n 0, 1) := by decide +kernel
theorem d_Mod_orders_14 : decode m_Mod_orders.2.1 14 = .ok (.bipush (-6), 2) := by decide +kernel
theorem d_Mod_orders_16 : decode m_Mod_orders.2.1 16 = .ok (.invokevirtual 119, 3) := by decide +kernel
theorem d_Mod_orders_19 : decode m_Mod_orders.2.1 19 = .ok (.ireturn, 1) := by decide +kernel
theorem d_Mod_orders_20 : decode m_Mod_orders.2.1 20 = .ok (.aload_n 0, 1) := by decide +kernel
theorem d_Mod_orders_21 : decode m_Mod_orders.2.1 21 = .ok (.invokevirtual 467, 3) := by decide +kernel
theorem d_Mod_orders_24 : decode m_Mod_orders.2.1 24 = .ok (.aload_n 0, 1) := by decide +kernel
theorem d_Mod_orders_25 : decode m_Mod_orders.2.1 25 = .ok (.bipush 6, 2) := by decide +kernel
theorem d_Mod_orders_27 : decode m_Mod_orders.2.1 27 = .ok (.invokevirtual 240, 3) := by decide +kernel
theorem d_Mod_orders_30 : decode m_Mod_orders.2.1 30 = .ok (.aload_n 0, 1) := by decide +kernel
theorem d_Mod_orders_31 : decode m_Mod_orders.2.1 31 = .ok (.iconst 0, 1) := by decide +kernel
theorem d_Mod_orders_32 : decode m_Mod_orders.2.1 32 = .ok (.putfield 288, 3) := by decide +kernel
theorem d_Mod_orders_35 : decode m_Mod_orders.2.1 35 = .ok (.aload_n 0, 1) := by decide +kernel
theorem d_Mod_orders_36 : decode m_Mod_orders.2.1 36 = .ok (.iconst (-1), 1) := by decide +kernel
theorem d_Mod_orders_37 : decode m_Mod_orders.2.1 37 = .ok (.putfield 291, 3) := by decide +kernel
theorem d_Mod_orders_40 : decode m_Mod_orders.2.1 40 = .ok (.aload_n 0, 1) := by decide +kernel
theorem d_Mod_orders_41 : decode m_Mod_orders.2.1 41 = .ok (.sipush 2400, 3) := by decide +kernel
theorem d_Mod_orders_44 : decode m_Mod_orders.2.1 44 = .ok (.putfield 470, 3) := by decide +kernel
theorem d_Mod_orders_47 : decode m_Mod_orders.2.1 47 = .ok (.aload_n 0, 1) := by decide +kernel
theorem d_Mod_orders_48 : decode m_Mod_orders.2.1 48 = .ok (.getfield 470, 3) := by decide +kernel
theorem d_Mod_orders_51 : decode m_Mod_orders.2.1 51 = .ok (.aload_n 0, 1) := by decide +kernel
theorem d_Mod_orders_52 : decode m_Mod_orders.2.1 52 = .ok (.getfield 32, 3) := by decide +kernel
theorem d_Mod_orders_55 : decode m_Mod_orders.2.1 55 = .ok (.bipush 32, 2) := by decide +kernel
theorem d_Mod_orders_57 : decode m_Mod_orders.2.1 57 = .ok (.iaload, 1) := by decide +kernel
theorem d_Mod_orders_58 : decode m_Mod_orders.2.1 58 = .ok (.iadd, 1) := by decide +kernel
theorem d_Mod_orders_59 : decode m_Mod_orders.2.1 59 = .ok (.istore_n 1, 1) := by decide +kernel
theorem d_Mod_orders_60 : decode m_Mod_orders.2.1 60 = .ok (.iconst 0, 1) := by decide +kernel
theorem d_Mod_orders_61 : decode m_Mod_orders.2.1 61 = .ok (.istore_n 2, 1) := by decide +kernel
theorem d_Mod_orders_62 : decode m_Mod_orders.2.1 62 = .ok (.aload_n 0, 1) := by decide +kernel
theorem d_Mod_orders_63 : decode m_Mod_orders.2.1 63 = .ok (.getfield 470, 3) := by decide +kernel
theorem d_Mod_orders_66 : decode m_Mod_orders.2.1 66 = .ok (.iload_n 1, 1) := by decide +kernel
theorem d_Mod_orders_67 : decode m_Mod_orders.2.1 67 = .ok (.if_icmp .ge 36, 3) := by decide +kernel
theorem d_Mod_orders_70 : decode m_Mod_orders.2.1 70 = .ok (.aload_n 0, 1) := by decide +kernel
theorem d_Mod_orders_71 : decode m_Mod_orders.2.1 71 = .ok (.iload_n 1, 1) := by decide +kernel
theorem d_Mod_orders_72 : decode m_Mod_orders.2.1 72 = .ok (.invokevirtual 473, 3) := by decide +kernel
theorem d_Mod_orders_75 : decode m_Mod_orders.2.1 75 = .ok (.ifCond .eq 6, 3) := by decide +kernel
theorem d_Mod_orders_78 : decode m_Mod_orders.2.1 78 = .ok (.goto 19, 3) := by decide +kernel
theorem d_Mod_orders_81 : decode m_Mod_orders.2.1 81 = .ok (.aload_n 0, 1) := by decide +kernel
theorem d_Mod_orders_82 : decode m_Mod_orders.2.1 82 = .ok (.invokevirtual 476, 3) := by decide +kernel
theorem d_Mod_orders_85 : decode m_Mod_orders.2.1 85 = .ok (.aload_n 0, 1) := by decide +kernel
theorem d_Mod_orders_86 : decode m_Mod_orders.2.1 86 = .ok (.iload_n 2, 1) := by decide +kernel
theorem d_Mod_orders_87 : decode m_Mod_orders.2.1 87 = .ok (.putfield 107, 3) := by decide +kernel
theorem d_Mod_orders_90 : decode m_Mod_orders.2.1 90 = .ok (.aload_n 0, 1) := by decide +kernel
theorem d_Mod_orders_91 : decode m_Mod_orders.2.1 91 = .ok (.bipush (-3), 2) := by decide +kernel
theorem d_Mod_orders_93 : decode m_Mod_orders.2.1 93 = .ok (.invokevirtual 119, 3) := by decide +kernel
theorem d_Mod_orders_96 : decode m_Mod_orders.2.1 96 = .ok (.ireturn, 1) := by decide +kernel
theorem d_Mod_orders_97 : decode m_Mod_orders.2.1 97 = .ok (.iinc 2 1, 3) := by decide +kernel
theorem d_Mod_orders_100 : decode m_Mod_orders.2.1 100 = .ok (.goto (-38), 3) := by decide +kernel
theorem d_Mod_orders_103 : decode m_Mod_orders.2.1 103 = .ok (.aload_n 0, 1) := by decide +kernel
theorem d_Mod_orders_104 : decode m_Mod_orders.2.1 104 = .ok (.aload_n 0, 1) := by decide +kernel
theorem d_Mod_orders_105 : decode m_Mod_orders.2.1 105 = .ok (.getfield 288, 3) := by decide +kernel
theorem d_Mod_orders_108 : decode m_Mod_orders.2.1 108 = .ok (.invokevirtual 14, 3) := by decide +kernel
theorem d_Mod_orders_111 : decode m_Mod_orders.2.1 111 = .ok (.ireturn, 1) := by decide +kernel
theorem d_Mod_laysAllAside_0 : decode m_Mod_laysAllAside.2.1 0 = .ok (.aload_n 0, 1) := by decide +kernel
theorem d_Mod_laysAllAside_1 : decode m_Mod_laysAllAside.2.1 1 = .ok (.iconst 1, 1) := by decide +kernel
theorem d_Mod_laysAllAside_2 : decode m_Mod_laysAllAside.2.1 2 = .ok (.invokevirtual 458, 3) := by decide +kernel
theorem d_Mod_laysAllAside_5 : decode m_Mod_laysAllAside.2.1 5 = .ok (.iconst 0, 1) := by decide +kernel
theorem d_Mod_laysAllAside_6 : decode m_Mod_laysAllAside.2.1 6 = .ok (.istore_n 1, 1) := by decide +kernel
theorem d_Mod_laysAllAside_7 : decode m_Mod_laysAllAside.2.1 7 = .ok (.iload_n 1, 1) := by decide +kernel
theorem d_Mod_laysAllAside_8 : decode m_Mod_laysAllAside.2.1 8 = .ok (.sipush 368, 3) := by decide +kernel
theorem d_Mod_laysAllAside_11 : decode m_Mod_laysAllAside.2.1 11 = .ok (.if_icmp .ge 21, 3) := by decide +kernel
theorem d_Mod_laysAllAside_14 : decode m_Mod_laysAllAside.2.1 14 = .ok (.aload_n 0, 1) := by decide +kernel
theorem d_Mod_laysAllAside_15 : decode m_Mod_laysAllAside.2.1 15 = .ok (.getfield 79, 3) := by decide +kernel
theorem d_Mod_laysAllAside_18 : decode m_Mod_laysAllAside.2.1 18 = .ok (.iload_n 1, 1) := by decide +kernel
theorem d_Mod_laysAllAside_19 : decode m_Mod_laysAllAside.2.1 19 = .ok (.aload_n 0, 1) := by decide +kernel
theorem d_Mod_laysAllAside_20 : decode m_Mod_laysAllAside.2.1 20 = .ok (.getfield 76, 3) := by decide +kernel
theorem d_Mod_laysAllAside_23 : decode m_Mod_laysAllAside.2.1 23 = .ok (.iload_n 1, 1) := by decide +kernel
theorem d_Mod_laysAllAside_24 : decode m_Mod_laysAllAside.2.1 24 = .ok (.iaload, 1) := by decide +kernel
theorem d_Mod_laysAllAside_25 : decode m_Mod_laysAllAside.2.1 25 = .ok (.iastore, 1) := by decide +kernel
theorem d_Mod_laysAllAside_26 : decode m_Mod_laysAllAside.2.1 26 = .ok (.iinc 1 1, 3) := by decide +kernel
theorem d_Mod_laysAllAside_29 : decode m_Mod_laysAllAside.2.1 29 = .ok (.goto (-22), 3) := by decide +kernel
theorem d_Mod_laysAllAside_32 : decode m_Mod_laysAllAside.2.1 32 = .ok (.aload_n 0, 1) := by decide +kernel
theorem d_Mod_laysAllAside_33 : decode m_Mod_laysAllAside.2.1 33 = .ok (.aload_n 0, 1) := by decide +kernel
theorem d_Mod_laysAllAside_34 : decode m_Mod_laysAllAside.2.1 34 = .ok (.getfield 11, 3) := by decide +kernel
theorem d_Mod_laysAllAside_37 : decode m_Mod_laysAllAside.2.1 37 = .ok (.putfield 461, 3) := by decide +kernel
theorem d_Mod_laysAllAside_40 : decode m_Mod_laysAllAside.2.1 40 = .ok (.return_, 1) := by decide +kernel
theorem d_Mod_laysAside_0 : decode m_Mod_laysAside.2.1 0 = .ok (.iconst 0, 1) := by decide +kernel
theorem d_Mod_laysAside_1 : decode m_Mod_laysAside.2.1 1 = .ok (.istore_n 2, 1) := by decide +kernel
theorem d_Mod_laysAside_2 : decode m_Mod_laysAside.2.1 2 = .ok (.iload_n 2, 1) := by decide +kernel
theorem d_Mod_laysAside_3 : decode m_Mod_laysAside.2.1 3 = .ok (.bipush 22, 2) := by decide +kernel
theorem d_Mod_laysAside_5 : decode m_Mod_laysAside.2.1 5 = .ok (.if_icmp .ge 26, 3) := by decide +kernel
theorem d_Mod_laysAside_8 : decode m_Mod_laysAside.2.1 8 = .ok (.aload_n 0, 1) := by decide +kernel
theorem d_Mod_laysAside_9 : decode m_Mod_laysAside.2.1 9 = .ok (.getfield 42, 3) := by decide +kernel
theorem d_Mod_laysAside_12 : decode m_Mod_laysAside.2.1 12 = .ok (.bipush 22, 2) := by decide +kernel
theorem d_Mod_laysAside_14 : decode m_Mod_laysAside.2.1 14 = .ok (.iload_n 1, 1) := by decide +kernel
theorem d_Mod_laysAside_15 : decode m_Mod_laysAside.2.1 15 = .ok (.imul, 1) := by decide +kernel
theorem d_Mod_laysAside_16 : decode m_Mod_laysAside.2.1 16 = .ok (.iload_n 2, 1) := by decide +kernel
theorem d_Mod_laysAside_17 : decode m_Mod_laysAside.2.1 17 = .ok (.iadd, 1) := by decide +kernel
theorem d_Mod_laysAside_18 : decode m_Mod_laysAside.2.1 18 = .ok (.aload_n 0, 1) := by decide +kernel
theorem d_Mod_laysAside_19 : decode m_Mod_laysAside.2.1 19 = .ok (.getfield 32, 3) := by decide +kernel
theorem d_Mod_laysAside_22 : decode m_Mod_laysAside.2.1 22 = .ok (.iload_n 2, 1) := by decide +kernel
theorem d_Mod_laysAside_23 : decode m_Mod_laysAside.2.1 23 = .ok (.iaload, 1) := by decide +kernel
theorem d_Mod_laysAside_24 : decode m_Mod_laysAside.2.1 24 = .ok (.iastore, 1) := by decide +kernel
theorem d_Mod_laysAside_25 : decode m_Mod_laysAside.2.1 25 = .ok (.iinc 2 1, 3) := by decide +kernel
theorem d_Mod_laysAside_28 : decode m_Mod_laysAside.2.1 28 = .ok (.goto (-26), 3) := by decide +kernel
theorem d_Mod_laysAside_31 : decode m_Mod_laysAside.2.1 31 = .ok (.return_, 1) := by decide +kernel
theorem d_Mod_runs_0 : decode m_Mod_runs.2.1 0 = .ok (.aload_n 0, 1) := by decide +kernel
theorem d_Mod_runs_1 : decode m_Mod_runs.2.1 1 = .ok (.iload_n 1, 1) := by decide +kernel
theorem d_Mod_runs_2 : decode m_Mod_runs.2.1 2 = .ok (.iconst 0, 1) := by decide +kernel
theorem d_Mod_runs_3 : decode m_Mod_runs.2.1 3 = .ok (.invokevirtual 497, 3) := by decide +kernel
theorem d_Mod_runs_6 : decode m_Mod_runs.2.1 6 = .ok (.aload_n 0, 1) := by decide +kernel
theorem d_Mod_runs_7 : decode m_Mod_runs.2.1 7 = .ok (.getfield 485, 3) := by decide +kernel
theorem d_Mod_runs_10 : decode m_Mod_runs.2.1 10 = .ok (.istore_n 2, 1) := by decide +kernel
theorem d_Mod_runs_11 : decode m_Mod_runs.2.1 11 = .ok (.aload_n 0, 1) := by decide +kernel
theorem d_Mod_runs_12 : decode m_Mod_runs.2.1 12 = .ok (.getfield 249, 3) := by decide +kernel
theorem d_Mod_runs_15 : decode m_Mod_runs.2.1 15 = .ok (.istore_n 3, 1) := by decide +kernel
theorem d_Mod_runs_16 : decode m_Mod_runs.2.1 16 = .ok (.iconst 0, 1) := by decide +kernel
theorem d_Mod_runs_17 : decode m_Mod_runs.2.1 17 = .ok (.istore 4, 2) := by decide +kernel
theorem d_Mod_runs_19 : decode m_Mod_runs.2.1 19 = .ok (.iload 4, 2) := by decide +kernel
theorem d_Mod_runs_21 : decode m_Mod_runs.2.1 21 = .ok (.iload_n 2, 1) := by decide +kernel
theorem d_Mod_runs_22 : decode m_Mod_runs.2.1 22 = .ok (.if_icmp .ge 51, 3) := by decide +kernel
theorem d_Mod_runs_25 : decode m_Mod_runs.2.1 25 = .ok (.aload_n 0, 1) := by decide +kernel
theorem d_Mod_runs_26 : decode m_Mod_runs.2.1 26 = .ok (.iload_n 1, 1) := by decide +kernel
theorem d_Mod_runs_27 : decode m_Mod_runs.2.1 27 = .ok (.iconst 1, 1) := by decide +kernel
theorem d_Mod_runs_28 : decode m_Mod_runs.2.1 28 = .ok (.invokevirtual 497, 3) := by decide +kernel
theorem d_Mod_runs_31 : decode m_Mod_runs.2.1 31 = .ok (.aload_n 0, 1) := by decide +kernel
theorem d_Mod_runs_32 : decode m_Mod_runs.2.1 32 = .ok (.getfield 488, 3) := by decide +kernel
theorem d_Mod_runs_35 : decode m_Mod_runs.2.1 35 = .ok (.ifCond .ne 6, 3) := by decide +kernel
theorem d_Mod_runs_38 : decode m_Mod_runs.2.1 38 = .ok (.goto 29, 3) := by decide +kernel
theorem d_Mod_runs_41 : decode m_Mod_runs.2.1 41 = .ok (.aload_n 0, 1) := by decide +kernel
theorem d_Mod_runs_42 : decode m_Mod_runs.2.1 42 = .ok (.getfield 482, 3) := by decide +kernel
theorem d_Mod_runs_45 : decode m_Mod_runs.2.1 45 = .ok (.ifCond .eq 10, 3) := by decide +kernel
theorem d_Mod_runs_48 : decode m_Mod_runs.2.1 48 = .ok (.aload_n 0, 1) := by decide +kernel
theorem d_Mod_runs_49 : decode m_Mod_runs.2.1 49 = .ok (.invokevirtual 501, 3) := by decide +kernel
theorem d_Mod_runs_52 : decode m_Mod_runs.2.1 52 = .ok (.ifCond .ge 5, 3) := by decide +kernel
theorem d_Mod_runs_55 : decode m_Mod_runs.2.1 55 = .ok (.iconst 0, 1) := by decide +kernel
theorem d_Mod_runs_56 : decode m_Mod_runs.2.1 56 = .ok (.ireturn, 1) := by decide +kernel
theorem d_Mod_runs_57 : decode m_Mod_runs.2.1 57 = .ok (.aload_n 0, 1) := by decide +kernel
theorem d_Mod_runs_58 : decode m_Mod_runs.2.1 58 = .ok (.dup, 1) := by decide +kernel
theorem d_Mod_runs_59 : decode m_Mod_runs.2.1 59 = .ok (.getfield 288, 3) := by decide +kernel
theorem d_Mod_runs_62 : decode m_Mod_runs.2.1 62 = .ok (.iconst 1, 1) := by decide +kernel
theorem d_Mod_runs_63 : decode m_Mod_runs.2.1 63 = .ok (.iadd, 1) := by decide +kernel
theorem d_Mod_runs_64 : decode m_Mod_runs.2.1 64 = .ok (.putfield 288, 3) := by decide +kernel
theorem d_Mod_runs_67 : decode m_Mod_runs.2.1 67 = .ok (.iinc 4 1, 3) := by decide +kernel
theorem d_Mod_runs_70 : decode m_Mod_runs.2.1 70 = .ok (.goto (-51), 3) := by decide +kernel
theorem d_Mod_runs_73 : decode m_Mod_runs.2.1 73 = .ok (.aload_n 0, 1) := by decide +kernel
theorem d_Mod_runs_74 : decode m_Mod_runs.2.1 74 = .ok (.iload_n 3, 1) := by decide +kernel
theorem d_Mod_runs_75 : decode m_Mod_runs.2.1 75 = .ok (.putfield 470, 3) := by decide +kernel
theorem d_Mod_runs_78 : decode m_Mod_runs.2.1 78 = .ok (.iconst 1, 1) := by decide +kernel
theorem d_Mod_runs_79 : decode m_Mod_runs.2.1 79 = .ok (.ireturn, 1) := by decide +kernel
theorem d_Mod_goesAlong_0 : decode m_Mod_goesAlong.2.1 0 = .ok (.aload_n 0, 1) := by decide +kernel
theorem d_Mod_goesAlong_1 : decode m_Mod_goesAlong.2.1 1 = .ok (.iconst 1, 1) := by decide +kernel
theorem d_Mod_goesAlong_2 : decode m_Mod_goesAlong.2.1 2 = .ok (.putfield 279, 3) := by decide +kernel
theorem d_Mod_goesAlong_5 : decode m_Mod_goesAlong.2.1 5 = .ok (.aload_n 0, 1) := by decide +kernel
theorem d_Mod_goesAlong_6 : decode m_Mod_goesAlong.2.1 6 = .ok (.iload_n 1, 1) := by decide +kernel
theorem d_Mod_goesAlong_7 : decode m_Mod_goesAlong.2.1 7 = .ok (.putfield 246, 3) := by decide +kernel
theorem d_Mod_goesAlong_10 : decode m_Mod_goesAlong.2.1 10 = .ok (.aload_n 0, 1) := by decide +kernel
theorem d_Mod_goesAlong_11 : decode m_Mod_goesAlong.2.1 11 = .ok (.aload_n 0, 1) := by decide +kernel
theorem d_Mod_goesAlong_12 : decode m_Mod_goesAlong.2.1 12 = .ok (.getfield 470, 3) := by decide +kernel
theorem d_Mod_goesAlong_15 : decode m_Mod_goesAlong.2.1 15 = .ok (.putfield 249, 3) := by decide +kernel
theorem d_Mod_goesAlong_18 : decode m_Mod_goesAlong.2.1 18 = .ok (.aload_n 0, 1) := by decide +kernel
theorem d_Mod_goesAlong_19 : decode m_Mod_goesAlong.2.1 19 = .ok (.aload_n 0, 1) := by decide +kernel
theorem d_Mod_goesAlong_20 : decode m_Mod_goesAlong.2.1 20 = .ok (.aload_n 0, 1) := by decide +kernel
theorem d_Mod_goesAlong_21 : decode m_Mod_goesAlong.2.1 21 = .ok (.getfield 249, 3) := by decide +kernel
theorem d_Mod_goesAlong_24 : decode m_Mod_goesAlong.2.1 24 = .ok (.invokevirtual 252, 3) := by decide +kernel
theorem d_Mod_goesAlong_27 : decode m_Mod_goesAlong.2.1 27 = .ok (.putfield 479, 3) := by decide +kernel
theorem d_Mod_goesAlong_30 : decode m_Mod_goesAlong.2.1 30 = .ok (.aload_n 0, 1) := by decide +kernel
theorem d_Mod_goesAlong_31 : decode m_Mod_goesAlong.2.1 31 = .ok (.dup, 1) := by decide +kernel
theorem d_Mod_goesAlong_32 : decode m_Mod_goesAlong.2.1 32 = .ok (.getfield 249, 3) := by decide +kernel
theorem d_Mod_goesAlong_35 : decode m_Mod_goesAlong.2.1 35 = .ok (.iconst 1, 1) := by decide +kernel
theorem d_Mod_goesAlong_36 : decode m_Mod_goesAlong.2.1 36 = .ok (.iadd, 1) := by decide +kernel
theorem d_Mod_goesAlong_37 : decode m_Mod_goesAlong.2.1 37 = .ok (.putfield 249, 3) := by decide +kernel
theorem d_Mod_goesAlong_40 : decode m_Mod_goesAlong.2.1 40 = .ok (.aload_n 0, 1) := by decide +kernel
theorem d_Mod_goesAlong_41 : decode m_Mod_goesAlong.2.1 41 = .ok (.iconst 1, 1) := by decide +kernel
theorem d_Mod_goesAlong_42 : decode m_Mod_goesAlong.2.1 42 = .ok (.putfield 482, 3) := by decide +kernel
theorem d_Mod_goesAlong_45 : decode m_Mod_goesAlong.2.1 45 = .ok (.aload_n 0, 1) := by decide +kernel
theorem d_Mod_goesAlong_46 : decode m_Mod_goesAlong.2.1 46 = .ok (.getfield 479, 3) := by decide +kernel
theorem d_Mod_goesAlong_49 : decode m_Mod_goesAlong.2.1 49 = .ok (.bipush 26, 2) := by decide +kernel
theorem d_Mod_goesAlong_51 : decode m_Mod_goesAlong.2.1 51 = .ok (.if_icmp .ne 7, 3) := by decide +kernel
theorem d_Mod_goesAlong_54 : decode m_Mod_goesAlong.2.1 54 = .ok (.iconst 0, 1) := by decide +kernel
theorem d_Mod_goesAlong_55 : decode m_Mod_goesAlong.2.1 55 = .ok (.goto 17, 3) := by decide +kernel
theorem d_Mod_goesAlong_58 : decode m_Mod_goesAlong.2.1 58 = .ok (.aload_n 0, 1) := by decide +kernel
theorem d_Mod_goesAlong_59 : decode m_Mod_goesAlong.2.1 59 = .ok (.getfield 479, 3) := by decide +kernel
theorem d_Mod_goesAlong_62 : decode m_Mod_goesAlong.2.1 62 = .ok (.bipush 23, 2) := by decide +kernel
theorem d_Mod_goesAlong_64 : decode m_Mod_goesAlong.2.1 64 = .ok (.if_icmp .ne 7, 3) := by decide +kernel
theorem d_Mod_goesAlong_67 : decode m_Mod_goesAlong.2.1 67 = .ok (.iconst 1, 1) := by decide +kernel
theorem d_Mod_goesAlong_68 : decode m_Mod_goesAlong.2.1 68 = .ok (.goto 4, 3) := by decide +kernel
theorem d_Mod_goesAlong_71 : decode m_Mod_goesAlong.2.1 71 = .ok (.iconst 2, 1) := by decide +kernel
theorem d_Mod_goesAlong_72 : decode m_Mod_goesAlong.2.1 72 = .ok (.istore_n 3, 1) := by decide +kernel
theorem d_Mod_goesAlong_73 : decode m_Mod_goesAlong.2.1 73 = .ok (.iconst 0, 1) := by decide +kernel
theorem d_Mod_goesAlong_74 : decode m_Mod_goesAlong.2.1 74 = .ok (.istore 4, 2) := by decide +kernel
theorem d_Mod_goesAlong_76 : decode m_Mod_goesAlong.2.1 76 = .ok (.iload 4, 2) := by decide +kernel
theorem d_Mod_goesAlong_78 : decode m_Mod_goesAlong.2.1 78 = .ok (.iload_n 3, 1) := by decide +kernel
theorem d_Mod_goesAlong_79 : decode m_Mod_goesAlong.2.1 79 = .ok (.if_icmp .ge 64, 3) := by decide +kernel
theorem d_Mod_goesAlong_82 : decode m_Mod_goesAlong.2.1 82 = .ok (.iload 4, 2) := by decide +kernel
theorem d_Mod_goesAlong_84 : decode m_Mod_goesAlong.2.1 84 = .ok (.ifCond .le 13, 3) := by decide +kernel
theorem d_Mod_goesAlong_87 : decode m_Mod_goesAlong.2.1 87 = .ok (.aload_n 0, 1) := by decide +kernel
theorem d_Mod_goesAlong_88 : decode m_Mod_goesAlong.2.1 88 = .ok (.dup, 1) := by decide +kernel
theorem d_Mod_goesAlong_89 : decode m_Mod_goesAlong.2.1 89 = .ok (.getfield 249, 3) := by decide +kernel
theorem d_Mod_goesAlong_92 : decode m_Mod_goesAlong.2.1 92 = .ok (.iconst 1, 1) := by decide +kernel
theorem d_Mod_goesAlong_93 : decode m_Mod_goesAlong.2.1 93 = .ok (.iadd, 1) := by decide +kernel
theorem d_Mod_goesAlong_94 : decode m_Mod_goesAlong.2.1 94 = .ok (.putfield 249, 3) := by decide +kernel
theorem d_Mod_goesAlong_97 : decode m_Mod_goesAlong.2.1 97 = .ok (.aload_n 0, 1) := by decide +kernel
theorem d_Mod_goesAlong_98 : decode m_Mod_goesAlong.2.1 98 = .ok (.iconst 0, 1) := by decide +kernel
theorem d_Mod_goesAlong_99 : decode m_Mod_goesAlong.2.1 99 = .ok (.putfield 259, 3) := by decide +kernel
theorem d_Mod_goesAlong_102 : decode m_Mod_goesAlong.2.1 102 = .ok (.aload_n 0, 1) := by decide +kernel
theorem d_Mod_goesAlong_103 : decode m_Mod_goesAlong.2.1 103 = .ok (.getfield 110, 3) := by decide +kernel
theorem d_Mod_goesAlong_106 : decode m_Mod_goesAlong.2.1 106 = .ok (.iload 4, 2) := by decide +kernel
theorem d_Mod_goesAlong_108 : decode m_Mod_goesAlong.2.1 108 = .ok (.aload_n 0, 1) := by decide +kernel
theorem d_Mod_goesAlong_109 : decode m_Mod_goesAlong.2.1 109 = .ok (.iload_n 2, 1) := by decide +kernel
theorem d_Mod_goesAlong_110 : decode m_Mod_goesAlong.2.1 110 = .ok (.invokevirtual 276, 3) := by decide +kernel
theorem d_Mod_goesAlong_113 : decode m_Mod_goesAlong.2.1 113 = .ok (.lastore, 1) := by decide +kernel
theorem d_Mod_goesAlong_114 : decode m_Mod_goesAlong.2.1 114 = .ok (.aload_n 0, 1) := by decide +kernel
theorem d_Mod_goesAlong_115 : decode m_Mod_goesAlong.2.1 115 = .ok (.aload_n 0, 1) := by decide +kernel
theorem d_Mod_goesAlong_116 : decode m_Mod_goesAlong.2.1 116 = .ok (.getfield 482, 3) := by decide +kernel
theorem d_Mod_goesAlong_119 : decode m_Mod_goesAlong.2.1 119 = .ok (.ifCond .eq 14, 3) := by decide +kernel
theorem d_Mod_goesAlong_122 : decode m_Mod_goesAlong.2.1 122 = .ok (.aload_n 0, 1) := by decide +kernel
theorem d_Mod_goesAlong_123 : decode m_Mod_goesAlong.2.1 123 = .ok (.getfield 259, 3) := by decide +kernel
theorem d_Mod_goesAlong_126 : decode m_Mod_goesAlong.2.1 126 = .ok (.ifCond .ne 7, 3) := by decide +kernel
theorem d_Mod_goesAlong_129 : decode m_Mod_goesAlong.2.1 129 = .ok (.iconst 1, 1) := by decide +kernel
theorem d_Mod_goesAlong_130 : decode m_Mod_goesAlong.2.1 130 = .ok (.goto 4, 3) := by decide +kernel
theorem d_Mod_goesAlong_133 : decode m_Mod_goesAlong.2.1 133 = .ok (.iconst 0, 1) := by decide +kernel
theorem d_Mod_goesAlong_134 : decode m_Mod_goesAlong.2.1 134 = .ok (.putfield 482, 3) := by decide +kernel
theorem d_Mod_goesAlong_137 : decode m_Mod_goesAlong.2.1 137 = .ok (.iinc 4 1, 3) := by decide +kernel
theorem d_Mod_goesAlong_140 : decode m_Mod_goesAlong.2.1 140 = .ok (.goto (-64), 3) := by decide +kernel
theorem d_Mod_goesAlong_143 : decode m_Mod_goesAlong.2.1 143 = .ok (.aload_n 0, 1) := by decide +kernel
theorem d_Mod_goesAlong_144 : decode m_Mod_goesAlong.2.1 144 = .ok (.iconst 1, 1) := by decide +kernel
theorem d_Mod_goesAlong_145 : decode m_Mod_goesAlong.2.1 145 = .ok (.putfield 485, 3) := by decide +kernel
theorem d_Mod_goesAlong_148 : decode m_Mod_goesAlong.2.1 148 = .ok (.aload_n 0, 1) := by decide +kernel
theorem d_Mod_goesAlong_149 : decode m_Mod_goesAlong.2.1 149 = .ok (.bipush 27, 2) := by decide +kernel
theorem d_Mod_goesAlong_151 : decode m_Mod_goesAlong.2.1 151 = .ok (.invokevirtual 273, 3) := by decide +kernel
theorem d_Mod_goesAlong_154 : decode m_Mod_goesAlong.2.1 154 = .ok (.ifCond .eq 30, 3) := by decide +kernel
theorem d_Mod_goesAlong_157 : decode m_Mod_goesAlong.2.1 157 = .ok (.aload_n 0, 1) := by decide +kernel
theorem d_Mod_goesAlong_158 : decode m_Mod_goesAlong.2.1 158 = .ok (.aload_n 0, 1) := by decide +kernel
theorem d_Mod_goesAlong_159 : decode m_Mod_goesAlong.2.1 159 = .ok (.getfield 32, 3) := by decide +kernel
theorem d_Mod_goesAlong_162 : decode m_Mod_goesAlong.2.1 162 = .ok (.sipush 2833, 3) := by decide +kernel
theorem d_Mod_goesAlong_165 : decode m_Mod_goesAlong.2.1 165 = .ok (.aload_n 0, 1) := by decide +kernel
theorem d_Mod_goesAlong_166 : decode m_Mod_goesAlong.2.1 166 = .ok (.getfield 249, 3) := by decide +kernel
theorem d_Mod_goesAlong_169 : decode m_Mod_goesAlong.2.1 169 = .ok (.iadd, 1) := by decide +kernel
theorem d_Mod_goesAlong_170 : decode m_Mod_goesAlong.2.1 170 = .ok (.iaload, 1) := by decide +kernel
theorem d_Mod_goesAlong_171 : decode m_Mod_goesAlong.2.1 171 = .ok (.putfield 485, 3) := by decide +kernel
theorem d_Mod_goesAlong_174 : decode m_Mod_goesAlong.2.1 174 = .ok (.aload_n 0, 1) := by decide +kernel
theorem d_Mod_goesAlong_175 : decode m_Mod_goesAlong.2.1 175 = .ok (.dup, 1) := by decide +kernel
theorem d_Mod_goesAlong_176 : decode m_Mod_goesAlong.2.1 176 = .ok (.getfield 249, 3) := by decide +kernel
theorem d_Mod_goesAlong_179 : decode m_Mod_goesAlong.2.1 179 = .ok (.iconst 1, 1) := by decide +kernel
theorem d_Mod_goesAlong_180 : decode m_Mod_goesAlong.2.1 180 = .ok (.iadd, 1) := by decide +kernel
theorem d_Mod_goesAlong_181 : decode m_Mod_goesAlong.2.1 181 = .ok (.putfield 249, 3) := by decide +kernel
theorem d_Mod_goesAlong_184 : decode m_Mod_goesAlong.2.1 184 = .ok (.aload_n 0, 1) := by decide +kernel
theorem d_Mod_goesAlong_185 : decode m_Mod_goesAlong.2.1 185 = .ok (.iconst 0, 1) := by decide +kernel
theorem d_Mod_goesAlong_186 : decode m_Mod_goesAlong.2.1 186 = .ok (.putfield 259, 3) := by decide +kernel
theorem d_Mod_goesAlong_189 : decode m_Mod_goesAlong.2.1 189 = .ok (.aload_n 0, 1) := by decide +kernel
theorem d_Mod_goesAlong_190 : decode m_Mod_goesAlong.2.1 190 = .ok (.aload_n 0, 1) := by decide +kernel
theorem d_Mod_goesAlong_191 : decode m_Mod_goesAlong.2.1 191 = .ok (.iconst 5, 1) := by decide +kernel
theorem d_Mod_goesAlong_192 : decode m_Mod_goesAlong.2.1 192 = .ok (.invokevirtual 273, 3) := by decide +kernel
theorem d_Mod_goesAlong_195 : decode m_Mod_goesAlong.2.1 195 = .ok (.ifCond .eq 11, 3) := by decide +kernel
theorem d_Mod_goesAlong_198 : decode m_Mod_goesAlong.2.1 198 = .ok (.aload_n 0, 1) := by decide +kernel
theorem d_Mod_goesAlong_199 : decode m_Mod_goesAlong.2.1 199 = .ok (.iload_n 2, 1) := by decide +kernel
theorem d_Mod_goesAlong_200 : decode m_Mod_goesAlong.2.1 200 = .ok (.invokevirtual 306, 3) := by decide +kernel
theorem d_Mod_goesAlong_203 : decode m_Mod_goesAlong.2.1 203 = .ok (.ifCond .eq 7, 3) := by decide +kernel
theorem d_Mod_goesAlong_206 : decode m_Mod_goesAlong.2.1 206 = .ok (.iconst 1, 1) := by decide +kernel
theorem d_Mod_goesAlong_207 : decode m_Mod_goesAlong.2.1 207 = .ok (.goto 4, 3) := by decide +kernel
theorem d_Mod_goesAlong_210 : decode m_Mod_goesAlong.2.1 210 = .ok (.iconst 0, 1) := by decide +kernel
theorem d_Mod_goesAlong_211 : decode m_Mod_goesAlong.2.1 211 = .ok (.putfield 488, 3) := by decide +kernel
theorem d_Mod_goesAlong_214 : decode m_Mod_goesAlong.2.1 214 = .ok (.aload_n 0, 1) := by decide +kernel
theorem d_Mod_goesAlong_215 : decode m_Mod_goesAlong.2.1 215 = .ok (.aload_n 0, 1) := by decide +kernel
theorem d_Mod_goesAlong_216 : decode m_Mod_goesAlong.2.1 216 = .ok (.getfield 488, 3) := by decide +kernel
theorem d_Mod_goesAlong_219 : decode m_Mod_goesAlong.2.1 219 = .ok (.ifCond .eq 14, 3) := by decide +kernel
theorem d_Mod_goesAlong_222 : decode m_Mod_goesAlong.2.1 222 = .ok (.aload_n 0, 1) := by decide +kernel
theorem d_Mod_goesAlong_223 : decode m_Mod_goesAlong.2.1 223 = .ok (.getfield 259, 3) := by decide +kernel
theorem d_Mod_goesAlong_226 : decode m_Mod_goesAlong.2.1 226 = .ok (.ifCond .ne 7, 3) := by decide +kernel
theorem d_Mod_goesAlong_229 : decode m_Mod_goesAlong.2.1 229 = .ok (.iconst 1, 1) := by decide +kernel
theorem d_Mod_goesAlong_230 : decode m_Mod_goesAlong.2.1 230 = .ok (.goto 4, 3) := by decide +kernel
theorem d_Mod_goesAlong_233 : decode m_Mod_goesAlong.2.1 233 = .ok (.iconst 0, 1) := by decide +kernel
theorem d_Mod_goesAlong_234 : decode m_Mod_goesAlong.2.1 234 = .ok (.putfield 488, 3) := by decide +kernel
theorem d_Mod_goesAlong_237 : decode m_Mod_goesAlong.2.1 237 = .ok (.aload_n 0, 1) := by decide +kernel
theorem d_Mod_goesAlong_238 : decode m_Mod_goesAlong.2.1 238 = .ok (.dup, 1) := by decide +kernel
theorem d_Mod_goesAlong_239 : decode m_Mod_goesAlong.2.1 239 = .ok (.getfield 249, 3) := by decide +kernel
theorem d_Mod_goesAlong_242 : decode m_Mod_goesAlong.2.1 242 = .ok (.iconst 1, 1) := by decide +kernel
theorem d_Mod_goesAlong_243 : decode m_Mod_goesAlong.2.1 243 = .ok (.iadd, 1) := by decide +kernel
theorem d_Mod_goesAlong_244 : decode m_Mod_goesAlong.2.1 244 = .ok (.putfield 249, 3) := by decide +kernel
theorem d_Mod_goesAlong_247 : decode m_Mod_goesAlong.2.1 247 = .ok (.return_, 1) := by decide +kernel
theorem d_Mod_obeys_0 : decode m_Mod_obeys.2.1 0 = .ok (.aload_n 0, 1) := by decide +kernel
theorem d_Mod_obeys_1 : decode m_Mod_obeys.2.1 1 = .ok (.getfield 110, 3) := by decide +kernel
theorem d_Mod_obeys_4 : decode m_Mod_obeys.2.1 4 = .ok (.iconst 0, 1) := by decide +kernel
theorem d_Mod_obeys_5 : decode m_Mod_obeys.2.1 5 = .ok (.laload, 1) := by decide +kernel
theorem d_Mod_obeys_6 : decode m_Mod_obeys.2.1 6 = .ok (.invokestatic 493, 3) := by decide +kernel
theorem d_Mod_obeys_9 : decode m_Mod_obeys.2.1 9 = .ok (.istore_n 1, 1) := by decide +kernel
theorem d_Mod_obeys_10 : decode m_Mod_obeys.2.1 10 = .ok (.aload_n 0, 1) := by decide +kernel
theorem d_Mod_obeys_11 : decode m_Mod_obeys.2.1 11 = .ok (.getfield 479, 3) := by decide +kernel
theorem d_Mod_obeys_14 : decode m_Mod_obeys.2.1 14 = .ok (.tableswitch 56 23 26 #[30, 36, 56, 51], 30) := by decide +kernel
theorem d_Mod_obeys_44 : decode m_Mod_obeys.2.1 44 = .ok (.aload_n 0, 1) := by decide +kernel
theorem d_Mod_obeys_45 : decode m_Mod_obeys.2.1 45 = .ok (.iload_n 1, 1) := by decide +kernel
theorem d_Mod_obeys_46 : decode m_Mod_obeys.2.1 46 = .ok (.invokevirtual 372, 3) := by decide +kernel
theorem d_Mod_obeys_49 : decode m_Mod_obeys.2.1 49 = .ok (.ireturn, 1) := by decide +kernel
theorem d_Mod_obeys_50 : decode m_Mod_obeys.2.1 50 = .ok (.aload_n 0, 1) := by decide +kernel
theorem d_Mod_obeys_51 : decode m_Mod_obeys.2.1 51 = .ok (.iload_n 1, 1) := by decide +kernel
theorem d_Mod_obeys_52 : decode m_Mod_obeys.2.1 52 = .ok (.aload_n 0, 1) := by decide +kernel
theorem d_Mod_obeys_53 : decode m_Mod_obeys.2.1 53 = .ok (.getfield 110, 3) := by decide +kernel
theorem d_Mod_obeys_56 : decode m_Mod_obeys.2.1 56 = .ok (.iconst 1, 1) := by decide +kernel
theorem d_Mod_obeys_57 : decode m_Mod_obeys.2.1 57 = .ok (.laload, 1) := by decide +kernel
theorem d_Mod_obeys_58 : decode m_Mod_obeys.2.1 58 = .ok (.invokestatic 493, 3) := by decide +kernel
theorem d_Mod_obeys_61 : decode m_Mod_obeys.2.1 61 = .ok (.invokevirtual 375, 3) := by decide +kernel
theorem d_Mod_obeys_64 : decode m_Mod_obeys.2.1 64 = .ok (.ireturn, 1) := by decide +kernel
theorem d_Mod_obeys_65 : decode m_Mod_obeys.2.1 65 = .ok (.aload_n 0, 1) := by decide +kernel
theorem d_Mod_obeys_66 : decode m_Mod_obeys.2.1 66 = .ok (.invokevirtual 378, 3) := by decide +kernel
theorem d_Mod_obeys_69 : decode m_Mod_obeys.2.1 69 = .ok (.ireturn, 1) := by decide +kernel
theorem d_Mod_obeys_70 : decode m_Mod_obeys.2.1 70 = .ok (.aload_n 0, 1) := by decide +kernel
theorem d_Mod_obeys_71 : decode m_Mod_obeys.2.1 71 = .ok (.iload_n 1, 1) := by decide +kernel
theorem d_Mod_obeys_72 : decode m_Mod_obeys.2.1 72 = .ok (.aload_n 0, 1) := by decide +kernel
theorem d_Mod_obeys_73 : decode m_Mod_obeys.2.1 73 = .ok (.getfield 110, 3) := by decide +kernel
theorem d_Mod_obeys_76 : decode m_Mod_obeys.2.1 76 = .ok (.iconst 1, 1) := by decide +kernel
theorem d_Mod_obeys_77 : decode m_Mod_obeys.2.1 77 = .ok (.laload, 1) := by decide +kernel
theorem d_Mod_obeys_78 : decode m_Mod_obeys.2.1 78 = .ok (.invokestatic 493, 3) := by decide +kernel
theorem d_Mod_obeys_81 : decode m_Mod_obeys.2.1 81 = .ok (.invokevirtual 366, 3) := by decide +kernel
theorem d_Mod_obeys_84 : decode m_Mod_obeys.2.1 84 = .ok (.istore_n 2, 1) := by decide +kernel
theorem d_Mod_obeys_85 : decode m_Mod_obeys.2.1 85 = .ok (.aload_n 0, 1) := by decide +kernel
theorem d_Mod_obeys_86 : decode m_Mod_obeys.2.1 86 = .ok (.iload_n 2, 1) := by decide +kernel
theorem d_Mod_obeys_87 : decode m_Mod_obeys.2.1 87 = .ok (.ifCond .ge 10, 3) := by decide +kernel
theorem d_Mod_obeys_90 : decode m_Mod_obeys.2.1 90 = .ok (.aload_n 0, 1) := by decide +kernel
theorem d_Mod_obeys_91 : decode m_Mod_obeys.2.1 91 = .ok (.getfield 291, 3) := by decide +kernel
theorem d_Mod_obeys_94 : decode m_Mod_obeys.2.1 94 = .ok (.goto 4, 3) := by decide +kernel
theorem d_Mod_obeys_97 : decode m_Mod_obeys.2.1 97 = .ok (.iload_n 2, 1) := by decide +kernel
theorem d_Mod_obeys_98 : decode m_Mod_obeys.2.1 98 = .ok (.putfield 291, 3) := by decide +kernel
theorem d_Mod_obeys_101 : decode m_Mod_obeys.2.1 101 = .ok (.iload_n 2, 1) := by decide +kernel
theorem d_Mod_obeys_102 : decode m_Mod_obeys.2.1 102 = .ok (.ireturn, 1) := by decide +kernel
theorem d_Mod_small_0 : decode m_Mod_small.2.1 0 = .ok (.lload_n 0, 1) := by decide +kernel
theorem d_Mod_small_1 : decode m_Mod_small.2.1 1 = .ok (.lconst 0, 1) := by decide +kernel
theorem d_Mod_small_2 : decode m_Mod_small.2.1 2 = .ok (.lcmp, 1) := by decide +kernel
theorem d_Mod_small_3 : decode m_Mod_small.2.1 3 = .ok (.ifCond .lt 11, 3) := by decide +kernel
theorem d_Mod_small_6 : decode m_Mod_small.2.1 6 = .ok (.lload_n 0, 1) := by decide +kernel
theorem d_Mod_small_7 : decode m_Mod_small.2.1 7 = .ok (.ldc2_w 491, 3) := by decide +kernel
theorem d_Mod_small_10 : decode m_Mod_small.2.1 10 = .ok (.lcmp, 1) := by decide +kernel
theorem d_Mod_small_11 : decode m_Mod_small.2.1 11 = .ok (.ifCond .le 7, 3) := by decide +kernel
theorem d_Mod_small_14 : decode m_Mod_small.2.1 14 = .ok (.iconst (-1), 1) := by decide +kernel
theorem d_Mod_small_15 : decode m_Mod_small.2.1 15 = .ok (.goto 5, 3) := by decide +kernel
theorem d_Mod_small_18 : decode m_Mod_small.2.1 18 = .ok (.lload_n 0, 1) := by decide +kernel
theorem d_Mod_small_19 : decode m_Mod_small.2.1 19 = .ok (.l2i, 1) := by decide +kernel
theorem d_Mod_small_20 : decode m_Mod_small.2.1 20 = .ok (.ireturn, 1) := by decide +kernel
theorem d_Mod_takesAllBack_0 : decode m_Mod_takesAllBack.2.1 0 = .ok (.aload_n 0, 1) := by decide +kernel
theorem d_Mod_takesAllBack_1 : decode m_Mod_takesAllBack.2.1 1 = .ok (.iconst 1, 1) := by decide +kernel
theorem d_Mod_takesAllBack_2 : decode m_Mod_takesAllBack.2.1 2 = .ok (.invokevirtual 464, 3) := by decide +kernel
theorem d_Mod_takesAllBack_5 : decode m_Mod_takesAllBack.2.1 5 = .ok (.iconst 0, 1) := by decide +kernel
theorem d_Mod_takesAllBack_6 : decode m_Mod_takesAllBack.2.1 6 = .ok (.istore_n 1, 1) := by decide +kernel
theorem d_Mod_takesAllBack_7 : decode m_Mod_takesAllBack.2.1 7 = .ok (.iload_n 1, 1) := by decide +kernel
theorem d_Mod_takesAllBack_8 : decode m_Mod_takesAllBack.2.1 8 = .ok (.sipush 368, 3) := by decide +kernel
theorem d_Mod_takesAllBack_11 : decode m_Mod_takesAllBack.2.1 11 = .ok (.if_icmp .ge 21, 3) := by decide +kernel
theorem d_Mod_takesAllBack_14 : decode m_Mod_takesAllBack.2.1 14 = .ok (.aload_n 0, 1) := by decide +kernel
theorem d_Mod_takesAllBack_15 : decode m_Mod_takesAllBack.2.1 15 = .ok (.getfield 76, 3) := by decide +kernel
theorem d_Mod_takesAllBack_18 : decode m_Mod_takesAllBack.2.1 18 = .ok (.iload_n 1, 1) := by decide +kernel
theorem d_Mod_takesAllBack_19 : decode m_Mod_takesAllBack.2.1 19 = .ok (.aload_n 0, 1) := by decide +kernel
theorem d_Mod_takesAllBack_20 : decode m_Mod_takesAllBack.2.1 20 = .ok (.getfield 79, 3) := by decide +kernel
theorem d_Mod_takesAllBack_23 : decode m_Mod_takesAllBack.2.1 23 = .ok (.iload_n 1, 1) := by decide +kernel
theorem d_Mod_takesAllBack_24 : decode m_Mod_takesAllBack.2.1 24 = .ok (.iaload, 1) := by decide +kernel
theorem d_Mod_takesAllBack_25 : decode m_Mod_takesAllBack.2.1 25 = .ok (.iastore, 1) := by decide +kernel
theorem d_Mod_takesAllBack_26 : decode m_Mod_takesAllBack.2.1 26 = .ok (.iinc 1 1, 3) := by decide +kernel
theorem d_Mod_takesAllBack_29 : decode m_Mod_takesAllBack.2.1 29 = .ok (.goto (-22), 3) := by decide +kernel
theorem d_Mod_takesAllBack_32 : decode m_Mod_takesAllBack.2.1 32 = .ok (.aload_n 0, 1) := by decide +kernel
theorem d_Mod_takesAllBack_33 : decode m_Mod_takesAllBack.2.1 33 = .ok (.aload_n 0, 1) := by decide +kernel
theorem d_Mod_takesAllBack_34 : decode m_Mod_takesAllBack.2.1 34 = .ok (.getfield 461, 3) := by decide +kernel
theorem d_Mod_takesAllBack_37 : decode m_Mod_takesAllBack.2.1 37 = .ok (.putfield 11, 3) := by decide +kernel
theorem d_Mod_takesAllBack_40 : decode m_Mod_takesAllBack.2.1 40 = .ok (.return_, 1) := by decide +kernel
theorem d_Mod_takesBack_0 : decode m_Mod_takesBack.2.1 0 = .ok (.iconst 0, 1) := by decide +kernel
theorem d_Mod_takesBack_1 : decode m_Mod_takesBack.2.1 1 = .ok (.istore_n 2, 1) := by decide +kernel
theorem d_Mod_takesBack_2 : decode m_Mod_takesBack.2.1 2 = .ok (.iload_n 2, 1) := by decide +kernel
theorem d_Mod_takesBack_3 : decode m_Mod_takesBack.2.1 3 = .ok (.bipush 22, 2) := by decide +kernel
theorem d_Mod_takesBack_5 : decode m_Mod_takesBack.2.1 5 = .ok (.if_icmp .ge 26, 3) := by decide +kernel
theorem d_Mod_takesBack_8 : decode m_Mod_takesBack.2.1 8 = .ok (.aload_n 0, 1) := by decide +kernel
theorem d_Mod_takesBack_9 : decode m_Mod_takesBack.2.1 9 = .ok (.getfield 32, 3) := by decide +kernel
theorem d_Mod_takesBack_12 : decode m_Mod_takesBack.2.1 12 = .ok (.iload_n 2, 1) := by decide +kernel
theorem d_Mod_takesBack_13 : decode m_Mod_takesBack.2.1 13 = .ok (.aload_n 0, 1) := by decide +kernel
theorem d_Mod_takesBack_14 : decode m_Mod_takesBack.2.1 14 = .ok (.getfield 42, 3) := by decide +kernel
theorem d_Mod_takesBack_17 : decode m_Mod_takesBack.2.1 17 = .ok (.bipush 22, 2) := by decide +kernel
theorem d_Mod_takesBack_19 : decode m_Mod_takesBack.2.1 19 = .ok (.iload_n 1, 1) := by decide +kernel
theorem d_Mod_takesBack_20 : decode m_Mod_takesBack.2.1 20 = .ok (.imul, 1) := by decide +kernel
theorem d_Mod_takesBack_21 : decode m_Mod_takesBack.2.1 21 = .ok (.iload_n 2, 1) := by decide +kernel
theorem d_Mod_takesBack_22 : decode m_Mod_takesBack.2.1 22 = .ok (.iadd, 1) := by decide +kernel
theorem d_Mod_takesBack_23 : decode m_Mod_takesBack.2.1 23 = .ok (.iaload, 1) := by decide +kernel
theorem d_Mod_takesBack_24 : decode m_Mod_takesBack.2.1 24 = .ok (.iastore, 1) := by decide +kernel
theorem d_Mod_takesBack_25 : decode m_Mod_takesBack.2.1 25 = .ok (.iinc 2 1, 3) := by decide +kernel
theorem d_Mod_takesBack_28 : decode m_Mod_takesBack.2.1 28 = .ok (.goto (-26), 3) := by decide +kernel
theorem d_Mod_takesBack_31 : decode m_Mod_takesBack.2.1 31 = .ok (.return_, 1) := by decide +kernel
theorem d_Mod_readers_0 : decode m_Mod_readers.2.1 0 = .ok (.iload_n 1, 1) := by decide +kernel
theorem d_Mod_readers_1 : decode m_Mod_readers.2.1 1 = .ok (.iconst 0, 1) := by decide +kernel
theorem d_Mod_readers_2 : decode m_Mod_readers.2.1 2 = .ok (.ldc 158, 2) := by decide +kernel
theorem d_Mod_readers_4 : decode m_Mod_readers.2.1 4 = .ok (.invokestatic 18, 3) := by decide +kernel
theorem d_Mod_readers_7 : decode m_Mod_readers.2.1 7 = .ok (.ifCond .eq 13, 3) := by decide +kernel
theorem d_Mod_readers_10 : decode m_Mod_readers.2.1 10 = .ok (.iload_n 2, 1) := by decide +kernel
theorem d_Mod_readers_11 : decode m_Mod_readers.2.1 11 = .ok (.iconst 1, 1) := by decide +kernel
theorem d_Mod_readers_12 : decode m_Mod_readers.2.1 12 = .ok (.bipush 60, 2) := by decide +kernel
theorem d_Mod_readers_14 : decode m_Mod_readers.2.1 14 = .ok (.invokestatic 18, 3) := by decide +kernel
theorem d_Mod_readers_17 : decode m_Mod_readers.2.1 17 = .ok (.ifCond .ne 9, 3) := by decide +kernel
theorem d_Mod_readers_20 : decode m_Mod_readers.2.1 20 = .ok (.aload_n 0, 1) := by decide +kernel
theorem d_Mod_readers_21 : decode m_Mod_readers.2.1 21 = .ok (.iconst (-1), 1) := by decide +kernel
theorem d_Mod_readers_22 : decode m_Mod_readers.2.1 22 = .ok (.invokevirtual 119, 3) := by decide +kernel
theorem d_Mod_readers_25 : decode m_Mod_readers.2.1 25 = .ok (.ireturn, 1) := by decide +kernel
theorem d_Mod_readers_26 : decode m_Mod_readers.2.1 26 = .ok (.aload_n 0, 1) := by decide +kernel
theorem d_Mod_readers_27 : decode m_Mod_readers.2.1 27 = .ok (.iload_n 1, 1) := by decide +kernel
theorem d_Mod_readers_28 : decode m_Mod_readers.2.1 28 = .ok (.putfield 506, 3) := by decide +kernel
theorem d_Mod_readers_31 : decode m_Mod_readers.2.1 31 = .ok (.aload_n 0, 1) := by decide +kernel
theorem d_Mod_readers_32 : decode m_Mod_readers.2.1 32 = .ok (.iconst 0, 1) := by decide +kernel
theorem d_Mod_readers_33 : decode m_Mod_readers.2.1 33 = .ok (.invokevirtual 458, 3) := by decide +kernel
theorem d_Mod_readers_36 : decode m_Mod_readers.2.1 36 = .ok (.iconst 0, 1) := by decide +kernel
theorem d_Mod_readers_37 : decode m_Mod_readers.2.1 37 = .ok (.istore_n 3, 1) := by decide +kernel
theorem d_Mod_readers_38 : decode m_Mod_readers.2.1 38 = .ok (.iconst 0, 1) := by decide +kernel
theorem d_Mod_readers_39 : decode m_Mod_readers.2.1 39 = .ok (.istore 4, 2) := by decide +kernel
theorem d_Mod_readers_41 : decode m_Mod_readers.2.1 41 = .ok (.iload 4, 2) := by decide +kernel
theorem d_Mod_readers_43 : decode m_Mod_readers.2.1 43 = .ok (.iload_n 2, 1) := by decide +kernel
theorem d_Mod_readers_44 : decode m_Mod_readers.2.1 44 = .ok (.if_icmp .ge 41, 3) := by decide +kernel
theorem d_Mod_readers_47 : decode m_Mod_readers.2.1 47 = .ok (.aload_n 0, 1) := by decide +kernel
theorem d_Mod_readers_48 : decode m_Mod_readers.2.1 48 = .ok (.getfield 32, 3) := by decide +kernel
theorem d_Mod_readers_51 : decode m_Mod_readers.2.1 51 = .ok (.bipush 21, 2) := by decide +kernel
theorem d_Mod_readers_53 : decode m_Mod_readers.2.1 53 = .ok (.iaload, 1) := by decide +kernel
theorem d_Mod_readers_54 : decode m_Mod_readers.2.1 54 = .ok (.sipush 999, 3) := by decide +kernel
theorem d_Mod_readers_57 : decode m_Mod_readers.2.1 57 = .ok (.if_icmp .ge 28, 3) := by decide +kernel
theorem d_Mod_readers_60 : decode m_Mod_readers.2.1 60 = .ok (.aload_n 0, 1) := by decide +kernel
theorem d_Mod_readers_61 : decode m_Mod_readers.2.1 61 = .ok (.invokevirtual 516, 3) := by decide +kernel
theorem d_Mod_readers_64 : decode m_Mod_readers.2.1 64 = .ok (.iload_n 3, 1) := by decide +kernel
theorem d_Mod_readers_65 : decode m_Mod_readers.2.1 65 = .ok (.aload_n 0, 1) := by decide +kernel
theorem d_Mod_readers_66 : decode m_Mod_readers.2.1 66 = .ok (.invokevirtual 294, 3) := by decide +kernel
theorem d_Mod_readers_69 : decode m_Mod_readers.2.1 69 = .ok (.ifCond .ne 7, 3) := by decide +kernel
theorem d_Mod_readers_72 : decode m_Mod_readers.2.1 72 = .ok (.iconst 1, 1) := by decide +kernel
theorem d_Mod_readers_73 : decode m_Mod_readers.2.1 73 = .ok (.goto 4, 3) := by decide +kernel
theorem d_Mod_readers_76 : decode m_Mod_readers.2.1 76 = .ok (.iconst 0, 1) := by decide +kernel
theorem d_Mod_readers_77 : decode m_Mod_readers.2.1 77 = .ok (.iadd, 1) := by decide +kernel
theorem d_Mod_readers_78 : decode m_Mod_readers.2.1 78 = .ok (.istore_n 3, 1) := by decide +kernel
theorem d_Mod_readers_79 : decode m_Mod_readers.2.1 79 = .ok (.iinc 4 1, 3) := by decide +kernel
theorem d_Mod_readers_82 : decode m_Mod_readers.2.1 82 = .ok (.goto (-41), 3) := by decide +kernel
theorem d_Mod_readers_85 : decode m_Mod_readers.2.1 85 = .ok (.iconst 0, 1) := by decide +kernel
theorem d_Mod_readers_86 : decode m_Mod_readers.2.1 86 = .ok (.istore 4, 2) := by decide +kernel
theorem d_Mod_readers_88 : decode m_Mod_readers.2.1 88 = .ok (.iload 4, 2) := by decide +kernel
theorem d_Mod_readers_90 : decode m_Mod_readers.2.1 90 = .ok (.bipush 22, 2) := by decide +kernel
theorem d_Mod_readers_92 : decode m_Mod_readers.2.1 92 = .ok (.if_icmp .ge 23, 3) := by decide +kernel
theorem d_Mod_readers_95 : decode m_Mod_readers.2.1 95 = .ok (.aload_n 0, 1) := by decide +kernel
theorem d_Mod_readers_96 : decode m_Mod_readers.2.1 96 = .ok (.getfield 113, 3) := by decide +kernel
theorem d_Mod_readers_99 : decode m_Mod_readers.2.1 99 = .ok (.iload 4, 2) := by decide +kernel
theorem d_Mod_readers_101 : decode m_Mod_readers.2.1 101 = .ok (.aload_n 0, 1) := by decide +kernel
theorem d_Mod_readers_102 : decode m_Mod_readers.2.1 102 = .ok (.getfield 32, 3) := by decide +kernel
theorem d_Mod_readers_105 : decode m_Mod_readers.2.1 105 = .ok (.iload 4, 2) := by decide +kernel
theorem d_Mod_readers_107 : decode m_Mod_readers.2.1 107 = .ok (.iaload, 1) := by decide +kernel
theorem d_Mod_readers_108 : decode m_Mod_readers.2.1 108 = .ok (.iastore, 1) := by decide +kernel
theorem d_Mod_readers_109 : decode m_Mod_readers.2.1 109 = .ok (.iinc 4 1, 3) := by decide +kernel
theorem d_Mod_readers_112 : decode m_Mod_readers.2.1 112 = .ok (.goto (-24), 3) := by decide +kernel
theorem d_Mod_readers_115 : decode m_Mod_readers.2.1 115 = .ok (.aload_n 0, 1) := by decide +kernel
theorem d_Mod_readers_116 : decode m_Mod_readers.2.1 116 = .ok (.aload_n 0, 1) := by decide +kernel
theorem d_Mod_readers_117 : decode m_Mod_readers.2.1 117 = .ok (.invokevirtual 294, 3) := by decide +kernel
theorem d_Mod_readers_120 : decode m_Mod_readers.2.1 120 = .ok (.putfield 116, 3) := by decide +kernel
theorem d_Mod_readers_123 : decode m_Mod_readers.2.1 123 = .ok (.aload_n 0, 1) := by decide +kernel
theorem d_Mod_readers_124 : decode m_Mod_readers.2.1 124 = .ok (.iconst 0, 1) := by decide +kernel
theorem d_Mod_readers_125 : decode m_Mod_readers.2.1 125 = .ok (.invokevirtual 464, 3) := by decide +kernel
theorem d_Mod_readers_128 : decode m_Mod_readers.2.1 128 = .ok (.aload_n 0, 1) := by decide +kernel
theorem d_Mod_readers_129 : decode m_Mod_readers.2.1 129 = .ok (.iload_n 3, 1) := by decide +kernel
theorem d_Mod_readers_130 : decode m_Mod_readers.2.1 130 = .ok (.invokevirtual 14, 3) := by decide +kernel
theorem d_Mod_readers_133 : decode m_Mod_readers.2.1 133 = .ok (.ireturn, 1) := by decide +kernel
theorem d_Mod_readsPage_0 : decode m_Mod_readsPage.2.1 0 = .ok (.aload_n 0, 1) := by decide +kernel
theorem d_Mod_readsPage_1 : decode m_Mod_readsPage.2.1 1 = .ok (.iconst 3, 1) := by decide +kernel
theorem d_Mod_readsPage_2 : decode m_Mod_readsPage.2.1 2 = .ok (.invokevirtual 513, 3) := by decide +kernel
theorem d_Mod_readsPage_5 : decode m_Mod_readsPage.2.1 5 = .ok (.istore_n 1, 1) := by decide +kernel
theorem d_Mod_readsPage_6 : decode m_Mod_readsPage.2.1 6 = .ok (.iload_n 1, 1) := by decide +kernel
theorem d_Mod_readsPage_7 : decode m_Mod_readsPage.2.1 7 = .ok (.ifCond .ne 45, 3) := by decide +kernel
theorem d_Mod_readsPage_10 : decode m_Mod_readsPage.2.1 10 = .ok (.aload_n 0, 1) := by decide +kernel
theorem d_Mod_readsPage_11 : decode m_Mod_readsPage.2.1 11 = .ok (.bipush 6, 2) := by decide +kernel
theorem d_Mod_readsPage_13 : decode m_Mod_readsPage.2.1 13 = .ok (.invokevirtual 513, 3) := by decide +kernel
theorem d_Mod_readsPage_16 : decode m_Mod_readsPage.2.1 16 = .ok (.istore_n 2, 1) := by decide +kernel
theorem d_Mod_readsPage_17 : decode m_Mod_readsPage.2.1 17 = .ok (.aload_n 0, 1) := by decide +kernel
theorem d_Mod_readsPage_18 : decode m_Mod_readsPage.2.1 18 = .ok (.aload_n 0, 1) := by decide +kernel
theorem d_Mod_readsPage_19 : decode m_Mod_readsPage.2.1 19 = .ok (.invokevirtual 125, 3) := by decide +kernel
theorem d_Mod_readsPage_22 : decode m_Mod_readsPage.2.1 22 = .ok (.iconst 1, 1) := by decide +kernel
theorem d_Mod_readsPage_23 : decode m_Mod_readsPage.2.1 23 = .ok (.iadd, 1) := by decide +kernel
theorem d_Mod_readsPage_24 : decode m_Mod_readsPage.2.1 24 = .ok (.invokevirtual 513, 3) := by decide +kernel
theorem d_Mod_readsPage_27 : decode m_Mod_readsPage.2.1 27 = .ok (.istore_n 3, 1) := by decide +kernel
theorem d_Mod_readsPage_28 : decode m_Mod_readsPage.2.1 28 = .ok (.aload_n 0, 1) := by decide +kernel
theorem d_Mod_readsPage_29 : decode m_Mod_readsPage.2.1 29 = .ok (.invokevirtual 125, 3) := by decide +kernel
theorem d_Mod_readsPage_32 : decode m_Mod_readsPage.2.1 32 = .ok (.bipush 20, 2) := by decide +kernel
theorem d_Mod_readsPage_34 : decode m_Mod_readsPage.2.1 34 = .ok (.if_icmp .ge 18, 3) := by decide +kernel
theorem d_Mod_readsPage_37 : decode m_Mod_readsPage.2.1 37 = .ok (.aload_n 0, 1) := by decide +kernel
theorem d_Mod_readsPage_38 : decode m_Mod_readsPage.2.1 38 = .ok (.iload_n 2, 1) := by decide +kernel
theorem d_Mod_readsPage_39 : decode m_Mod_readsPage.2.1 39 = .ok (.iload_n 3, 1) := by decide +kernel
theorem d_Mod_readsPage_40 : decode m_Mod_readsPage.2.1 40 = .ok (.invokevirtual 330, 3) := by decide +kernel
theorem d_Mod_readsPage_43 : decode m_Mod_readsPage.2.1 43 = .ok (.ifCond .ne 9, 3) := by decide +kernel
theorem d_Mod_readsPage_46 : decode m_Mod_readsPage.2.1 46 = .ok (.aload_n 0, 1) := by decide +kernel
theorem d_Mod_readsPage_47 : decode m_Mod_readsPage.2.1 47 = .ok (.iload_n 2, 1) := by decide +kernel
theorem d_Mod_readsPage_48 : decode m_Mod_readsPage.2.1 48 = .ok (.iload_n 3, 1) := by decide +kernel
theorem d_Mod_readsPage_49 : decode m_Mod_readsPage.2.1 49 = .ok (.invokevirtual 357, 3) := by decide +kernel
theorem d_Mod_readsPage_52 : decode m_Mod_readsPage.2.1 52 = .ok (.iload_n 1, 1) := by decide +kernel
theorem d_Mod_readsPage_53 : decode m_Mod_readsPage.2.1 53 = .ok (.iconst 1, 1) := by decide +kernel
theorem d_Mod_readsPage_54 : decode m_Mod_readsPage.2.1 54 = .ok (.if_icmp .ne 22, 3) := by decide +kernel
theorem d_Mod_readsPage_57 : decode m_Mod_readsPage.2.1 57 = .ok (.aload_n 0, 1) := by decide +kernel
theorem d_Mod_readsPage_58 : decode m_Mod_readsPage.2.1 58 = .ok (.invokevirtual 125, 3) := by decide +kernel
theorem d_Mod_readsPage_61 : decode m_Mod_readsPage.2.1 61 = .ok (.ifCond .le 15, 3) := by decide +kernel
theorem d_Mod_readsPage_64 : decode m_Mod_readsPage.2.1 64 = .ok (.aload_n 0, 1) := by decide +kernel
theorem d_Mod_readsPage_65 : decode m_Mod_readsPage.2.1 65 = .ok (.aload_n 0, 1) := by decide +kernel
theorem d_Mod_readsPage_66 : decode m_Mod_readsPage.2.1 66 = .ok (.aload_n 0, 1) := by decide +kernel
theorem d_Mod_readsPage_67 : decode m_Mod_readsPage.2.1 67 = .ok (.invokevirtual 125, 3) := by decide +kernel
theorem d_Mod_readsPage_70 : decode m_Mod_readsPage.2.1 70 = .ok (.invokevirtual 513, 3) := by decide +kernel
theorem d_Mod_readsPage_73 : decode m_Mod_readsPage.2.1 73 = .ok (.invokevirtual 363, 3) := by decide +kernel
theorem d_Mod_readsPage_76 : decode m_Mod_readsPage.2.1 76 = .ok (.aload_n 0, 1) := by decide +kernel
theorem d_Mod_readsPage_77 : decode m_Mod_readsPage.2.1 77 = .ok (.getfield 32, 3) := by decide +kernel
theorem d_Mod_readsPage_80 : decode m_Mod_readsPage.2.1 80 = .ok (.bipush 21, 2) := by decide +kernel
theorem d_Mod_readsPage_82 : decode m_Mod_readsPage.2.1 82 = .ok (.dup2, 1) := by decide +kernel
theorem d_Mod_readsPage_83 : decode m_Mod_readsPage.2.1 83 = .ok (.iaload, 1) := by decide +kernel
theorem d_Mod_readsPage_84 : decode m_Mod_readsPage.2.1 84 = .ok (.iconst 1, 1) := by decide +kernel
theorem d_Mod_readsPage_85 : decode m_Mod_readsPage.2.1 85 = .ok (.iadd, 1) := by decide +kernel
theorem d_Mod_readsPage_86 : decode m_Mod_readsPage.2.1 86 = .ok (.iastore, 1) := by decide +kernel
theorem d_Mod_readsPage_87 : decode m_Mod_readsPage.2.1 87 = .ok (.return_, 1) := by decide +kernel
theorem d_Mod_draws_0 : decode m_Mod_draws.2.1 0 = .ok (.aload_n 0, 1) := by decide +kernel
theorem d_Mod_draws_1 : decode m_Mod_draws.2.1 1 = .ok (.ldc2_w 504, 3) := by decide +kernel
theorem d_Mod_draws_4 : decode m_Mod_draws.2.1 4 = .ok (.aload_n 0, 1) := by decide +kernel
theorem d_Mod_draws_5 : decode m_Mod_draws.2.1 5 = .ok (.getfield 506, 3) := by decide +kernel
theorem d_Mod_draws_8 : decode m_Mod_draws.2.1 8 = .ok (.i2l, 1) := by decide +kernel
theorem d_Mod_draws_9 : decode m_Mod_draws.2.1 9 = .ok (.lmul, 1) := by decide +kernel
theorem d_Mod_draws_10 : decode m_Mod_draws.2.1 10 = .ok (.ldc2_w 509, 3) := by decide +kernel
theorem d_Mod_draws_13 : decode m_Mod_draws.2.1 13 = .ok (.ladd, 1) := by decide +kernel
theorem d_Mod_draws_14 : decode m_Mod_draws.2.1 14 = .ok (.ldc2_w 511, 3) := by decide +kernel
theorem d_Mod_draws_17 : decode m_Mod_draws.2.1 17 = .ok (.lrem, 1) := by decide +kernel
theorem d_Mod_draws_18 : decode m_Mod_draws.2.1 18 = .ok (.l2i, 1) := by decide +kernel
theorem d_Mod_draws_19 : decode m_Mod_draws.2.1 19 = .ok (.putfield 506, 3) := by decide +kernel
theorem d_Mod_draws_22 : decode m_Mod_draws.2.1 22 = .ok (.aload_n 0, 1) := by decide +kernel
theorem d_Mod_draws_23 : decode m_Mod_draws.2.1 23 = .ok (.getfield 506, 3) := by decide +kernel
theorem d_Mod_draws_26 : decode m_Mod_draws.2.1 26 = .ok (.iload_n 1, 1) := by decide +kernel
theorem d_Mod_draws_27 : decode m_Mod_draws.2.1 27 = .ok (.irem, 1) := by decide +kernel
theorem d_Mod_draws_28 : decode m_Mod_draws.2.1 28 = .ok (.ireturn, 1) := by decide +kernel
theorem d_Mod_drawn_0 : decode m_Mod_drawn.2.1 0 = .ok (.aload_n 0, 1) := by decide +kernel
theorem d_Mod_drawn_1 : decode m_Mod_drawn.2.1 1 = .ok (.getfield 116, 3) := by decide +kernel
theorem d_Mod_drawn_4 : decode m_Mod_drawn.2.1 4 = .ok (.iconst (-1), 1) := by decide +kernel
theorem d_Mod_drawn_5 : decode m_Mod_drawn.2.1 5 = .ok (.if_icmp .ne 5, 3) := by decide +kernel
theorem d_Mod_drawn_8 : decode m_Mod_drawn.2.1 8 = .ok (.iconst (-1), 1) := by decide +kernel
theorem d_Mod_drawn_9 : decode m_Mod_drawn.2.1 9 = .ok (.ireturn, 1) := by decide +kernel
theorem d_Mod_drawn_10 : decode m_Mod_drawn.2.1 10 = .ok (.iload_n 1, 1) := by decide +kernel
theorem d_Mod_drawn_11 : decode m_Mod_drawn.2.1 11 = .ok (.lookupswitch 37 #[(0, 25), (1, 32)], 25) := by decide +kernel
theorem d_Mod_drawn_36 : decode m_Mod_drawn.2.1 36 = .ok (.aload_n 0, 1) := by decide +kernel
theorem d_Mod_drawn_37 : decode m_Mod_drawn.2.1 37 = .ok (.getfield 113, 3) := by decide +kernel
theorem d_Mod_drawn_40 : decode m_Mod_drawn.2.1 40 = .ok (.iconst 0, 1) := by decide +kernel
theorem d_Mod_drawn_41 : decode m_Mod_drawn.2.1 41 = .ok (.iaload, 1) := by decide +kernel
theorem d_Mod_drawn_42 : decode m_Mod_drawn.2.1 42 = .ok (.ireturn, 1) := by decide +kernel
theorem d_Mod_drawn_43 : decode m_Mod_drawn.2.1 43 = .ok (.aload_n 0, 1) := by decide +kernel
theorem d_Mod_drawn_44 : decode m_Mod_drawn.2.1 44 = .ok (.getfield 116, 3) := by decide +kernel
theorem d_Mod_drawn_47 : decode m_Mod_drawn.2.1 47 = .ok (.ireturn, 1) := by decide +kernel
theorem d_Mod_drawn_48 : decode m_Mod_drawn.2.1 48 = .ok (.iload_n 1, 1) := by decide +kernel
theorem d_Mod_drawn_49 : decode m_Mod_drawn.2.1 49 = .ok (.iconst 2, 1) := by decide +kernel
theorem d_Mod_drawn_50 : decode m_Mod_drawn.2.1 50 = .ok (.isub, 1) := by decide +kernel
theorem d_Mod_drawn_51 : decode m_Mod_drawn.2.1 51 = .ok (.iconst 0, 1) := by decide +kernel
theorem d_Mod_drawn_52 : decode m_Mod_drawn.2.1 52 = .ok (.aload_n 0, 1) := by decide +kernel
theorem d_Mod_drawn_53 : decode m_Mod_drawn.2.1 53 = .ok (.getfield 113, 3) := by decide +kernel
theorem d_Mod_drawn_56 : decode m_Mod_drawn.2.1 56 = .ok (.iconst 0, 1) := by decide +kernel
theorem d_Mod_drawn_57 : decode m_Mod_drawn.2.1 57 = .ok (.iaload, 1) := by decide +kernel
theorem d_Mod_drawn_58 : decode m_Mod_drawn.2.1 58 = .ok (.iconst 1, 1) := by decide +kernel
theorem d_Mod_drawn_59 : decode m_Mod_drawn.2.1 59 = .ok (.isub, 1) := by decide +kernel
theorem d_Mod_drawn_60 : decode m_Mod_drawn.2.1 60 = .ok (.invokestatic 18, 3) := by decide +kernel
theorem d_Mod_drawn_63 : decode m_Mod_drawn.2.1 63 = .ok (.ifCond .eq 16, 3) := by decide +kernel
theorem d_Mod_drawn_66 : decode m_Mod_drawn.2.1 66 = .ok (.aload_n 0, 1) := by decide +kernel
theorem d_Mod_drawn_67 : decode m_Mod_drawn.2.1 67 = .ok (.getfield 113, 3) := by decide +kernel
theorem d_Mod_drawn_70 : decode m_Mod_drawn.2.1 70 = .ok (.iconst 1, 1) := by decide +kernel
theorem d_Mod_drawn_71 : decode m_Mod_drawn.2.1 71 = .ok (.iload_n 1, 1) := by decide +kernel
theorem d_Mod_drawn_72 : decode m_Mod_drawn.2.1 72 = .ok (.iadd, 1) := by decide +kernel
theorem d_Mod_drawn_73 : decode m_Mod_drawn.2.1 73 = .ok (.iconst 2, 1) := by decide +kernel
theorem d_Mod_drawn_74 : decode m_Mod_drawn.2.1 74 = .ok (.isub, 1) := by decide +kernel
theorem d_Mod_drawn_75 : decode m_Mod_drawn.2.1 75 = .ok (.iaload, 1) := by decide +kernel
theorem d_Mod_drawn_76 : decode m_Mod_drawn.2.1 76 = .ok (.goto 4, 3) := by decide +kernel
theorem d_Mod_drawn_79 : decode m_Mod_drawn.2.1 79 = .ok (.iconst (-1), 1) := by decide +kernel
theorem d_Mod_drawn_80 : decode m_Mod_drawn.2.1 80 = .ok (.ireturn, 1) := by decide +kernel
theorem d_Mod_count_0 : decode m_Mod_count.2.1 0 = .ok (.iload_n 1, 1) := by decide +kernel
theorem d_Mod_count_1 : decode m_Mod_count.2.1 1 = .ok (.tableswitch 144 0 13 #[71, 76, 81, 89, 94, 99, 99, 99, 108, 115, 123, 131, 131, 131], 71) := by decide +kernel
theorem d_Mod_count_72 : decode m_Mod_count.2.1 72 = .ok (.aload_n 0, 1) := by decide +kernel
theorem d_Mod_count_73 : decode m_Mod_count.2.1 73 = .ok (.invokevirtual 125, 3) := by decide +kernel
theorem d_Mod_count_76 : decode m_Mod_count.2.1 76 = .ok (.ireturn, 1) := by decide +kernel
theorem d_Mod_count_77 : decode m_Mod_count.2.1 77 = .ok (.aload_n 0, 1) := by decide +kernel
theorem d_Mod_count_78 : decode m_Mod_count.2.1 78 = .ok (.invokevirtual 294, 3) := by decide +kernel
theorem d_Mod_count_81 : decode m_Mod_count.2.1 81 = .ok (.ireturn, 1) := by decide +kernel
theorem d_Mod_count_82 : decode m_Mod_count.2.1 82 = .ok (.aload_n 0, 1) := by decide +kernel
theorem d_Mod_count_83 : decode m_Mod_count.2.1 83 = .ok (.getfield 32, 3) := by decide +kernel
theorem d_Mod_count_86 : decode m_Mod_count.2.1 86 = .ok (.bipush 24, 2) := by decide +kernel
theorem d_Mod_count_88 : decode m_Mod_count.2.1 88 = .ok (.iaload, 1) := by decide +kernel
theorem d_Mod_count_89 : decode m_Mod_count.2.1 89 = .ok (.ireturn, 1) := by decide +kernel
theorem d_Mod_count_90 : decode m_Mod_count.2.1 90 = .ok (.aload_n 0, 1) := by decide +kernel
theorem d_Mod_count_91 : decode m_Mod_count.2.1 91 = .ok (.getfield 11, 3) := by decide +kernel
theorem d_Mod_count_94 : decode m_Mod_count.2.1 94 = .ok (.ireturn, 1) := by decide +kernel
theorem d_Mod_count_95 : decode m_Mod_count.2.1 95 = .ok (.aload_n 0, 1) := by decide +kernel
theorem d_Mod_count_96 : decode m_Mod_count.2.1 96 = .ok (.getfield 136, 3) := by decide +kernel
theorem d_Mod_count_99 : decode m_Mod_count.2.1 99 = .ok (.ireturn, 1) := by decide +kernel
theorem d_Mod_count_100 : decode m_Mod_count.2.1 100 = .ok (.aload_n 0, 1) := by decide +kernel
theorem d_Mod_count_101 : decode m_Mod_count.2.1 101 = .ok (.getfield 7, 3) := by decide +kernel
theorem d_Mod_count_104 : decode m_Mod_count.2.1 104 = .ok (.iload_n 1, 1) := by decide +kernel
theorem d_Mod_count_105 : decode m_Mod_count.2.1 105 = .ok (.iconst 4, 1) := by decide +kernel
theorem d_Mod_count_106 : decode m_Mod_count.2.1 106 = .ok (.isub, 1) := by decide +kernel
theorem d_Mod_count_107 : decode m_Mod_count.2.1 107 = .ok (.iaload, 1) := by decide +kernel
theorem d_Mod_count_108 : decode m_Mod_count.2.1 108 = .ok (.ireturn, 1) := by decide +kernel
theorem d_Mod_count_109 : decode m_Mod_count.2.1 109 = .ok (.aload_n 0, 1) := by decide +kernel
theorem d_Mod_count_110 : decode m_Mod_count.2.1 110 = .ok (.getfield 7, 3) := by decide +kernel
theorem d_Mod_count_113 : decode m_Mod_count.2.1 113 = .ok (.iconst 5, 1) := by decide +kernel
theorem d_Mod_count_114 : decode m_Mod_count.2.1 114 = .ok (.iaload, 1) := by decide +kernel
theorem d_Mod_count_115 : decode m_Mod_count.2.1 115 = .ok (.ireturn, 1) := by decide +kernel
theorem d_Mod_count_116 : decode m_Mod_count.2.1 116 = .ok (.aload_n 0, 1) := by decide +kernel
theorem d_Mod_count_117 : decode m_Mod_count.2.1 117 = .ok (.getfield 7, 3) := by decide +kernel
theorem d_Mod_count_120 : decode m_Mod_count.2.1 120 = .ok (.bipush 6, 2) := by decide +kernel
theorem d_Mod_count_122 : decode m_Mod_count.2.1 122 = .ok (.iaload, 1) := by decide +kernel
theorem d_Mod_count_123 : decode m_Mod_count.2.1 123 = .ok (.ireturn, 1) := by decide +kernel
theorem d_Mod_count_124 : decode m_Mod_count.2.1 124 = .ok (.aload_n 0, 1) := by decide +kernel
theorem d_Mod_count_125 : decode m_Mod_count.2.1 125 = .ok (.getfield 32, 3) := by decide +kernel
theorem d_Mod_count_128 : decode m_Mod_count.2.1 128 = .ok (.bipush 25, 2) := by decide +kernel
theorem d_Mod_count_130 : decode m_Mod_count.2.1 130 = .ok (.iaload, 1) := by decide +kernel
theorem d_Mod_count_131 : decode m_Mod_count.2.1 131 = .ok (.ireturn, 1) := by decide +kernel
theorem d_Mod_count_132 : decode m_Mod_count.2.1 132 = .ok (.aload_n 0, 1) := by decide +kernel
theorem d_Mod_count_133 : decode m_Mod_count.2.1 133 = .ok (.getfield 32, 3) := by decide +kernel
theorem d_Mod_count_136 : decode m_Mod_count.2.1 136 = .ok (.iload_n 1, 1) := by decide +kernel
theorem d_Mod_count_137 : decode m_Mod_count.2.1 137 = .ok (.bipush 11, 2) := by decide +kernel
theorem d_Mod_count_139 : decode m_Mod_count.2.1 139 = .ok (.isub, 1) := by decide +kernel
theorem d_Mod_count_140 : decode m_Mod_count.2.1 140 = .ok (.invokestatic 133, 3) := by decide +kernel
theorem d_Mod_count_143 : decode m_Mod_count.2.1 143 = .ok (.iaload, 1) := by decide +kernel
theorem d_Mod_count_144 : decode m_Mod_count.2.1 144 = .ok (.ireturn, 1) := by decide +kernel
theorem d_Mod_count_145 : decode m_Mod_count.2.1 145 = .ok (.iconst (-1), 1) := by decide +kernel
theorem d_Mod_count_146 : decode m_Mod_count.2.1 146 = .ok (.ireturn, 1) := by decide +kernel
theorem d_Mod_status_0 : decode m_Mod_status.2.1 0 = .ok (.aload_n 0, 1) := by decide +kernel
theorem d_Mod_status_1 : decode m_Mod_status.2.1 1 = .ok (.getfield 3, 3) := by decide +kernel
theorem d_Mod_status_4 : decode m_Mod_status.2.1 4 = .ok (.ireturn, 1) := by decide +kernel
