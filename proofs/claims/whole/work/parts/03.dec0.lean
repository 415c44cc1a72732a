theorem dX0_init_0 : decode cX0_init 0 = .ok (.aload_n 0, 1) := by decide +kernel
theorem dX0_init_1 : decode cX0_init 1 = .ok (.invokespecial 3, 3) := by decide +kernel
theorem dX0_init_4 : decode cX0_init 4 = .ok (.aload_n 0, 1) := by decide +kernel
theorem dX0_init_5 : decode cX0_init 5 = .ok (.new 9, 3) := by decide +kernel
theorem dX0_init_8 : decode cX0_init 8 = .ok (.dup, 1) := by decide +kernel
theorem dX0_init_9 : decode cX0_init 9 = .ok (.invokespecial 11, 3) := by decide +kernel
theorem dX0_init_12 : decode cX0_init 12 = .ok (.putfield 12, 3) := by decide +kernel
theorem dX0_init_15 : decode cX0_init 15 = .ok (.aload_n 0, 1) := by decide +kernel
theorem dX0_init_16 : decode cX0_init 16 = .ok (.bipush 6, 2) := by decide +kernel
theorem dX0_init_18 : decode cX0_init 18 = .ok (.newarray .int, 2) := by decide +kernel
theorem dX0_init_20 : decode cX0_init 20 = .ok (.putfield 18, 3) := by decide +kernel
theorem dX0_init_23 : decode cX0_init 23 = .ok (.aload_n 0, 1) := by decide +kernel
theorem dX0_init_24 : decode cX0_init 24 = .ok (.bipush 6, 2) := by decide +kernel
theorem dX0_init_26 : decode cX0_init 26 = .ok (.newarray .int, 2) := by decide +kernel
theorem dX0_init_28 : decode cX0_init 28 = .ok (.putfield 22, 3) := by decide +kernel
theorem dX0_init_31 : decode cX0_init 31 = .ok (.aload_n 0, 1) := by decide +kernel
theorem dX0_init_32 : decode cX0_init 32 = .ok (.iconst (-1), 1) := by decide +kernel
theorem dX0_init_33 : decode cX0_init 33 = .ok (.putfield 25, 3) := by decide +kernel
theorem dX0_init_36 : decode cX0_init 36 = .ok (.aload_n 0, 1) := by decide +kernel
theorem dX0_init_37 : decode cX0_init 37 = .ok (.aload_n 1, 1) := by decide +kernel
theorem dX0_init_38 : decode cX0_init 38 = .ok (.putfield 29, 3) := by decide +kernel
theorem dX0_init_41 : decode cX0_init 41 = .ok (.aload_n 0, 1) := by decide +kernel
theorem dX0_init_42 : decode cX0_init 42 = .ok (.aload_n 2, 1) := by decide +kernel
theorem dX0_init_43 : decode cX0_init 43 = .ok (.putfield 33, 3) := by decide +kernel
theorem dX0_init_46 : decode cX0_init 46 = .ok (.aload_n 0, 1) := by decide +kernel
theorem dX0_init_47 : decode cX0_init 47 = .ok (.new 36, 3) := by decide +kernel
theorem dX0_init_50 : decode cX0_init 50 = .ok (.dup, 1) := by decide +kernel
theorem dX0_init_51 : decode cX0_init 51 = .ok (.aload_n 1, 1) := by decide +kernel
theorem dX0_init_52 : decode cX0_init 52 = .ok (.aload_n 0, 1) := by decide +kernel
theorem dX0_init_53 : decode cX0_init 53 = .ok (.getfield 12, 3) := by decide +kernel
theorem dX0_init_56 : decode cX0_init 56 = .ok (.aload_n 3, 1) := by decide +kernel
theorem dX0_init_57 : decode cX0_init 57 = .ok (.invokespecial 38, 3) := by decide +kernel
theorem dX0_init_60 : decode cX0_init 60 = .ok (.putfield 41, 3) := by decide +kernel
theorem dX0_init_63 : decode cX0_init 63 = .ok (.return_, 1) := by decide +kernel
theorem dX0_turnTo_0 : decode cX0_turnTo 0 = .ok (.aload_n 0, 1) := by decide +kernel
theorem dX0_turnTo_1 : decode cX0_turnTo 1 = .ok (.aload_n 1, 1) := by decide +kernel
theorem dX0_turnTo_2 : decode cX0_turnTo 2 = .ok (.putfield 29, 3) := by decide +kernel
theorem dX0_turnTo_5 : decode cX0_turnTo 5 = .ok (.aload_n 0, 1) := by decide +kernel
theorem dX0_turnTo_6 : decode cX0_turnTo 6 = .ok (.invokevirtual 45, 3) := by decide +kernel
theorem dX0_turnTo_9 : decode cX0_turnTo 9 = .ok (.return_, 1) := by decide +kernel
theorem dX0_forget_0 : decode cX0_forget 0 = .ok (.aload_n 0, 1) := by decide +kernel
theorem dX0_forget_1 : decode cX0_forget 1 = .ok (.iconst 0, 1) := by decide +kernel
theorem dX0_forget_2 : decode cX0_forget 2 = .ok (.putfield 48, 3) := by decide +kernel
theorem dX0_forget_5 : decode cX0_forget 5 = .ok (.aload_n 0, 1) := by decide +kernel
theorem dX0_forget_6 : decode cX0_forget 6 = .ok (.iconst 0, 1) := by decide +kernel
theorem dX0_forget_7 : decode cX0_forget 7 = .ok (.putfield 51, 3) := by decide +kernel
theorem dX0_forget_10 : decode cX0_forget 10 = .ok (.return_, 1) := by decide +kernel
theorem dX0_restart_0 : decode cX0_restart 0 = .ok (.aload_n 0, 1) := by decide +kernel
theorem dX0_restart_1 : decode cX0_restart 1 = .ok (.getfield 12, 3) := by decide +kernel
theorem dX0_restart_4 : decode cX0_restart 4 = .ok (.aload_n 0, 1) := by decide +kernel
theorem dX0_restart_5 : decode cX0_restart 5 = .ok (.getfield 33, 3) := by decide +kernel
theorem dX0_restart_8 : decode cX0_restart 8 = .ok (.invokevirtual 54, 3) := by decide +kernel
theorem dX0_restart_11 : decode cX0_restart 11 = .ok (.aload_n 0, 1) := by decide +kernel
theorem dX0_restart_12 : decode cX0_restart 12 = .ok (.getfield 41, 3) := by decide +kernel
theorem dX0_restart_15 : decode cX0_restart 15 = .ok (.aload_n 0, 1) := by decide +kernel
theorem dX0_restart_16 : decode cX0_restart 16 = .ok (.getfield 29, 3) := by decide +kernel
theorem dX0_restart_19 : decode cX0_restart 19 = .ok (.aload_n 0, 1) := by decide +kernel
theorem dX0_restart_20 : decode cX0_restart 20 = .ok (.getfield 12, 3) := by decide +kernel
theorem dX0_restart_23 : decode cX0_restart 23 = .ok (.iconst 0, 1) := by decide +kernel
theorem dX0_restart_24 : decode cX0_restart 24 = .ok (.invokevirtual 58, 3) := by decide +kernel
theorem dX0_restart_27 : decode cX0_restart 27 = .ok (.return_, 1) := by decide +kernel
theorem dX0_toolsOfNextDay_0 : decode cX0_toolsOfNextDay 0 = .ok (.aload_n 0, 1) := by decide +kernel
theorem dX0_toolsOfNextDay_1 : decode cX0_toolsOfNextDay 1 = .ok (.getfield 41, 3) := by decide +kernel
theorem dX0_toolsOfNextDay_4 : decode cX0_toolsOfNextDay 4 = .ok (.iconst 0, 1) := by decide +kernel
theorem dX0_toolsOfNextDay_5 : decode cX0_toolsOfNextDay 5 = .ok (.invokevirtual 62, 3) := by decide +kernel
theorem dX0_toolsOfNextDay_8 : decode cX0_toolsOfNextDay 8 = .ok (.aload_n 0, 1) := by decide +kernel
theorem dX0_toolsOfNextDay_9 : decode cX0_toolsOfNextDay 9 = .ok (.getfield 41, 3) := by decide +kernel
theorem dX0_toolsOfNextDay_12 : decode cX0_toolsOfNextDay 12 = .ok (.getfield 66, 3) := by decide +kernel
theorem dX0_toolsOfNextDay_15 : decode cX0_toolsOfNextDay 15 = .ok (.ireturn, 1) := by decide +kernel
theorem dX0_pass_0 : decode cX0_pass 0 = .ok (.iconst 0, 1) := by decide +kernel
theorem dX0_pass_1 : decode cX0_pass 1 = .ok (.istore_n 3, 1) := by decide +kernel
theorem dX0_pass_2 : decode cX0_pass 2 = .ok (.iload_n 3, 1) := by decide +kernel
theorem dX0_pass_3 : decode cX0_pass 3 = .ok (.iload_n 1, 1) := by decide +kernel
theorem dX0_pass_4 : decode cX0_pass 4 = .ok (.if_icmp .ge 42, 3) := by decide +kernel
theorem dX0_pass_7 : decode cX0_pass 7 = .ok (.aload_n 0, 1) := by decide +kernel
theorem dX0_pass_8 : decode cX0_pass 8 = .ok (.getfield 41, 3) := by decide +kernel
theorem dX0_pass_11 : decode cX0_pass 11 = .ok (.getfield 69, 3) := by decide +kernel
theorem dX0_pass_14 : decode cX0_pass 14 = .ok (.iload_n 2, 1) := by decide +kernel
theorem dX0_pass_15 : decode cX0_pass 15 = .ok (.if_icmp .ge 31, 3) := by decide +kernel
theorem dX0_pass_18 : decode cX0_pass 18 = .ok (.aload_n 0, 1) := by decide +kernel
theorem dX0_pass_19 : decode cX0_pass 19 = .ok (.getfield 12, 3) := by decide +kernel
theorem dX0_pass_22 : decode cX0_pass 22 = .ok (.aload_n 0, 1) := by decide +kernel
theorem dX0_pass_23 : decode cX0_pass 23 = .ok (.getfield 29, 3) := by decide +kernel
theorem dX0_pass_26 : decode cX0_pass 26 = .ok (.invokevirtual 72, 3) := by decide +kernel
theorem dX0_pass_29 : decode cX0_pass 29 = .ok (.ifCond .ne 17, 3) := by decide +kernel
theorem dX0_pass_32 : decode cX0_pass 32 = .ok (.aload_n 0, 1) := by decide +kernel
theorem dX0_pass_33 : decode cX0_pass 33 = .ok (.getfield 41, 3) := by decide +kernel
theorem dX0_pass_36 : decode cX0_pass 36 = .ok (.iconst 0, 1) := by decide +kernel
theorem dX0_pass_37 : decode cX0_pass 37 = .ok (.invokevirtual 62, 3) := by decide +kernel
theorem dX0_pass_40 : decode cX0_pass 40 = .ok (.iinc 3 1, 3) := by decide +kernel
theorem dX0_pass_43 : decode cX0_pass 43 = .ok (.goto (-41), 3) := by decide +kernel
theorem dX0_pass_46 : decode cX0_pass 46 = .ok (.return_, 1) := by decide +kernel
theorem dX0_behind_0 : decode cX0_behind 0 = .ok (.aload_n 0, 1) := by decide +kernel
theorem dX0_behind_1 : decode cX0_behind 1 = .ok (.invokevirtual 76, 3) := by decide +kernel
theorem dX0_behind_4 : decode cX0_behind 4 = .ok (.aload_n 0, 1) := by decide +kernel
theorem dX0_behind_5 : decode cX0_behind 5 = .ok (.iload_n 1, 1) := by decide +kernel
theorem dX0_behind_6 : decode cX0_behind 6 = .ok (.ldc 79, 2) := by decide +kernel
theorem dX0_behind_8 : decode cX0_behind 8 = .ok (.invokevirtual 80, 3) := by decide +kernel
theorem dX0_behind_11 : decode cX0_behind 11 = .ok (.aload_n 0, 1) := by decide +kernel
theorem dX0_behind_12 : decode cX0_behind 12 = .ok (.getfield 29, 3) := by decide +kernel
theorem dX0_behind_15 : decode cX0_behind 15 = .ok (.iconst 3, 1) := by decide +kernel
theorem dX0_behind_16 : decode cX0_behind 16 = .ok (.iload_n 2, 1) := by decide +kernel
theorem dX0_behind_17 : decode cX0_behind 17 = .ok (.invokevirtual 84, 3) := by decide +kernel
theorem dX0_behind_20 : decode cX0_behind 20 = .ok (.ifCond .eq 15, 3) := by decide +kernel
theorem dX0_behind_23 : decode cX0_behind 23 = .ok (.aload_n 0, 1) := by decide +kernel
theorem dX0_behind_24 : decode cX0_behind 24 = .ok (.getfield 12, 3) := by decide +kernel
theorem dX0_behind_27 : decode cX0_behind 27 = .ok (.getfield 90, 3) := by decide +kernel
theorem dX0_behind_30 : decode cX0_behind 30 = .ok (.iload_n 2, 1) := by decide +kernel
theorem dX0_behind_31 : decode cX0_behind 31 = .ok (.iaload, 1) := by decide +kernel
theorem dX0_behind_32 : decode cX0_behind 32 = .ok (.goto 10, 3) := by decide +kernel
theorem dX0_behind_35 : decode cX0_behind 35 = .ok (.aload_n 0, 1) := by decide +kernel
theorem dX0_behind_36 : decode cX0_behind 36 = .ok (.getfield 12, 3) := by decide +kernel
theorem dX0_behind_39 : decode cX0_behind 39 = .ok (.getfield 93, 3) := by decide +kernel
theorem dX0_behind_42 : decode cX0_behind 42 = .ok (.ireturn, 1) := by decide +kernel
theorem dX0_daysUntilDone_0 : decode cX0_daysUntilDone 0 = .ok (.aload_n 0, 1) := by decide +kernel
theorem dX0_daysUntilDone_1 : decode cX0_daysUntilDone 1 = .ok (.invokevirtual 76, 3) := by decide +kernel
theorem dX0_daysUntilDone_4 : decode cX0_daysUntilDone 4 = .ok (.iconst 0, 1) := by decide +kernel
theorem dX0_daysUntilDone_5 : decode cX0_daysUntilDone 5 = .ok (.istore_n 3, 1) := by decide +kernel
theorem dX0_daysUntilDone_6 : decode cX0_daysUntilDone 6 = .ok (.iload_n 3, 1) := by decide +kernel
theorem dX0_daysUntilDone_7 : decode cX0_daysUntilDone 7 = .ok (.iload_n 2, 1) := by decide +kernel
theorem dX0_daysUntilDone_8 : decode cX0_daysUntilDone 8 = .ok (.if_icmp .ge 32, 3) := by decide +kernel
theorem dX0_daysUntilDone_11 : decode cX0_daysUntilDone 11 = .ok (.aload_n 0, 1) := by decide +kernel
theorem dX0_daysUntilDone_12 : decode cX0_daysUntilDone 12 = .ok (.getfield 12, 3) := by decide +kernel
theorem dX0_daysUntilDone_15 : decode cX0_daysUntilDone 15 = .ok (.iload_n 1, 1) := by decide +kernel
theorem dX0_daysUntilDone_16 : decode cX0_daysUntilDone 16 = .ok (.aload_n 0, 1) := by decide +kernel
theorem dX0_daysUntilDone_17 : decode cX0_daysUntilDone 17 = .ok (.getfield 29, 3) := by decide +kernel
theorem dX0_daysUntilDone_20 : decode cX0_daysUntilDone 20 = .ok (.invokevirtual 96, 3) := by decide +kernel
theorem dX0_daysUntilDone_23 : decode cX0_daysUntilDone 23 = .ok (.ifCond .ne 17, 3) := by decide +kernel
theorem dX0_daysUntilDone_26 : decode cX0_daysUntilDone 26 = .ok (.aload_n 0, 1) := by decide +kernel
theorem dX0_daysUntilDone_27 : decode cX0_daysUntilDone 27 = .ok (.getfield 41, 3) := by decide +kernel
theorem dX0_daysUntilDone_30 : decode cX0_daysUntilDone 30 = .ok (.iconst 0, 1) := by decide +kernel
theorem dX0_daysUntilDone_31 : decode cX0_daysUntilDone 31 = .ok (.invokevirtual 62, 3) := by decide +kernel
theorem dX0_daysUntilDone_34 : decode cX0_daysUntilDone 34 = .ok (.iinc 3 1, 3) := by decide +kernel
theorem dX0_daysUntilDone_37 : decode cX0_daysUntilDone 37 = .ok (.goto (-31), 3) := by decide +kernel
theorem dX0_daysUntilDone_40 : decode cX0_daysUntilDone 40 = .ok (.aload_n 0, 1) := by decide +kernel
theorem dX0_daysUntilDone_41 : decode cX0_daysUntilDone 41 = .ok (.getfield 12, 3) := by decide +kernel
theorem dX0_daysUntilDone_44 : decode cX0_daysUntilDone 44 = .ok (.iload_n 1, 1) := by decide +kernel
theorem dX0_daysUntilDone_45 : decode cX0_daysUntilDone 45 = .ok (.aload_n 0, 1) := by decide +kernel
theorem dX0_daysUntilDone_46 : decode cX0_daysUntilDone 46 = .ok (.getfield 29, 3) := by decide +kernel
theorem dX0_daysUntilDone_49 : decode cX0_daysUntilDone 49 = .ok (.invokevirtual 96, 3) := by decide +kernel
theorem dX0_daysUntilDone_52 : decode cX0_daysUntilDone 52 = .ok (.ifCond .eq 21, 3) := by decide +kernel
theorem dX0_daysUntilDone_55 : decode cX0_daysUntilDone 55 = .ok (.aload_n 0, 1) := by decide +kernel
theorem dX0_daysUntilDone_56 : decode cX0_daysUntilDone 56 = .ok (.getfield 12, 3) := by decide +kernel
theorem dX0_daysUntilDone_59 : decode cX0_daysUntilDone 59 = .ok (.getfield 100, 3) := by decide +kernel
theorem dX0_daysUntilDone_62 : decode cX0_daysUntilDone 62 = .ok (.aload_n 0, 1) := by decide +kernel
theorem dX0_daysUntilDone_63 : decode cX0_daysUntilDone 63 = .ok (.getfield 33, 3) := by decide +kernel
theorem dX0_daysUntilDone_66 : decode cX0_daysUntilDone 66 = .ok (.getfield 100, 3) := by decide +kernel
theorem dX0_daysUntilDone_69 : decode cX0_daysUntilDone 69 = .ok (.isub, 1) := by decide +kernel
theorem dX0_daysUntilDone_70 : decode cX0_daysUntilDone 70 = .ok (.goto 4, 3) := by decide +kernel
theorem dX0_daysUntilDone_73 : decode cX0_daysUntilDone 73 = .ok (.iconst (-1), 1) := by decide +kernel
theorem dX0_daysUntilDone_74 : decode cX0_daysUntilDone 74 = .ok (.ireturn, 1) := by decide +kernel
theorem dX0_latenessBehind_0 : decode cX0_latenessBehind 0 = .ok (.aload_n 0, 1) := by decide +kernel
theorem dX0_latenessBehind_1 : decode cX0_latenessBehind 1 = .ok (.invokevirtual 76, 3) := by decide +kernel
theorem dX0_latenessBehind_4 : decode cX0_latenessBehind 4 = .ok (.aload_n 0, 1) := by decide +kernel
theorem dX0_latenessBehind_5 : decode cX0_latenessBehind 5 = .ok (.iload_n 1, 1) := by decide +kernel
theorem dX0_latenessBehind_6 : decode cX0_latenessBehind 6 = .ok (.ldc 79, 2) := by decide +kernel
theorem dX0_latenessBehind_8 : decode cX0_latenessBehind 8 = .ok (.invokevirtual 80, 3) := by decide +kernel
theorem dX0_latenessBehind_11 : decode cX0_latenessBehind 11 = .ok (.aload_n 0, 1) := by decide +kernel
theorem dX0_latenessBehind_12 : decode cX0_latenessBehind 12 = .ok (.getfield 41, 3) := by decide +kernel
theorem dX0_latenessBehind_15 : decode cX0_latenessBehind 15 = .ok (.getfield 69, 3) := by decide +kernel
theorem dX0_latenessBehind_18 : decode cX0_latenessBehind 18 = .ok (.ireturn, 1) := by decide +kernel
theorem dX0_leastLateness_0 : decode cX0_leastLateness 0 = .ok (.iconst 0, 1) := by decide +kernel
theorem dX0_leastLateness_1 : decode cX0_leastLateness 1 = .ok (.istore_n 2, 1) := by decide +kernel
theorem dX0_leastLateness_2 : decode cX0_leastLateness 2 = .ok (.iconst 0, 1) := by decide +kernel
theorem dX0_leastLateness_3 : decode cX0_leastLateness 3 = .ok (.istore_n 3, 1) := by decide +kernel
theorem dX0_leastLateness_4 : decode cX0_leastLateness 4 = .ok (.iload_n 3, 1) := by decide +kernel
theorem dX0_leastLateness_5 : decode cX0_leastLateness 5 = .ok (.aload_n 0, 1) := by decide +kernel
theorem dX0_leastLateness_6 : decode cX0_leastLateness 6 = .ok (.getfield 29, 3) := by decide +kernel
theorem dX0_leastLateness_9 : decode cX0_leastLateness 9 = .ok (.iconst 3, 1) := by decide +kernel
theorem dX0_leastLateness_10 : decode cX0_leastLateness 10 = .ok (.invokevirtual 103, 3) := by decide +kernel
theorem dX0_leastLateness_13 : decode cX0_leastLateness 13 = .ok (.if_icmp .ge 79, 3) := by decide +kernel
theorem dX0_leastLateness_16 : decode cX0_leastLateness 16 = .ok (.iload_n 1, 1) := by decide +kernel
theorem dX0_leastLateness_17 : decode cX0_leastLateness 17 = .ok (.aload_n 0, 1) := by decide +kernel
theorem dX0_leastLateness_18 : decode cX0_leastLateness 18 = .ok (.getfield 29, 3) := by decide +kernel
theorem dX0_leastLateness_21 : decode cX0_leastLateness 21 = .ok (.getfield 107, 3) := by decide +kernel
theorem dX0_leastLateness_24 : decode cX0_leastLateness 24 = .ok (.iload_n 3, 1) := by decide +kernel
theorem dX0_leastLateness_25 : decode cX0_leastLateness 25 = .ok (.iaload, 1) := by decide +kernel
theorem dX0_leastLateness_26 : decode cX0_leastLateness 26 = .ok (.aload_n 0, 1) := by decide +kernel
theorem dX0_leastLateness_27 : decode cX0_leastLateness 27 = .ok (.getfield 33, 3) := by decide +kernel
theorem dX0_leastLateness_30 : decode cX0_leastLateness 30 = .ok (.getfield 90, 3) := by decide +kernel
theorem dX0_leastLateness_33 : decode cX0_leastLateness 33 = .ok (.iload_n 3, 1) := by decide +kernel
theorem dX0_leastLateness_34 : decode cX0_leastLateness 34 = .ok (.iaload, 1) := by decide +kernel
theorem dX0_leastLateness_35 : decode cX0_leastLateness 35 = .ok (.isub, 1) := by decide +kernel
theorem dX0_leastLateness_36 : decode cX0_leastLateness 36 = .ok (.iconst 1, 1) := by decide +kernel
theorem dX0_leastLateness_37 : decode cX0_leastLateness 37 = .ok (.isub, 1) := by decide +kernel
theorem dX0_leastLateness_38 : decode cX0_leastLateness 38 = .ok (.invokestatic 110, 3) := by decide +kernel
theorem dX0_leastLateness_41 : decode cX0_leastLateness 41 = .ok (.istore 4, 2) := by decide +kernel
theorem dX0_leastLateness_43 : decode cX0_leastLateness 43 = .ok (.iconst 0, 1) := by decide +kernel
theorem dX0_leastLateness_44 : decode cX0_leastLateness 44 = .ok (.istore 5, 2) := by decide +kernel
theorem dX0_leastLateness_46 : decode cX0_leastLateness 46 = .ok (.iload 5, 2) := by decide +kernel
theorem dX0_leastLateness_48 : decode cX0_leastLateness 48 = .ok (.iload 4, 2) := by decide +kernel
theorem dX0_leastLateness_50 : decode cX0_leastLateness 50 = .ok (.if_icmp .ge 36, 3) := by decide +kernel
theorem dX0_leastLateness_53 : decode cX0_leastLateness 53 = .ok (.iload_n 2, 1) := by decide +kernel
theorem dX0_leastLateness_54 : decode cX0_leastLateness 54 = .ok (.iconst 0, 1) := by decide +kernel
theorem dX0_leastLateness_55 : decode cX0_leastLateness 55 = .ok (.aload_n 0, 1) := by decide +kernel
theorem dX0_leastLateness_56 : decode cX0_leastLateness 56 = .ok (.getfield 33, 3) := by decide +kernel
theorem dX0_leastLateness_59 : decode cX0_leastLateness 59 = .ok (.getfield 100, 3) := by decide +kernel
theorem dX0_leastLateness_62 : decode cX0_leastLateness 62 = .ok (.iload 5, 2) := by decide +kernel
theorem dX0_leastLateness_64 : decode cX0_leastLateness 64 = .ok (.iadd, 1) := by decide +kernel
theorem dX0_leastLateness_65 : decode cX0_leastLateness 65 = .ok (.aload_n 0, 1) := by decide +kernel
theorem dX0_leastLateness_66 : decode cX0_leastLateness 66 = .ok (.getfield 33, 3) := by decide +kernel
theorem dX0_leastLateness_69 : decode cX0_leastLateness 69 = .ok (.getfield 116, 3) := by decide +kernel
theorem dX0_leastLateness_72 : decode cX0_leastLateness 72 = .ok (.iload_n 3, 1) := by decide +kernel
theorem dX0_leastLateness_73 : decode cX0_leastLateness 73 = .ok (.iaload, 1) := by decide +kernel
theorem dX0_leastLateness_74 : decode cX0_leastLateness 74 = .ok (.isub, 1) := by decide +kernel
theorem dX0_leastLateness_75 : decode cX0_leastLateness 75 = .ok (.invokestatic 119, 3) := by decide +kernel
theorem dX0_leastLateness_78 : decode cX0_leastLateness 78 = .ok (.iadd, 1) := by decide +kernel
theorem dX0_leastLateness_79 : decode cX0_leastLateness 79 = .ok (.istore_n 2, 1) := by decide +kernel
theorem dX0_leastLateness_80 : decode cX0_leastLateness 80 = .ok (.iinc 5 1, 3) := by decide +kernel
theorem dX0_leastLateness_83 : decode cX0_leastLateness 83 = .ok (.goto (-37), 3) := by decide +kernel
theorem dX0_leastLateness_86 : decode cX0_leastLateness 86 = .ok (.iinc 3 1, 3) := by decide +kernel
theorem dX0_leastLateness_89 : decode cX0_leastLateness 89 = .ok (.goto (-85), 3) := by decide +kernel
theorem dX0_leastLateness_92 : decode cX0_leastLateness 92 = .ok (.iload_n 2, 1) := by decide +kernel
theorem dX0_leastLateness_93 : decode cX0_leastLateness 93 = .ok (.ireturn, 1) := by decide +kernel
theorem dX0_findOrder_0 : decode cX0_findOrder 0 = .ok (.aload_n 0, 1) := by decide +kernel
theorem dX0_findOrder_1 : decode cX0_findOrder 1 = .ok (.getfield 48, 3) := by decide +kernel
theorem dX0_findOrder_4 : decode cX0_findOrder 4 = .ok (.iload_n 1, 1) := by decide +kernel
theorem dX0_findOrder_5 : decode cX0_findOrder 5 = .ok (.if_icmp .ne 4, 3) := by decide +kernel
theorem dX0_findOrder_8 : decode cX0_findOrder 8 = .ok (.return_, 1) := by decide +kernel
theorem dX0_findOrder_9 : decode cX0_findOrder 9 = .ok (.aload_n 0, 1) := by decide +kernel
theorem dX0_findOrder_10 : decode cX0_findOrder 10 = .ok (.iload_n 1, 1) := by decide +kernel
theorem dX0_findOrder_11 : decode cX0_findOrder 11 = .ok (.putfield 48, 3) := by decide +kernel
theorem dX0_findOrder_14 : decode cX0_findOrder 14 = .ok (.aload_n 0, 1) := by decide +kernel
theorem dX0_findOrder_15 : decode cX0_findOrder 15 = .ok (.getfield 29, 3) := by decide +kernel
theorem dX0_findOrder_18 : decode cX0_findOrder 18 = .ok (.iconst 3, 1) := by decide +kernel
theorem dX0_findOrder_19 : decode cX0_findOrder 19 = .ok (.invokevirtual 103, 3) := by decide +kernel
theorem dX0_findOrder_22 : decode cX0_findOrder 22 = .ok (.istore_n 2, 1) := by decide +kernel
theorem dX0_findOrder_23 : decode cX0_findOrder 23 = .ok (.iconst 0, 1) := by decide +kernel
theorem dX0_findOrder_24 : decode cX0_findOrder 24 = .ok (.istore_n 3, 1) := by decide +kernel
theorem dX0_findOrder_25 : decode cX0_findOrder 25 = .ok (.iload_n 3, 1) := by decide +kernel
theorem dX0_findOrder_26 : decode cX0_findOrder 26 = .ok (.bipush 6, 2) := by decide +kernel
theorem dX0_findOrder_28 : decode cX0_findOrder 28 = .ok (.if_icmp .ge 16, 3) := by decide +kernel
theorem dX0_findOrder_31 : decode cX0_findOrder 31 = .ok (.aload_n 0, 1) := by decide +kernel
theorem dX0_findOrder_32 : decode cX0_findOrder 32 = .ok (.getfield 18, 3) := by decide +kernel
theorem dX0_findOrder_35 : decode cX0_findOrder 35 = .ok (.iload_n 3, 1) := by decide +kernel
theorem dX0_findOrder_36 : decode cX0_findOrder 36 = .ok (.iload_n 3, 1) := by decide +kernel
theorem dX0_findOrder_37 : decode cX0_findOrder 37 = .ok (.iastore, 1) := by decide +kernel
theorem dX0_findOrder_38 : decode cX0_findOrder 38 = .ok (.iinc 3 1, 3) := by decide +kernel
theorem dX0_findOrder_41 : decode cX0_findOrder 41 = .ok (.goto (-16), 3) := by decide +kernel
theorem dX0_findOrder_44 : decode cX0_findOrder 44 = .ok (.aload_n 0, 1) := by decide +kernel
theorem dX0_findOrder_45 : decode cX0_findOrder 45 = .ok (.iload_n 1, 1) := by decide +kernel
theorem dX0_findOrder_46 : decode cX0_findOrder 46 = .ok (.invokevirtual 122, 3) := by decide +kernel
theorem dX0_findOrder_49 : decode cX0_findOrder 49 = .ok (.istore_n 3, 1) := by decide +kernel
theorem dX0_findOrder_50 : decode cX0_findOrder 50 = .ok (.aload_n 0, 1) := by decide +kernel
theorem dX0_findOrder_51 : decode cX0_findOrder 51 = .ok (.ldc 79, 2) := by decide +kernel
theorem dX0_findOrder_53 : decode cX0_findOrder 53 = .ok (.putfield 125, 3) := by decide +kernel
theorem dX0_findOrder_56 : decode cX0_findOrder 56 = .ok (.iconst 1, 1) := by decide +kernel
theorem dX0_findOrder_57 : decode cX0_findOrder 57 = .ok (.istore 4, 2) := by decide +kernel
theorem dX0_findOrder_59 : decode cX0_findOrder 59 = .ok (.iconst 0, 1) := by decide +kernel
theorem dX0_findOrder_60 : decode cX0_findOrder 60 = .ok (.istore 5, 2) := by decide +kernel
theorem dX0_findOrder_62 : decode cX0_findOrder 62 = .ok (.iload 5, 2) := by decide +kernel
theorem dX0_findOrder_64 : decode cX0_findOrder 64 = .ok (.sipush 720, 3) := by decide +kernel
theorem dX0_findOrder_67 : decode cX0_findOrder 67 = .ok (.if_icmp .ge 72, 3) := by decide +kernel
theorem dX0_findOrder_70 : decode cX0_findOrder 70 = .ok (.iload 4, 2) := by decide +kernel
theorem dX0_findOrder_72 : decode cX0_findOrder 72 = .ok (.ifCond .eq 67, 3) := by decide +kernel
theorem dX0_findOrder_75 : decode cX0_findOrder 75 = .ok (.aload_n 0, 1) := by decide +kernel
theorem dX0_findOrder_76 : decode cX0_findOrder 76 = .ok (.getfield 125, 3) := by decide +kernel
theorem dX0_findOrder_79 : decode cX0_findOrder 79 = .ok (.iload_n 3, 1) := by decide +kernel
theorem dX0_findOrder_80 : decode cX0_findOrder 80 = .ok (.if_icmp .le 59, 3) := by decide +kernel
theorem dX0_findOrder_83 : decode cX0_findOrder 83 = .ok (.aload_n 0, 1) := by decide +kernel
theorem dX0_findOrder_84 : decode cX0_findOrder 84 = .ok (.iload_n 2, 1) := by decide +kernel
theorem dX0_findOrder_85 : decode cX0_findOrder 85 = .ok (.invokevirtual 128, 3) := by decide +kernel
theorem dX0_findOrder_88 : decode cX0_findOrder 88 = .ok (.ifCond .eq 38, 3) := by decide +kernel
theorem dX0_findOrder_91 : decode cX0_findOrder 91 = .ok (.aload_n 0, 1) := by decide +kernel
theorem dX0_findOrder_92 : decode cX0_findOrder 92 = .ok (.invokevirtual 76, 3) := by decide +kernel
theorem dX0_findOrder_95 : decode cX0_findOrder 95 = .ok (.aload_n 0, 1) := by decide +kernel
theorem dX0_findOrder_96 : decode cX0_findOrder 96 = .ok (.getfield 18, 3) := by decide +kernel
theorem dX0_findOrder_99 : decode cX0_findOrder 99 = .ok (.iconst 0, 1) := by decide +kernel
theorem dX0_findOrder_100 : decode cX0_findOrder 100 = .ok (.aload_n 0, 1) := by decide +kernel
theorem dX0_findOrder_101 : decode cX0_findOrder 101 = .ok (.getfield 41, 3) := by decide +kernel
theorem dX0_findOrder_104 : decode cX0_findOrder 104 = .ok (.getfield 132, 3) := by decide +kernel
theorem dX0_findOrder_107 : decode cX0_findOrder 107 = .ok (.iconst 0, 1) := by decide +kernel
theorem dX0_findOrder_108 : decode cX0_findOrder 108 = .ok (.bipush 6, 2) := by decide +kernel
theorem dX0_findOrder_110 : decode cX0_findOrder 110 = .ok (.invokestatic 135, 3) := by decide +kernel
theorem dX0_findOrder_113 : decode cX0_findOrder 113 = .ok (.aload_n 0, 1) := by decide +kernel
theorem dX0_findOrder_114 : decode cX0_findOrder 114 = .ok (.iload_n 1, 1) := by decide +kernel
theorem dX0_findOrder_115 : decode cX0_findOrder 115 = .ok (.aload_n 0, 1) := by decide +kernel
theorem dX0_findOrder_116 : decode cX0_findOrder 116 = .ok (.getfield 125, 3) := by decide +kernel
theorem dX0_findOrder_119 : decode cX0_findOrder 119 = .ok (.invokevirtual 80, 3) := by decide +kernel
theorem dX0_findOrder_122 : decode cX0_findOrder 122 = .ok (.aload_n 0, 1) := by decide +kernel
theorem dX0_findOrder_123 : decode cX0_findOrder 123 = .ok (.invokevirtual 141, 3) := by decide +kernel
theorem dX0_findOrder_126 : decode cX0_findOrder 126 = .ok (.aload_n 0, 1) := by decide +kernel
theorem dX0_findOrder_127 : decode cX0_findOrder 127 = .ok (.iload_n 2, 1) := by decide +kernel
theorem dX0_findOrder_128 : decode cX0_findOrder 128 = .ok (.invokevirtual 144, 3) := by decide +kernel
theorem dX0_findOrder_131 : decode cX0_findOrder 131 = .ok (.istore 4, 2) := by decide +kernel
theorem dX0_findOrder_133 : decode cX0_findOrder 133 = .ok (.iinc 5 1, 3) := by decide +kernel
theorem dX0_findOrder_136 : decode cX0_findOrder 136 = .ok (.goto (-74), 3) := by decide +kernel
theorem dX0_findOrder_139 : decode cX0_findOrder 139 = .ok (.return_, 1) := by decide +kernel
theorem dX0_isWorthTrying_0 : decode cX0_isWorthTrying 0 = .ok (.iconst 0, 1) := by decide +kernel
theorem dX0_isWorthTrying_1 : decode cX0_isWorthTrying 1 = .ok (.istore_n 2, 1) := by decide +kernel
theorem dX0_isWorthTrying_2 : decode cX0_isWorthTrying 2 = .ok (.iload_n 2, 1) := by decide +kernel
theorem dX0_isWorthTrying_3 : decode cX0_isWorthTrying 3 = .ok (.iconst 1, 1) := by decide +kernel
theorem dX0_isWorthTrying_4 : decode cX0_isWorthTrying 4 = .ok (.iadd, 1) := by decide +kernel
theorem dX0_isWorthTrying_5 : decode cX0_isWorthTrying 5 = .ok (.iload_n 1, 1) := by decide +kernel
theorem dX0_isWorthTrying_6 : decode cX0_isWorthTrying 6 = .ok (.if_icmp .ge 88, 3) := by decide +kernel
theorem dX0_isWorthTrying_9 : decode cX0_isWorthTrying 9 = .ok (.iload_n 2, 1) := by decide +kernel
theorem dX0_isWorthTrying_10 : decode cX0_isWorthTrying 10 = .ok (.iconst 1, 1) := by decide +kernel
theorem dX0_isWorthTrying_11 : decode cX0_isWorthTrying 11 = .ok (.iadd, 1) := by decide +kernel
theorem dX0_isWorthTrying_12 : decode cX0_isWorthTrying 12 = .ok (.bipush 6, 2) := by decide +kernel
theorem dX0_isWorthTrying_14 : decode cX0_isWorthTrying 14 = .ok (.if_icmp .ge 80, 3) := by decide +kernel
theorem dX0_isWorthTrying_17 : decode cX0_isWorthTrying 17 = .ok (.aload_n 0, 1) := by decide +kernel
theorem dX0_isWorthTrying_18 : decode cX0_isWorthTrying 18 = .ok (.getfield 18, 3) := by decide +kernel
theorem dX0_isWorthTrying_21 : decode cX0_isWorthTrying 21 = .ok (.iload_n 2, 1) := by decide +kernel
theorem dX0_isWorthTrying_22 : decode cX0_isWorthTrying 22 = .ok (.iaload, 1) := by decide +kernel
theorem dX0_isWorthTrying_23 : decode cX0_isWorthTrying 23 = .ok (.aload_n 0, 1) := by decide +kernel
theorem dX0_isWorthTrying_24 : decode cX0_isWorthTrying 24 = .ok (.getfield 18, 3) := by decide +kernel
theorem dX0_isWorthTrying_27 : decode cX0_isWorthTrying 27 = .ok (.iload_n 2, 1) := by decide +kernel
theorem dX0_isWorthTrying_28 : decode cX0_isWorthTrying 28 = .ok (.iconst 1, 1) := by decide +kernel
theorem dX0_isWorthTrying_29 : decode cX0_isWorthTrying 29 = .ok (.iadd, 1) := by decide +kernel
theorem dX0_isWorthTrying_30 : decode cX0_isWorthTrying 30 = .ok (.iaload, 1) := by decide +kernel
theorem dX0_isWorthTrying_31 : decode cX0_isWorthTrying 31 = .ok (.if_icmp .le 7, 3) := by decide +kernel
theorem dX0_isWorthTrying_34 : decode cX0_isWorthTrying 34 = .ok (.iconst 1, 1) := by decide +kernel
theorem dX0_isWorthTrying_35 : decode cX0_isWorthTrying 35 = .ok (.goto 4, 3) := by decide +kernel
theorem dX0_isWorthTrying_38 : decode cX0_isWorthTrying 38 = .ok (.iconst 0, 1) := by decide +kernel
theorem dX0_isWorthTrying_39 : decode cX0_isWorthTrying 39 = .ok (.istore_n 3, 1) := by decide +kernel
theorem dX0_isWorthTrying_40 : decode cX0_isWorthTrying 40 = .ok (.iload_n 3, 1) := by decide +kernel
theorem dX0_isWorthTrying_41 : decode cX0_isWorthTrying 41 = .ok (.ifCond .eq 47, 3) := by decide +kernel
theorem dX0_isWorthTrying_44 : decode cX0_isWorthTrying 44 = .ok (.aload_n 0, 1) := by decide +kernel
theorem dX0_isWorthTrying_45 : decode cX0_isWorthTrying 45 = .ok (.getfield 33, 3) := by decide +kernel
theorem dX0_isWorthTrying_48 : decode cX0_isWorthTrying 48 = .ok (.aload_n 0, 1) := by decide +kernel
theorem dX0_isWorthTrying_49 : decode cX0_isWorthTrying 49 = .ok (.getfield 18, 3) := by decide +kernel
theorem dX0_isWorthTrying_52 : decode cX0_isWorthTrying 52 = .ok (.iload_n 2, 1) := by decide +kernel
theorem dX0_isWorthTrying_53 : decode cX0_isWorthTrying 53 = .ok (.iaload, 1) := by decide +kernel
theorem dX0_isWorthTrying_54 : decode cX0_isWorthTrying 54 = .ok (.aload_n 0, 1) := by decide +kernel
theorem dX0_isWorthTrying_55 : decode cX0_isWorthTrying 55 = .ok (.getfield 29, 3) := by decide +kernel
theorem dX0_isWorthTrying_58 : decode cX0_isWorthTrying 58 = .ok (.invokevirtual 96, 3) := by decide +kernel
theorem dX0_isWorthTrying_61 : decode cX0_isWorthTrying 61 = .ok (.ifCond .ne 25, 3) := by decide +kernel
theorem dX0_isWorthTrying_64 : decode cX0_isWorthTrying 64 = .ok (.aload_n 0, 1) := by decide +kernel
theorem dX0_isWorthTrying_65 : decode cX0_isWorthTrying 65 = .ok (.getfield 33, 3) := by decide +kernel
theorem dX0_isWorthTrying_68 : decode cX0_isWorthTrying 68 = .ok (.aload_n 0, 1) := by decide +kernel
theorem dX0_isWorthTrying_69 : decode cX0_isWorthTrying 69 = .ok (.getfield 18, 3) := by decide +kernel
theorem dX0_isWorthTrying_72 : decode cX0_isWorthTrying 72 = .ok (.iload_n 2, 1) := by decide +kernel
theorem dX0_isWorthTrying_73 : decode cX0_isWorthTrying 73 = .ok (.iconst 1, 1) := by decide +kernel
theorem dX0_isWorthTrying_74 : decode cX0_isWorthTrying 74 = .ok (.iadd, 1) := by decide +kernel
theorem dX0_isWorthTrying_75 : decode cX0_isWorthTrying 75 = .ok (.iaload, 1) := by decide +kernel
theorem dX0_isWorthTrying_76 : decode cX0_isWorthTrying 76 = .ok (.aload_n 0, 1) := by decide +kernel
theorem dX0_isWorthTrying_77 : decode cX0_isWorthTrying 77 = .ok (.getfield 29, 3) := by decide +kernel
theorem dX0_isWorthTrying_80 : decode cX0_isWorthTrying 80 = .ok (.invokevirtual 96, 3) := by decide +kernel
theorem dX0_isWorthTrying_83 : decode cX0_isWorthTrying 83 = .ok (.ifCond .eq 5, 3) := by decide +kernel
theorem dX0_isWorthTrying_86 : decode cX0_isWorthTrying 86 = .ok (.iconst 0, 1) := by decide +kernel
theorem dX0_isWorthTrying_87 : decode cX0_isWorthTrying 87 = .ok (.ireturn, 1) := by decide +kernel
theorem dX0_isWorthTrying_88 : decode cX0_isWorthTrying 88 = .ok (.iinc 2 1, 3) := by decide +kernel
theorem dX0_isWorthTrying_91 : decode cX0_isWorthTrying 91 = .ok (.goto (-89), 3) := by decide +kernel
theorem dX0_isWorthTrying_94 : decode cX0_isWorthTrying 94 = .ok (.iconst 1, 1) := by decide +kernel
theorem dX0_isWorthTrying_95 : decode cX0_isWorthTrying 95 = .ok (.ireturn, 1) := by decide +kernel
theorem dX0_keepOrderIfBest_0 : decode cX0_keepOrderIfBest 0 = .ok (.aload_n 0, 1) := by decide +kernel
theorem dX0_keepOrderIfBest_1 : decode cX0_keepOrderIfBest 1 = .ok (.getfield 41, 3) := by decide +kernel
theorem dX0_keepOrderIfBest_4 : decode cX0_keepOrderIfBest 4 = .ok (.getfield 69, 3) := by decide +kernel
theorem dX0_keepOrderIfBest_7 : decode cX0_keepOrderIfBest 7 = .ok (.aload_n 0, 1) := by decide +kernel
theorem dX0_keepOrderIfBest_8 : decode cX0_keepOrderIfBest 8 = .ok (.getfield 125, 3) := by decide +kernel
theorem dX0_keepOrderIfBest_11 : decode cX0_keepOrderIfBest 11 = .ok (.if_icmp .ge 29, 3) := by decide +kernel
theorem dX0_keepOrderIfBest_14 : decode cX0_keepOrderIfBest 14 = .ok (.aload_n 0, 1) := by decide +kernel
theorem dX0_keepOrderIfBest_15 : decode cX0_keepOrderIfBest 15 = .ok (.aload_n 0, 1) := by decide +kernel
theorem dX0_keepOrderIfBest_16 : decode cX0_keepOrderIfBest 16 = .ok (.getfield 41, 3) := by decide +kernel
theorem dX0_keepOrderIfBest_19 : decode cX0_keepOrderIfBest 19 = .ok (.getfield 69, 3) := by decide +kernel
theorem dX0_keepOrderIfBest_22 : decode cX0_keepOrderIfBest 22 = .ok (.putfield 125, 3) := by decide +kernel
theorem dX0_keepOrderIfBest_25 : decode cX0_keepOrderIfBest 25 = .ok (.aload_n 0, 1) := by decide +kernel
theorem dX0_keepOrderIfBest_26 : decode cX0_keepOrderIfBest 26 = .ok (.getfield 18, 3) := by decide +kernel
theorem dX0_keepOrderIfBest_29 : decode cX0_keepOrderIfBest 29 = .ok (.iconst 0, 1) := by decide +kernel
theorem dX0_keepOrderIfBest_30 : decode cX0_keepOrderIfBest 30 = .ok (.aload_n 0, 1) := by decide +kernel
theorem dX0_keepOrderIfBest_31 : decode cX0_keepOrderIfBest 31 = .ok (.getfield 22, 3) := by decide +kernel
theorem dX0_keepOrderIfBest_34 : decode cX0_keepOrderIfBest 34 = .ok (.iconst 0, 1) := by decide +kernel
theorem dX0_keepOrderIfBest_35 : decode cX0_keepOrderIfBest 35 = .ok (.bipush 6, 2) := by decide +kernel
theorem dX0_keepOrderIfBest_37 : decode cX0_keepOrderIfBest 37 = .ok (.invokestatic 135, 3) := by decide +kernel
theorem dX0_keepOrderIfBest_40 : decode cX0_keepOrderIfBest 40 = .ok (.return_, 1) := by decide +kernel
theorem dX0_turnToNextRow_0 : decode cX0_turnToNextRow 0 = .ok (.iload_n 1, 1) := by decide +kernel
theorem dX0_turnToNextRow_1 : decode cX0_turnToNextRow 1 = .ok (.iconst 2, 1) := by decide +kernel
theorem dX0_turnToNextRow_2 : decode cX0_turnToNextRow 2 = .ok (.isub, 1) := by decide +kernel
theorem dX0_turnToNextRow_3 : decode cX0_turnToNextRow 3 = .ok (.istore_n 2, 1) := by decide +kernel
theorem dX0_turnToNextRow_4 : decode cX0_turnToNextRow 4 = .ok (.iload_n 2, 1) := by decide +kernel
theorem dX0_turnToNextRow_5 : decode cX0_turnToNextRow 5 = .ok (.ifCond .lt 26, 3) := by decide +kernel
theorem dX0_turnToNextRow_8 : decode cX0_turnToNextRow 8 = .ok (.aload_n 0, 1) := by decide +kernel
theorem dX0_turnToNextRow_9 : decode cX0_turnToNextRow 9 = .ok (.getfield 18, 3) := by decide +kernel
theorem dX0_turnToNextRow_12 : decode cX0_turnToNextRow 12 = .ok (.iload_n 2, 1) := by decide +kernel
theorem dX0_turnToNextRow_13 : decode cX0_turnToNextRow 13 = .ok (.iaload, 1) := by decide +kernel
theorem dX0_turnToNextRow_14 : decode cX0_turnToNextRow 14 = .ok (.aload_n 0, 1) := by decide +kernel
theorem dX0_turnToNextRow_15 : decode cX0_turnToNextRow 15 = .ok (.getfield 18, 3) := by decide +kernel
theorem dX0_turnToNextRow_18 : decode cX0_turnToNextRow 18 = .ok (.iload_n 2, 1) := by decide +kernel
theorem dX0_turnToNextRow_19 : decode cX0_turnToNextRow 19 = .ok (.iconst 1, 1) := by decide +kernel
theorem dX0_turnToNextRow_20 : decode cX0_turnToNextRow 20 = .ok (.iadd, 1) := by decide +kernel
theorem dX0_turnToNextRow_21 : decode cX0_turnToNextRow 21 = .ok (.iaload, 1) := by decide +kernel
theorem dX0_turnToNextRow_22 : decode cX0_turnToNextRow 22 = .ok (.if_icmp .le 9, 3) := by decide +kernel
theorem dX0_turnToNextRow_25 : decode cX0_turnToNextRow 25 = .ok (.iinc 2 (-1), 3) := by decide +kernel
theorem dX0_turnToNextRow_28 : decode cX0_turnToNextRow 28 = .ok (.goto (-24), 3) := by decide +kernel
theorem dX0_turnToNextRow_31 : decode cX0_turnToNextRow 31 = .ok (.iload_n 2, 1) := by decide +kernel
theorem dX0_turnToNextRow_32 : decode cX0_turnToNextRow 32 = .ok (.ifCond .ge 5, 3) := by decide +kernel
theorem dX0_turnToNextRow_35 : decode cX0_turnToNextRow 35 = .ok (.iconst 0, 1) := by decide +kernel
theorem dX0_turnToNextRow_36 : decode cX0_turnToNextRow 36 = .ok (.ireturn, 1) := by decide +kernel
theorem dX0_turnToNextRow_37 : decode cX0_turnToNextRow 37 = .ok (.iload_n 1, 1) := by decide +kernel
theorem dX0_turnToNextRow_38 : decode cX0_turnToNextRow 38 = .ok (.iconst 1, 1) := by decide +kernel
theorem dX0_turnToNextRow_39 : decode cX0_turnToNextRow 39 = .ok (.isub, 1) := by decide +kernel
theorem dX0_turnToNextRow_40 : decode cX0_turnToNextRow 40 = .ok (.istore_n 3, 1) := by decide +kernel
theorem dX0_turnToNextRow_41 : decode cX0_turnToNextRow 41 = .ok (.iload_n 3, 1) := by decide +kernel
theorem dX0_turnToNextRow_42 : decode cX0_turnToNextRow 42 = .ok (.iload_n 2, 1) := by decide +kernel
theorem dX0_turnToNextRow_43 : decode cX0_turnToNextRow 43 = .ok (.if_icmp .le 24, 3) := by decide +kernel
theorem dX0_turnToNextRow_46 : decode cX0_turnToNextRow 46 = .ok (.aload_n 0, 1) := by decide +kernel
theorem dX0_turnToNextRow_47 : decode cX0_turnToNextRow 47 = .ok (.getfield 18, 3) := by decide +kernel
theorem dX0_turnToNextRow_50 : decode cX0_turnToNextRow 50 = .ok (.iload_n 3, 1) := by decide +kernel
theorem dX0_turnToNextRow_51 : decode cX0_turnToNextRow 51 = .ok (.iaload, 1) := by decide +kernel
theorem dX0_turnToNextRow_52 : decode cX0_turnToNextRow 52 = .ok (.aload_n 0, 1) := by decide +kernel
theorem dX0_turnToNextRow_53 : decode cX0_turnToNextRow 53 = .ok (.getfield 18, 3) := by decide +kernel
theorem dX0_turnToNextRow_56 : decode cX0_turnToNextRow 56 = .ok (.iload_n 2, 1) := by decide +kernel
theorem dX0_turnToNextRow_57 : decode cX0_turnToNextRow 57 = .ok (.iaload, 1) := by decide +kernel
theorem dX0_turnToNextRow_58 : decode cX0_turnToNextRow 58 = .ok (.if_icmp .ge 9, 3) := by decide +kernel
theorem dX0_turnToNextRow_61 : decode cX0_turnToNextRow 61 = .ok (.iinc 3 (-1), 3) := by decide +kernel
theorem dX0_turnToNextRow_64 : decode cX0_turnToNextRow 64 = .ok (.goto (-23), 3) := by decide +kernel
theorem dX0_turnToNextRow_67 : decode cX0_turnToNextRow 67 = .ok (.aload_n 0, 1) := by decide +kernel
theorem dX0_turnToNextRow_68 : decode cX0_turnToNextRow 68 = .ok (.iload_n 2, 1) := by decide +kernel
theorem dX0_turnToNextRow_69 : decode cX0_turnToNextRow 69 = .ok (.iload_n 3, 1) := by decide +kernel
theorem dX0_turnToNextRow_70 : decode cX0_turnToNextRow 70 = .ok (.invokevirtual 147, 3) := by decide +kernel
theorem dX0_turnToNextRow_73 : decode cX0_turnToNextRow 73 = .ok (.iload_n 2, 1) := by decide +kernel
theorem dX0_turnToNextRow_74 : decode cX0_turnToNextRow 74 = .ok (.iconst 1, 1) := by decide +kernel
theorem dX0_turnToNextRow_75 : decode cX0_turnToNextRow 75 = .ok (.iadd, 1) := by decide +kernel
theorem dX0_turnToNextRow_76 : decode cX0_turnToNextRow 76 = .ok (.istore 4, 2) := by decide +kernel
theorem dX0_turnToNextRow_78 : decode cX0_turnToNextRow 78 = .ok (.iload_n 1, 1) := by decide +kernel
theorem dX0_turnToNextRow_79 : decode cX0_turnToNextRow 79 = .ok (.iconst 1, 1) := by decide +kernel
theorem dX0_turnToNextRow_80 : decode cX0_turnToNextRow 80 = .ok (.isub, 1) := by decide +kernel
theorem dX0_turnToNextRow_81 : decode cX0_turnToNextRow 81 = .ok (.istore 5, 2) := by decide +kernel
theorem dX0_turnToNextRow_83 : decode cX0_turnToNextRow 83 = .ok (.iload 4, 2) := by decide +kernel
theorem dX0_turnToNextRow_85 : decode cX0_turnToNextRow 85 = .ok (.iload 5, 2) := by decide +kernel
theorem dX0_turnToNextRow_87 : decode cX0_turnToNextRow 87 = .ok (.if_icmp .ge 20, 3) := by decide +kernel
theorem dX0_turnToNextRow_90 : decode cX0_turnToNextRow 90 = .ok (.aload_n 0, 1) := by decide +kernel
theorem dX0_turnToNextRow_91 : decode cX0_turnToNextRow 91 = .ok (.iload 4, 2) := by decide +kernel
theorem dX0_turnToNextRow_93 : decode cX0_turnToNextRow 93 = .ok (.iload 5, 2) := by decide +kernel
theorem dX0_turnToNextRow_95 : decode cX0_turnToNextRow 95 = .ok (.invokevirtual 147, 3) := by decide +kernel
theorem dX0_turnToNextRow_98 : decode cX0_turnToNextRow 98 = .ok (.iinc 4 1, 3) := by decide +kernel
theorem dX0_turnToNextRow_101 : decode cX0_turnToNextRow 101 = .ok (.iinc 5 (-1), 3) := by decide +kernel
theorem dX0_turnToNextRow_104 : decode cX0_turnToNextRow 104 = .ok (.goto (-21), 3) := by decide +kernel
theorem dX0_turnToNextRow_107 : decode cX0_turnToNextRow 107 = .ok (.iconst 1, 1) := by decide +kernel
theorem dX0_turnToNextRow_108 : decode cX0_turnToNextRow 108 = .ok (.ireturn, 1) := by decide +kernel
theorem dX0_exchange_0 : decode cX0_exchange 0 = .ok (.iload_n 1, 1) := by decide +kernel
theorem dX0_exchange_1 : decode cX0_exchange 1 = .ok (.ifCond .lt 19, 3) := by decide +kernel
theorem dX0_exchange_4 : decode cX0_exchange 4 = .ok (.iload_n 1, 1) := by decide +kernel
theorem dX0_exchange_5 : decode cX0_exchange 5 = .ok (.bipush 6, 2) := by decide +kernel
theorem dX0_exchange_7 : decode cX0_exchange 7 = .ok (.if_icmp .ge 13, 3) := by decide +kernel
theorem dX0_exchange_10 : decode cX0_exchange 10 = .ok (.iload_n 2, 1) := by decide +kernel
theorem dX0_exchange_11 : decode cX0_exchange 11 = .ok (.ifCond .lt 9, 3) := by decide +kernel
theorem dX0_exchange_14 : decode cX0_exchange 14 = .ok (.iload_n 2, 1) := by decide +kernel
theorem dX0_exchange_15 : decode cX0_exchange 15 = .ok (.bipush 6, 2) := by decide +kernel
theorem dX0_exchange_17 : decode cX0_exchange 17 = .ok (.if_icmp .lt 4, 3) := by decide +kernel
theorem dX0_exchange_20 : decode cX0_exchange 20 = .ok (.return_, 1) := by decide +kernel
theorem dX0_exchange_21 : decode cX0_exchange 21 = .ok (.aload_n 0, 1) := by decide +kernel
theorem dX0_exchange_22 : decode cX0_exchange 22 = .ok (.getfield 18, 3) := by decide +kernel
theorem dX0_exchange_25 : decode cX0_exchange 25 = .ok (.iload_n 1, 1) := by decide +kernel
theorem dX0_exchange_26 : decode cX0_exchange 26 = .ok (.iaload, 1) := by decide +kernel
theorem dX0_exchange_27 : decode cX0_exchange 27 = .ok (.istore_n 3, 1) := by decide +kernel
theorem dX0_exchange_28 : decode cX0_exchange 28 = .ok (.aload_n 0, 1) := by decide +kernel
theorem dX0_exchange_29 : decode cX0_exchange 29 = .ok (.getfield 18, 3) := by decide +kernel
theorem dX0_exchange_32 : decode cX0_exchange 32 = .ok (.iload_n 1, 1) := by decide +kernel
theorem dX0_exchange_33 : decode cX0_exchange 33 = .ok (.aload_n 0, 1) := by decide +kernel
theorem dX0_exchange_34 : decode cX0_exchange 34 = .ok (.getfield 18, 3) := by decide +kernel
theorem dX0_exchange_37 : decode cX0_exchange 37 = .ok (.iload_n 2, 1) := by decide +kernel
theorem dX0_exchange_38 : decode cX0_exchange 38 = .ok (.iaload, 1) := by decide +kernel
theorem dX0_exchange_39 : decode cX0_exchange 39 = .ok (.iastore, 1) := by decide +kernel
theorem dX0_exchange_40 : decode cX0_exchange 40 = .ok (.aload_n 0, 1) := by decide +kernel
theorem dX0_exchange_41 : decode cX0_exchange 41 = .ok (.getfield 18, 3) := by decide +kernel
theorem dX0_exchange_44 : decode cX0_exchange 44 = .ok (.iload_n 2, 1) := by decide +kernel
theorem dX0_exchange_45 : decode cX0_exchange 45 = .ok (.iload_n 3, 1) := by decide +kernel
theorem dX0_exchange_46 : decode cX0_exchange 46 = .ok (.iastore, 1) := by decide +kernel
theorem dX0_exchange_47 : decode cX0_exchange 47 = .ok (.return_, 1) := by decide +kernel
theorem dX0_findMove_0 : decode cX0_findMove 0 = .ok (.aload_n 0, 1) := by decide +kernel
theorem dX0_findMove_1 : decode cX0_findMove 1 = .ok (.getfield 51, 3) := by decide +kernel
theorem dX0_findMove_4 : decode cX0_findMove 4 = .ok (.iload_n 1, 1) := by decide +kernel
theorem dX0_findMove_5 : decode cX0_findMove 5 = .ok (.if_icmp .ne 4, 3) := by decide +kernel
theorem dX0_findMove_8 : decode cX0_findMove 8 = .ok (.return_, 1) := by decide +kernel
theorem dX0_findMove_9 : decode cX0_findMove 9 = .ok (.aload_n 0, 1) := by decide +kernel
theorem dX0_findMove_10 : decode cX0_findMove 10 = .ok (.iload_n 1, 1) := by decide +kernel
theorem dX0_findMove_11 : decode cX0_findMove 11 = .ok (.putfield 51, 3) := by decide +kernel
theorem dX0_findMove_14 : decode cX0_findMove 14 = .ok (.aload_n 0, 1) := by decide +kernel
theorem dX0_findMove_15 : decode cX0_findMove 15 = .ok (.iconst (-1), 1) := by decide +kernel
theorem dX0_findMove_16 : decode cX0_findMove 16 = .ok (.putfield 25, 3) := by decide +kernel
theorem dX0_findMove_19 : decode cX0_findMove 19 = .ok (.aload_n 0, 1) := by decide +kernel
theorem dX0_findMove_20 : decode cX0_findMove 20 = .ok (.invokevirtual 76, 3) := by decide +kernel
theorem dX0_findMove_23 : decode cX0_findMove 23 = .ok (.aload_n 0, 1) := by decide +kernel
theorem dX0_findMove_24 : decode cX0_findMove 24 = .ok (.iload_n 1, 1) := by decide +kernel
theorem dX0_findMove_25 : decode cX0_findMove 25 = .ok (.ldc 79, 2) := by decide +kernel
theorem dX0_findMove_27 : decode cX0_findMove 27 = .ok (.invokevirtual 80, 3) := by decide +kernel
theorem dX0_findMove_30 : decode cX0_findMove 30 = .ok (.aload_n 0, 1) := by decide +kernel
theorem dX0_findMove_31 : decode cX0_findMove 31 = .ok (.getfield 41, 3) := by decide +kernel
theorem dX0_findMove_34 : decode cX0_findMove 34 = .ok (.getfield 69, 3) := by decide +kernel
theorem dX0_findMove_37 : decode cX0_findMove 37 = .ok (.istore_n 2, 1) := by decide +kernel
theorem dX0_findMove_38 : decode cX0_findMove 38 = .ok (.aload_n 0, 1) := by decide +kernel
theorem dX0_findMove_39 : decode cX0_findMove 39 = .ok (.iload_n 1, 1) := by decide +kernel
theorem dX0_findMove_40 : decode cX0_findMove 40 = .ok (.invokevirtual 122, 3) := by decide +kernel
theorem dX0_findMove_43 : decode cX0_findMove 43 = .ok (.istore_n 3, 1) := by decide +kernel
theorem dX0_findMove_44 : decode cX0_findMove 44 = .ok (.iload_n 2, 1) := by decide +kernel
theorem dX0_findMove_45 : decode cX0_findMove 45 = .ok (.istore 4, 2) := by decide +kernel
theorem dX0_findMove_47 : decode cX0_findMove 47 = .ok (.iconst 0, 1) := by decide +kernel
theorem dX0_findMove_48 : decode cX0_findMove 48 = .ok (.istore 5, 2) := by decide +kernel
theorem dX0_findMove_50 : decode cX0_findMove 50 = .ok (.iload 5, 2) := by decide +kernel
theorem dX0_findMove_52 : decode cX0_findMove 52 = .ok (.aload_n 0, 1) := by decide +kernel
theorem dX0_findMove_53 : decode cX0_findMove 53 = .ok (.getfield 29, 3) := by decide +kernel
theorem dX0_findMove_56 : decode cX0_findMove 56 = .ok (.iconst 0, 1) := by decide +kernel
theorem dX0_findMove_57 : decode cX0_findMove 57 = .ok (.invokevirtual 103, 3) := by decide +kernel
theorem dX0_findMove_60 : decode cX0_findMove 60 = .ok (.if_icmp .ge 95, 3) := by decide +kernel
theorem dX0_findMove_63 : decode cX0_findMove 63 = .ok (.iconst 0, 1) := by decide +kernel
theorem dX0_findMove_64 : decode cX0_findMove 64 = .ok (.istore 6, 2) := by decide +kernel
theorem dX0_findMove_66 : decode cX0_findMove 66 = .ok (.iload 6, 2) := by decide +kernel
theorem dX0_findMove_68 : decode cX0_findMove 68 = .ok (.aload_n 0, 1) := by decide +kernel
theorem dX0_findMove_69 : decode cX0_findMove 69 = .ok (.getfield 29, 3) := by decide +kernel
theorem dX0_findMove_72 : decode cX0_findMove 72 = .ok (.getfield 150, 3) := by decide +kernel
theorem dX0_findMove_75 : decode cX0_findMove 75 = .ok (.iload 5, 2) := by decide +kernel
theorem dX0_findMove_77 : decode cX0_findMove 77 = .ok (.iaload, 1) := by decide +kernel
theorem dX0_findMove_78 : decode cX0_findMove 78 = .ok (.if_icmp .ge 71, 3) := by decide +kernel
theorem dX0_findMove_81 : decode cX0_findMove 81 = .ok (.iload 4, 2) := by decide +kernel
theorem dX0_findMove_83 : decode cX0_findMove 83 = .ok (.iload_n 3, 1) := by decide +kernel
theorem dX0_findMove_84 : decode cX0_findMove 84 = .ok (.if_icmp .le 65, 3) := by decide +kernel
theorem dX0_findMove_87 : decode cX0_findMove 87 = .ok (.aload_n 0, 1) := by decide +kernel
theorem dX0_findMove_88 : decode cX0_findMove 88 = .ok (.invokevirtual 76, 3) := by decide +kernel
theorem dX0_findMove_91 : decode cX0_findMove 91 = .ok (.aload_n 0, 1) := by decide +kernel
theorem dX0_findMove_92 : decode cX0_findMove 92 = .ok (.getfield 41, 3) := by decide +kernel
theorem dX0_findMove_95 : decode cX0_findMove 95 = .ok (.getfield 153, 3) := by decide +kernel
theorem dX0_findMove_98 : decode cX0_findMove 98 = .ok (.iload 5, 2) := by decide +kernel
theorem dX0_findMove_100 : decode cX0_findMove 100 = .ok (.iload 6, 2) := by decide +kernel
theorem dX0_findMove_102 : decode cX0_findMove 102 = .ok (.iastore, 1) := by decide +kernel
theorem dX0_findMove_103 : decode cX0_findMove 103 = .ok (.aload_n 0, 1) := by decide +kernel
theorem dX0_findMove_104 : decode cX0_findMove 104 = .ok (.iload_n 1, 1) := by decide +kernel
theorem dX0_findMove_105 : decode cX0_findMove 105 = .ok (.iload 4, 2) := by decide +kernel
theorem dX0_findMove_107 : decode cX0_findMove 107 = .ok (.invokevirtual 80, 3) := by decide +kernel
theorem dX0_findMove_110 : decode cX0_findMove 110 = .ok (.aload_n 0, 1) := by decide +kernel
theorem dX0_findMove_111 : decode cX0_findMove 111 = .ok (.getfield 41, 3) := by decide +kernel
theorem dX0_findMove_114 : decode cX0_findMove 114 = .ok (.getfield 69, 3) := by decide +kernel
theorem dX0_findMove_117 : decode cX0_findMove 117 = .ok (.iload 4, 2) := by decide +kernel
theorem dX0_findMove_119 : decode cX0_findMove 119 = .ok (.if_icmp .ge 24, 3) := by decide +kernel
theorem dX0_findMove_122 : decode cX0_findMove 122 = .ok (.aload_n 0, 1) := by decide +kernel
theorem dX0_findMove_123 : decode cX0_findMove 123 = .ok (.getfield 41, 3) := by decide +kernel
theorem dX0_findMove_126 : decode cX0_findMove 126 = .ok (.getfield 69, 3) := by decide +kernel
theorem dX0_findMove_129 : decode cX0_findMove 129 = .ok (.istore 4, 2) := by decide +kernel
theorem dX0_findMove_131 : decode cX0_findMove 131 = .ok (.aload_n 0, 1) := by decide +kernel
theorem dX0_findMove_132 : decode cX0_findMove 132 = .ok (.iload 5, 2) := by decide +kernel
theorem dX0_findMove_134 : decode cX0_findMove 134 = .ok (.putfield 25, 3) := by decide +kernel
theorem dX0_findMove_137 : decode cX0_findMove 137 = .ok (.aload_n 0, 1) := by decide +kernel
theorem dX0_findMove_138 : decode cX0_findMove 138 = .ok (.iload 6, 2) := by decide +kernel
theorem dX0_findMove_140 : decode cX0_findMove 140 = .ok (.putfield 156, 3) := by decide +kernel
theorem dX0_findMove_143 : decode cX0_findMove 143 = .ok (.iinc 6 1, 3) := by decide +kernel
theorem dX0_findMove_146 : decode cX0_findMove 146 = .ok (.goto (-80), 3) := by decide +kernel
theorem dX0_findMove_149 : decode cX0_findMove 149 = .ok (.iinc 5 1, 3) := by decide +kernel
theorem dX0_findMove_152 : decode cX0_findMove 152 = .ok (.goto (-102), 3) := by decide +kernel
theorem dX0_findMove_155 : decode cX0_findMove 155 = .ok (.aload_n 0, 1) := by decide +kernel
theorem dX0_findMove_156 : decode cX0_findMove 156 = .ok (.iload_n 2, 1) := by decide +kernel
theorem dX0_findMove_157 : decode cX0_findMove 157 = .ok (.iload 4, 2) := by decide +kernel
theorem dX0_findMove_159 : decode cX0_findMove 159 = .ok (.isub, 1) := by decide +kernel
theorem dX0_findMove_160 : decode cX0_findMove 160 = .ok (.putfield 159, 3) := by decide +kernel
theorem dX0_findMove_163 : decode cX0_findMove 163 = .ok (.return_, 1) := by decide +kernel
theorem dX0_isDoneBehind_0 : decode cX0_isDoneBehind 0 = .ok (.aload_n 0, 1) := by decide +kernel
theorem dX0_isDoneBehind_1 : decode cX0_isDoneBehind 1 = .ok (.invokevirtual 76, 3) := by decide +kernel
theorem dX0_isDoneBehind_4 : decode cX0_isDoneBehind 4 = .ok (.aload_n 0, 1) := by decide +kernel
theorem dX0_isDoneBehind_5 : decode cX0_isDoneBehind 5 = .ok (.getfield 12, 3) := by decide +kernel
theorem dX0_isDoneBehind_8 : decode cX0_isDoneBehind 8 = .ok (.dup, 1) := by decide +kernel
theorem dX0_isDoneBehind_9 : decode cX0_isDoneBehind 9 = .ok (.getfield 162, 3) := by decide +kernel
theorem dX0_isDoneBehind_12 : decode cX0_isDoneBehind 12 = .ok (.iload_n 3, 1) := by decide +kernel
theorem dX0_isDoneBehind_13 : decode cX0_isDoneBehind 13 = .ok (.ior, 1) := by decide +kernel
theorem dX0_isDoneBehind_14 : decode cX0_isDoneBehind 14 = .ok (.putfield 162, 3) := by decide +kernel
theorem dX0_isDoneBehind_17 : decode cX0_isDoneBehind 17 = .ok (.iconst 0, 1) := by decide +kernel
theorem dX0_isDoneBehind_18 : decode cX0_isDoneBehind 18 = .ok (.istore 4, 2) := by decide +kernel
theorem dX0_isDoneBehind_20 : decode cX0_isDoneBehind 20 = .ok (.iload 4, 2) := by decide +kernel
theorem dX0_isDoneBehind_22 : decode cX0_isDoneBehind 22 = .ok (.iload_n 2, 1) := by decide +kernel
theorem dX0_isDoneBehind_23 : decode cX0_isDoneBehind 23 = .ok (.if_icmp .ge 32, 3) := by decide +kernel
theorem dX0_isDoneBehind_26 : decode cX0_isDoneBehind 26 = .ok (.aload_n 0, 1) := by decide +kernel
theorem dX0_isDoneBehind_27 : decode cX0_isDoneBehind 27 = .ok (.getfield 12, 3) := by decide +kernel
theorem dX0_isDoneBehind_30 : decode cX0_isDoneBehind 30 = .ok (.iload_n 1, 1) := by decide +kernel
theorem dX0_isDoneBehind_31 : decode cX0_isDoneBehind 31 = .ok (.aload_n 0, 1) := by decide +kernel
theorem dX0_isDoneBehind_32 : decode cX0_isDoneBehind 32 = .ok (.getfield 29, 3) := by decide +kernel
theorem dX0_isDoneBehind_35 : decode cX0_isDoneBehind 35 = .ok (.invokevirtual 96, 3) := by decide +kernel
theorem dX0_isDoneBehind_38 : decode cX0_isDoneBehind 38 = .ok (.ifCond .ne 17, 3) := by decide +kernel
theorem dX0_isDoneBehind_41 : decode cX0_isDoneBehind 41 = .ok (.aload_n 0, 1) := by decide +kernel
theorem dX0_isDoneBehind_42 : decode cX0_isDoneBehind 42 = .ok (.getfield 41, 3) := by decide +kernel
theorem dX0_isDoneBehind_45 : decode cX0_isDoneBehind 45 = .ok (.iconst 0, 1) := by decide +kernel
theorem dX0_isDoneBehind_46 : decode cX0_isDoneBehind 46 = .ok (.invokevirtual 62, 3) := by decide +kernel
theorem dX0_isDoneBehind_49 : decode cX0_isDoneBehind 49 = .ok (.iinc 4 1, 3) := by decide +kernel
theorem dX0_isDoneBehind_52 : decode cX0_isDoneBehind 52 = .ok (.goto (-32), 3) := by decide +kernel
theorem dX0_isDoneBehind_55 : decode cX0_isDoneBehind 55 = .ok (.aload_n 0, 1) := by decide +kernel
theorem dX0_isDoneBehind_56 : decode cX0_isDoneBehind 56 = .ok (.getfield 12, 3) := by decide +kernel
theorem dX0_isDoneBehind_59 : decode cX0_isDoneBehind 59 = .ok (.iload_n 1, 1) := by decide +kernel
theorem dX0_isDoneBehind_60 : decode cX0_isDoneBehind 60 = .ok (.aload_n 0, 1) := by decide +kernel
theorem dX0_isDoneBehind_61 : decode cX0_isDoneBehind 61 = .ok (.getfield 29, 3) := by decide +kernel
theorem dX0_isDoneBehind_64 : decode cX0_isDoneBehind 64 = .ok (.invokevirtual 96, 3) := by decide +kernel
theorem dX0_isDoneBehind_67 : decode cX0_isDoneBehind 67 = .ok (.ireturn, 1) := by decide +kernel
theorem dX0_hangsOn_0 : decode cX0_hangsOn 0 = .ok (.aload_n 0, 1) := by decide +kernel
theorem dX0_hangsOn_1 : decode cX0_hangsOn 1 = .ok (.getfield 33, 3) := by decide +kernel
theorem dX0_hangsOn_4 : decode cX0_hangsOn 4 = .ok (.iload_n 1, 1) := by decide +kernel
theorem dX0_hangsOn_5 : decode cX0_hangsOn 5 = .ok (.aload_n 0, 1) := by decide +kernel
theorem dX0_hangsOn_6 : decode cX0_hangsOn 6 = .ok (.getfield 29, 3) := by decide +kernel
theorem dX0_hangsOn_9 : decode cX0_hangsOn 9 = .ok (.invokevirtual 96, 3) := by decide +kernel
theorem dX0_hangsOn_12 : decode cX0_hangsOn 12 = .ok (.ifCond .ne 13, 3) := by decide +kernel
theorem dX0_hangsOn_15 : decode cX0_hangsOn 15 = .ok (.aload_n 0, 1) := by decide +kernel
theorem dX0_hangsOn_16 : decode cX0_hangsOn 16 = .ok (.iload_n 1, 1) := by decide +kernel
theorem dX0_hangsOn_17 : decode cX0_hangsOn 17 = .ok (.iload_n 2, 1) := by decide +kernel
theorem dX0_hangsOn_18 : decode cX0_hangsOn 18 = .ok (.iconst 0, 1) := by decide +kernel
theorem dX0_hangsOn_19 : decode cX0_hangsOn 19 = .ok (.invokevirtual 165, 3) := by decide +kernel
theorem dX0_hangsOn_22 : decode cX0_hangsOn 22 = .ok (.ifCond .ne 5, 3) := by decide +kernel
theorem dX0_hangsOn_25 : decode cX0_hangsOn 25 = .ok (.iconst 0, 1) := by decide +kernel
theorem dX0_hangsOn_26 : decode cX0_hangsOn 26 = .ok (.ireturn, 1) := by decide +kernel
theorem dX0_hangsOn_27 : decode cX0_hangsOn 27 = .ok (.iconst 0, 1) := by decide +kernel
theorem dX0_hangsOn_28 : decode cX0_hangsOn 28 = .ok (.istore_n 3, 1) := by decide +kernel
theorem dX0_hangsOn_29 : decode cX0_hangsOn 29 = .ok (.iconst 0, 1) := by decide +kernel
theorem dX0_hangsOn_30 : decode cX0_hangsOn 30 = .ok (.istore 4, 2) := by decide +kernel
theorem dX0_hangsOn_32 : decode cX0_hangsOn 32 = .ok (.iload 4, 2) := by decide +kernel
theorem dX0_hangsOn_34 : decode cX0_hangsOn 34 = .ok (.aload_n 0, 1) := by decide +kernel
theorem dX0_hangsOn_35 : decode cX0_hangsOn 35 = .ok (.getfield 29, 3) := by decide +kernel
theorem dX0_hangsOn_38 : decode cX0_hangsOn 38 = .ok (.iconst 1, 1) := by decide +kernel
theorem dX0_hangsOn_39 : decode cX0_hangsOn 39 = .ok (.invokevirtual 103, 3) := by decide +kernel
theorem dX0_hangsOn_42 : decode cX0_hangsOn 42 = .ok (.if_icmp .ge 56, 3) := by decide +kernel
theorem dX0_hangsOn_45 : decode cX0_hangsOn 45 = .ok (.aload_n 0, 1) := by decide +kernel
theorem dX0_hangsOn_46 : decode cX0_hangsOn 46 = .ok (.getfield 33, 3) := by decide +kernel
theorem dX0_hangsOn_49 : decode cX0_hangsOn 49 = .ok (.getfield 162, 3) := by decide +kernel
theorem dX0_hangsOn_52 : decode cX0_hangsOn 52 = .ok (.iload 4, 2) := by decide +kernel
theorem dX0_hangsOn_54 : decode cX0_hangsOn 54 = .ok (.ishr, 1) := by decide +kernel
theorem dX0_hangsOn_55 : decode cX0_hangsOn 55 = .ok (.iconst 1, 1) := by decide +kernel
theorem dX0_hangsOn_56 : decode cX0_hangsOn 56 = .ok (.iand, 1) := by decide +kernel
theorem dX0_hangsOn_57 : decode cX0_hangsOn 57 = .ok (.ifCond .ne 7, 3) := by decide +kernel
theorem dX0_hangsOn_60 : decode cX0_hangsOn 60 = .ok (.iconst 1, 1) := by decide +kernel
theorem dX0_hangsOn_61 : decode cX0_hangsOn 61 = .ok (.goto 4, 3) := by decide +kernel
theorem dX0_hangsOn_64 : decode cX0_hangsOn 64 = .ok (.iconst 0, 1) := by decide +kernel
theorem dX0_hangsOn_65 : decode cX0_hangsOn 65 = .ok (.istore 5, 2) := by decide +kernel
theorem dX0_hangsOn_67 : decode cX0_hangsOn 67 = .ok (.iload 5, 2) := by decide +kernel
theorem dX0_hangsOn_69 : decode cX0_hangsOn 69 = .ok (.ifCond .eq 23, 3) := by decide +kernel
theorem dX0_hangsOn_72 : decode cX0_hangsOn 72 = .ok (.aload_n 0, 1) := by decide +kernel
theorem dX0_hangsOn_73 : decode cX0_hangsOn 73 = .ok (.iload_n 1, 1) := by decide +kernel
theorem dX0_hangsOn_74 : decode cX0_hangsOn 74 = .ok (.iload_n 2, 1) := by decide +kernel
theorem dX0_hangsOn_75 : decode cX0_hangsOn 75 = .ok (.iconst 1, 1) := by decide +kernel
theorem dX0_hangsOn_76 : decode cX0_hangsOn 76 = .ok (.iload 4, 2) := by decide +kernel
theorem dX0_hangsOn_78 : decode cX0_hangsOn 78 = .ok (.ishl, 1) := by decide +kernel
theorem dX0_hangsOn_79 : decode cX0_hangsOn 79 = .ok (.invokevirtual 165, 3) := by decide +kernel
theorem dX0_hangsOn_82 : decode cX0_hangsOn 82 = .ok (.ifCond .ne 10, 3) := by decide +kernel
theorem dX0_hangsOn_85 : decode cX0_hangsOn 85 = .ok (.iload_n 3, 1) := by decide +kernel
theorem dX0_hangsOn_86 : decode cX0_hangsOn 86 = .ok (.iconst 1, 1) := by decide +kernel
theorem dX0_hangsOn_87 : decode cX0_hangsOn 87 = .ok (.iload 4, 2) := by decide +kernel
theorem dX0_hangsOn_89 : decode cX0_hangsOn 89 = .ok (.ishl, 1) := by decide +kernel
theorem dX0_hangsOn_90 : decode cX0_hangsOn 90 = .ok (.ior, 1) := by decide +kernel
theorem dX0_hangsOn_91 : decode cX0_hangsOn 91 = .ok (.istore_n 3, 1) := by decide +kernel
theorem dX0_hangsOn_92 : decode cX0_hangsOn 92 = .ok (.iinc 4 1, 3) := by decide +kernel
theorem dX0_hangsOn_95 : decode cX0_hangsOn 95 = .ok (.goto (-63), 3) := by decide +kernel
theorem dX0_hangsOn_98 : decode cX0_hangsOn 98 = .ok (.iload_n 3, 1) := by decide +kernel
theorem dX0_hangsOn_99 : decode cX0_hangsOn 99 = .ok (.ireturn, 1) := by decide +kernel
theorem dX0_guardOf_0 : decode cX0_guardOf 0 = .ok (.aload_n 0, 1) := by decide +kernel
theorem dX0_guardOf_1 : decode cX0_guardOf 1 = .ok (.getfield 33, 3) := by decide +kernel
theorem dX0_guardOf_4 : decode cX0_guardOf 4 = .ok (.iload_n 1, 1) := by decide +kernel
theorem dX0_guardOf_5 : decode cX0_guardOf 5 = .ok (.aload_n 0, 1) := by decide +kernel
theorem dX0_guardOf_6 : decode cX0_guardOf 6 = .ok (.getfield 29, 3) := by decide +kernel
theorem dX0_guardOf_9 : decode cX0_guardOf 9 = .ok (.invokevirtual 96, 3) := by decide +kernel
theorem dX0_guardOf_12 : decode cX0_guardOf 12 = .ok (.ifCond .eq 5, 3) := by decide +kernel
theorem dX0_guardOf_15 : decode cX0_guardOf 15 = .ok (.iconst (-1), 1) := by decide +kernel
theorem dX0_guardOf_16 : decode cX0_guardOf 16 = .ok (.ireturn, 1) := by decide +kernel
theorem dX0_guardOf_17 : decode cX0_guardOf 17 = .ok (.iconst 1, 1) := by decide +kernel
theorem dX0_guardOf_18 : decode cX0_guardOf 18 = .ok (.aload_n 0, 1) := by decide +kernel
theorem dX0_guardOf_19 : decode cX0_guardOf 19 = .ok (.getfield 29, 3) := by decide +kernel
theorem dX0_guardOf_22 : decode cX0_guardOf 22 = .ok (.iconst 1, 1) := by decide +kernel
theorem dX0_guardOf_23 : decode cX0_guardOf 23 = .ok (.invokevirtual 103, 3) := by decide +kernel
theorem dX0_guardOf_26 : decode cX0_guardOf 26 = .ok (.ishl, 1) := by decide +kernel
theorem dX0_guardOf_27 : decode cX0_guardOf 27 = .ok (.istore_n 3, 1) := by decide +kernel
theorem dX0_guardOf_28 : decode cX0_guardOf 28 = .ok (.iconst 0, 1) := by decide +kernel
theorem dX0_guardOf_29 : decode cX0_guardOf 29 = .ok (.istore 4, 2) := by decide +kernel
theorem dX0_guardOf_31 : decode cX0_guardOf 31 = .ok (.iload 4, 2) := by decide +kernel
theorem dX0_guardOf_33 : decode cX0_guardOf 33 = .ok (.iconst 3, 1) := by decide +kernel
theorem dX0_guardOf_34 : decode cX0_guardOf 34 = .ok (.if_icmp .gt 73, 3) := by decide +kernel
theorem dX0_guardOf_37 : decode cX0_guardOf 37 = .ok (.iconst 0, 1) := by decide +kernel
theorem dX0_guardOf_38 : decode cX0_guardOf 38 = .ok (.istore 5, 2) := by decide +kernel
theorem dX0_guardOf_40 : decode cX0_guardOf 40 = .ok (.iload 5, 2) := by decide +kernel
theorem dX0_guardOf_42 : decode cX0_guardOf 42 = .ok (.iload_n 3, 1) := by decide +kernel
theorem dX0_guardOf_43 : decode cX0_guardOf 43 = .ok (.if_icmp .ge 58, 3) := by decide +kernel
theorem dX0_guardOf_46 : decode cX0_guardOf 46 = .ok (.iload 5, 2) := by decide +kernel
theorem dX0_guardOf_48 : decode cX0_guardOf 48 = .ok (.invokestatic 169, 3) := by decide +kernel
theorem dX0_guardOf_51 : decode cX0_guardOf 51 = .ok (.iload 4, 2) := by decide +kernel
theorem dX0_guardOf_53 : decode cX0_guardOf 53 = .ok (.if_icmp .ne 20, 3) := by decide +kernel
theorem dX0_guardOf_56 : decode cX0_guardOf 56 = .ok (.iload 5, 2) := by decide +kernel
theorem dX0_guardOf_58 : decode cX0_guardOf 58 = .ok (.aload_n 0, 1) := by decide +kernel
theorem dX0_guardOf_59 : decode cX0_guardOf 59 = .ok (.getfield 33, 3) := by decide +kernel
theorem dX0_guardOf_62 : decode cX0_guardOf 62 = .ok (.getfield 162, 3) := by decide +kernel
theorem dX0_guardOf_65 : decode cX0_guardOf 65 = .ok (.iand, 1) := by decide +kernel
theorem dX0_guardOf_66 : decode cX0_guardOf 66 = .ok (.ifCond .ne 7, 3) := by decide +kernel
theorem dX0_guardOf_69 : decode cX0_guardOf 69 = .ok (.iconst 1, 1) := by decide +kernel
theorem dX0_guardOf_70 : decode cX0_guardOf 70 = .ok (.goto 4, 3) := by decide +kernel
theorem dX0_guardOf_73 : decode cX0_guardOf 73 = .ok (.iconst 0, 1) := by decide +kernel
theorem dX0_guardOf_74 : decode cX0_guardOf 74 = .ok (.istore 6, 2) := by decide +kernel
theorem dX0_guardOf_76 : decode cX0_guardOf 76 = .ok (.iload 6, 2) := by decide +kernel
theorem dX0_guardOf_78 : decode cX0_guardOf 78 = .ok (.ifCond .eq 17, 3) := by decide +kernel
theorem dX0_guardOf_81 : decode cX0_guardOf 81 = .ok (.aload_n 0, 1) := by decide +kernel
theorem dX0_guardOf_82 : decode cX0_guardOf 82 = .ok (.iload_n 1, 1) := by decide +kernel
theorem dX0_guardOf_83 : decode cX0_guardOf 83 = .ok (.iload_n 2, 1) := by decide +kernel
theorem dX0_guardOf_84 : decode cX0_guardOf 84 = .ok (.iload 5, 2) := by decide +kernel
theorem dX0_guardOf_86 : decode cX0_guardOf 86 = .ok (.invokevirtual 165, 3) := by decide +kernel
theorem dX0_guardOf_89 : decode cX0_guardOf 89 = .ok (.ifCond .ne 6, 3) := by decide +kernel
theorem dX0_guardOf_92 : decode cX0_guardOf 92 = .ok (.iload 5, 2) := by decide +kernel
theorem dX0_guardOf_94 : decode cX0_guardOf 94 = .ok (.ireturn, 1) := by decide +kernel
theorem dX0_guardOf_95 : decode cX0_guardOf 95 = .ok (.iinc 5 1, 3) := by decide +kernel
theorem dX0_guardOf_98 : decode cX0_guardOf 98 = .ok (.goto (-58), 3) := by decide +kernel
theorem dX0_guardOf_101 : decode cX0_guardOf 101 = .ok (.iinc 4 1, 3) := by decide +kernel
theorem dX0_guardOf_104 : decode cX0_guardOf 104 = .ok (.goto (-73), 3) := by decide +kernel
theorem dX0_guardOf_107 : decode cX0_guardOf 107 = .ok (.iconst (-1), 1) := by decide +kernel
theorem dX0_guardOf_108 : decode cX0_guardOf 108 = .ok (.ireturn, 1) := by decide +kernel
theorem dX1_init_0 : decode cX1_init 0 = .ok (.aload_n 0, 1) := by decide +kernel
theorem dX1_init_1 : decode cX1_init 1 = .ok (.invokespecial 3, 3) := by decide +kernel
theorem dX1_init_4 : decode cX1_init 4 = .ok (.aload_n 0, 1) := by decide +kernel
theorem dX1_init_5 : decode cX1_init 5 = .ok (.sipush 1600, 3) := by decide +kernel
theorem dX1_init_8 : decode cX1_init 8 = .ok (.newarray .int, 2) := by decide +kernel
theorem dX1_init_10 : decode cX1_init 10 = .ok (.putfield 9, 3) := by decide +kernel
theorem dX1_init_13 : decode cX1_init 13 = .ok (.aload_n 0, 1) := by decide +kernel
theorem dX1_init_14 : decode cX1_init 14 = .ok (.bipush 64, 2) := by decide +kernel
theorem dX1_init_16 : decode cX1_init 16 = .ok (.newarray .int, 2) := by decide +kernel
theorem dX1_init_18 : decode cX1_init 18 = .ok (.putfield 15, 3) := by decide +kernel
theorem dX1_init_21 : decode cX1_init 21 = .ok (.return_, 1) := by decide +kernel
theorem dX1_clear_0 : decode cX1_clear 0 = .ok (.aload_n 0, 1) := by decide +kernel
theorem dX1_clear_1 : decode cX1_clear 1 = .ok (.iconst 0, 1) := by decide +kernel
theorem dX1_clear_2 : decode cX1_clear 2 = .ok (.putfield 18, 3) := by decide +kernel
theorem dX1_clear_5 : decode cX1_clear 5 = .ok (.aload_n 0, 1) := by decide +kernel
theorem dX1_clear_6 : decode cX1_clear 6 = .ok (.iconst 0, 1) := by decide +kernel
theorem dX1_clear_7 : decode cX1_clear 7 = .ok (.putfield 22, 3) := by decide +kernel
theorem dX1_clear_10 : decode cX1_clear 10 = .ok (.aload_n 0, 1) := by decide +kernel
theorem dX1_clear_11 : decode cX1_clear 11 = .ok (.iconst 0, 1) := by decide +kernel
theorem dX1_clear_12 : decode cX1_clear 12 = .ok (.putfield 25, 3) := by decide +kernel
theorem dX1_clear_15 : decode cX1_clear 15 = .ok (.aload_n 0, 1) := by decide +kernel
theorem dX1_clear_16 : decode cX1_clear 16 = .ok (.iconst 0, 1) := by decide +kernel
theorem dX1_clear_17 : decode cX1_clear 17 = .ok (.putfield 28, 3) := by decide +kernel
theorem dX1_clear_20 : decode cX1_clear 20 = .ok (.aload_n 0, 1) := by decide +kernel
theorem dX1_clear_21 : decode cX1_clear 21 = .ok (.iconst 0, 1) := by decide +kernel
theorem dX1_clear_22 : decode cX1_clear 22 = .ok (.putfield 31, 3) := by decide +kernel
theorem dX1_clear_25 : decode cX1_clear 25 = .ok (.return_, 1) := by decide +kernel
theorem dX1_put_0 : decode cX1_put 0 = .ok (.aload_n 0, 1) := by decide +kernel
theorem dX1_put_1 : decode cX1_put 1 = .ok (.getfield 18, 3) := by decide +kernel
theorem dX1_put_4 : decode cX1_put 4 = .ok (.aload_n 0, 1) := by decide +kernel
theorem dX1_put_5 : decode cX1_put 5 = .ok (.getfield 9, 3) := by decide +kernel
theorem dX1_put_8 : decode cX1_put 8 = .ok (.arraylength, 1) := by decide +kernel
theorem dX1_put_9 : decode cX1_put 9 = .ok (.if_icmp .ge 27, 3) := by decide +kernel
theorem dX1_put_12 : decode cX1_put 12 = .ok (.aload_n 0, 1) := by decide +kernel
theorem dX1_put_13 : decode cX1_put 13 = .ok (.getfield 9, 3) := by decide +kernel
theorem dX1_put_16 : decode cX1_put 16 = .ok (.aload_n 0, 1) := by decide +kernel
theorem dX1_put_17 : decode cX1_put 17 = .ok (.getfield 18, 3) := by decide +kernel
theorem dX1_put_20 : decode cX1_put 20 = .ok (.iload_n 2, 1) := by decide +kernel
theorem dX1_put_21 : decode cX1_put 21 = .ok (.iconst 5, 1) := by decide +kernel
theorem dX1_put_22 : decode cX1_put 22 = .ok (.ishl, 1) := by decide +kernel
theorem dX1_put_23 : decode cX1_put 23 = .ok (.iload_n 1, 1) := by decide +kernel
theorem dX1_put_24 : decode cX1_put 24 = .ok (.ior, 1) := by decide +kernel
theorem dX1_put_25 : decode cX1_put 25 = .ok (.iastore, 1) := by decide +kernel
theorem dX1_put_26 : decode cX1_put 26 = .ok (.aload_n 0, 1) := by decide +kernel
theorem dX1_put_27 : decode cX1_put 27 = .ok (.dup, 1) := by decide +kernel
theorem dX1_put_28 : decode cX1_put 28 = .ok (.getfield 18, 3) := by decide +kernel
theorem dX1_put_31 : decode cX1_put 31 = .ok (.iconst 1, 1) := by decide +kernel
theorem dX1_put_32 : decode cX1_put 32 = .ok (.iadd, 1) := by decide +kernel
theorem dX1_put_33 : decode cX1_put 33 = .ok (.putfield 18, 3) := by decide +kernel
theorem dX1_put_36 : decode cX1_put 36 = .ok (.iconst 1, 1) := by decide +kernel
theorem dX1_put_37 : decode cX1_put 37 = .ok (.ireturn, 1) := by decide +kernel
theorem dX1_hasMay_0 : decode cX1_hasMay 0 = .ok (.aload_n 0, 1) := by decide +kernel
theorem dX1_hasMay_1 : decode cX1_hasMay 1 = .ok (.getfield 25, 3) := by decide +kernel
theorem dX1_hasMay_4 : decode cX1_hasMay 4 = .ok (.aload_n 0, 1) := by decide +kernel
theorem dX1_hasMay_5 : decode cX1_hasMay 5 = .ok (.getfield 22, 3) := by decide +kernel
theorem dX1_hasMay_8 : decode cX1_hasMay 8 = .ok (.if_icmp .le 7, 3) := by decide +kernel
theorem dX1_hasMay_11 : decode cX1_hasMay 11 = .ok (.iconst 1, 1) := by decide +kernel
theorem dX1_hasMay_12 : decode cX1_hasMay 12 = .ok (.goto 4, 3) := by decide +kernel
theorem dX1_hasMay_15 : decode cX1_hasMay 15 = .ok (.iconst 0, 1) := by decide +kernel
theorem dX1_hasMay_16 : decode cX1_hasMay 16 = .ok (.ireturn, 1) := by decide +kernel
theorem dX1_hasWears_0 : decode cX1_hasWears 0 = .ok (.aload_n 0, 1) := by decide +kernel
theorem dX1_hasWears_1 : decode cX1_hasWears 1 = .ok (.getfield 31, 3) := by decide +kernel
theorem dX1_hasWears_4 : decode cX1_hasWears 4 = .ok (.aload_n 0, 1) := by decide +kernel
theorem dX1_hasWears_5 : decode cX1_hasWears 5 = .ok (.getfield 28, 3) := by decide +kernel
theorem dX1_hasWears_8 : decode cX1_hasWears 8 = .ok (.if_icmp .le 7, 3) := by decide +kernel
theorem dX1_hasWears_11 : decode cX1_hasWears 11 = .ok (.iconst 1, 1) := by decide +kernel
theorem dX1_hasWears_12 : decode cX1_hasWears 12 = .ok (.goto 4, 3) := by decide +kernel
theorem dX1_hasWears_15 : decode cX1_hasWears 15 = .ok (.iconst 0, 1) := by decide +kernel
theorem dX1_hasWears_16 : decode cX1_hasWears 16 = .ok (.ireturn, 1) := by decide +kernel
theorem dX1_run_0 : decode cX1_run 0 = .ok (.iconst 0, 1) := by decide +kernel
theorem dX1_run_1 : decode cX1_run 1 = .ok (.istore 4, 2) := by decide +kernel
theorem dX1_run_3 : decode cX1_run 3 = .ok (.iload_n 1, 1) := by decide +kernel
theorem dX1_run_4 : decode cX1_run 4 = .ok (.istore 5, 2) := by decide +kernel
theorem dX1_run_6 : decode cX1_run 6 = .ok (.iload 5, 2) := by decide +kernel
theorem dX1_run_8 : decode cX1_run 8 = .ok (.iload_n 2, 1) := by decide +kernel
theorem dX1_run_9 : decode cX1_run 9 = .ok (.if_icmp .ge 292, 3) := by decide +kernel
theorem dX1_run_12 : decode cX1_run 12 = .ok (.iload 5, 2) := by decide +kernel
theorem dX1_run_14 : decode cX1_run 14 = .ok (.ifCond .lt 287, 3) := by decide +kernel
theorem dX1_run_17 : decode cX1_run 17 = .ok (.iload 5, 2) := by decide +kernel
theorem dX1_run_19 : decode cX1_run 19 = .ok (.aload_n 0, 1) := by decide +kernel
theorem dX1_run_20 : decode cX1_run 20 = .ok (.getfield 9, 3) := by decide +kernel
theorem dX1_run_23 : decode cX1_run 23 = .ok (.arraylength, 1) := by decide +kernel
theorem dX1_run_24 : decode cX1_run 24 = .ok (.if_icmp .ge 277, 3) := by decide +kernel
theorem dX1_run_27 : decode cX1_run 27 = .ok (.iload 4, 2) := by decide +kernel
theorem dX1_run_29 : decode cX1_run 29 = .ok (.bipush 64, 2) := by decide +kernel
theorem dX1_run_31 : decode cX1_run 31 = .ok (.if_icmp .ge 270, 3) := by decide +kernel
theorem dX1_run_34 : decode cX1_run 34 = .ok (.aload_n 0, 1) := by decide +kernel
theorem dX1_run_35 : decode cX1_run 35 = .ok (.getfield 9, 3) := by decide +kernel
theorem dX1_run_38 : decode cX1_run 38 = .ok (.iload 5, 2) := by decide +kernel
theorem dX1_run_40 : decode cX1_run 40 = .ok (.iaload, 1) := by decide +kernel
theorem dX1_run_41 : decode cX1_run 41 = .ok (.bipush 31, 2) := by decide +kernel
theorem dX1_run_43 : decode cX1_run 43 = .ok (.iand, 1) := by decide +kernel
theorem dX1_run_44 : decode cX1_run 44 = .ok (.istore 6, 2) := by decide +kernel
theorem dX1_run_46 : decode cX1_run 46 = .ok (.aload_n 0, 1) := by decide +kernel
theorem dX1_run_47 : decode cX1_run 47 = .ok (.getfield 9, 3) := by decide +kernel
theorem dX1_run_50 : decode cX1_run 50 = .ok (.iload 5, 2) := by decide +kernel
theorem dX1_run_52 : decode cX1_run 52 = .ok (.iaload, 1) := by decide +kernel
theorem dX1_run_53 : decode cX1_run 53 = .ok (.iconst 5, 1) := by decide +kernel
theorem dX1_run_54 : decode cX1_run 54 = .ok (.ishr, 1) := by decide +kernel
theorem dX1_run_55 : decode cX1_run 55 = .ok (.istore 7, 2) := by decide +kernel
theorem dX1_run_57 : decode cX1_run 57 = .ok (.iload 6, 2) := by decide +kernel
theorem dX1_run_59 : decode cX1_run 59 = .ok (.ifCond .ne 18, 3) := by decide +kernel
theorem dX1_run_62 : decode cX1_run 62 = .ok (.aload_n 0, 1) := by decide +kernel
theorem dX1_run_63 : decode cX1_run 63 = .ok (.getfield 15, 3) := by decide +kernel
theorem dX1_run_66 : decode cX1_run 66 = .ok (.iload 4, 2) := by decide +kernel
theorem dX1_run_68 : decode cX1_run 68 = .ok (.iload 7, 2) := by decide +kernel
theorem dX1_run_70 : decode cX1_run 70 = .ok (.iastore, 1) := by decide +kernel
theorem dX1_run_71 : decode cX1_run 71 = .ok (.iinc 4 1, 3) := by decide +kernel
theorem dX1_run_74 : decode cX1_run 74 = .ok (.goto 221, 3) := by decide +kernel
theorem dX1_run_77 : decode cX1_run 77 = .ok (.iload 6, 2) := by decide +kernel
theorem dX1_run_79 : decode cX1_run 79 = .ok (.iconst 1, 1) := by decide +kernel
theorem dX1_run_80 : decode cX1_run 80 = .ok (.if_icmp .ne 32, 3) := by decide +kernel
theorem dX1_run_83 : decode cX1_run 83 = .ok (.iload 7, 2) := by decide +kernel
theorem dX1_run_85 : decode cX1_run 85 = .ok (.ifCond .lt 27, 3) := by decide +kernel
theorem dX1_run_88 : decode cX1_run 88 = .ok (.iload 7, 2) := by decide +kernel
theorem dX1_run_90 : decode cX1_run 90 = .ok (.aload_n 3, 1) := by decide +kernel
theorem dX1_run_91 : decode cX1_run 91 = .ok (.arraylength, 1) := by decide +kernel
theorem dX1_run_92 : decode cX1_run 92 = .ok (.if_icmp .ge 20, 3) := by decide +kernel
theorem dX1_run_95 : decode cX1_run 95 = .ok (.aload_n 0, 1) := by decide +kernel
theorem dX1_run_96 : decode cX1_run 96 = .ok (.getfield 15, 3) := by decide +kernel
theorem dX1_run_99 : decode cX1_run 99 = .ok (.iload 4, 2) := by decide +kernel
theorem dX1_run_101 : decode cX1_run 101 = .ok (.aload_n 3, 1) := by decide +kernel
theorem dX1_run_102 : decode cX1_run 102 = .ok (.iload 7, 2) := by decide +kernel
theorem dX1_run_104 : decode cX1_run 104 = .ok (.iaload, 1) := by decide +kernel
theorem dX1_run_105 : decode cX1_run 105 = .ok (.iastore, 1) := by decide +kernel
theorem dX1_run_106 : decode cX1_run 106 = .ok (.iinc 4 1, 3) := by decide +kernel
theorem dX1_run_109 : decode cX1_run 109 = .ok (.goto 186, 3) := by decide +kernel
theorem dX1_run_112 : decode cX1_run 112 = .ok (.iload 6, 2) := by decide +kernel
theorem dX1_run_114 : decode cX1_run 114 = .ok (.iconst 2, 1) := by decide +kernel
theorem dX1_run_115 : decode cX1_run 115 = .ok (.if_icmp .ne 32, 3) := by decide +kernel
theorem dX1_run_118 : decode cX1_run 118 = .ok (.iload 4, 2) := by decide +kernel
theorem dX1_run_120 : decode cX1_run 120 = .ok (.iconst 1, 1) := by decide +kernel
theorem dX1_run_121 : decode cX1_run 121 = .ok (.if_icmp .lt 26, 3) := by decide +kernel
theorem dX1_run_124 : decode cX1_run 124 = .ok (.aload_n 0, 1) := by decide +kernel
theorem dX1_run_125 : decode cX1_run 125 = .ok (.getfield 15, 3) := by decide +kernel
theorem dX1_run_128 : decode cX1_run 128 = .ok (.iload 4, 2) := by decide +kernel
theorem dX1_run_130 : decode cX1_run 130 = .ok (.iconst 1, 1) := by decide +kernel
theorem dX1_run_131 : decode cX1_run 131 = .ok (.isub, 1) := by decide +kernel
theorem dX1_run_132 : decode cX1_run 132 = .ok (.iconst 1, 1) := by decide +kernel
theorem dX1_run_133 : decode cX1_run 133 = .ok (.aload_n 0, 1) := by decide +kernel
theorem dX1_run_134 : decode cX1_run 134 = .ok (.getfield 15, 3) := by decide +kernel
theorem dX1_run_137 : decode cX1_run 137 = .ok (.iload 4, 2) := by decide +kernel
theorem dX1_run_139 : decode cX1_run 139 = .ok (.iconst 1, 1) := by decide +kernel
theorem dX1_run_140 : decode cX1_run 140 = .ok (.isub, 1) := by decide +kernel
theorem dX1_run_141 : decode cX1_run 141 = .ok (.iaload, 1) := by decide +kernel
theorem dX1_run_142 : decode cX1_run 142 = .ok (.isub, 1) := by decide +kernel
theorem dX1_run_143 : decode cX1_run 143 = .ok (.iastore, 1) := by decide +kernel
theorem dX1_run_144 : decode cX1_run 144 = .ok (.goto 151, 3) := by decide +kernel
theorem dX1_run_147 : decode cX1_run 147 = .ok (.iload 6, 2) := by decide +kernel
theorem dX1_run_149 : decode cX1_run 149 = .ok (.iconst 3, 1) := by decide +kernel
theorem dX1_run_150 : decode cX1_run 150 = .ok (.if_icmp .ne 55, 3) := by decide +kernel
theorem dX1_run_153 : decode cX1_run 153 = .ok (.iload 4, 2) := by decide +kernel
theorem dX1_run_155 : decode cX1_run 155 = .ok (.iconst 3, 1) := by decide +kernel
theorem dX1_run_156 : decode cX1_run 156 = .ok (.if_icmp .lt 49, 3) := by decide +kernel
theorem dX1_run_159 : decode cX1_run 159 = .ok (.iinc 4 (-2), 3) := by decide +kernel
theorem dX1_run_162 : decode cX1_run 162 = .ok (.aload_n 0, 1) := by decide +kernel
theorem dX1_run_163 : decode cX1_run 163 = .ok (.getfield 15, 3) := by decide +kernel
theorem dX1_run_166 : decode cX1_run 166 = .ok (.iload 4, 2) := by decide +kernel
theorem dX1_run_168 : decode cX1_run 168 = .ok (.iconst 1, 1) := by decide +kernel
theorem dX1_run_169 : decode cX1_run 169 = .ok (.isub, 1) := by decide +kernel
theorem dX1_run_170 : decode cX1_run 170 = .ok (.aload_n 0, 1) := by decide +kernel
theorem dX1_run_171 : decode cX1_run 171 = .ok (.getfield 15, 3) := by decide +kernel
theorem dX1_run_174 : decode cX1_run 174 = .ok (.iload 4, 2) := by decide +kernel
theorem dX1_run_176 : decode cX1_run 176 = .ok (.iconst 1, 1) := by decide +kernel
theorem dX1_run_177 : decode cX1_run 177 = .ok (.isub, 1) := by decide +kernel
theorem dX1_run_178 : decode cX1_run 178 = .ok (.iaload, 1) := by decide +kernel
theorem dX1_run_179 : decode cX1_run 179 = .ok (.ifCond .eq 13, 3) := by decide +kernel
theorem dX1_run_182 : decode cX1_run 182 = .ok (.aload_n 0, 1) := by decide +kernel
theorem dX1_run_183 : decode cX1_run 183 = .ok (.getfield 15, 3) := by decide +kernel
theorem dX1_run_186 : decode cX1_run 186 = .ok (.iload 4, 2) := by decide +kernel
theorem dX1_run_188 : decode cX1_run 188 = .ok (.iaload, 1) := by decide +kernel
theorem dX1_run_189 : decode cX1_run 189 = .ok (.goto 12, 3) := by decide +kernel
theorem dX1_run_192 : decode cX1_run 192 = .ok (.aload_n 0, 1) := by decide +kernel
theorem dX1_run_193 : decode cX1_run 193 = .ok (.getfield 15, 3) := by decide +kernel
theorem dX1_run_196 : decode cX1_run 196 = .ok (.iload 4, 2) := by decide +kernel
theorem dX1_run_198 : decode cX1_run 198 = .ok (.iconst 1, 1) := by decide +kernel
theorem dX1_run_199 : decode cX1_run 199 = .ok (.iadd, 1) := by decide +kernel
theorem dX1_run_200 : decode cX1_run 200 = .ok (.iaload, 1) := by decide +kernel
theorem dX1_run_201 : decode cX1_run 201 = .ok (.iastore, 1) := by decide +kernel
theorem dX1_run_202 : decode cX1_run 202 = .ok (.goto 93, 3) := by decide +kernel
theorem dX1_run_205 : decode cX1_run 205 = .ok (.iload 6, 2) := by decide +kernel
theorem dX1_run_207 : decode cX1_run 207 = .ok (.bipush 9, 2) := by decide +kernel
theorem dX1_run_209 : decode cX1_run 209 = .ok (.if_icmp .lt 45, 3) := by decide +kernel
theorem dX1_run_212 : decode cX1_run 212 = .ok (.iload 4, 2) := by decide +kernel
theorem dX1_run_214 : decode cX1_run 214 = .ok (.iconst 2, 1) := by decide +kernel
theorem dX1_run_215 : decode cX1_run 215 = .ok (.if_icmp .lt 39, 3) := by decide +kernel
theorem dX1_run_218 : decode cX1_run 218 = .ok (.iinc 4 (-1), 3) := by decide +kernel
theorem dX1_run_221 : decode cX1_run 221 = .ok (.aload_n 0, 1) := by decide +kernel
theorem dX1_run_222 : decode cX1_run 222 = .ok (.getfield 15, 3) := by decide +kernel
theorem dX1_run_225 : decode cX1_run 225 = .ok (.iload 4, 2) := by decide +kernel
theorem dX1_run_227 : decode cX1_run 227 = .ok (.iconst 1, 1) := by decide +kernel
theorem dX1_run_228 : decode cX1_run 228 = .ok (.isub, 1) := by decide +kernel
theorem dX1_run_229 : decode cX1_run 229 = .ok (.iload 6, 2) := by decide +kernel
theorem dX1_run_231 : decode cX1_run 231 = .ok (.aload_n 0, 1) := by decide +kernel
theorem dX1_run_232 : decode cX1_run 232 = .ok (.getfield 15, 3) := by decide +kernel
theorem dX1_run_235 : decode cX1_run 235 = .ok (.iload 4, 2) := by decide +kernel
theorem dX1_run_237 : decode cX1_run 237 = .ok (.iconst 1, 1) := by decide +kernel
theorem dX1_run_238 : decode cX1_run 238 = .ok (.isub, 1) := by decide +kernel
theorem dX1_run_239 : decode cX1_run 239 = .ok (.iaload, 1) := by decide +kernel
theorem dX1_run_240 : decode cX1_run 240 = .ok (.aload_n 0, 1) := by decide +kernel
theorem dX1_run_241 : decode cX1_run 241 = .ok (.getfield 15, 3) := by decide +kernel
theorem dX1_run_244 : decode cX1_run 244 = .ok (.iload 4, 2) := by decide +kernel
theorem dX1_run_246 : decode cX1_run 246 = .ok (.iaload, 1) := by decide +kernel
theorem dX1_run_247 : decode cX1_run 247 = .ok (.invokestatic 34, 3) := by decide +kernel
theorem dX1_run_250 : decode cX1_run 250 = .ok (.iastore, 1) := by decide +kernel
theorem dX1_run_251 : decode cX1_run 251 = .ok (.goto 44, 3) := by decide +kernel
theorem dX1_run_254 : decode cX1_run 254 = .ok (.iload 4, 2) := by decide +kernel
theorem dX1_run_256 : decode cX1_run 256 = .ok (.iconst 2, 1) := by decide +kernel
theorem dX1_run_257 : decode cX1_run 257 = .ok (.if_icmp .lt 38, 3) := by decide +kernel
theorem dX1_run_260 : decode cX1_run 260 = .ok (.iinc 4 (-1), 3) := by decide +kernel
theorem dX1_run_263 : decode cX1_run 263 = .ok (.aload_n 0, 1) := by decide +kernel
theorem dX1_run_264 : decode cX1_run 264 = .ok (.getfield 15, 3) := by decide +kernel
theorem dX1_run_267 : decode cX1_run 267 = .ok (.iload 4, 2) := by decide +kernel
theorem dX1_run_269 : decode cX1_run 269 = .ok (.iconst 1, 1) := by decide +kernel
theorem dX1_run_270 : decode cX1_run 270 = .ok (.isub, 1) := by decide +kernel
theorem dX1_run_271 : decode cX1_run 271 = .ok (.iload 6, 2) := by decide +kernel
theorem dX1_run_273 : decode cX1_run 273 = .ok (.aload_n 0, 1) := by decide +kernel
theorem dX1_run_274 : decode cX1_run 274 = .ok (.getfield 15, 3) := by decide +kernel
theorem dX1_run_277 : decode cX1_run 277 = .ok (.iload 4, 2) := by decide +kernel
theorem dX1_run_279 : decode cX1_run 279 = .ok (.iconst 1, 1) := by decide +kernel
theorem dX1_run_280 : decode cX1_run 280 = .ok (.isub, 1) := by decide +kernel
theorem dX1_run_281 : decode cX1_run 281 = .ok (.iaload, 1) := by decide +kernel
theorem dX1_run_282 : decode cX1_run 282 = .ok (.i2l, 1) := by decide +kernel
theorem dX1_run_283 : decode cX1_run 283 = .ok (.aload_n 0, 1) := by decide +kernel
theorem dX1_run_284 : decode cX1_run 284 = .ok (.getfield 15, 3) := by decide +kernel
theorem dX1_run_287 : decode cX1_run 287 = .ok (.iload 4, 2) := by decide +kernel
theorem dX1_run_289 : decode cX1_run 289 = .ok (.iaload, 1) := by decide +kernel
theorem dX1_run_290 : decode cX1_run 290 = .ok (.i2l, 1) := by decide +kernel
theorem dX1_run_291 : decode cX1_run 291 = .ok (.invokestatic 38, 3) := by decide +kernel
theorem dX1_run_294 : decode cX1_run 294 = .ok (.iastore, 1) := by decide +kernel
theorem dX1_run_295 : decode cX1_run 295 = .ok (.iinc 5 1, 3) := by decide +kernel
theorem dX1_run_298 : decode cX1_run 298 = .ok (.goto (-292), 3) := by decide +kernel
theorem dX1_run_301 : decode cX1_run 301 = .ok (.iload 4, 2) := by decide +kernel
theorem dX1_run_303 : decode cX1_run 303 = .ok (.ifCond .le 12, 3) := by decide +kernel
theorem dX1_run_306 : decode cX1_run 306 = .ok (.aload_n 0, 1) := by decide +kernel
theorem dX1_run_307 : decode cX1_run 307 = .ok (.getfield 15, 3) := by decide +kernel
theorem dX1_run_310 : decode cX1_run 310 = .ok (.iconst 0, 1) := by decide +kernel
theorem dX1_run_311 : decode cX1_run 311 = .ok (.iaload, 1) := by decide +kernel
theorem dX1_run_312 : decode cX1_run 312 = .ok (.goto 4, 3) := by decide +kernel
theorem dX1_run_315 : decode cX1_run 315 = .ok (.iconst 0, 1) := by decide +kernel
theorem dX1_run_316 : decode cX1_run 316 = .ok (.ireturn, 1) := by decide +kernel
theorem dX1_compare_0 : decode cX1_compare 0 = .ok (.iload_n 0, 1) := by decide +kernel
theorem dX1_compare_1 : decode cX1_compare 1 = .ok (.tableswitch 98 9 14 #[39, 50, 61, 72, 83, 94], 39) := by decide +kernel
theorem dX1_compare_40 : decode cX1_compare 40 = .ok (.iload_n 1, 1) := by decide +kernel
theorem dX1_compare_41 : decode cX1_compare 41 = .ok (.iload_n 2, 1) := by decide +kernel
theorem dX1_compare_42 : decode cX1_compare 42 = .ok (.if_icmp .ge 7, 3) := by decide +kernel
theorem dX1_compare_45 : decode cX1_compare 45 = .ok (.iload_n 1, 1) := by decide +kernel
theorem dX1_compare_46 : decode cX1_compare 46 = .ok (.goto 4, 3) := by decide +kernel
theorem dX1_compare_49 : decode cX1_compare 49 = .ok (.iload_n 2, 1) := by decide +kernel
theorem dX1_compare_50 : decode cX1_compare 50 = .ok (.ireturn, 1) := by decide +kernel
theorem dX1_compare_51 : decode cX1_compare 51 = .ok (.iload_n 1, 1) := by decide +kernel
theorem dX1_compare_52 : decode cX1_compare 52 = .ok (.iload_n 2, 1) := by decide +kernel
theorem dX1_compare_53 : decode cX1_compare 53 = .ok (.if_icmp .le 7, 3) := by decide +kernel
theorem dX1_compare_56 : decode cX1_compare 56 = .ok (.iload_n 1, 1) := by decide +kernel
theorem dX1_compare_57 : decode cX1_compare 57 = .ok (.goto 4, 3) := by decide +kernel
theorem dX1_compare_60 : decode cX1_compare 60 = .ok (.iload_n 2, 1) := by decide +kernel
theorem dX1_compare_61 : decode cX1_compare 61 = .ok (.ireturn, 1) := by decide +kernel
theorem dX1_compare_62 : decode cX1_compare 62 = .ok (.iload_n 1, 1) := by decide +kernel
theorem dX1_compare_63 : decode cX1_compare 63 = .ok (.iload_n 2, 1) := by decide +kernel
theorem dX1_compare_64 : decode cX1_compare 64 = .ok (.if_icmp .ge 7, 3) := by decide +kernel
theorem dX1_compare_67 : decode cX1_compare 67 = .ok (.iconst 1, 1) := by decide +kernel
theorem dX1_compare_68 : decode cX1_compare 68 = .ok (.goto 4, 3) := by decide +kernel
theorem dX1_compare_71 : decode cX1_compare 71 = .ok (.iconst 0, 1) := by decide +kernel
theorem dX1_compare_72 : decode cX1_compare 72 = .ok (.ireturn, 1) := by decide +kernel
theorem dX1_compare_73 : decode cX1_compare 73 = .ok (.iload_n 1, 1) := by decide +kernel
theorem dX1_compare_74 : decode cX1_compare 74 = .ok (.iload_n 2, 1) := by decide +kernel
theorem dX1_compare_75 : decode cX1_compare 75 = .ok (.if_icmp .le 7, 3) := by decide +kernel
theorem dX1_compare_78 : decode cX1_compare 78 = .ok (.iconst 1, 1) := by decide +kernel
theorem dX1_compare_79 : decode cX1_compare 79 = .ok (.goto 4, 3) := by decide +kernel
theorem dX1_compare_82 : decode cX1_compare 82 = .ok (.iconst 0, 1) := by decide +kernel
theorem dX1_compare_83 : decode cX1_compare 83 = .ok (.ireturn, 1) := by decide +kernel
theorem dX1_compare_84 : decode cX1_compare 84 = .ok (.iload_n 1, 1) := by decide +kernel
theorem dX1_compare_85 : decode cX1_compare 85 = .ok (.iload_n 2, 1) := by decide +kernel
theorem dX1_compare_86 : decode cX1_compare 86 = .ok (.if_icmp .ne 7, 3) := by decide +kernel
theorem dX1_compare_89 : decode cX1_compare 89 = .ok (.iconst 1, 1) := by decide +kernel
theorem dX1_compare_90 : decode cX1_compare 90 = .ok (.goto 4, 3) := by decide +kernel
theorem dX1_compare_93 : decode cX1_compare 93 = .ok (.iconst 0, 1) := by decide +kernel
theorem dX1_compare_94 : decode cX1_compare 94 = .ok (.ireturn, 1) := by decide +kernel
theorem dX1_compare_95 : decode cX1_compare 95 = .ok (.iload_n 1, 1) := by decide +kernel
theorem dX1_compare_96 : decode cX1_compare 96 = .ok (.iload_n 2, 1) := by decide +kernel
theorem dX1_compare_97 : decode cX1_compare 97 = .ok (.iand, 1) := by decide +kernel
theorem dX1_compare_98 : decode cX1_compare 98 = .ok (.ireturn, 1) := by decide +kernel
theorem dX1_compare_99 : decode cX1_compare 99 = .ok (.iload_n 1, 1) := by decide +kernel
theorem dX1_compare_100 : decode cX1_compare 100 = .ok (.iload_n 2, 1) := by decide +kernel
theorem dX1_compare_101 : decode cX1_compare 101 = .ok (.ior, 1) := by decide +kernel
theorem dX1_compare_102 : decode cX1_compare 102 = .ok (.ireturn, 1) := by decide +kernel
theorem dX1_calculate_0 : decode cX1_calculate 0 = .ok (.lconst 0, 1) := by decide +kernel
theorem dX1_calculate_1 : decode cX1_calculate 1 = .ok (.lstore 5, 2) := by decide +kernel
theorem dX1_calculate_3 : decode cX1_calculate 3 = .ok (.iload_n 0, 1) := by decide +kernel
theorem dX1_calculate_4 : decode cX1_calculate 4 = .ok (.iconst 4, 1) := by decide +kernel
theorem dX1_calculate_5 : decode cX1_calculate 5 = .ok (.if_icmp .ne 11, 3) := by decide +kernel
theorem dX1_calculate_8 : decode cX1_calculate 8 = .ok (.lload_n 1, 1) := by decide +kernel
theorem dX1_calculate_9 : decode cX1_calculate 9 = .ok (.lload_n 3, 1) := by decide +kernel
theorem dX1_calculate_10 : decode cX1_calculate 10 = .ok (.ladd, 1) := by decide +kernel
theorem dX1_calculate_11 : decode cX1_calculate 11 = .ok (.lstore 5, 2) := by decide +kernel
theorem dX1_calculate_13 : decode cX1_calculate 13 = .ok (.goto 113, 3) := by decide +kernel
theorem dX1_calculate_16 : decode cX1_calculate 16 = .ok (.iload_n 0, 1) := by decide +kernel
theorem dX1_calculate_17 : decode cX1_calculate 17 = .ok (.iconst 5, 1) := by decide +kernel
theorem dX1_calculate_18 : decode cX1_calculate 18 = .ok (.if_icmp .ne 11, 3) := by decide +kernel
theorem dX1_calculate_21 : decode cX1_calculate 21 = .ok (.lload_n 1, 1) := by decide +kernel
theorem dX1_calculate_22 : decode cX1_calculate 22 = .ok (.lload_n 3, 1) := by decide +kernel
theorem dX1_calculate_23 : decode cX1_calculate 23 = .ok (.lsub, 1) := by decide +kernel
theorem dX1_calculate_24 : decode cX1_calculate 24 = .ok (.lstore 5, 2) := by decide +kernel
theorem dX1_calculate_26 : decode cX1_calculate 26 = .ok (.goto 100, 3) := by decide +kernel
theorem dX1_calculate_29 : decode cX1_calculate 29 = .ok (.iload_n 0, 1) := by decide +kernel
theorem dX1_calculate_30 : decode cX1_calculate 30 = .ok (.bipush 6, 2) := by decide +kernel
theorem dX1_calculate_32 : decode cX1_calculate 32 = .ok (.if_icmp .ne 11, 3) := by decide +kernel
theorem dX1_calculate_35 : decode cX1_calculate 35 = .ok (.lload_n 1, 1) := by decide +kernel
theorem dX1_calculate_36 : decode cX1_calculate 36 = .ok (.lload_n 3, 1) := by decide +kernel
theorem dX1_calculate_37 : decode cX1_calculate 37 = .ok (.lmul, 1) := by decide +kernel
theorem dX1_calculate_38 : decode cX1_calculate 38 = .ok (.lstore 5, 2) := by decide +kernel
theorem dX1_calculate_40 : decode cX1_calculate 40 = .ok (.goto 86, 3) := by decide +kernel
theorem dX1_calculate_43 : decode cX1_calculate 43 = .ok (.lload_n 3, 1) := by decide +kernel
theorem dX1_calculate_44 : decode cX1_calculate 44 = .ok (.lconst 0, 1) := by decide +kernel
theorem dX1_calculate_45 : decode cX1_calculate 45 = .ok (.lcmp, 1) := by decide +kernel
theorem dX1_calculate_46 : decode cX1_calculate 46 = .ok (.ifCond .eq 80, 3) := by decide +kernel
theorem dX1_calculate_49 : decode cX1_calculate 49 = .ok (.lload_n 1, 1) := by decide +kernel
theorem dX1_calculate_50 : decode cX1_calculate 50 = .ok (.lload_n 3, 1) := by decide +kernel
theorem dX1_calculate_51 : decode cX1_calculate 51 = .ok (.lrem, 1) := by decide +kernel
theorem dX1_calculate_52 : decode cX1_calculate 52 = .ok (.lconst 0, 1) := by decide +kernel
theorem dX1_calculate_53 : decode cX1_calculate 53 = .ok (.lcmp, 1) := by decide +kernel
theorem dX1_calculate_54 : decode cX1_calculate 54 = .ok (.ifCond .eq 32, 3) := by decide +kernel
theorem dX1_calculate_57 : decode cX1_calculate 57 = .ok (.lload_n 1, 1) := by decide +kernel
theorem dX1_calculate_58 : decode cX1_calculate 58 = .ok (.lconst 0, 1) := by decide +kernel
theorem dX1_calculate_59 : decode cX1_calculate 59 = .ok (.lcmp, 1) := by decide +kernel
theorem dX1_calculate_60 : decode cX1_calculate 60 = .ok (.ifCond .ge 7, 3) := by decide +kernel
theorem dX1_calculate_63 : decode cX1_calculate 63 = .ok (.iconst 1, 1) := by decide +kernel
theorem dX1_calculate_64 : decode cX1_calculate 64 = .ok (.goto 4, 3) := by decide +kernel
theorem dX1_calculate_67 : decode cX1_calculate 67 = .ok (.iconst 0, 1) := by decide +kernel
theorem dX1_calculate_68 : decode cX1_calculate 68 = .ok (.lload_n 3, 1) := by decide +kernel
theorem dX1_calculate_69 : decode cX1_calculate 69 = .ok (.lconst 0, 1) := by decide +kernel
theorem dX1_calculate_70 : decode cX1_calculate 70 = .ok (.lcmp, 1) := by decide +kernel
theorem dX1_calculate_71 : decode cX1_calculate 71 = .ok (.ifCond .ge 7, 3) := by decide +kernel
theorem dX1_calculate_74 : decode cX1_calculate 74 = .ok (.iconst 1, 1) := by decide +kernel
theorem dX1_calculate_75 : decode cX1_calculate 75 = .ok (.goto 4, 3) := by decide +kernel
theorem dX1_calculate_78 : decode cX1_calculate 78 = .ok (.iconst 0, 1) := by decide +kernel
theorem dX1_calculate_79 : decode cX1_calculate 79 = .ok (.if_icmp .eq 7, 3) := by decide +kernel
theorem dX1_calculate_82 : decode cX1_calculate 82 = .ok (.iconst 1, 1) := by decide +kernel
theorem dX1_calculate_83 : decode cX1_calculate 83 = .ok (.goto 4, 3) := by decide +kernel
theorem dX1_calculate_86 : decode cX1_calculate 86 = .ok (.iconst 0, 1) := by decide +kernel
theorem dX1_calculate_87 : decode cX1_calculate 87 = .ok (.istore 7, 2) := by decide +kernel
theorem dX1_calculate_89 : decode cX1_calculate 89 = .ok (.iload 7, 2) := by decide +kernel
theorem dX1_calculate_91 : decode cX1_calculate 91 = .ok (.ifCond .eq 11, 3) := by decide +kernel
theorem dX1_calculate_94 : decode cX1_calculate 94 = .ok (.lload_n 1, 1) := by decide +kernel
theorem dX1_calculate_95 : decode cX1_calculate 95 = .ok (.lload_n 3, 1) := by decide +kernel
theorem dX1_calculate_96 : decode cX1_calculate 96 = .ok (.ldiv, 1) := by decide +kernel
theorem dX1_calculate_97 : decode cX1_calculate 97 = .ok (.lconst 1, 1) := by decide +kernel
theorem dX1_calculate_98 : decode cX1_calculate 98 = .ok (.lsub, 1) := by decide +kernel
theorem dX1_calculate_99 : decode cX1_calculate 99 = .ok (.goto 6, 3) := by decide +kernel
theorem dX1_calculate_102 : decode cX1_calculate 102 = .ok (.lload_n 1, 1) := by decide +kernel
theorem dX1_calculate_103 : decode cX1_calculate 103 = .ok (.lload_n 3, 1) := by decide +kernel
theorem dX1_calculate_104 : decode cX1_calculate 104 = .ok (.ldiv, 1) := by decide +kernel
theorem dX1_calculate_105 : decode cX1_calculate 105 = .ok (.lstore 8, 2) := by decide +kernel
theorem dX1_calculate_107 : decode cX1_calculate 107 = .ok (.iload_n 0, 1) := by decide +kernel
theorem dX1_calculate_108 : decode cX1_calculate 108 = .ok (.bipush 7, 2) := by decide +kernel
theorem dX1_calculate_110 : decode cX1_calculate 110 = .ok (.if_icmp .ne 8, 3) := by decide +kernel
theorem dX1_calculate_113 : decode cX1_calculate 113 = .ok (.lload 8, 2) := by decide +kernel
theorem dX1_calculate_115 : decode cX1_calculate 115 = .ok (.goto 9, 3) := by decide +kernel
theorem dX1_calculate_118 : decode cX1_calculate 118 = .ok (.lload_n 1, 1) := by decide +kernel
theorem dX1_calculate_119 : decode cX1_calculate 119 = .ok (.lload_n 3, 1) := by decide +kernel
theorem dX1_calculate_120 : decode cX1_calculate 120 = .ok (.lload 8, 2) := by decide +kernel
theorem dX1_calculate_122 : decode cX1_calculate 122 = .ok (.lmul, 1) := by decide +kernel
theorem dX1_calculate_123 : decode cX1_calculate 123 = .ok (.lsub, 1) := by decide +kernel
theorem dX1_calculate_124 : decode cX1_calculate 124 = .ok (.lstore 5, 2) := by decide +kernel
theorem dX1_calculate_126 : decode cX1_calculate 126 = .ok (.lload 5, 2) := by decide +kernel
theorem dX1_calculate_128 : decode cX1_calculate 128 = .ok (.ldc2_w 42, 3) := by decide +kernel
theorem dX1_calculate_131 : decode cX1_calculate 131 = .ok (.lcmp, 1) := by decide +kernel
theorem dX1_calculate_132 : decode cX1_calculate 132 = .ok (.ifCond .le 9, 3) := by decide +kernel
theorem dX1_calculate_135 : decode cX1_calculate 135 = .ok (.ldc2_w 42, 3) := by decide +kernel
theorem dX1_calculate_138 : decode cX1_calculate 138 = .ok (.goto 20, 3) := by decide +kernel
theorem dX1_calculate_141 : decode cX1_calculate 141 = .ok (.lload 5, 2) := by decide +kernel
theorem dX1_calculate_143 : decode cX1_calculate 143 = .ok (.ldc2_w 44, 3) := by decide +kernel
theorem dX1_calculate_146 : decode cX1_calculate 146 = .ok (.lcmp, 1) := by decide +kernel
theorem dX1_calculate_147 : decode cX1_calculate 147 = .ok (.ifCond .ge 9, 3) := by decide +kernel
theorem dX1_calculate_150 : decode cX1_calculate 150 = .ok (.ldc2_w 44, 3) := by decide +kernel
theorem dX1_calculate_153 : decode cX1_calculate 153 = .ok (.goto 5, 3) := by decide +kernel
theorem dX1_calculate_156 : decode cX1_calculate 156 = .ok (.lload 5, 2) := by decide +kernel
theorem dX1_calculate_158 : decode cX1_calculate 158 = .ok (.l2i, 1) := by decide +kernel
theorem dX1_calculate_159 : decode cX1_calculate 159 = .ok (.ireturn, 1) := by decide +kernel
theorem dX2_init_0 : decode cX2_init 0 = .ok (.aload_n 0, 1) := by decide +kernel
theorem dX2_init_1 : decode cX2_init 1 = .ok (.invokespecial 3, 3) := by decide +kernel
theorem dX2_init_4 : decode cX2_init 4 = .ok (.aload_n 0, 1) := by decide +kernel
theorem dX2_init_5 : decode cX2_init 5 = .ok (.bipush 6, 2) := by decide +kernel
theorem dX2_init_7 : decode cX2_init 7 = .ok (.newarray .int, 2) := by decide +kernel
theorem dX2_init_9 : decode cX2_init 9 = .ok (.putfield 9, 3) := by decide +kernel
theorem dX2_init_12 : decode cX2_init 12 = .ok (.aload_n 0, 1) := by decide +kernel
theorem dX2_init_13 : decode cX2_init 13 = .ok (.bipush 6, 2) := by decide +kernel
theorem dX2_init_15 : decode cX2_init 15 = .ok (.newarray .int, 2) := by decide +kernel
theorem dX2_init_17 : decode cX2_init 17 = .ok (.putfield 15, 3) := by decide +kernel
theorem dX2_init_20 : decode cX2_init 20 = .ok (.aload_n 0, 1) := by decide +kernel
theorem dX2_init_21 : decode cX2_init 21 = .ok (.bipush 6, 2) := by decide +kernel
theorem dX2_init_23 : decode cX2_init 23 = .ok (.newarray .int, 2) := by decide +kernel
theorem dX2_init_25 : decode cX2_init 25 = .ok (.putfield 18, 3) := by decide +kernel
theorem dX2_init_28 : decode cX2_init 28 = .ok (.aload_n 0, 1) := by decide +kernel
theorem dX2_init_29 : decode cX2_init 29 = .ok (.bipush 6, 2) := by decide +kernel
theorem dX2_init_31 : decode cX2_init 31 = .ok (.newarray .int, 2) := by decide +kernel
theorem dX2_init_33 : decode cX2_init 33 = .ok (.putfield 21, 3) := by decide +kernel
theorem dX2_init_36 : decode cX2_init 36 = .ok (.return_, 1) := by decide +kernel
theorem dX2_settle_0 : decode cX2_settle 0 = .ok (.bipush 6, 2) := by decide +kernel
theorem dX2_settle_2 : decode cX2_settle 2 = .ok (.aload_n 1, 1) := by decide +kernel
theorem dX2_settle_3 : decode cX2_settle 3 = .ok (.iconst 2, 1) := by decide +kernel
theorem dX2_settle_4 : decode cX2_settle 4 = .ok (.invokevirtual 24, 3) := by decide +kernel
theorem dX2_settle_7 : decode cX2_settle 7 = .ok (.aload_n 1, 1) := by decide +kernel
theorem dX2_settle_8 : decode cX2_settle 8 = .ok (.iconst 1, 1) := by decide +kernel
theorem dX2_settle_9 : decode cX2_settle 9 = .ok (.invokevirtual 24, 3) := by decide +kernel
theorem dX2_settle_12 : decode cX2_settle 12 = .ok (.invokestatic 30, 3) := by decide +kernel
theorem dX2_settle_15 : decode cX2_settle 15 = .ok (.invokestatic 30, 3) := by decide +kernel
theorem dX2_settle_18 : decode cX2_settle 18 = .ok (.istore_n 3, 1) := by decide +kernel
theorem dX2_settle_19 : decode cX2_settle 19 = .ok (.iconst 1, 1) := by decide +kernel
theorem dX2_settle_20 : decode cX2_settle 20 = .ok (.iload_n 3, 1) := by decide +kernel
theorem dX2_settle_21 : decode cX2_settle 21 = .ok (.ishl, 1) := by decide +kernel
theorem dX2_settle_22 : decode cX2_settle 22 = .ok (.iconst 1, 1) := by decide +kernel
theorem dX2_settle_23 : decode cX2_settle 23 = .ok (.isub, 1) := by decide +kernel
theorem dX2_settle_24 : decode cX2_settle 24 = .ok (.istore 4, 2) := by decide +kernel
theorem dX2_settle_26 : decode cX2_settle 26 = .ok (.iconst 1, 1) := by decide +kernel
theorem dX2_settle_27 : decode cX2_settle 27 = .ok (.istore 5, 2) := by decide +kernel
theorem dX2_settle_29 : decode cX2_settle 29 = .ok (.iload 5, 2) := by decide +kernel
theorem dX2_settle_31 : decode cX2_settle 31 = .ok (.iload_n 3, 1) := by decide +kernel
theorem dX2_settle_32 : decode cX2_settle 32 = .ok (.if_icmp .gt 36, 3) := by decide +kernel
theorem dX2_settle_35 : decode cX2_settle 35 = .ok (.iload 4, 2) := by decide +kernel
theorem dX2_settle_37 : decode cX2_settle 37 = .ok (.ifCond .eq 31, 3) := by decide +kernel
theorem dX2_settle_40 : decode cX2_settle 40 = .ok (.aload_n 0, 1) := by decide +kernel
theorem dX2_settle_41 : decode cX2_settle 41 = .ok (.iload 4, 2) := by decide +kernel
theorem dX2_settle_43 : decode cX2_settle 43 = .ok (.aload_n 2, 1) := by decide +kernel
theorem dX2_settle_44 : decode cX2_settle 44 = .ok (.invokevirtual 36, 3) := by decide +kernel
theorem dX2_settle_47 : decode cX2_settle 47 = .ok (.iload 4, 2) := by decide +kernel
theorem dX2_settle_49 : decode cX2_settle 49 = .ok (.aload_n 0, 1) := by decide +kernel
theorem dX2_settle_50 : decode cX2_settle 50 = .ok (.iload 4, 2) := by decide +kernel
theorem dX2_settle_52 : decode cX2_settle 52 = .ok (.iload 5, 2) := by decide +kernel
theorem dX2_settle_54 : decode cX2_settle 54 = .ok (.invokevirtual 40, 3) := by decide +kernel
theorem dX2_settle_57 : decode cX2_settle 57 = .ok (.iconst (-1), 1) := by decide +kernel
theorem dX2_settle_58 : decode cX2_settle 58 = .ok (.ixor, 1) := by decide +kernel
theorem dX2_settle_59 : decode cX2_settle 59 = .ok (.iand, 1) := by decide +kernel
theorem dX2_settle_60 : decode cX2_settle 60 = .ok (.istore 4, 2) := by decide +kernel
theorem dX2_settle_62 : decode cX2_settle 62 = .ok (.iinc 5 1, 3) := by decide +kernel
theorem dX2_settle_65 : decode cX2_settle 65 = .ok (.goto (-36), 3) := by decide +kernel
theorem dX2_settle_68 : decode cX2_settle 68 = .ok (.return_, 1) := by decide +kernel
theorem dX2_pointAll_0 : decode cX2_pointAll 0 = .ok (.iconst 0, 1) := by decide +kernel
theorem dX2_pointAll_1 : decode cX2_pointAll 1 = .ok (.istore_n 3, 1) := by decide +kernel
theorem dX2_pointAll_2 : decode cX2_pointAll 2 = .ok (.iload_n 3, 1) := by decide +kernel
theorem dX2_pointAll_3 : decode cX2_pointAll 3 = .ok (.bipush 6, 2) := by decide +kernel
theorem dX2_pointAll_5 : decode cX2_pointAll 5 = .ok (.if_icmp .ge 87, 3) := by decide +kernel
theorem dX2_pointAll_8 : decode cX2_pointAll 8 = .ok (.aload_n 0, 1) := by decide +kernel
theorem dX2_pointAll_9 : decode cX2_pointAll 9 = .ok (.getfield 21, 3) := by decide +kernel
theorem dX2_pointAll_12 : decode cX2_pointAll 12 = .ok (.iload_n 3, 1) := by decide +kernel
theorem dX2_pointAll_13 : decode cX2_pointAll 13 = .ok (.iload_n 3, 1) := by decide +kernel
theorem dX2_pointAll_14 : decode cX2_pointAll 14 = .ok (.iastore, 1) := by decide +kernel
theorem dX2_pointAll_15 : decode cX2_pointAll 15 = .ok (.iconst 0, 1) := by decide +kernel
theorem dX2_pointAll_16 : decode cX2_pointAll 16 = .ok (.istore 4, 2) := by decide +kernel
theorem dX2_pointAll_18 : decode cX2_pointAll 18 = .ok (.iload 4, 2) := by decide +kernel
theorem dX2_pointAll_20 : decode cX2_pointAll 20 = .ok (.bipush 6, 2) := by decide +kernel
theorem dX2_pointAll_22 : decode cX2_pointAll 22 = .ok (.if_icmp .ge 64, 3) := by decide +kernel
theorem dX2_pointAll_25 : decode cX2_pointAll 25 = .ok (.iload_n 1, 1) := by decide +kernel
theorem dX2_pointAll_26 : decode cX2_pointAll 26 = .ok (.iload_n 3, 1) := by decide +kernel
theorem dX2_pointAll_27 : decode cX2_pointAll 27 = .ok (.ishr, 1) := by decide +kernel
theorem dX2_pointAll_28 : decode cX2_pointAll 28 = .ok (.iconst 1, 1) := by decide +kernel
theorem dX2_pointAll_29 : decode cX2_pointAll 29 = .ok (.iand, 1) := by decide +kernel
theorem dX2_pointAll_30 : decode cX2_pointAll 30 = .ok (.iconst 1, 1) := by decide +kernel
theorem dX2_pointAll_31 : decode cX2_pointAll 31 = .ok (.if_icmp .ne 17, 3) := by decide +kernel
theorem dX2_pointAll_34 : decode cX2_pointAll 34 = .ok (.iload_n 1, 1) := by decide +kernel
theorem dX2_pointAll_35 : decode cX2_pointAll 35 = .ok (.iload 4, 2) := by decide +kernel
theorem dX2_pointAll_37 : decode cX2_pointAll 37 = .ok (.ishr, 1) := by decide +kernel
theorem dX2_pointAll_38 : decode cX2_pointAll 38 = .ok (.iconst 1, 1) := by decide +kernel
theorem dX2_pointAll_39 : decode cX2_pointAll 39 = .ok (.iand, 1) := by decide +kernel
theorem dX2_pointAll_40 : decode cX2_pointAll 40 = .ok (.iconst 1, 1) := by decide +kernel
theorem dX2_pointAll_41 : decode cX2_pointAll 41 = .ok (.if_icmp .ne 7, 3) := by decide +kernel
theorem dX2_pointAll_44 : decode cX2_pointAll 44 = .ok (.iconst 1, 1) := by decide +kernel
theorem dX2_pointAll_45 : decode cX2_pointAll 45 = .ok (.goto 4, 3) := by decide +kernel
theorem dX2_pointAll_48 : decode cX2_pointAll 48 = .ok (.iconst 0, 1) := by decide +kernel
theorem dX2_pointAll_49 : decode cX2_pointAll 49 = .ok (.istore 5, 2) := by decide +kernel
theorem dX2_pointAll_51 : decode cX2_pointAll 51 = .ok (.iload 5, 2) := by decide +kernel
theorem dX2_pointAll_53 : decode cX2_pointAll 53 = .ok (.ifCond .eq 27, 3) := by decide +kernel
theorem dX2_pointAll_56 : decode cX2_pointAll 56 = .ok (.iload_n 3, 1) := by decide +kernel
theorem dX2_pointAll_57 : decode cX2_pointAll 57 = .ok (.iload 4, 2) := by decide +kernel
theorem dX2_pointAll_59 : decode cX2_pointAll 59 = .ok (.aload_n 0, 1) := by decide +kernel
theorem dX2_pointAll_60 : decode cX2_pointAll 60 = .ok (.getfield 21, 3) := by decide +kernel
theorem dX2_pointAll_63 : decode cX2_pointAll 63 = .ok (.iload_n 3, 1) := by decide +kernel
theorem dX2_pointAll_64 : decode cX2_pointAll 64 = .ok (.iaload, 1) := by decide +kernel
theorem dX2_pointAll_65 : decode cX2_pointAll 65 = .ok (.aload_n 2, 1) := by decide +kernel
theorem dX2_pointAll_66 : decode cX2_pointAll 66 = .ok (.invokestatic 43, 3) := by decide +kernel
theorem dX2_pointAll_69 : decode cX2_pointAll 69 = .ok (.ifCond .eq 11, 3) := by decide +kernel
theorem dX2_pointAll_72 : decode cX2_pointAll 72 = .ok (.aload_n 0, 1) := by decide +kernel
theorem dX2_pointAll_73 : decode cX2_pointAll 73 = .ok (.getfield 21, 3) := by decide +kernel
theorem dX2_pointAll_76 : decode cX2_pointAll 76 = .ok (.iload_n 3, 1) := by decide +kernel
theorem dX2_pointAll_77 : decode cX2_pointAll 77 = .ok (.iload 4, 2) := by decide +kernel
theorem dX2_pointAll_79 : decode cX2_pointAll 79 = .ok (.iastore, 1) := by decide +kernel
theorem dX2_pointAll_80 : decode cX2_pointAll 80 = .ok (.iinc 4 1, 3) := by decide +kernel
theorem dX2_pointAll_83 : decode cX2_pointAll 83 = .ok (.goto (-65), 3) := by decide +kernel
theorem dX2_pointAll_86 : decode cX2_pointAll 86 = .ok (.iinc 3 1, 3) := by decide +kernel
theorem dX2_pointAll_89 : decode cX2_pointAll 89 = .ok (.goto (-87), 3) := by decide +kernel
theorem dX2_pointAll_92 : decode cX2_pointAll 92 = .ok (.return_, 1) := by decide +kernel
theorem dX2_isBetter_0 : decode cX2_isBetter 0 = .ok (.aload_n 3, 1) := by decide +kernel
theorem dX2_isBetter_1 : decode cX2_isBetter 1 = .ok (.iload_n 0, 1) := by decide +kernel
theorem dX2_isBetter_2 : decode cX2_isBetter 2 = .ok (.iload_n 1, 1) := by decide +kernel
theorem dX2_isBetter_3 : decode cX2_isBetter 3 = .ok (.invokevirtual 47, 3) := by decide +kernel
theorem dX2_isBetter_6 : decode cX2_isBetter 6 = .ok (.aload_n 3, 1) := by decide +kernel
theorem dX2_isBetter_7 : decode cX2_isBetter 7 = .ok (.iload_n 0, 1) := by decide +kernel
theorem dX2_isBetter_8 : decode cX2_isBetter 8 = .ok (.iload_n 2, 1) := by decide +kernel
theorem dX2_isBetter_9 : decode cX2_isBetter 9 = .ok (.invokevirtual 47, 3) := by decide +kernel
theorem dX2_isBetter_12 : decode cX2_isBetter 12 = .ok (.if_icmp .le 7, 3) := by decide +kernel
theorem dX2_isBetter_15 : decode cX2_isBetter 15 = .ok (.iconst 1, 1) := by decide +kernel
theorem dX2_isBetter_16 : decode cX2_isBetter 16 = .ok (.goto 4, 3) := by decide +kernel
theorem dX2_isBetter_19 : decode cX2_isBetter 19 = .ok (.iconst 0, 1) := by decide +kernel
theorem dX2_isBetter_20 : decode cX2_isBetter 20 = .ok (.ireturn, 1) := by decide +kernel
theorem dX2_closeRings_0 : decode cX2_closeRings 0 = .ok (.iconst 0, 1) := by decide +kernel
theorem dX2_closeRings_1 : decode cX2_closeRings 1 = .ok (.istore_n 3, 1) := by decide +kernel
theorem dX2_closeRings_2 : decode cX2_closeRings 2 = .ok (.iconst 0, 1) := by decide +kernel
theorem dX2_closeRings_3 : decode cX2_closeRings 3 = .ok (.istore 4, 2) := by decide +kernel
theorem dX2_closeRings_5 : decode cX2_closeRings 5 = .ok (.iload 4, 2) := by decide +kernel
theorem dX2_closeRings_7 : decode cX2_closeRings 7 = .ok (.bipush 6, 2) := by decide +kernel
theorem dX2_closeRings_9 : decode cX2_closeRings 9 = .ok (.if_icmp .ge 74, 3) := by decide +kernel
theorem dX2_closeRings_12 : decode cX2_closeRings 12 = .ok (.iload_n 1, 1) := by decide +kernel
theorem dX2_closeRings_13 : decode cX2_closeRings 13 = .ok (.iload 4, 2) := by decide +kernel
theorem dX2_closeRings_15 : decode cX2_closeRings 15 = .ok (.ishr, 1) := by decide +kernel
theorem dX2_closeRings_16 : decode cX2_closeRings 16 = .ok (.iconst 1, 1) := by decide +kernel
theorem dX2_closeRings_17 : decode cX2_closeRings 17 = .ok (.iand, 1) := by decide +kernel
theorem dX2_closeRings_18 : decode cX2_closeRings 18 = .ok (.iconst 1, 1) := by decide +kernel
theorem dX2_closeRings_19 : decode cX2_closeRings 19 = .ok (.if_icmp .ne 12, 3) := by decide +kernel
theorem dX2_closeRings_22 : decode cX2_closeRings 22 = .ok (.aload_n 0, 1) := by decide +kernel
theorem dX2_closeRings_23 : decode cX2_closeRings 23 = .ok (.iload 4, 2) := by decide +kernel
theorem dX2_closeRings_25 : decode cX2_closeRings 25 = .ok (.invokevirtual 52, 3) := by decide +kernel
theorem dX2_closeRings_28 : decode cX2_closeRings 28 = .ok (.goto 4, 3) := by decide +kernel
theorem dX2_closeRings_31 : decode cX2_closeRings 31 = .ok (.iconst 0, 1) := by decide +kernel
theorem dX2_closeRings_32 : decode cX2_closeRings 32 = .ok (.istore 5, 2) := by decide +kernel
theorem dX2_closeRings_34 : decode cX2_closeRings 34 = .ok (.iload 5, 2) := by decide +kernel
theorem dX2_closeRings_36 : decode cX2_closeRings 36 = .ok (.ifCond .le 41, 3) := by decide +kernel
theorem dX2_closeRings_39 : decode cX2_closeRings 39 = .ok (.aload_n 0, 1) := by decide +kernel
theorem dX2_closeRings_40 : decode cX2_closeRings 40 = .ok (.getfield 9, 3) := by decide +kernel
theorem dX2_closeRings_43 : decode cX2_closeRings 43 = .ok (.iload 4, 2) := by decide +kernel
theorem dX2_closeRings_45 : decode cX2_closeRings 45 = .ok (.aload_n 0, 1) := by decide +kernel
theorem dX2_closeRings_46 : decode cX2_closeRings 46 = .ok (.getfield 21, 3) := by decide +kernel
theorem dX2_closeRings_49 : decode cX2_closeRings 49 = .ok (.iload 4, 2) := by decide +kernel
theorem dX2_closeRings_51 : decode cX2_closeRings 51 = .ok (.iaload, 1) := by decide +kernel
theorem dX2_closeRings_52 : decode cX2_closeRings 52 = .ok (.iastore, 1) := by decide +kernel
theorem dX2_closeRings_53 : decode cX2_closeRings 53 = .ok (.aload_n 0, 1) := by decide +kernel
theorem dX2_closeRings_54 : decode cX2_closeRings 54 = .ok (.getfield 15, 3) := by decide +kernel
theorem dX2_closeRings_57 : decode cX2_closeRings 57 = .ok (.iload 4, 2) := by decide +kernel
theorem dX2_closeRings_59 : decode cX2_closeRings 59 = .ok (.iload_n 2, 1) := by decide +kernel
theorem dX2_closeRings_60 : decode cX2_closeRings 60 = .ok (.iastore, 1) := by decide +kernel
theorem dX2_closeRings_61 : decode cX2_closeRings 61 = .ok (.aload_n 0, 1) := by decide +kernel
theorem dX2_closeRings_62 : decode cX2_closeRings 62 = .ok (.getfield 18, 3) := by decide +kernel
theorem dX2_closeRings_65 : decode cX2_closeRings 65 = .ok (.iload 4, 2) := by decide +kernel
theorem dX2_closeRings_67 : decode cX2_closeRings 67 = .ok (.iload 5, 2) := by decide +kernel
theorem dX2_closeRings_69 : decode cX2_closeRings 69 = .ok (.iastore, 1) := by decide +kernel
theorem dX2_closeRings_70 : decode cX2_closeRings 70 = .ok (.iload_n 3, 1) := by decide +kernel
theorem dX2_closeRings_71 : decode cX2_closeRings 71 = .ok (.iconst 1, 1) := by decide +kernel
theorem dX2_closeRings_72 : decode cX2_closeRings 72 = .ok (.iload 4, 2) := by decide +kernel
theorem dX2_closeRings_74 : decode cX2_closeRings 74 = .ok (.ishl, 1) := by decide +kernel
theorem dX2_closeRings_75 : decode cX2_closeRings 75 = .ok (.ior, 1) := by decide +kernel
theorem dX2_closeRings_76 : decode cX2_closeRings 76 = .ok (.istore_n 3, 1) := by decide +kernel
theorem dX2_closeRings_77 : decode cX2_closeRings 77 = .ok (.iinc 4 1, 3) := by decide +kernel
theorem dX2_closeRings_80 : decode cX2_closeRings 80 = .ok (.goto (-75), 3) := by decide +kernel
theorem dX2_closeRings_83 : decode cX2_closeRings 83 = .ok (.iload_n 3, 1) := by decide +kernel
theorem dX2_closeRings_84 : decode cX2_closeRings 84 = .ok (.ireturn, 1) := by decide +kernel
theorem dX2_ringSize_0 : decode cX2_ringSize 0 = .ok (.iload_n 1, 1) := by decide +kernel
theorem dX2_ringSize_1 : decode cX2_ringSize 1 = .ok (.istore_n 2, 1) := by decide +kernel
theorem dX2_ringSize_2 : decode cX2_ringSize 2 = .ok (.iconst 1, 1) := by decide +kernel
theorem dX2_ringSize_3 : decode cX2_ringSize 3 = .ok (.istore_n 3, 1) := by decide +kernel
theorem dX2_ringSize_4 : decode cX2_ringSize 4 = .ok (.iload_n 3, 1) := by decide +kernel
theorem dX2_ringSize_5 : decode cX2_ringSize 5 = .ok (.bipush 6, 2) := by decide +kernel
theorem dX2_ringSize_7 : decode cX2_ringSize 7 = .ok (.if_icmp .gt 35, 3) := by decide +kernel
theorem dX2_ringSize_10 : decode cX2_ringSize 10 = .ok (.iload_n 2, 1) := by decide +kernel
theorem dX2_ringSize_11 : decode cX2_ringSize 11 = .ok (.ifCond .lt 9, 3) := by decide +kernel
theorem dX2_ringSize_14 : decode cX2_ringSize 14 = .ok (.iload_n 2, 1) := by decide +kernel
theorem dX2_ringSize_15 : decode cX2_ringSize 15 = .ok (.bipush 6, 2) := by decide +kernel
theorem dX2_ringSize_17 : decode cX2_ringSize 17 = .ok (.if_icmp .lt 5, 3) := by decide +kernel
theorem dX2_ringSize_20 : decode cX2_ringSize 20 = .ok (.iconst 0, 1) := by decide +kernel
theorem dX2_ringSize_21 : decode cX2_ringSize 21 = .ok (.ireturn, 1) := by decide +kernel
theorem dX2_ringSize_22 : decode cX2_ringSize 22 = .ok (.aload_n 0, 1) := by decide +kernel
theorem dX2_ringSize_23 : decode cX2_ringSize 23 = .ok (.getfield 21, 3) := by decide +kernel
theorem dX2_ringSize_26 : decode cX2_ringSize 26 = .ok (.iload_n 2, 1) := by decide +kernel
theorem dX2_ringSize_27 : decode cX2_ringSize 27 = .ok (.iaload, 1) := by decide +kernel
theorem dX2_ringSize_28 : decode cX2_ringSize 28 = .ok (.istore_n 2, 1) := by decide +kernel
theorem dX2_ringSize_29 : decode cX2_ringSize 29 = .ok (.iload_n 2, 1) := by decide +kernel
theorem dX2_ringSize_30 : decode cX2_ringSize 30 = .ok (.iload_n 1, 1) := by decide +kernel
theorem dX2_ringSize_31 : decode cX2_ringSize 31 = .ok (.if_icmp .ne 5, 3) := by decide +kernel
theorem dX2_ringSize_34 : decode cX2_ringSize 34 = .ok (.iload_n 3, 1) := by decide +kernel
theorem dX2_ringSize_35 : decode cX2_ringSize 35 = .ok (.ireturn, 1) := by decide +kernel
theorem dX2_ringSize_36 : decode cX2_ringSize 36 = .ok (.iinc 3 1, 3) := by decide +kernel
theorem dX2_ringSize_39 : decode cX2_ringSize 39 = .ok (.goto (-35), 3) := by decide +kernel
theorem dX2_ringSize_42 : decode cX2_ringSize 42 = .ok (.iconst 0, 1) := by decide +kernel
theorem dX2_ringSize_43 : decode cX2_ringSize 43 = .ok (.ireturn, 1) := by decide +kernel
theorem dX3_init_0 : decode cX3_init 0 = .ok (.aload_n 0, 1) := by decide +kernel
theorem dX3_init_1 : decode cX3_init 1 = .ok (.invokespecial 3, 3) := by decide +kernel
theorem dX3_init_4 : decode cX3_init 4 = .ok (.aload_n 0, 1) := by decide +kernel
theorem dX3_init_5 : decode cX3_init 5 = .ok (.bipush 20, 2) := by decide +kernel
theorem dX3_init_7 : decode cX3_init 7 = .ok (.anewarray 11, 3) := by decide +kernel
theorem dX3_init_10 : decode cX3_init 10 = .ok (.putfield 13, 3) := by decide +kernel
theorem dX3_init_13 : decode cX3_init 13 = .ok (.aload_n 0, 1) := by decide +kernel
theorem dX3_init_14 : decode cX3_init 14 = .ok (.sipush 240, 3) := by decide +kernel
theorem dX3_init_17 : decode cX3_init 17 = .ok (.newarray .int, 2) := by decide +kernel
theorem dX3_init_19 : decode cX3_init 19 = .ok (.putfield 17, 3) := by decide +kernel
theorem dX3_init_22 : decode cX3_init 22 = .ok (.iconst 0, 1) := by decide +kernel
theorem dX3_init_23 : decode cX3_init 23 = .ok (.istore_n 1, 1) := by decide +kernel
theorem dX3_init_24 : decode cX3_init 24 = .ok (.iload_n 1, 1) := by decide +kernel
theorem dX3_init_25 : decode cX3_init 25 = .ok (.bipush 20, 2) := by decide +kernel
theorem dX3_init_27 : decode cX3_init 27 = .ok (.if_icmp .ge 22, 3) := by decide +kernel
theorem dX3_init_30 : decode cX3_init 30 = .ok (.aload_n 0, 1) := by decide +kernel
theorem dX3_init_31 : decode cX3_init 31 = .ok (.getfield 13, 3) := by decide +kernel
theorem dX3_init_34 : decode cX3_init 34 = .ok (.iload_n 1, 1) := by decide +kernel
theorem dX3_init_35 : decode cX3_init 35 = .ok (.new 11, 3) := by decide +kernel
theorem dX3_init_38 : decode cX3_init 38 = .ok (.dup, 1) := by decide +kernel
theorem dX3_init_39 : decode cX3_init 39 = .ok (.invokespecial 21, 3) := by decide +kernel
theorem dX3_init_42 : decode cX3_init 42 = .ok (.aastore, 1) := by decide +kernel
theorem dX3_init_43 : decode cX3_init 43 = .ok (.iinc 1 1, 3) := by decide +kernel
theorem dX3_init_46 : decode cX3_init 46 = .ok (.goto (-22), 3) := by decide +kernel
theorem dX3_init_49 : decode cX3_init 49 = .ok (.return_, 1) := by decide +kernel
theorem dX3_clear_0 : decode cX3_clear 0 = .ok (.aload_n 0, 1) := by decide +kernel
theorem dX3_clear_1 : decode cX3_clear 1 = .ok (.iconst 0, 1) := by decide +kernel
theorem dX3_clear_2 : decode cX3_clear 2 = .ok (.putfield 22, 3) := by decide +kernel
theorem dX3_clear_5 : decode cX3_clear 5 = .ok (.aload_n 0, 1) := by decide +kernel
theorem dX3_clear_6 : decode cX3_clear 6 = .ok (.iconst 0, 1) := by decide +kernel
theorem dX3_clear_7 : decode cX3_clear 7 = .ok (.putfield 26, 3) := by decide +kernel
theorem dX3_clear_10 : decode cX3_clear 10 = .ok (.return_, 1) := by decide +kernel
theorem dX3_saveAt_0 : decode cX3_saveAt 0 = .ok (.iload_n 1, 1) := by decide +kernel
theorem dX3_saveAt_1 : decode cX3_saveAt 1 = .ok (.ifCond .lt 18, 3) := by decide +kernel
theorem dX3_saveAt_4 : decode cX3_saveAt 4 = .ok (.iload_n 1, 1) := by decide +kernel
theorem dX3_saveAt_5 : decode cX3_saveAt 5 = .ok (.bipush 20, 2) := by decide +kernel
theorem dX3_saveAt_7 : decode cX3_saveAt 7 = .ok (.if_icmp .ge 12, 3) := by decide +kernel
theorem dX3_saveAt_10 : decode cX3_saveAt 10 = .ok (.aload_n 0, 1) := by decide +kernel
theorem dX3_saveAt_11 : decode cX3_saveAt 11 = .ok (.getfield 13, 3) := by decide +kernel
theorem dX3_saveAt_14 : decode cX3_saveAt 14 = .ok (.iload_n 1, 1) := by decide +kernel
theorem dX3_saveAt_15 : decode cX3_saveAt 15 = .ok (.aaload, 1) := by decide +kernel
theorem dX3_saveAt_16 : decode cX3_saveAt 16 = .ok (.goto 4, 3) := by decide +kernel
theorem dX3_saveAt_19 : decode cX3_saveAt 19 = .ok (.aconst_null, 1) := by decide +kernel
theorem dX3_saveAt_20 : decode cX3_saveAt 20 = .ok (.areturn, 1) := by decide +kernel
theorem dX3_save_0 : decode cX3_save 0 = .ok (.aload_n 0, 1) := by decide +kernel
theorem dX3_save_1 : decode cX3_save 1 = .ok (.aload_n 0, 1) := by decide +kernel
theorem dX3_save_2 : decode cX3_save 2 = .ok (.getfield 22, 3) := by decide +kernel
theorem dX3_save_5 : decode cX3_save 5 = .ok (.invokevirtual 29, 3) := by decide +kernel
theorem dX3_save_8 : decode cX3_save 8 = .ok (.astore_n 2, 1) := by decide +kernel
theorem dX3_save_9 : decode cX3_save 9 = .ok (.aload_n 2, 1) := by decide +kernel
theorem dX3_save_10 : decode cX3_save 10 = .ok (.ifnonnull 4, 3) := by decide +kernel
theorem dX3_save_13 : decode cX3_save 13 = .ok (.return_, 1) := by decide +kernel
theorem dX3_save_14 : decode cX3_save 14 = .ok (.aload_n 2, 1) := by decide +kernel
theorem dX3_save_15 : decode cX3_save 15 = .ok (.aload_n 1, 1) := by decide +kernel
theorem dX3_save_16 : decode cX3_save 16 = .ok (.invokevirtual 33, 3) := by decide +kernel
theorem dX3_save_19 : decode cX3_save 19 = .ok (.aload_n 0, 1) := by decide +kernel
theorem dX3_save_20 : decode cX3_save 20 = .ok (.aload_n 0, 1) := by decide +kernel
theorem dX3_save_21 : decode cX3_save 21 = .ok (.getfield 22, 3) := by decide +kernel
theorem dX3_save_24 : decode cX3_save 24 = .ok (.iconst 1, 1) := by decide +kernel
theorem dX3_save_25 : decode cX3_save 25 = .ok (.iadd, 1) := by decide +kernel
theorem dX3_save_26 : decode cX3_save 26 = .ok (.bipush 20, 2) := by decide +kernel
theorem dX3_save_28 : decode cX3_save 28 = .ok (.irem, 1) := by decide +kernel
theorem dX3_save_29 : decode cX3_save 29 = .ok (.putfield 22, 3) := by decide +kernel
theorem dX3_save_32 : decode cX3_save 32 = .ok (.aload_n 0, 1) := by decide +kernel
theorem dX3_save_33 : decode cX3_save 33 = .ok (.bipush 20, 2) := by decide +kernel
theorem dX3_save_35 : decode cX3_save 35 = .ok (.aload_n 0, 1) := by decide +kernel
theorem dX3_save_36 : decode cX3_save 36 = .ok (.getfield 26, 3) := by decide +kernel
theorem dX3_save_39 : decode cX3_save 39 = .ok (.iconst 1, 1) := by decide +kernel
theorem dX3_save_40 : decode cX3_save 40 = .ok (.iadd, 1) := by decide +kernel
theorem dX3_save_41 : decode cX3_save 41 = .ok (.invokestatic 37, 3) := by decide +kernel
theorem dX3_save_44 : decode cX3_save 44 = .ok (.putfield 26, 3) := by decide +kernel
theorem dX3_save_47 : decode cX3_save 47 = .ok (.return_, 1) := by decide +kernel
theorem dX3_restore_0 : decode cX3_restore 0 = .ok (.aload_n 0, 1) := by decide +kernel
theorem dX3_restore_1 : decode cX3_restore 1 = .ok (.getfield 22, 3) := by decide +kernel
theorem dX3_restore_4 : decode cX3_restore 4 = .ok (.bipush 20, 2) := by decide +kernel
theorem dX3_restore_6 : decode cX3_restore 6 = .ok (.iadd, 1) := by decide +kernel
theorem dX3_restore_7 : decode cX3_restore 7 = .ok (.iconst 1, 1) := by decide +kernel
theorem dX3_restore_8 : decode cX3_restore 8 = .ok (.isub, 1) := by decide +kernel
theorem dX3_restore_9 : decode cX3_restore 9 = .ok (.bipush 20, 2) := by decide +kernel
theorem dX3_restore_11 : decode cX3_restore 11 = .ok (.irem, 1) := by decide +kernel
theorem dX3_restore_12 : decode cX3_restore 12 = .ok (.istore_n 2, 1) := by decide +kernel
theorem dX3_restore_13 : decode cX3_restore 13 = .ok (.aload_n 0, 1) := by decide +kernel
theorem dX3_restore_14 : decode cX3_restore 14 = .ok (.iload_n 2, 1) := by decide +kernel
theorem dX3_restore_15 : decode cX3_restore 15 = .ok (.invokevirtual 29, 3) := by decide +kernel
theorem dX3_restore_18 : decode cX3_restore 18 = .ok (.astore_n 3, 1) := by decide +kernel
theorem dX3_restore_19 : decode cX3_restore 19 = .ok (.aload_n 0, 1) := by decide +kernel
theorem dX3_restore_20 : decode cX3_restore 20 = .ok (.getfield 26, 3) := by decide +kernel
theorem dX3_restore_23 : decode cX3_restore 23 = .ok (.ifCond .eq 7, 3) := by decide +kernel
theorem dX3_restore_26 : decode cX3_restore 26 = .ok (.aload_n 3, 1) := by decide +kernel
theorem dX3_restore_27 : decode cX3_restore 27 = .ok (.ifnonnull 5, 3) := by decide +kernel
theorem dX3_restore_30 : decode cX3_restore 30 = .ok (.iconst 0, 1) := by decide +kernel
theorem dX3_restore_31 : decode cX3_restore 31 = .ok (.ireturn, 1) := by decide +kernel
theorem dX3_restore_32 : decode cX3_restore 32 = .ok (.aload_n 0, 1) := by decide +kernel
theorem dX3_restore_33 : decode cX3_restore 33 = .ok (.iload_n 2, 1) := by decide +kernel
theorem dX3_restore_34 : decode cX3_restore 34 = .ok (.putfield 22, 3) := by decide +kernel
theorem dX3_restore_37 : decode cX3_restore 37 = .ok (.aload_n 0, 1) := by decide +kernel
theorem dX3_restore_38 : decode cX3_restore 38 = .ok (.dup, 1) := by decide +kernel
theorem dX3_restore_39 : decode cX3_restore 39 = .ok (.getfield 26, 3) := by decide +kernel
theorem dX3_restore_42 : decode cX3_restore 42 = .ok (.iconst 1, 1) := by decide +kernel
theorem dX3_restore_43 : decode cX3_restore 43 = .ok (.isub, 1) := by decide +kernel
theorem dX3_restore_44 : decode cX3_restore 44 = .ok (.putfield 26, 3) := by decide +kernel
theorem dX3_restore_47 : decode cX3_restore 47 = .ok (.aload_n 1, 1) := by decide +kernel
theorem dX3_restore_48 : decode cX3_restore 48 = .ok (.aload_n 3, 1) := by decide +kernel
theorem dX3_restore_49 : decode cX3_restore 49 = .ok (.invokevirtual 33, 3) := by decide +kernel
theorem dX3_restore_52 : decode cX3_restore 52 = .ok (.iconst 1, 1) := by decide +kernel
theorem dX3_restore_53 : decode cX3_restore 53 = .ok (.ireturn, 1) := by decide +kernel
theorem dX3_keep_0 : decode cX3_keep 0 = .ok (.aload_n 1, 1) := by decide +kernel
theorem dX3_keep_1 : decode cX3_keep 1 = .ok (.getfield 43, 3) := by decide +kernel
theorem dX3_keep_4 : decode cX3_keep 4 = .ok (.istore 5, 2) := by decide +kernel
theorem dX3_keep_6 : decode cX3_keep 6 = .ok (.iload 5, 2) := by decide +kernel
theorem dX3_keep_8 : decode cX3_keep 8 = .ok (.ifCond .lt 10, 3) := by decide +kernel
theorem dX3_keep_11 : decode cX3_keep 11 = .ok (.iload 5, 2) := by decide +kernel
theorem dX3_keep_13 : decode cX3_keep 13 = .ok (.bipush 60, 2) := by decide +kernel
theorem dX3_keep_15 : decode cX3_keep 15 = .ok (.if_icmp .lt 4, 3) := by decide +kernel
theorem dX3_keep_18 : decode cX3_keep 18 = .ok (.return_, 1) := by decide +kernel
theorem dX3_keep_19 : decode cX3_keep 19 = .ok (.aload_n 0, 1) := by decide +kernel
theorem dX3_keep_20 : decode cX3_keep 20 = .ok (.getfield 17, 3) := by decide +kernel
theorem dX3_keep_23 : decode cX3_keep 23 = .ok (.iload 5, 2) := by decide +kernel
theorem dX3_keep_25 : decode cX3_keep 25 = .ok (.iconst 4, 1) := by decide +kernel
theorem dX3_keep_26 : decode cX3_keep 26 = .ok (.imul, 1) := by decide +kernel
theorem dX3_keep_27 : decode cX3_keep 27 = .ok (.aload_n 1, 1) := by decide +kernel
theorem dX3_keep_28 : decode cX3_keep 28 = .ok (.getfield 46, 3) := by decide +kernel
theorem dX3_keep_31 : decode cX3_keep 31 = .ok (.iastore, 1) := by decide +kernel
theorem dX3_keep_32 : decode cX3_keep 32 = .ok (.aload_n 0, 1) := by decide +kernel
theorem dX3_keep_33 : decode cX3_keep 33 = .ok (.getfield 17, 3) := by decide +kernel
theorem dX3_keep_36 : decode cX3_keep 36 = .ok (.iload 5, 2) := by decide +kernel
theorem dX3_keep_38 : decode cX3_keep 38 = .ok (.iconst 4, 1) := by decide +kernel
theorem dX3_keep_39 : decode cX3_keep 39 = .ok (.imul, 1) := by decide +kernel
theorem dX3_keep_40 : decode cX3_keep 40 = .ok (.iconst 1, 1) := by decide +kernel
theorem dX3_keep_41 : decode cX3_keep 41 = .ok (.iadd, 1) := by decide +kernel
theorem dX3_keep_42 : decode cX3_keep 42 = .ok (.iload_n 2, 1) := by decide +kernel
theorem dX3_keep_43 : decode cX3_keep 43 = .ok (.iastore, 1) := by decide +kernel
theorem dX3_keep_44 : decode cX3_keep 44 = .ok (.aload_n 0, 1) := by decide +kernel
theorem dX3_keep_45 : decode cX3_keep 45 = .ok (.getfield 17, 3) := by decide +kernel
theorem dX3_keep_48 : decode cX3_keep 48 = .ok (.iload 5, 2) := by decide +kernel
theorem dX3_keep_50 : decode cX3_keep 50 = .ok (.iconst 4, 1) := by decide +kernel
theorem dX3_keep_51 : decode cX3_keep 51 = .ok (.imul, 1) := by decide +kernel
theorem dX3_keep_52 : decode cX3_keep 52 = .ok (.iconst 2, 1) := by decide +kernel
theorem dX3_keep_53 : decode cX3_keep 53 = .ok (.iadd, 1) := by decide +kernel
theorem dX3_keep_54 : decode cX3_keep 54 = .ok (.iload_n 3, 1) := by decide +kernel
theorem dX3_keep_55 : decode cX3_keep 55 = .ok (.iastore, 1) := by decide +kernel
theorem dX3_keep_56 : decode cX3_keep 56 = .ok (.aload_n 0, 1) := by decide +kernel
theorem dX3_keep_57 : decode cX3_keep 57 = .ok (.getfield 17, 3) := by decide +kernel
theorem dX3_keep_60 : decode cX3_keep 60 = .ok (.iload 5, 2) := by decide +kernel
theorem dX3_keep_62 : decode cX3_keep 62 = .ok (.iconst 4, 1) := by decide +kernel
theorem dX3_keep_63 : decode cX3_keep 63 = .ok (.imul, 1) := by decide +kernel
theorem dX3_keep_64 : decode cX3_keep 64 = .ok (.iconst 3, 1) := by decide +kernel
theorem dX3_keep_65 : decode cX3_keep 65 = .ok (.iadd, 1) := by decide +kernel
theorem dX3_keep_66 : decode cX3_keep 66 = .ok (.iload 4, 2) := by decide +kernel
theorem dX3_keep_68 : decode cX3_keep 68 = .ok (.iastore, 1) := by decide +kernel
theorem dX3_keep_69 : decode cX3_keep 69 = .ok (.aload_n 1, 1) := by decide +kernel
theorem dX3_keep_70 : decode cX3_keep 70 = .ok (.iload 5, 2) := by decide +kernel
theorem dX3_keep_72 : decode cX3_keep 72 = .ok (.iconst 1, 1) := by decide +kernel
theorem dX3_keep_73 : decode cX3_keep 73 = .ok (.iadd, 1) := by decide +kernel
theorem dX3_keep_74 : decode cX3_keep 74 = .ok (.putfield 43, 3) := by decide +kernel
theorem dX3_keep_77 : decode cX3_keep 77 = .ok (.return_, 1) := by decide +kernel
theorem dX3_keptPart_0 : decode cX3_keptPart 0 = .ok (.iload_n 1, 1) := by decide +kernel
theorem dX3_keptPart_1 : decode cX3_keptPart 1 = .ok (.ifCond .lt 22, 3) := by decide +kernel
theorem dX3_keptPart_4 : decode cX3_keptPart 4 = .ok (.iload_n 1, 1) := by decide +kernel
theorem dX3_keptPart_5 : decode cX3_keptPart 5 = .ok (.bipush 60, 2) := by decide +kernel
theorem dX3_keptPart_7 : decode cX3_keptPart 7 = .ok (.if_icmp .ge 16, 3) := by decide +kernel
theorem dX3_keptPart_10 : decode cX3_keptPart 10 = .ok (.iload_n 2, 1) := by decide +kernel
theorem dX3_keptPart_11 : decode cX3_keptPart 11 = .ok (.ifCond .lt 12, 3) := by decide +kernel
theorem dX3_keptPart_14 : decode cX3_keptPart 14 = .ok (.iload_n 2, 1) := by decide +kernel
theorem dX3_keptPart_15 : decode cX3_keptPart 15 = .ok (.iconst 4, 1) := by decide +kernel
theorem dX3_keptPart_16 : decode cX3_keptPart 16 = .ok (.if_icmp .ge 7, 3) := by decide +kernel
theorem dX3_keptPart_19 : decode cX3_keptPart 19 = .ok (.iconst 1, 1) := by decide +kernel
theorem dX3_keptPart_20 : decode cX3_keptPart 20 = .ok (.goto 4, 3) := by decide +kernel
theorem dX3_keptPart_23 : decode cX3_keptPart 23 = .ok (.iconst 0, 1) := by decide +kernel
theorem dX3_keptPart_24 : decode cX3_keptPart 24 = .ok (.istore_n 3, 1) := by decide +kernel
theorem dX3_keptPart_25 : decode cX3_keptPart 25 = .ok (.iload_n 3, 1) := by decide +kernel
theorem dX3_keptPart_26 : decode cX3_keptPart 26 = .ok (.ifCond .eq 16, 3) := by decide +kernel
theorem dX3_keptPart_29 : decode cX3_keptPart 29 = .ok (.aload_n 0, 1) := by decide +kernel
theorem dX3_keptPart_30 : decode cX3_keptPart 30 = .ok (.getfield 17, 3) := by decide +kernel
theorem dX3_keptPart_33 : decode cX3_keptPart 33 = .ok (.iload_n 1, 1) := by decide +kernel
theorem dX3_keptPart_34 : decode cX3_keptPart 34 = .ok (.iconst 4, 1) := by decide +kernel
theorem dX3_keptPart_35 : decode cX3_keptPart 35 = .ok (.imul, 1) := by decide +kernel
theorem dX3_keptPart_36 : decode cX3_keptPart 36 = .ok (.iload_n 2, 1) := by decide +kernel
theorem dX3_keptPart_37 : decode cX3_keptPart 37 = .ok (.iadd, 1) := by decide +kernel
theorem dX3_keptPart_38 : decode cX3_keptPart 38 = .ok (.iaload, 1) := by decide +kernel
theorem dX3_keptPart_39 : decode cX3_keptPart 39 = .ok (.goto 4, 3) := by decide +kernel
theorem dX3_keptPart_42 : decode cX3_keptPart 42 = .ok (.iconst (-1), 1) := by decide +kernel
theorem dX3_keptPart_43 : decode cX3_keptPart 43 = .ok (.ireturn, 1) := by decide +kernel
theorem dX4_init_0 : decode cX4_init 0 = .ok (.aload_n 0, 1) := by decide +kernel
theorem dX4_init_1 : decode cX4_init 1 = .ok (.invokespecial 3, 3) := by decide +kernel
theorem dX4_init_4 : decode cX4_init 4 = .ok (.aload_n 0, 1) := by decide +kernel
theorem dX4_init_5 : decode cX4_init 5 = .ok (.bipush 95, 2) := by decide +kernel
theorem dX4_init_7 : decode cX4_init 7 = .ok (.newarray .int, 2) := by decide +kernel
theorem dX4_init_9 : decode cX4_init 9 = .ok (.putfield 11, 3) := by decide +kernel
theorem dX4_init_12 : decode cX4_init 12 = .ok (.aload_n 0, 1) := by decide +kernel
theorem dX4_init_13 : decode cX4_init 13 = .ok (.new 15, 3) := by decide +kernel
theorem dX4_init_16 : decode cX4_init 16 = .ok (.dup, 1) := by decide +kernel
theorem dX4_init_17 : decode cX4_init 17 = .ok (.invokespecial 17, 3) := by decide +kernel
theorem dX4_init_20 : decode cX4_init 20 = .ok (.putfield 18, 3) := by decide +kernel
theorem dX4_init_23 : decode cX4_init 23 = .ok (.return_, 1) := by decide +kernel
theorem dX4_sizeOf_0 : decode cX4_sizeOf 0 = .ok (.aload_n 0, 1) := by decide +kernel
theorem dX4_sizeOf_1 : decode cX4_sizeOf 1 = .ok (.iconst 1, 1) := by decide +kernel
theorem dX4_sizeOf_2 : decode cX4_sizeOf 2 = .ok (.invokevirtual 22, 3) := by decide +kernel
theorem dX4_sizeOf_5 : decode cX4_sizeOf 5 = .ok (.istore_n 1, 1) := by decide +kernel
theorem dX4_sizeOf_6 : decode cX4_sizeOf 6 = .ok (.iconst 4, 1) := by decide +kernel
theorem dX4_sizeOf_7 : decode cX4_sizeOf 7 = .ok (.iconst 3, 1) := by decide +kernel
theorem dX4_sizeOf_8 : decode cX4_sizeOf 8 = .ok (.iload_n 1, 1) := by decide +kernel
theorem dX4_sizeOf_9 : decode cX4_sizeOf 9 = .ok (.imul, 1) := by decide +kernel
theorem dX4_sizeOf_10 : decode cX4_sizeOf 10 = .ok (.iadd, 1) := by decide +kernel
theorem dX4_sizeOf_11 : decode cX4_sizeOf 11 = .ok (.aload_n 0, 1) := by decide +kernel
theorem dX4_sizeOf_12 : decode cX4_sizeOf 12 = .ok (.iconst 2, 1) := by decide +kernel
theorem dX4_sizeOf_13 : decode cX4_sizeOf 13 = .ok (.invokevirtual 22, 3) := by decide +kernel
theorem dX4_sizeOf_16 : decode cX4_sizeOf 16 = .ok (.iload_n 1, 1) := by decide +kernel
theorem dX4_sizeOf_17 : decode cX4_sizeOf 17 = .ok (.imul, 1) := by decide +kernel
theorem dX4_sizeOf_18 : decode cX4_sizeOf 18 = .ok (.iadd, 1) := by decide +kernel
theorem dX4_sizeOf_19 : decode cX4_sizeOf 19 = .ok (.iconst 3, 1) := by decide +kernel
theorem dX4_sizeOf_20 : decode cX4_sizeOf 20 = .ok (.aload_n 0, 1) := by decide +kernel
theorem dX4_sizeOf_21 : decode cX4_sizeOf 21 = .ok (.iconst 3, 1) := by decide +kernel
theorem dX4_sizeOf_22 : decode cX4_sizeOf 22 = .ok (.invokevirtual 22, 3) := by decide +kernel
theorem dX4_sizeOf_25 : decode cX4_sizeOf 25 = .ok (.imul, 1) := by decide +kernel
theorem dX4_sizeOf_26 : decode cX4_sizeOf 26 = .ok (.iadd, 1) := by decide +kernel
theorem dX4_sizeOf_27 : decode cX4_sizeOf 27 = .ok (.iconst 1, 1) := by decide +kernel
theorem dX4_sizeOf_28 : decode cX4_sizeOf 28 = .ok (.iadd, 1) := by decide +kernel
theorem dX4_sizeOf_29 : decode cX4_sizeOf 29 = .ok (.ireturn, 1) := by decide +kernel
theorem dX4_sumOf_0 : decode cX4_sumOf 0 = .ok (.sipush 157, 3) := by decide +kernel
theorem dX4_sumOf_3 : decode cX4_sumOf 3 = .ok (.istore_n 2, 1) := by decide +kernel
theorem dX4_sumOf_4 : decode cX4_sumOf 4 = .ok (.iconst 0, 1) := by decide +kernel
theorem dX4_sumOf_5 : decode cX4_sumOf 5 = .ok (.istore_n 3, 1) := by decide +kernel
theorem dX4_sumOf_6 : decode cX4_sumOf 6 = .ok (.iload_n 3, 1) := by decide +kernel
theorem dX4_sumOf_7 : decode cX4_sumOf 7 = .ok (.iload_n 1, 1) := by decide +kernel
theorem dX4_sumOf_8 : decode cX4_sumOf 8 = .ok (.if_icmp .ge 27, 3) := by decide +kernel
theorem dX4_sumOf_11 : decode cX4_sumOf 11 = .ok (.iload_n 3, 1) := by decide +kernel
theorem dX4_sumOf_12 : decode cX4_sumOf 12 = .ok (.aload_n 0, 1) := by decide +kernel
theorem dX4_sumOf_13 : decode cX4_sumOf 13 = .ok (.arraylength, 1) := by decide +kernel
theorem dX4_sumOf_14 : decode cX4_sumOf 14 = .ok (.if_icmp .ge 21, 3) := by decide +kernel
theorem dX4_sumOf_17 : decode cX4_sumOf 17 = .ok (.iconst 5, 1) := by decide +kernel
theorem dX4_sumOf_18 : decode cX4_sumOf 18 = .ok (.iload_n 2, 1) := by decide +kernel
theorem dX4_sumOf_19 : decode cX4_sumOf 19 = .ok (.imul, 1) := by decide +kernel
theorem dX4_sumOf_20 : decode cX4_sumOf 20 = .ok (.aload_n 0, 1) := by decide +kernel
theorem dX4_sumOf_21 : decode cX4_sumOf 21 = .ok (.iload_n 3, 1) := by decide +kernel
theorem dX4_sumOf_22 : decode cX4_sumOf 22 = .ok (.iaload, 1) := by decide +kernel
theorem dX4_sumOf_23 : decode cX4_sumOf 23 = .ok (.iadd, 1) := by decide +kernel
theorem dX4_sumOf_24 : decode cX4_sumOf 24 = .ok (.sipush 251, 3) := by decide +kernel
theorem dX4_sumOf_27 : decode cX4_sumOf 27 = .ok (.irem, 1) := by decide +kernel
theorem dX4_sumOf_28 : decode cX4_sumOf 28 = .ok (.istore_n 2, 1) := by decide +kernel
theorem dX4_sumOf_29 : decode cX4_sumOf 29 = .ok (.iinc 3 1, 3) := by decide +kernel
theorem dX4_sumOf_32 : decode cX4_sumOf 32 = .ok (.goto (-26), 3) := by decide +kernel
theorem dX4_sumOf_35 : decode cX4_sumOf 35 = .ok (.iload_n 2, 1) := by decide +kernel
theorem dX4_sumOf_36 : decode cX4_sumOf 36 = .ok (.ireturn, 1) := by decide +kernel
theorem dX4_write_0 : decode cX4_write 0 = .ok (.aload_n 0, 1) := by decide +kernel
theorem dX4_write_1 : decode cX4_write 1 = .ok (.iconst 0, 1) := by decide +kernel
theorem dX4_write_2 : decode cX4_write 2 = .ok (.putfield 28, 3) := by decide +kernel
theorem dX4_write_5 : decode cX4_write 5 = .ok (.aload_n 0, 1) := by decide +kernel
theorem dX4_write_6 : decode cX4_write 6 = .ok (.aload_n 2, 1) := by decide +kernel
theorem dX4_write_7 : decode cX4_write 7 = .ok (.getfield 32, 3) := by decide +kernel
theorem dX4_write_10 : decode cX4_write 10 = .ok (.invokevirtual 35, 3) := by decide +kernel
theorem dX4_write_13 : decode cX4_write 13 = .ok (.aload_n 0, 1) := by decide +kernel
theorem dX4_write_14 : decode cX4_write 14 = .ok (.aload_n 2, 1) := by decide +kernel
theorem dX4_write_15 : decode cX4_write 15 = .ok (.getfield 39, 3) := by decide +kernel
theorem dX4_write_18 : decode cX4_write 18 = .ok (.invokevirtual 35, 3) := by decide +kernel
theorem dX4_write_21 : decode cX4_write 21 = .ok (.iconst 0, 1) := by decide +kernel
theorem dX4_write_22 : decode cX4_write 22 = .ok (.istore_n 3, 1) := by decide +kernel
theorem dX4_write_23 : decode cX4_write 23 = .ok (.iload_n 3, 1) := by decide +kernel
theorem dX4_write_24 : decode cX4_write 24 = .ok (.aload_n 1, 1) := by decide +kernel
theorem dX4_write_25 : decode cX4_write 25 = .ok (.iconst 1, 1) := by decide +kernel
theorem dX4_write_26 : decode cX4_write 26 = .ok (.invokevirtual 22, 3) := by decide +kernel
theorem dX4_write_29 : decode cX4_write 29 = .ok (.if_icmp .ge 43, 3) := by decide +kernel
theorem dX4_write_32 : decode cX4_write 32 = .ok (.aload_n 0, 1) := by decide +kernel
theorem dX4_write_33 : decode cX4_write 33 = .ok (.aload_n 2, 1) := by decide +kernel
theorem dX4_write_34 : decode cX4_write 34 = .ok (.getfield 42, 3) := by decide +kernel
theorem dX4_write_37 : decode cX4_write 37 = .ok (.iload_n 3, 1) := by decide +kernel
theorem dX4_write_38 : decode cX4_write 38 = .ok (.iaload, 1) := by decide +kernel
theorem dX4_write_39 : decode cX4_write 39 = .ok (.invokevirtual 45, 3) := by decide +kernel
theorem dX4_write_42 : decode cX4_write 42 = .ok (.aload_n 0, 1) := by decide +kernel
theorem dX4_write_43 : decode cX4_write 43 = .ok (.aload_n 2, 1) := by decide +kernel
theorem dX4_write_44 : decode cX4_write 44 = .ok (.getfield 48, 3) := by decide +kernel
theorem dX4_write_47 : decode cX4_write 47 = .ok (.iload_n 3, 1) := by decide +kernel
theorem dX4_write_48 : decode cX4_write 48 = .ok (.ishr, 1) := by decide +kernel
theorem dX4_write_49 : decode cX4_write 49 = .ok (.iconst 1, 1) := by decide +kernel
theorem dX4_write_50 : decode cX4_write 50 = .ok (.iand, 1) := by decide +kernel
theorem dX4_write_51 : decode cX4_write 51 = .ok (.invokevirtual 45, 3) := by decide +kernel
theorem dX4_write_54 : decode cX4_write 54 = .ok (.aload_n 0, 1) := by decide +kernel
theorem dX4_write_55 : decode cX4_write 55 = .ok (.aload_n 2, 1) := by decide +kernel
theorem dX4_write_56 : decode cX4_write 56 = .ok (.getfield 51, 3) := by decide +kernel
theorem dX4_write_59 : decode cX4_write 59 = .ok (.iload_n 3, 1) := by decide +kernel
theorem dX4_write_60 : decode cX4_write 60 = .ok (.ishr, 1) := by decide +kernel
theorem dX4_write_61 : decode cX4_write 61 = .ok (.iconst 1, 1) := by decide +kernel
theorem dX4_write_62 : decode cX4_write 62 = .ok (.iand, 1) := by decide +kernel
theorem dX4_write_63 : decode cX4_write 63 = .ok (.invokevirtual 45, 3) := by decide +kernel
theorem dX4_write_66 : decode cX4_write 66 = .ok (.iinc 3 1, 3) := by decide +kernel
theorem dX4_write_69 : decode cX4_write 69 = .ok (.goto (-46), 3) := by decide +kernel
theorem dX4_write_72 : decode cX4_write 72 = .ok (.iconst 0, 1) := by decide +kernel
theorem dX4_write_73 : decode cX4_write 73 = .ok (.istore_n 3, 1) := by decide +kernel
theorem dX4_write_74 : decode cX4_write 74 = .ok (.iload_n 3, 1) := by decide +kernel
theorem dX4_write_75 : decode cX4_write 75 = .ok (.aload_n 1, 1) := by decide +kernel
theorem dX4_write_76 : decode cX4_write 76 = .ok (.iconst 2, 1) := by decide +kernel
theorem dX4_write_77 : decode cX4_write 77 = .ok (.invokevirtual 22, 3) := by decide +kernel
theorem dX4_write_80 : decode cX4_write 80 = .ok (.if_icmp .ge 39, 3) := by decide +kernel
theorem dX4_write_83 : decode cX4_write 83 = .ok (.iconst 0, 1) := by decide +kernel
theorem dX4_write_84 : decode cX4_write 84 = .ok (.istore 4, 2) := by decide +kernel
theorem dX4_write_86 : decode cX4_write 86 = .ok (.iload 4, 2) := by decide +kernel
theorem dX4_write_88 : decode cX4_write 88 = .ok (.aload_n 1, 1) := by decide +kernel
theorem dX4_write_89 : decode cX4_write 89 = .ok (.iconst 1, 1) := by decide +kernel
theorem dX4_write_90 : decode cX4_write 90 = .ok (.invokevirtual 22, 3) := by decide +kernel
theorem dX4_write_93 : decode cX4_write 93 = .ok (.if_icmp .ge 20, 3) := by decide +kernel
theorem dX4_write_96 : decode cX4_write 96 = .ok (.aload_n 0, 1) := by decide +kernel
theorem dX4_write_97 : decode cX4_write 97 = .ok (.aload_n 2, 1) := by decide +kernel
theorem dX4_write_98 : decode cX4_write 98 = .ok (.iload_n 3, 1) := by decide +kernel
theorem dX4_write_99 : decode cX4_write 99 = .ok (.iload 4, 2) := by decide +kernel
theorem dX4_write_101 : decode cX4_write 101 = .ok (.invokevirtual 54, 3) := by decide +kernel
theorem dX4_write_104 : decode cX4_write 104 = .ok (.invokevirtual 45, 3) := by decide +kernel
theorem dX4_write_107 : decode cX4_write 107 = .ok (.iinc 4 1, 3) := by decide +kernel
theorem dX4_write_110 : decode cX4_write 110 = .ok (.goto (-24), 3) := by decide +kernel
theorem dX4_write_113 : decode cX4_write 113 = .ok (.iinc 3 1, 3) := by decide +kernel
theorem dX4_write_116 : decode cX4_write 116 = .ok (.goto (-42), 3) := by decide +kernel
theorem dX4_write_119 : decode cX4_write 119 = .ok (.iconst 0, 1) := by decide +kernel
theorem dX4_write_120 : decode cX4_write 120 = .ok (.istore_n 3, 1) := by decide +kernel
theorem dX4_write_121 : decode cX4_write 121 = .ok (.iload_n 3, 1) := by decide +kernel
theorem dX4_write_122 : decode cX4_write 122 = .ok (.aload_n 1, 1) := by decide +kernel
theorem dX4_write_123 : decode cX4_write 123 = .ok (.iconst 3, 1) := by decide +kernel
theorem dX4_write_124 : decode cX4_write 124 = .ok (.invokevirtual 22, 3) := by decide +kernel
theorem dX4_write_127 : decode cX4_write 127 = .ok (.if_icmp .ge 29, 3) := by decide +kernel
theorem dX4_write_130 : decode cX4_write 130 = .ok (.aload_n 0, 1) := by decide +kernel
theorem dX4_write_131 : decode cX4_write 131 = .ok (.aload_n 2, 1) := by decide +kernel
theorem dX4_write_132 : decode cX4_write 132 = .ok (.getfield 58, 3) := by decide +kernel
theorem dX4_write_135 : decode cX4_write 135 = .ok (.iload_n 3, 1) := by decide +kernel
theorem dX4_write_136 : decode cX4_write 136 = .ok (.iaload, 1) := by decide +kernel
theorem dX4_write_137 : decode cX4_write 137 = .ok (.invokevirtual 45, 3) := by decide +kernel
theorem dX4_write_140 : decode cX4_write 140 = .ok (.aload_n 0, 1) := by decide +kernel
theorem dX4_write_141 : decode cX4_write 141 = .ok (.aload_n 2, 1) := by decide +kernel
theorem dX4_write_142 : decode cX4_write 142 = .ok (.getfield 61, 3) := by decide +kernel
theorem dX4_write_145 : decode cX4_write 145 = .ok (.iload_n 3, 1) := by decide +kernel
theorem dX4_write_146 : decode cX4_write 146 = .ok (.iaload, 1) := by decide +kernel
theorem dX4_write_147 : decode cX4_write 147 = .ok (.invokevirtual 35, 3) := by decide +kernel
theorem dX4_write_150 : decode cX4_write 150 = .ok (.iinc 3 1, 3) := by decide +kernel
theorem dX4_write_153 : decode cX4_write 153 = .ok (.goto (-32), 3) := by decide +kernel
theorem dX4_write_156 : decode cX4_write 156 = .ok (.aload_n 0, 1) := by decide +kernel
theorem dX4_write_157 : decode cX4_write 157 = .ok (.aload_n 0, 1) := by decide +kernel
theorem dX4_write_158 : decode cX4_write 158 = .ok (.getfield 11, 3) := by decide +kernel
theorem dX4_write_161 : decode cX4_write 161 = .ok (.aload_n 0, 1) := by decide +kernel
theorem dX4_write_162 : decode cX4_write 162 = .ok (.getfield 28, 3) := by decide +kernel
theorem dX4_write_165 : decode cX4_write 165 = .ok (.invokestatic 64, 3) := by decide +kernel
theorem dX4_write_168 : decode cX4_write 168 = .ok (.invokevirtual 45, 3) := by decide +kernel
theorem dX4_write_171 : decode cX4_write 171 = .ok (.aload_n 0, 1) := by decide +kernel
theorem dX4_write_172 : decode cX4_write 172 = .ok (.getfield 28, 3) := by decide +kernel
theorem dX4_write_175 : decode cX4_write 175 = .ok (.ireturn, 1) := by decide +kernel
theorem dX4_putTwo_0 : decode cX4_putTwo 0 = .ok (.aload_n 0, 1) := by decide +kernel
theorem dX4_putTwo_1 : decode cX4_putTwo 1 = .ok (.iload_n 1, 1) := by decide +kernel
theorem dX4_putTwo_2 : decode cX4_putTwo 2 = .ok (.bipush 8, 2) := by decide +kernel
theorem dX4_putTwo_4 : decode cX4_putTwo 4 = .ok (.ishr, 1) := by decide +kernel
theorem dX4_putTwo_5 : decode cX4_putTwo 5 = .ok (.invokevirtual 45, 3) := by decide +kernel
theorem dX4_putTwo_8 : decode cX4_putTwo 8 = .ok (.aload_n 0, 1) := by decide +kernel
theorem dX4_putTwo_9 : decode cX4_putTwo 9 = .ok (.iload_n 1, 1) := by decide +kernel
theorem dX4_putTwo_10 : decode cX4_putTwo 10 = .ok (.invokevirtual 45, 3) := by decide +kernel
theorem dX4_putTwo_13 : decode cX4_putTwo 13 = .ok (.return_, 1) := by decide +kernel
theorem dX4_put_0 : decode cX4_put 0 = .ok (.aload_n 0, 1) := by decide +kernel
theorem dX4_put_1 : decode cX4_put 1 = .ok (.getfield 28, 3) := by decide +kernel
theorem dX4_put_4 : decode cX4_put 4 = .ok (.bipush 95, 2) := by decide +kernel
theorem dX4_put_6 : decode cX4_put 6 = .ok (.if_icmp .ge 27, 3) := by decide +kernel
theorem dX4_put_9 : decode cX4_put 9 = .ok (.aload_n 0, 1) := by decide +kernel
theorem dX4_put_10 : decode cX4_put 10 = .ok (.getfield 11, 3) := by decide +kernel
theorem dX4_put_13 : decode cX4_put 13 = .ok (.aload_n 0, 1) := by decide +kernel
theorem dX4_put_14 : decode cX4_put 14 = .ok (.getfield 28, 3) := by decide +kernel
theorem dX4_put_17 : decode cX4_put 17 = .ok (.iload_n 1, 1) := by decide +kernel
theorem dX4_put_18 : decode cX4_put 18 = .ok (.sipush 255, 3) := by decide +kernel
theorem dX4_put_21 : decode cX4_put 21 = .ok (.iand, 1) := by decide +kernel
theorem dX4_put_22 : decode cX4_put 22 = .ok (.iastore, 1) := by decide +kernel
theorem dX4_put_23 : decode cX4_put 23 = .ok (.aload_n 0, 1) := by decide +kernel
theorem dX4_put_24 : decode cX4_put 24 = .ok (.dup, 1) := by decide +kernel
theorem dX4_put_25 : decode cX4_put 25 = .ok (.getfield 28, 3) := by decide +kernel
theorem dX4_put_28 : decode cX4_put 28 = .ok (.iconst 1, 1) := by decide +kernel
theorem dX4_put_29 : decode cX4_put 29 = .ok (.iadd, 1) := by decide +kernel
theorem dX4_put_30 : decode cX4_put 30 = .ok (.putfield 28, 3) := by decide +kernel
theorem dX4_put_33 : decode cX4_put 33 = .ok (.return_, 1) := by decide +kernel
theorem dX4_read_0 : decode cX4_read 0 = .ok (.iload_n 3, 1) := by decide +kernel
theorem dX4_read_1 : decode cX4_read 1 = .ok (.aload_n 1, 1) := by decide +kernel
theorem dX4_read_2 : decode cX4_read 2 = .ok (.invokestatic 68, 3) := by decide +kernel
theorem dX4_read_5 : decode cX4_read 5 = .ok (.if_icmp .ne 24, 3) := by decide +kernel
theorem dX4_read_8 : decode cX4_read 8 = .ok (.iload_n 3, 1) := by decide +kernel
theorem dX4_read_9 : decode cX4_read 9 = .ok (.aload_n 2, 1) := by decide +kernel
theorem dX4_read_10 : decode cX4_read 10 = .ok (.arraylength, 1) := by decide +kernel
theorem dX4_read_11 : decode cX4_read 11 = .ok (.if_icmp .gt 18, 3) := by decide +kernel
theorem dX4_read_14 : decode cX4_read 14 = .ok (.aload_n 2, 1) := by decide +kernel
theorem dX4_read_15 : decode cX4_read 15 = .ok (.iload_n 3, 1) := by decide +kernel
theorem dX4_read_16 : decode cX4_read 16 = .ok (.iconst 1, 1) := by decide +kernel
theorem dX4_read_17 : decode cX4_read 17 = .ok (.isub, 1) := by decide +kernel
theorem dX4_read_18 : decode cX4_read 18 = .ok (.invokestatic 64, 3) := by decide +kernel
theorem dX4_read_21 : decode cX4_read 21 = .ok (.aload_n 2, 1) := by decide +kernel
theorem dX4_read_22 : decode cX4_read 22 = .ok (.iload_n 3, 1) := by decide +kernel
theorem dX4_read_23 : decode cX4_read 23 = .ok (.iconst 1, 1) := by decide +kernel
theorem dX4_read_24 : decode cX4_read 24 = .ok (.isub, 1) := by decide +kernel
theorem dX4_read_25 : decode cX4_read 25 = .ok (.iaload, 1) := by decide +kernel
theorem dX4_read_26 : decode cX4_read 26 = .ok (.if_icmp .eq 5, 3) := by decide +kernel
theorem dX4_read_29 : decode cX4_read 29 = .ok (.iconst 0, 1) := by decide +kernel
theorem dX4_read_30 : decode cX4_read 30 = .ok (.ireturn, 1) := by decide +kernel
theorem dX4_read_31 : decode cX4_read 31 = .ok (.aload_n 0, 1) := by decide +kernel
theorem dX4_read_32 : decode cX4_read 32 = .ok (.iconst 0, 1) := by decide +kernel
theorem dX4_read_33 : decode cX4_read 33 = .ok (.putfield 72, 3) := by decide +kernel
theorem dX4_read_36 : decode cX4_read 36 = .ok (.aload_n 0, 1) := by decide +kernel
theorem dX4_read_37 : decode cX4_read 37 = .ok (.iconst 1, 1) := by decide +kernel
theorem dX4_read_38 : decode cX4_read 38 = .ok (.putfield 75, 3) := by decide +kernel
theorem dX4_read_41 : decode cX4_read 41 = .ok (.aload_n 0, 1) := by decide +kernel
theorem dX4_read_42 : decode cX4_read 42 = .ok (.getfield 18, 3) := by decide +kernel
theorem dX4_read_45 : decode cX4_read 45 = .ok (.iconst 0, 1) := by decide +kernel
theorem dX4_read_46 : decode cX4_read 46 = .ok (.putfield 79, 3) := by decide +kernel
theorem dX4_read_49 : decode cX4_read 49 = .ok (.aload_n 0, 1) := by decide +kernel
theorem dX4_read_50 : decode cX4_read 50 = .ok (.getfield 18, 3) := by decide +kernel
theorem dX4_read_53 : decode cX4_read 53 = .ok (.iconst 0, 1) := by decide +kernel
theorem dX4_read_54 : decode cX4_read 54 = .ok (.putfield 48, 3) := by decide +kernel
theorem dX4_read_57 : decode cX4_read 57 = .ok (.aload_n 0, 1) := by decide +kernel
theorem dX4_read_58 : decode cX4_read 58 = .ok (.getfield 18, 3) := by decide +kernel
theorem dX4_read_61 : decode cX4_read 61 = .ok (.iconst 0, 1) := by decide +kernel
theorem dX4_read_62 : decode cX4_read 62 = .ok (.putfield 51, 3) := by decide +kernel
theorem dX4_read_65 : decode cX4_read 65 = .ok (.aload_n 0, 1) := by decide +kernel
theorem dX4_read_66 : decode cX4_read 66 = .ok (.getfield 18, 3) := by decide +kernel
theorem dX4_read_69 : decode cX4_read 69 = .ok (.aload_n 0, 1) := by decide +kernel
theorem dX4_read_70 : decode cX4_read 70 = .ok (.aload_n 2, 1) := by decide +kernel
theorem dX4_read_71 : decode cX4_read 71 = .ok (.sipush 999, 3) := by decide +kernel
theorem dX4_read_74 : decode cX4_read 74 = .ok (.invokevirtual 81, 3) := by decide +kernel
theorem dX4_read_77 : decode cX4_read 77 = .ok (.putfield 32, 3) := by decide +kernel
theorem dX4_read_80 : decode cX4_read 80 = .ok (.aload_n 0, 1) := by decide +kernel
theorem dX4_read_81 : decode cX4_read 81 = .ok (.getfield 18, 3) := by decide +kernel
theorem dX4_read_84 : decode cX4_read 84 = .ok (.aload_n 0, 1) := by decide +kernel
theorem dX4_read_85 : decode cX4_read 85 = .ok (.aload_n 2, 1) := by decide +kernel
theorem dX4_read_86 : decode cX4_read 86 = .ok (.sipush 9999, 3) := by decide +kernel
theorem dX4_read_89 : decode cX4_read 89 = .ok (.invokevirtual 81, 3) := by decide +kernel
theorem dX4_read_92 : decode cX4_read 92 = .ok (.putfield 39, 3) := by decide +kernel
theorem dX4_read_95 : decode cX4_read 95 = .ok (.iconst 0, 1) := by decide +kernel
theorem dX4_read_96 : decode cX4_read 96 = .ok (.istore 4, 2) := by decide +kernel
theorem dX4_read_98 : decode cX4_read 98 = .ok (.iload 4, 2) := by decide +kernel
theorem dX4_read_100 : decode cX4_read 100 = .ok (.aload_n 1, 1) := by decide +kernel
theorem dX4_read_101 : decode cX4_read 101 = .ok (.iconst 1, 1) := by decide +kernel
theorem dX4_read_102 : decode cX4_read 102 = .ok (.invokevirtual 22, 3) := by decide +kernel
theorem dX4_read_105 : decode cX4_read 105 = .ok (.if_icmp .ge 68, 3) := by decide +kernel
theorem dX4_read_108 : decode cX4_read 108 = .ok (.aload_n 0, 1) := by decide +kernel
theorem dX4_read_109 : decode cX4_read 109 = .ok (.getfield 18, 3) := by decide +kernel
theorem dX4_read_112 : decode cX4_read 112 = .ok (.getfield 42, 3) := by decide +kernel
theorem dX4_read_115 : decode cX4_read 115 = .ok (.iload 4, 2) := by decide +kernel
theorem dX4_read_117 : decode cX4_read 117 = .ok (.aload_n 0, 1) := by decide +kernel
theorem dX4_read_118 : decode cX4_read 118 = .ok (.aload_n 2, 1) := by decide +kernel
theorem dX4_read_119 : decode cX4_read 119 = .ok (.bipush 100, 2) := by decide +kernel
theorem dX4_read_121 : decode cX4_read 121 = .ok (.invokevirtual 84, 3) := by decide +kernel
theorem dX4_read_124 : decode cX4_read 124 = .ok (.iastore, 1) := by decide +kernel
theorem dX4_read_125 : decode cX4_read 125 = .ok (.aload_n 0, 1) := by decide +kernel
theorem dX4_read_126 : decode cX4_read 126 = .ok (.getfield 18, 3) := by decide +kernel
theorem dX4_read_129 : decode cX4_read 129 = .ok (.dup, 1) := by decide +kernel
theorem dX4_read_130 : decode cX4_read 130 = .ok (.getfield 48, 3) := by decide +kernel
theorem dX4_read_133 : decode cX4_read 133 = .ok (.aload_n 0, 1) := by decide +kernel
theorem dX4_read_134 : decode cX4_read 134 = .ok (.aload_n 2, 1) := by decide +kernel
theorem dX4_read_135 : decode cX4_read 135 = .ok (.iconst 1, 1) := by decide +kernel
theorem dX4_read_136 : decode cX4_read 136 = .ok (.invokevirtual 84, 3) := by decide +kernel
theorem dX4_read_139 : decode cX4_read 139 = .ok (.iload 4, 2) := by decide +kernel
theorem dX4_read_141 : decode cX4_read 141 = .ok (.ishl, 1) := by decide +kernel
theorem dX4_read_142 : decode cX4_read 142 = .ok (.ior, 1) := by decide +kernel
theorem dX4_read_143 : decode cX4_read 143 = .ok (.putfield 48, 3) := by decide +kernel
theorem dX4_read_146 : decode cX4_read 146 = .ok (.aload_n 0, 1) := by decide +kernel
theorem dX4_read_147 : decode cX4_read 147 = .ok (.getfield 18, 3) := by decide +kernel
theorem dX4_read_150 : decode cX4_read 150 = .ok (.dup, 1) := by decide +kernel
theorem dX4_read_151 : decode cX4_read 151 = .ok (.getfield 51, 3) := by decide +kernel
theorem dX4_read_154 : decode cX4_read 154 = .ok (.aload_n 0, 1) := by decide +kernel
theorem dX4_read_155 : decode cX4_read 155 = .ok (.aload_n 2, 1) := by decide +kernel
theorem dX4_read_156 : decode cX4_read 156 = .ok (.iconst 1, 1) := by decide +kernel
theorem dX4_read_157 : decode cX4_read 157 = .ok (.invokevirtual 84, 3) := by decide +kernel
theorem dX4_read_160 : decode cX4_read 160 = .ok (.iload 4, 2) := by decide +kernel
theorem dX4_read_162 : decode cX4_read 162 = .ok (.ishl, 1) := by decide +kernel
theorem dX4_read_163 : decode cX4_read 163 = .ok (.ior, 1) := by decide +kernel
theorem dX4_read_164 : decode cX4_read 164 = .ok (.putfield 51, 3) := by decide +kernel
theorem dX4_read_167 : decode cX4_read 167 = .ok (.iinc 4 1, 3) := by decide +kernel
theorem dX4_read_170 : decode cX4_read 170 = .ok (.goto (-72), 3) := by decide +kernel
theorem dX4_read_173 : decode cX4_read 173 = .ok (.iconst 0, 1) := by decide +kernel
theorem dX4_read_174 : decode cX4_read 174 = .ok (.istore 4, 2) := by decide +kernel
theorem dX4_read_176 : decode cX4_read 176 = .ok (.iload 4, 2) := by decide +kernel
theorem dX4_read_178 : decode cX4_read 178 = .ok (.aload_n 1, 1) := by decide +kernel
theorem dX4_read_179 : decode cX4_read 179 = .ok (.iconst 2, 1) := by decide +kernel
theorem dX4_read_180 : decode cX4_read 180 = .ok (.invokevirtual 22, 3) := by decide +kernel
theorem dX4_read_183 : decode cX4_read 183 = .ok (.if_icmp .ge 51, 3) := by decide +kernel
theorem dX4_read_186 : decode cX4_read 186 = .ok (.iconst 0, 1) := by decide +kernel
theorem dX4_read_187 : decode cX4_read 187 = .ok (.istore 5, 2) := by decide +kernel
theorem dX4_read_189 : decode cX4_read 189 = .ok (.iload 5, 2) := by decide +kernel
theorem dX4_read_191 : decode cX4_read 191 = .ok (.aload_n 1, 1) := by decide +kernel
theorem dX4_read_192 : decode cX4_read 192 = .ok (.iconst 1, 1) := by decide +kernel
theorem dX4_read_193 : decode cX4_read 193 = .ok (.invokevirtual 22, 3) := by decide +kernel
theorem dX4_read_196 : decode cX4_read 196 = .ok (.if_icmp .ge 32, 3) := by decide +kernel
theorem dX4_read_199 : decode cX4_read 199 = .ok (.aload_n 0, 1) := by decide +kernel
theorem dX4_read_200 : decode cX4_read 200 = .ok (.getfield 18, 3) := by decide +kernel
theorem dX4_read_203 : decode cX4_read 203 = .ok (.getfield 87, 3) := by decide +kernel
theorem dX4_read_206 : decode cX4_read 206 = .ok (.iload 4, 2) := by decide +kernel
theorem dX4_read_208 : decode cX4_read 208 = .ok (.bipush 8, 2) := by decide +kernel
theorem dX4_read_210 : decode cX4_read 210 = .ok (.imul, 1) := by decide +kernel
theorem dX4_read_211 : decode cX4_read 211 = .ok (.iload 5, 2) := by decide +kernel
theorem dX4_read_213 : decode cX4_read 213 = .ok (.iadd, 1) := by decide +kernel
theorem dX4_read_214 : decode cX4_read 214 = .ok (.aload_n 0, 1) := by decide +kernel
theorem dX4_read_215 : decode cX4_read 215 = .ok (.aload_n 2, 1) := by decide +kernel
theorem dX4_read_216 : decode cX4_read 216 = .ok (.bipush 9, 2) := by decide +kernel
theorem dX4_read_218 : decode cX4_read 218 = .ok (.invokevirtual 84, 3) := by decide +kernel
theorem dX4_read_221 : decode cX4_read 221 = .ok (.iastore, 1) := by decide +kernel
theorem dX4_read_222 : decode cX4_read 222 = .ok (.iinc 5 1, 3) := by decide +kernel
theorem dX4_read_225 : decode cX4_read 225 = .ok (.goto (-36), 3) := by decide +kernel
theorem dX4_read_228 : decode cX4_read 228 = .ok (.iinc 4 1, 3) := by decide +kernel
theorem dX4_read_231 : decode cX4_read 231 = .ok (.goto (-55), 3) := by decide +kernel
theorem dX4_read_234 : decode cX4_read 234 = .ok (.iconst 0, 1) := by decide +kernel
theorem dX4_read_235 : decode cX4_read 235 = .ok (.istore 4, 2) := by decide +kernel
theorem dX4_read_237 : decode cX4_read 237 = .ok (.iload 4, 2) := by decide +kernel
theorem dX4_read_239 : decode cX4_read 239 = .ok (.aload_n 1, 1) := by decide +kernel
theorem dX4_read_240 : decode cX4_read 240 = .ok (.iconst 3, 1) := by decide +kernel
theorem dX4_read_241 : decode cX4_read 241 = .ok (.invokevirtual 22, 3) := by decide +kernel
theorem dX4_read_244 : decode cX4_read 244 = .ok (.if_icmp .ge 49, 3) := by decide +kernel
theorem dX4_read_247 : decode cX4_read 247 = .ok (.aload_n 0, 1) := by decide +kernel
theorem dX4_read_248 : decode cX4_read 248 = .ok (.getfield 18, 3) := by decide +kernel
theorem dX4_read_251 : decode cX4_read 251 = .ok (.getfield 58, 3) := by decide +kernel
theorem dX4_read_254 : decode cX4_read 254 = .ok (.iload 4, 2) := by decide +kernel
theorem dX4_read_256 : decode cX4_read 256 = .ok (.aload_n 0, 1) := by decide +kernel
theorem dX4_read_257 : decode cX4_read 257 = .ok (.aload_n 2, 1) := by decide +kernel
theorem dX4_read_258 : decode cX4_read 258 = .ok (.aload_n 1, 1) := by decide +kernel
theorem dX4_read_259 : decode cX4_read 259 = .ok (.getfield 90, 3) := by decide +kernel
theorem dX4_read_262 : decode cX4_read 262 = .ok (.iload 4, 2) := by decide +kernel
theorem dX4_read_264 : decode cX4_read 264 = .ok (.iaload, 1) := by decide +kernel
theorem dX4_read_265 : decode cX4_read 265 = .ok (.invokevirtual 84, 3) := by decide +kernel
theorem dX4_read_268 : decode cX4_read 268 = .ok (.iastore, 1) := by decide +kernel
theorem dX4_read_269 : decode cX4_read 269 = .ok (.aload_n 0, 1) := by decide +kernel
theorem dX4_read_270 : decode cX4_read 270 = .ok (.getfield 18, 3) := by decide +kernel
theorem dX4_read_273 : decode cX4_read 273 = .ok (.getfield 61, 3) := by decide +kernel
theorem dX4_read_276 : decode cX4_read 276 = .ok (.iload 4, 2) := by decide +kernel
theorem dX4_read_278 : decode cX4_read 278 = .ok (.aload_n 0, 1) := by decide +kernel
theorem dX4_read_279 : decode cX4_read 279 = .ok (.aload_n 2, 1) := by decide +kernel
theorem dX4_read_280 : decode cX4_read 280 = .ok (.sipush 999, 3) := by decide +kernel
theorem dX4_read_283 : decode cX4_read 283 = .ok (.invokevirtual 81, 3) := by decide +kernel
theorem dX4_read_286 : decode cX4_read 286 = .ok (.iastore, 1) := by decide +kernel
theorem dX4_read_287 : decode cX4_read 287 = .ok (.iinc 4 1, 3) := by decide +kernel
theorem dX4_read_290 : decode cX4_read 290 = .ok (.goto (-53), 3) := by decide +kernel
theorem dX4_read_293 : decode cX4_read 293 = .ok (.aload_n 0, 1) := by decide +kernel
theorem dX4_read_294 : decode cX4_read 294 = .ok (.getfield 75, 3) := by decide +kernel
theorem dX4_read_297 : decode cX4_read 297 = .ok (.ireturn, 1) := by decide +kernel
theorem dX4_takeTwo_0 : decode cX4_takeTwo 0 = .ok (.aload_n 0, 1) := by decide +kernel
theorem dX4_takeTwo_1 : decode cX4_takeTwo 1 = .ok (.aload_n 1, 1) := by decide +kernel
theorem dX4_takeTwo_2 : decode cX4_takeTwo 2 = .ok (.sipush 255, 3) := by decide +kernel
theorem dX4_takeTwo_5 : decode cX4_takeTwo 5 = .ok (.invokevirtual 84, 3) := by decide +kernel
theorem dX4_takeTwo_8 : decode cX4_takeTwo 8 = .ok (.istore_n 3, 1) := by decide +kernel
theorem dX4_takeTwo_9 : decode cX4_takeTwo 9 = .ok (.aload_n 0, 1) := by decide +kernel
theorem dX4_takeTwo_10 : decode cX4_takeTwo 10 = .ok (.iload_n 3, 1) := by decide +kernel
theorem dX4_takeTwo_11 : decode cX4_takeTwo 11 = .ok (.bipush 8, 2) := by decide +kernel
theorem dX4_takeTwo_13 : decode cX4_takeTwo 13 = .ok (.ishl, 1) := by decide +kernel
theorem dX4_takeTwo_14 : decode cX4_takeTwo 14 = .ok (.aload_n 0, 1) := by decide +kernel
theorem dX4_takeTwo_15 : decode cX4_takeTwo 15 = .ok (.aload_n 1, 1) := by decide +kernel
theorem dX4_takeTwo_16 : decode cX4_takeTwo 16 = .ok (.sipush 255, 3) := by decide +kernel
theorem dX4_takeTwo_19 : decode cX4_takeTwo 19 = .ok (.invokevirtual 84, 3) := by decide +kernel
theorem dX4_takeTwo_22 : decode cX4_takeTwo 22 = .ok (.ior, 1) := by decide +kernel
theorem dX4_takeTwo_23 : decode cX4_takeTwo 23 = .ok (.iload_n 2, 1) := by decide +kernel
theorem dX4_takeTwo_24 : decode cX4_takeTwo 24 = .ok (.invokevirtual 93, 3) := by decide +kernel
theorem dX4_takeTwo_27 : decode cX4_takeTwo 27 = .ok (.ireturn, 1) := by decide +kernel
theorem dX4_take_0 : decode cX4_take 0 = .ok (.aload_n 0, 1) := by decide +kernel
theorem dX4_take_1 : decode cX4_take 1 = .ok (.getfield 72, 3) := by decide +kernel
theorem dX4_take_4 : decode cX4_take 4 = .ok (.aload_n 1, 1) := by decide +kernel
theorem dX4_take_5 : decode cX4_take 5 = .ok (.arraylength, 1) := by decide +kernel
theorem dX4_take_6 : decode cX4_take 6 = .ok (.if_icmp .ge 12, 3) := by decide +kernel
theorem dX4_take_9 : decode cX4_take 9 = .ok (.aload_n 1, 1) := by decide +kernel
theorem dX4_take_10 : decode cX4_take 10 = .ok (.aload_n 0, 1) := by decide +kernel
theorem dX4_take_11 : decode cX4_take 11 = .ok (.getfield 72, 3) := by decide +kernel
theorem dX4_take_14 : decode cX4_take 14 = .ok (.iaload, 1) := by decide +kernel
theorem dX4_take_15 : decode cX4_take 15 = .ok (.goto 4, 3) := by decide +kernel
theorem dX4_take_18 : decode cX4_take 18 = .ok (.iconst 0, 1) := by decide +kernel
theorem dX4_take_19 : decode cX4_take 19 = .ok (.istore_n 3, 1) := by decide +kernel
theorem dX4_take_20 : decode cX4_take 20 = .ok (.aload_n 0, 1) := by decide +kernel
theorem dX4_take_21 : decode cX4_take 21 = .ok (.dup, 1) := by decide +kernel
theorem dX4_take_22 : decode cX4_take 22 = .ok (.getfield 72, 3) := by decide +kernel
theorem dX4_take_25 : decode cX4_take 25 = .ok (.iconst 1, 1) := by decide +kernel
theorem dX4_take_26 : decode cX4_take 26 = .ok (.iadd, 1) := by decide +kernel
theorem dX4_take_27 : decode cX4_take 27 = .ok (.putfield 72, 3) := by decide +kernel
theorem dX4_take_30 : decode cX4_take 30 = .ok (.aload_n 0, 1) := by decide +kernel
theorem dX4_take_31 : decode cX4_take 31 = .ok (.iload_n 3, 1) := by decide +kernel
theorem dX4_take_32 : decode cX4_take 32 = .ok (.iload_n 2, 1) := by decide +kernel
theorem dX4_take_33 : decode cX4_take 33 = .ok (.invokevirtual 93, 3) := by decide +kernel
theorem dX4_take_36 : decode cX4_take 36 = .ok (.ireturn, 1) := by decide +kernel
theorem dX4_bounded_0 : decode cX4_bounded 0 = .ok (.aload_n 0, 1) := by decide +kernel
theorem dX4_bounded_1 : decode cX4_bounded 1 = .ok (.aload_n 0, 1) := by decide +kernel
theorem dX4_bounded_2 : decode cX4_bounded 2 = .ok (.getfield 75, 3) := by decide +kernel
theorem dX4_bounded_5 : decode cX4_bounded 5 = .ok (.ifCond .eq 12, 3) := by decide +kernel
theorem dX4_bounded_8 : decode cX4_bounded 8 = .ok (.iload_n 1, 1) := by decide +kernel
theorem dX4_bounded_9 : decode cX4_bounded 9 = .ok (.iload_n 2, 1) := by decide +kernel
theorem dX4_bounded_10 : decode cX4_bounded 10 = .ok (.if_icmp .gt 7, 3) := by decide +kernel
theorem dX4_bounded_13 : decode cX4_bounded 13 = .ok (.iconst 1, 1) := by decide +kernel
theorem dX4_bounded_14 : decode cX4_bounded 14 = .ok (.goto 4, 3) := by decide +kernel
theorem dX4_bounded_17 : decode cX4_bounded 17 = .ok (.iconst 0, 1) := by decide +kernel
theorem dX4_bounded_18 : decode cX4_bounded 18 = .ok (.putfield 75, 3) := by decide +kernel
theorem dX4_bounded_21 : decode cX4_bounded 21 = .ok (.iload_n 1, 1) := by decide +kernel
theorem dX4_bounded_22 : decode cX4_bounded 22 = .ok (.iload_n 2, 1) := by decide +kernel
theorem dX4_bounded_23 : decode cX4_bounded 23 = .ok (.invokestatic 96, 3) := by decide +kernel
theorem dX4_bounded_26 : decode cX4_bounded 26 = .ok (.ireturn, 1) := by decide +kernel
theorem dX5_init_0 : decode cX5_init 0 = .ok (.aload_n 0, 1) := by decide +kernel
theorem dX5_init_1 : decode cX5_init 1 = .ok (.invokespecial 3, 3) := by decide +kernel
theorem dX5_init_4 : decode cX5_init 4 = .ok (.aload_n 0, 1) := by decide +kernel
theorem dX5_init_5 : decode cX5_init 5 = .ok (.aload_n 1, 1) := by decide +kernel
theorem dX5_init_6 : decode cX5_init 6 = .ok (.putfield 9, 3) := by decide +kernel
theorem dX5_init_9 : decode cX5_init 9 = .ok (.aload_n 0, 1) := by decide +kernel
theorem dX5_init_10 : decode cX5_init 10 = .ok (.aload_n 2, 1) := by decide +kernel
theorem dX5_init_11 : decode cX5_init 11 = .ok (.putfield 15, 3) := by decide +kernel
theorem dX5_init_14 : decode cX5_init 14 = .ok (.return_, 1) := by decide +kernel
theorem dX5_beginMay_0 : decode cX5_beginMay 0 = .ok (.aload_n 0, 1) := by decide +kernel
theorem dX5_beginMay_1 : decode cX5_beginMay 1 = .ok (.aload_n 1, 1) := by decide +kernel
theorem dX5_beginMay_2 : decode cX5_beginMay 2 = .ok (.putfield 15, 3) := by decide +kernel
theorem dX5_beginMay_5 : decode cX5_beginMay 5 = .ok (.aload_n 0, 1) := by decide +kernel
theorem dX5_beginMay_6 : decode cX5_beginMay 6 = .ok (.iconst 1, 1) := by decide +kernel
theorem dX5_beginMay_7 : decode cX5_beginMay 7 = .ok (.putfield 19, 3) := by decide +kernel
theorem dX5_beginMay_10 : decode cX5_beginMay 10 = .ok (.aload_n 0, 1) := by decide +kernel
theorem dX5_beginMay_11 : decode cX5_beginMay 11 = .ok (.getfield 15, 3) := by decide +kernel
theorem dX5_beginMay_14 : decode cX5_beginMay 14 = .ok (.aload_n 0, 1) := by decide +kernel
theorem dX5_beginMay_15 : decode cX5_beginMay 15 = .ok (.getfield 15, 3) := by decide +kernel
theorem dX5_beginMay_18 : decode cX5_beginMay 18 = .ok (.getfield 23, 3) := by decide +kernel
theorem dX5_beginMay_21 : decode cX5_beginMay 21 = .ok (.putfield 29, 3) := by decide +kernel
theorem dX5_beginMay_24 : decode cX5_beginMay 24 = .ok (.iconst 1, 1) := by decide +kernel
theorem dX5_beginMay_25 : decode cX5_beginMay 25 = .ok (.ireturn, 1) := by decide +kernel
theorem dX5_endMay_0 : decode cX5_endMay 0 = .ok (.aload_n 0, 1) := by decide +kernel
theorem dX5_endMay_1 : decode cX5_endMay 1 = .ok (.getfield 15, 3) := by decide +kernel
theorem dX5_endMay_4 : decode cX5_endMay 4 = .ok (.aload_n 0, 1) := by decide +kernel
theorem dX5_endMay_5 : decode cX5_endMay 5 = .ok (.getfield 15, 3) := by decide +kernel
theorem dX5_endMay_8 : decode cX5_endMay 8 = .ok (.getfield 23, 3) := by decide +kernel
theorem dX5_endMay_11 : decode cX5_endMay 11 = .ok (.putfield 32, 3) := by decide +kernel
theorem dX5_endMay_14 : decode cX5_endMay 14 = .ok (.iconst 1, 1) := by decide +kernel
theorem dX5_endMay_15 : decode cX5_endMay 15 = .ok (.ireturn, 1) := by decide +kernel
theorem dX5_beginWears_0 : decode cX5_beginWears 0 = .ok (.aload_n 0, 1) := by decide +kernel
theorem dX5_beginWears_1 : decode cX5_beginWears 1 = .ok (.aload_n 1, 1) := by decide +kernel
theorem dX5_beginWears_2 : decode cX5_beginWears 2 = .ok (.putfield 15, 3) := by decide +kernel
theorem dX5_beginWears_5 : decode cX5_beginWears 5 = .ok (.aload_n 0, 1) := by decide +kernel
theorem dX5_beginWears_6 : decode cX5_beginWears 6 = .ok (.iconst 0, 1) := by decide +kernel
theorem dX5_beginWears_7 : decode cX5_beginWears 7 = .ok (.putfield 19, 3) := by decide +kernel
theorem dX5_beginWears_10 : decode cX5_beginWears 10 = .ok (.aload_n 0, 1) := by decide +kernel
theorem dX5_beginWears_11 : decode cX5_beginWears 11 = .ok (.getfield 15, 3) := by decide +kernel
theorem dX5_beginWears_14 : decode cX5_beginWears 14 = .ok (.aload_n 0, 1) := by decide +kernel
theorem dX5_beginWears_15 : decode cX5_beginWears 15 = .ok (.getfield 15, 3) := by decide +kernel
theorem dX5_beginWears_18 : decode cX5_beginWears 18 = .ok (.getfield 23, 3) := by decide +kernel
theorem dX5_beginWears_21 : decode cX5_beginWears 21 = .ok (.putfield 35, 3) := by decide +kernel
theorem dX5_beginWears_24 : decode cX5_beginWears 24 = .ok (.iconst 1, 1) := by decide +kernel
theorem dX5_beginWears_25 : decode cX5_beginWears 25 = .ok (.ireturn, 1) := by decide +kernel
theorem dX5_endWears_0 : decode cX5_endWears 0 = .ok (.aload_n 0, 1) := by decide +kernel
theorem dX5_endWears_1 : decode cX5_endWears 1 = .ok (.getfield 15, 3) := by decide +kernel
theorem dX5_endWears_4 : decode cX5_endWears 4 = .ok (.aload_n 0, 1) := by decide +kernel
theorem dX5_endWears_5 : decode cX5_endWears 5 = .ok (.getfield 15, 3) := by decide +kernel
theorem dX5_endWears_8 : decode cX5_endWears 8 = .ok (.getfield 23, 3) := by decide +kernel
theorem dX5_endWears_11 : decode cX5_endWears 11 = .ok (.putfield 38, 3) := by decide +kernel
theorem dX5_endWears_14 : decode cX5_endWears 14 = .ok (.iconst 1, 1) := by decide +kernel
theorem dX5_endWears_15 : decode cX5_endWears 15 = .ok (.ireturn, 1) := by decide +kernel
theorem dX5_readTest_0 : decode cX5_readTest 0 = .ok (.aload_n 0, 1) := by decide +kernel
theorem dX5_readTest_1 : decode cX5_readTest 1 = .ok (.iload_n 1, 1) := by decide +kernel
theorem dX5_readTest_2 : decode cX5_readTest 2 = .ok (.invokevirtual 41, 3) := by decide +kernel
theorem dX5_readTest_5 : decode cX5_readTest 5 = .ok (.istore_n 2, 1) := by decide +kernel
theorem dX5_readTest_6 : decode cX5_readTest 6 = .ok (.iconst 0, 1) := by decide +kernel
theorem dX5_readTest_7 : decode cX5_readTest 7 = .ok (.istore_n 3, 1) := by decide +kernel
theorem dX5_readTest_8 : decode cX5_readTest 8 = .ok (.iload_n 3, 1) := by decide +kernel
theorem dX5_readTest_9 : decode cX5_readTest 9 = .ok (.sipush 1600, 3) := by decide +kernel
theorem dX5_readTest_12 : decode cX5_readTest 12 = .ok (.if_icmp .ge 59, 3) := by decide +kernel
theorem dX5_readTest_15 : decode cX5_readTest 15 = .ok (.iload_n 2, 1) := by decide +kernel
theorem dX5_readTest_16 : decode cX5_readTest 16 = .ok (.ifCond .eq 55, 3) := by decide +kernel
theorem dX5_readTest_19 : decode cX5_readTest 19 = .ok (.aload_n 0, 1) := by decide +kernel
theorem dX5_readTest_20 : decode cX5_readTest 20 = .ok (.getfield 9, 3) := by decide +kernel
theorem dX5_readTest_23 : decode cX5_readTest 23 = .ok (.bipush 26, 2) := by decide +kernel
theorem dX5_readTest_25 : decode cX5_readTest 25 = .ok (.invokevirtual 47, 3) := by decide +kernel
theorem dX5_readTest_28 : decode cX5_readTest 28 = .ok (.ifCond .eq 43, 3) := by decide +kernel
theorem dX5_readTest_31 : decode cX5_readTest 31 = .ok (.aload_n 0, 1) := by decide +kernel
theorem dX5_readTest_32 : decode cX5_readTest 32 = .ok (.getfield 9, 3) := by decide +kernel
theorem dX5_readTest_35 : decode cX5_readTest 35 = .ok (.invokevirtual 50, 3) := by decide +kernel
theorem dX5_readTest_38 : decode cX5_readTest 38 = .ok (.aload_n 0, 1) := by decide +kernel
theorem dX5_readTest_39 : decode cX5_readTest 39 = .ok (.iload_n 1, 1) := by decide +kernel
theorem dX5_readTest_40 : decode cX5_readTest 40 = .ok (.invokevirtual 41, 3) := by decide +kernel
theorem dX5_readTest_43 : decode cX5_readTest 43 = .ok (.ifCond .eq 20, 3) := by decide +kernel
theorem dX5_readTest_46 : decode cX5_readTest 46 = .ok (.aload_n 0, 1) := by decide +kernel
theorem dX5_readTest_47 : decode cX5_readTest 47 = .ok (.getfield 15, 3) := by decide +kernel
theorem dX5_readTest_50 : decode cX5_readTest 50 = .ok (.bipush 15, 2) := by decide +kernel
theorem dX5_readTest_52 : decode cX5_readTest 52 = .ok (.iconst 0, 1) := by decide +kernel
theorem dX5_readTest_53 : decode cX5_readTest 53 = .ok (.invokevirtual 53, 3) := by decide +kernel
theorem dX5_readTest_56 : decode cX5_readTest 56 = .ok (.ifCond .eq 7, 3) := by decide +kernel
theorem dX5_readTest_59 : decode cX5_readTest 59 = .ok (.iconst 1, 1) := by decide +kernel
theorem dX5_readTest_60 : decode cX5_readTest 60 = .ok (.goto 4, 3) := by decide +kernel
theorem dX5_readTest_63 : decode cX5_readTest 63 = .ok (.iconst 0, 1) := by decide +kernel
theorem dX5_readTest_64 : decode cX5_readTest 64 = .ok (.istore_n 2, 1) := by decide +kernel
theorem dX5_readTest_65 : decode cX5_readTest 65 = .ok (.iinc 3 1, 3) := by decide +kernel
theorem dX5_readTest_68 : decode cX5_readTest 68 = .ok (.goto (-60), 3) := by decide +kernel
theorem dX5_readTest_71 : decode cX5_readTest 71 = .ok (.iload_n 2, 1) := by decide +kernel
theorem dX5_readTest_72 : decode cX5_readTest 72 = .ok (.ireturn, 1) := by decide +kernel
theorem dX5_readBoth_0 : decode cX5_readBoth 0 = .ok (.aload_n 0, 1) := by decide +kernel
theorem dX5_readBoth_1 : decode cX5_readBoth 1 = .ok (.iload_n 1, 1) := by decide +kernel
theorem dX5_readBoth_2 : decode cX5_readBoth 2 = .ok (.invokevirtual 57, 3) := by decide +kernel
theorem dX5_readBoth_5 : decode cX5_readBoth 5 = .ok (.istore_n 2, 1) := by decide +kernel
theorem dX5_readBoth_6 : decode cX5_readBoth 6 = .ok (.iconst 0, 1) := by decide +kernel
theorem dX5_readBoth_7 : decode cX5_readBoth 7 = .ok (.istore_n 3, 1) := by decide +kernel
theorem dX5_readBoth_8 : decode cX5_readBoth 8 = .ok (.iload_n 3, 1) := by decide +kernel
theorem dX5_readBoth_9 : decode cX5_readBoth 9 = .ok (.sipush 1600, 3) := by decide +kernel
theorem dX5_readBoth_12 : decode cX5_readBoth 12 = .ok (.if_icmp .ge 59, 3) := by decide +kernel
theorem dX5_readBoth_15 : decode cX5_readBoth 15 = .ok (.iload_n 2, 1) := by decide +kernel
theorem dX5_readBoth_16 : decode cX5_readBoth 16 = .ok (.ifCond .eq 55, 3) := by decide +kernel
theorem dX5_readBoth_19 : decode cX5_readBoth 19 = .ok (.aload_n 0, 1) := by decide +kernel
theorem dX5_readBoth_20 : decode cX5_readBoth 20 = .ok (.getfield 9, 3) := by decide +kernel
theorem dX5_readBoth_23 : decode cX5_readBoth 23 = .ok (.bipush 27, 2) := by decide +kernel
theorem dX5_readBoth_25 : decode cX5_readBoth 25 = .ok (.invokevirtual 47, 3) := by decide +kernel
theorem dX5_readBoth_28 : decode cX5_readBoth 28 = .ok (.ifCond .eq 43, 3) := by decide +kernel
theorem dX5_readBoth_31 : decode cX5_readBoth 31 = .ok (.aload_n 0, 1) := by decide +kernel
theorem dX5_readBoth_32 : decode cX5_readBoth 32 = .ok (.getfield 9, 3) := by decide +kernel
theorem dX5_readBoth_35 : decode cX5_readBoth 35 = .ok (.invokevirtual 50, 3) := by decide +kernel
theorem dX5_readBoth_38 : decode cX5_readBoth 38 = .ok (.aload_n 0, 1) := by decide +kernel
theorem dX5_readBoth_39 : decode cX5_readBoth 39 = .ok (.iload_n 1, 1) := by decide +kernel
theorem dX5_readBoth_40 : decode cX5_readBoth 40 = .ok (.invokevirtual 57, 3) := by decide +kernel
theorem dX5_readBoth_43 : decode cX5_readBoth 43 = .ok (.ifCond .eq 20, 3) := by decide +kernel
theorem dX5_readBoth_46 : decode cX5_readBoth 46 = .ok (.aload_n 0, 1) := by decide +kernel
theorem dX5_readBoth_47 : decode cX5_readBoth 47 = .ok (.getfield 15, 3) := by decide +kernel
theorem dX5_readBoth_50 : decode cX5_readBoth 50 = .ok (.bipush 14, 2) := by decide +kernel
theorem dX5_readBoth_52 : decode cX5_readBoth 52 = .ok (.iconst 0, 1) := by decide +kernel
theorem dX5_readBoth_53 : decode cX5_readBoth 53 = .ok (.invokevirtual 53, 3) := by decide +kernel
theorem dX5_readBoth_56 : decode cX5_readBoth 56 = .ok (.ifCond .eq 7, 3) := by decide +kernel
theorem dX5_readBoth_59 : decode cX5_readBoth 59 = .ok (.iconst 1, 1) := by decide +kernel
theorem dX5_readBoth_60 : decode cX5_readBoth 60 = .ok (.goto 4, 3) := by decide +kernel
theorem dX5_readBoth_63 : decode cX5_readBoth 63 = .ok (.iconst 0, 1) := by decide +kernel
theorem dX5_readBoth_64 : decode cX5_readBoth 64 = .ok (.istore_n 2, 1) := by decide +kernel
theorem dX5_readBoth_65 : decode cX5_readBoth 65 = .ok (.iinc 3 1, 3) := by decide +kernel
theorem dX5_readBoth_68 : decode cX5_readBoth 68 = .ok (.goto (-60), 3) := by decide +kernel
theorem dX5_readBoth_71 : decode cX5_readBoth 71 = .ok (.iload_n 2, 1) := by decide +kernel
theorem dX5_readBoth_72 : decode cX5_readBoth 72 = .ok (.ireturn, 1) := by decide +kernel
theorem dX5_readFact_0 : decode cX5_readFact 0 = .ok (.aload_n 0, 1) := by decide +kernel
theorem dX5_readFact_1 : decode cX5_readFact 1 = .ok (.getfield 9, 3) := by decide +kernel
theorem dX5_readFact_4 : decode cX5_readFact 4 = .ok (.bipush 28, 2) := by decide +kernel
theorem dX5_readFact_6 : decode cX5_readFact 6 = .ok (.invokevirtual 47, 3) := by decide +kernel
theorem dX5_readFact_9 : decode cX5_readFact 9 = .ok (.ifCond .eq 39, 3) := by decide +kernel
theorem dX5_readFact_12 : decode cX5_readFact 12 = .ok (.aload_n 0, 1) := by decide +kernel
theorem dX5_readFact_13 : decode cX5_readFact 13 = .ok (.iload_n 1, 1) := by decide +kernel
theorem dX5_readFact_14 : decode cX5_readFact 14 = .ok (.invokevirtual 60, 3) := by decide +kernel
theorem dX5_readFact_17 : decode cX5_readFact 17 = .ok (.ifCond .eq 29, 3) := by decide +kernel
theorem dX5_readFact_20 : decode cX5_readFact 20 = .ok (.aload_n 0, 1) := by decide +kernel
theorem dX5_readFact_21 : decode cX5_readFact 21 = .ok (.iload_n 1, 1) := by decide +kernel
theorem dX5_readFact_22 : decode cX5_readFact 22 = .ok (.iconst 1, 1) := by decide +kernel
theorem dX5_readFact_23 : decode cX5_readFact 23 = .ok (.iadd, 1) := by decide +kernel
theorem dX5_readFact_24 : decode cX5_readFact 24 = .ok (.invokevirtual 57, 3) := by decide +kernel
theorem dX5_readFact_27 : decode cX5_readFact 27 = .ok (.ifCond .eq 19, 3) := by decide +kernel
theorem dX5_readFact_30 : decode cX5_readFact 30 = .ok (.aload_n 0, 1) := by decide +kernel
theorem dX5_readFact_31 : decode cX5_readFact 31 = .ok (.getfield 15, 3) := by decide +kernel
theorem dX5_readFact_34 : decode cX5_readFact 34 = .ok (.iconst 2, 1) := by decide +kernel
theorem dX5_readFact_35 : decode cX5_readFact 35 = .ok (.iconst 0, 1) := by decide +kernel
theorem dX5_readFact_36 : decode cX5_readFact 36 = .ok (.invokevirtual 53, 3) := by decide +kernel
theorem dX5_readFact_39 : decode cX5_readFact 39 = .ok (.ifCond .eq 7, 3) := by decide +kernel
theorem dX5_readFact_42 : decode cX5_readFact 42 = .ok (.iconst 1, 1) := by decide +kernel
theorem dX5_readFact_43 : decode cX5_readFact 43 = .ok (.goto 4, 3) := by decide +kernel
theorem dX5_readFact_46 : decode cX5_readFact 46 = .ok (.iconst 0, 1) := by decide +kernel
theorem dX5_readFact_47 : decode cX5_readFact 47 = .ok (.ireturn, 1) := by decide +kernel
theorem dX5_readFact_48 : decode cX5_readFact 48 = .ok (.aload_n 0, 1) := by decide +kernel
theorem dX5_readFact_49 : decode cX5_readFact 49 = .ok (.getfield 9, 3) := by decide +kernel
theorem dX5_readFact_52 : decode cX5_readFact 52 = .ok (.bipush 91, 2) := by decide +kernel
theorem dX5_readFact_54 : decode cX5_readFact 54 = .ok (.invokevirtual 63, 3) := by decide +kernel
theorem dX5_readFact_57 : decode cX5_readFact 57 = .ok (.ifCond .eq 39, 3) := by decide +kernel
theorem dX5_readFact_60 : decode cX5_readFact 60 = .ok (.aload_n 0, 1) := by decide +kernel
theorem dX5_readFact_61 : decode cX5_readFact 61 = .ok (.iload_n 1, 1) := by decide +kernel
theorem dX5_readFact_62 : decode cX5_readFact 62 = .ok (.invokevirtual 60, 3) := by decide +kernel
theorem dX5_readFact_65 : decode cX5_readFact 65 = .ok (.ifCond .eq 29, 3) := by decide +kernel
theorem dX5_readFact_68 : decode cX5_readFact 68 = .ok (.aload_n 0, 1) := by decide +kernel
theorem dX5_readFact_69 : decode cX5_readFact 69 = .ok (.iload_n 1, 1) := by decide +kernel
theorem dX5_readFact_70 : decode cX5_readFact 70 = .ok (.iconst 1, 1) := by decide +kernel
theorem dX5_readFact_71 : decode cX5_readFact 71 = .ok (.iadd, 1) := by decide +kernel
theorem dX5_readFact_72 : decode cX5_readFact 72 = .ok (.invokevirtual 66, 3) := by decide +kernel
theorem dX5_readFact_75 : decode cX5_readFact 75 = .ok (.ifCond .eq 19, 3) := by decide +kernel
theorem dX5_readFact_78 : decode cX5_readFact 78 = .ok (.aload_n 0, 1) := by decide +kernel
theorem dX5_readFact_79 : decode cX5_readFact 79 = .ok (.getfield 9, 3) := by decide +kernel
theorem dX5_readFact_82 : decode cX5_readFact 82 = .ok (.bipush 93, 2) := by decide +kernel
theorem dX5_readFact_84 : decode cX5_readFact 84 = .ok (.invokevirtual 69, 3) := by decide +kernel
theorem dX5_readFact_87 : decode cX5_readFact 87 = .ok (.ifCond .eq 7, 3) := by decide +kernel
theorem dX5_readFact_90 : decode cX5_readFact 90 = .ok (.iconst 1, 1) := by decide +kernel
theorem dX5_readFact_91 : decode cX5_readFact 91 = .ok (.goto 4, 3) := by decide +kernel
theorem dX5_readFact_94 : decode cX5_readFact 94 = .ok (.iconst 0, 1) := by decide +kernel
theorem dX5_readFact_95 : decode cX5_readFact 95 = .ok (.ireturn, 1) := by decide +kernel
theorem dX5_readFact_96 : decode cX5_readFact 96 = .ok (.aload_n 0, 1) := by decide +kernel
theorem dX5_readFact_97 : decode cX5_readFact 97 = .ok (.getfield 9, 3) := by decide +kernel
theorem dX5_readFact_100 : decode cX5_readFact 100 = .ok (.bipush 29, 2) := by decide +kernel
theorem dX5_readFact_102 : decode cX5_readFact 102 = .ok (.invokevirtual 47, 3) := by decide +kernel
theorem dX5_readFact_105 : decode cX5_readFact 105 = .ok (.ifCond .eq 20, 3) := by decide +kernel
theorem dX5_readFact_108 : decode cX5_readFact 108 = .ok (.aload_n 0, 1) := by decide +kernel
theorem dX5_readFact_109 : decode cX5_readFact 109 = .ok (.getfield 9, 3) := by decide +kernel
theorem dX5_readFact_112 : decode cX5_readFact 112 = .ok (.invokevirtual 50, 3) := by decide +kernel
theorem dX5_readFact_115 : decode cX5_readFact 115 = .ok (.aload_n 0, 1) := by decide +kernel
theorem dX5_readFact_116 : decode cX5_readFact 116 = .ok (.getfield 15, 3) := by decide +kernel
theorem dX5_readFact_119 : decode cX5_readFact 119 = .ok (.iconst 0, 1) := by decide +kernel
theorem dX5_readFact_120 : decode cX5_readFact 120 = .ok (.iconst 1, 1) := by decide +kernel
theorem dX5_readFact_121 : decode cX5_readFact 121 = .ok (.invokevirtual 53, 3) := by decide +kernel
theorem dX5_readFact_124 : decode cX5_readFact 124 = .ok (.ireturn, 1) := by decide +kernel
theorem dX5_readFact_125 : decode cX5_readFact 125 = .ok (.aload_n 0, 1) := by decide +kernel
theorem dX5_readFact_126 : decode cX5_readFact 126 = .ok (.iload_n 1, 1) := by decide +kernel
theorem dX5_readFact_127 : decode cX5_readFact 127 = .ok (.invokevirtual 72, 3) := by decide +kernel
theorem dX5_readFact_130 : decode cX5_readFact 130 = .ok (.ifCond .eq 15, 3) := by decide +kernel
theorem dX5_readFact_133 : decode cX5_readFact 133 = .ok (.aload_n 0, 1) := by decide +kernel
theorem dX5_readFact_134 : decode cX5_readFact 134 = .ok (.iload_n 1, 1) := by decide +kernel
theorem dX5_readFact_135 : decode cX5_readFact 135 = .ok (.invokevirtual 75, 3) := by decide +kernel
theorem dX5_readFact_138 : decode cX5_readFact 138 = .ok (.ifCond .eq 7, 3) := by decide +kernel
theorem dX5_readFact_141 : decode cX5_readFact 141 = .ok (.iconst 1, 1) := by decide +kernel
theorem dX5_readFact_142 : decode cX5_readFact 142 = .ok (.goto 4, 3) := by decide +kernel
theorem dX5_readFact_145 : decode cX5_readFact 145 = .ok (.iconst 0, 1) := by decide +kernel
theorem dX5_readFact_146 : decode cX5_readFact 146 = .ok (.ireturn, 1) := by decide +kernel
theorem dX5_readSecondSum_0 : decode cX5_readSecondSum 0 = .ok (.aload_n 0, 1) := by decide +kernel
theorem dX5_readSecondSum_1 : decode cX5_readSecondSum 1 = .ok (.invokevirtual 78, 3) := by decide +kernel
theorem dX5_readSecondSum_4 : decode cX5_readSecondSum 4 = .ok (.istore_n 2, 1) := by decide +kernel
theorem dX5_readSecondSum_5 : decode cX5_readSecondSum 5 = .ok (.iload_n 2, 1) := by decide +kernel
theorem dX5_readSecondSum_6 : decode cX5_readSecondSum 6 = .ok (.iconst (-1), 1) := by decide +kernel
theorem dX5_readSecondSum_7 : decode cX5_readSecondSum 7 = .ok (.if_icmp .ne 11, 3) := by decide +kernel
theorem dX5_readSecondSum_10 : decode cX5_readSecondSum 10 = .ok (.aload_n 0, 1) := by decide +kernel
theorem dX5_readSecondSum_11 : decode cX5_readSecondSum 11 = .ok (.getfield 9, 3) := by decide +kernel
theorem dX5_readSecondSum_14 : decode cX5_readSecondSum 14 = .ok (.invokevirtual 82, 3) := by decide +kernel
theorem dX5_readSecondSum_17 : decode cX5_readSecondSum 17 = .ok (.ireturn, 1) := by decide +kernel
theorem dX5_readSecondSum_18 : decode cX5_readSecondSum 18 = .ok (.aload_n 0, 1) := by decide +kernel
theorem dX5_readSecondSum_19 : decode cX5_readSecondSum 19 = .ok (.getfield 9, 3) := by decide +kernel
theorem dX5_readSecondSum_22 : decode cX5_readSecondSum 22 = .ok (.invokevirtual 50, 3) := by decide +kernel
theorem dX5_readSecondSum_25 : decode cX5_readSecondSum 25 = .ok (.aload_n 0, 1) := by decide +kernel
theorem dX5_readSecondSum_26 : decode cX5_readSecondSum 26 = .ok (.iload_n 1, 1) := by decide +kernel
theorem dX5_readSecondSum_27 : decode cX5_readSecondSum 27 = .ok (.invokevirtual 72, 3) := by decide +kernel
theorem dX5_readSecondSum_30 : decode cX5_readSecondSum 30 = .ok (.ifCond .eq 19, 3) := by decide +kernel
theorem dX5_readSecondSum_33 : decode cX5_readSecondSum 33 = .ok (.aload_n 0, 1) := by decide +kernel
theorem dX5_readSecondSum_34 : decode cX5_readSecondSum 34 = .ok (.getfield 15, 3) := by decide +kernel
theorem dX5_readSecondSum_37 : decode cX5_readSecondSum 37 = .ok (.iload_n 2, 1) := by decide +kernel
theorem dX5_readSecondSum_38 : decode cX5_readSecondSum 38 = .ok (.iconst 0, 1) := by decide +kernel
theorem dX5_readSecondSum_39 : decode cX5_readSecondSum 39 = .ok (.invokevirtual 53, 3) := by decide +kernel
theorem dX5_readSecondSum_42 : decode cX5_readSecondSum 42 = .ok (.ifCond .eq 7, 3) := by decide +kernel
theorem dX5_readSecondSum_45 : decode cX5_readSecondSum 45 = .ok (.iconst 1, 1) := by decide +kernel
theorem dX5_readSecondSum_46 : decode cX5_readSecondSum 46 = .ok (.goto 4, 3) := by decide +kernel
theorem dX5_readSecondSum_49 : decode cX5_readSecondSum 49 = .ok (.iconst 0, 1) := by decide +kernel
theorem dX5_readSecondSum_50 : decode cX5_readSecondSum 50 = .ok (.ireturn, 1) := by decide +kernel
theorem dX5_comparison_0 : decode cX5_comparison 0 = .ok (.aload_n 0, 1) := by decide +kernel
theorem dX5_comparison_1 : decode cX5_comparison 1 = .ok (.getfield 9, 3) := by decide +kernel
theorem dX5_comparison_4 : decode cX5_comparison 4 = .ok (.bipush 60, 2) := by decide +kernel
theorem dX5_comparison_6 : decode cX5_comparison 6 = .ok (.invokevirtual 63, 3) := by decide +kernel
theorem dX5_comparison_9 : decode cX5_comparison 9 = .ok (.ifCond .eq 6, 3) := by decide +kernel
theorem dX5_comparison_12 : decode cX5_comparison 12 = .ok (.bipush 11, 2) := by decide +kernel
theorem dX5_comparison_14 : decode cX5_comparison 14 = .ok (.ireturn, 1) := by decide +kernel
theorem dX5_comparison_15 : decode cX5_comparison 15 = .ok (.aload_n 0, 1) := by decide +kernel
theorem dX5_comparison_16 : decode cX5_comparison 16 = .ok (.getfield 9, 3) := by decide +kernel
theorem dX5_comparison_19 : decode cX5_comparison 19 = .ok (.bipush 62, 2) := by decide +kernel
theorem dX5_comparison_21 : decode cX5_comparison 21 = .ok (.invokevirtual 63, 3) := by decide +kernel
theorem dX5_comparison_24 : decode cX5_comparison 24 = .ok (.ifCond .eq 6, 3) := by decide +kernel
theorem dX5_comparison_27 : decode cX5_comparison 27 = .ok (.bipush 12, 2) := by decide +kernel
theorem dX5_comparison_29 : decode cX5_comparison 29 = .ok (.ireturn, 1) := by decide +kernel
theorem dX5_comparison_30 : decode cX5_comparison 30 = .ok (.aload_n 0, 1) := by decide +kernel
theorem dX5_comparison_31 : decode cX5_comparison 31 = .ok (.getfield 9, 3) := by decide +kernel
theorem dX5_comparison_34 : decode cX5_comparison 34 = .ok (.bipush 61, 2) := by decide +kernel
theorem dX5_comparison_36 : decode cX5_comparison 36 = .ok (.invokevirtual 63, 3) := by decide +kernel
theorem dX5_comparison_39 : decode cX5_comparison 39 = .ok (.ifCond .eq 8, 3) := by decide +kernel
theorem dX5_comparison_42 : decode cX5_comparison 42 = .ok (.bipush 13, 2) := by decide +kernel
theorem dX5_comparison_44 : decode cX5_comparison 44 = .ok (.goto 4, 3) := by decide +kernel
theorem dX5_comparison_47 : decode cX5_comparison 47 = .ok (.iconst (-1), 1) := by decide +kernel
theorem dX5_comparison_48 : decode cX5_comparison 48 = .ok (.ireturn, 1) := by decide +kernel
theorem dX5_readSum_0 : decode cX5_readSum 0 = .ok (.aload_n 0, 1) := by decide +kernel
theorem dX5_readSum_1 : decode cX5_readSum 1 = .ok (.iload_n 1, 1) := by decide +kernel
theorem dX5_readSum_2 : decode cX5_readSum 2 = .ok (.invokevirtual 86, 3) := by decide +kernel
theorem dX5_readSum_5 : decode cX5_readSum 5 = .ok (.istore_n 2, 1) := by decide +kernel
theorem dX5_readSum_6 : decode cX5_readSum 6 = .ok (.iconst 0, 1) := by decide +kernel
theorem dX5_readSum_7 : decode cX5_readSum 7 = .ok (.istore_n 3, 1) := by decide +kernel
theorem dX5_readSum_8 : decode cX5_readSum 8 = .ok (.iload_n 3, 1) := by decide +kernel
theorem dX5_readSum_9 : decode cX5_readSum 9 = .ok (.sipush 1600, 3) := by decide +kernel
theorem dX5_readSum_12 : decode cX5_readSum 12 = .ok (.if_icmp .ge 90, 3) := by decide +kernel
theorem dX5_readSum_15 : decode cX5_readSum 15 = .ok (.iload_n 2, 1) := by decide +kernel
theorem dX5_readSum_16 : decode cX5_readSum 16 = .ok (.ifCond .eq 86, 3) := by decide +kernel
theorem dX5_readSum_19 : decode cX5_readSum 19 = .ok (.aload_n 0, 1) := by decide +kernel
theorem dX5_readSum_20 : decode cX5_readSum 20 = .ok (.getfield 9, 3) := by decide +kernel
theorem dX5_readSum_23 : decode cX5_readSum 23 = .ok (.bipush 43, 2) := by decide +kernel
theorem dX5_readSum_25 : decode cX5_readSum 25 = .ok (.invokevirtual 63, 3) := by decide +kernel
theorem dX5_readSum_28 : decode cX5_readSum 28 = .ok (.ifCond .ne 15, 3) := by decide +kernel
theorem dX5_readSum_31 : decode cX5_readSum 31 = .ok (.aload_n 0, 1) := by decide +kernel
theorem dX5_readSum_32 : decode cX5_readSum 32 = .ok (.getfield 9, 3) := by decide +kernel
theorem dX5_readSum_35 : decode cX5_readSum 35 = .ok (.bipush 45, 2) := by decide +kernel
theorem dX5_readSum_37 : decode cX5_readSum 37 = .ok (.invokevirtual 63, 3) := by decide +kernel
theorem dX5_readSum_40 : decode cX5_readSum 40 = .ok (.ifCond .eq 62, 3) := by decide +kernel
theorem dX5_readSum_43 : decode cX5_readSum 43 = .ok (.aload_n 0, 1) := by decide +kernel
theorem dX5_readSum_44 : decode cX5_readSum 44 = .ok (.getfield 9, 3) := by decide +kernel
theorem dX5_readSum_47 : decode cX5_readSum 47 = .ok (.bipush 43, 2) := by decide +kernel
theorem dX5_readSum_49 : decode cX5_readSum 49 = .ok (.invokevirtual 63, 3) := by decide +kernel
theorem dX5_readSum_52 : decode cX5_readSum 52 = .ok (.ifCond .eq 7, 3) := by decide +kernel
theorem dX5_readSum_55 : decode cX5_readSum 55 = .ok (.iconst 4, 1) := by decide +kernel
theorem dX5_readSum_56 : decode cX5_readSum 56 = .ok (.goto 4, 3) := by decide +kernel
theorem dX5_readSum_59 : decode cX5_readSum 59 = .ok (.iconst 5, 1) := by decide +kernel
theorem dX5_readSum_60 : decode cX5_readSum 60 = .ok (.istore 4, 2) := by decide +kernel
theorem dX5_readSum_62 : decode cX5_readSum 62 = .ok (.aload_n 0, 1) := by decide +kernel
theorem dX5_readSum_63 : decode cX5_readSum 63 = .ok (.getfield 9, 3) := by decide +kernel
theorem dX5_readSum_66 : decode cX5_readSum 66 = .ok (.invokevirtual 50, 3) := by decide +kernel
theorem dX5_readSum_69 : decode cX5_readSum 69 = .ok (.aload_n 0, 1) := by decide +kernel
theorem dX5_readSum_70 : decode cX5_readSum 70 = .ok (.iload_n 1, 1) := by decide +kernel
theorem dX5_readSum_71 : decode cX5_readSum 71 = .ok (.invokevirtual 86, 3) := by decide +kernel
theorem dX5_readSum_74 : decode cX5_readSum 74 = .ok (.ifCond .eq 20, 3) := by decide +kernel
theorem dX5_readSum_77 : decode cX5_readSum 77 = .ok (.aload_n 0, 1) := by decide +kernel
theorem dX5_readSum_78 : decode cX5_readSum 78 = .ok (.getfield 15, 3) := by decide +kernel
theorem dX5_readSum_81 : decode cX5_readSum 81 = .ok (.iload 4, 2) := by decide +kernel
theorem dX5_readSum_83 : decode cX5_readSum 83 = .ok (.iconst 0, 1) := by decide +kernel
theorem dX5_readSum_84 : decode cX5_readSum 84 = .ok (.invokevirtual 53, 3) := by decide +kernel
theorem dX5_readSum_87 : decode cX5_readSum 87 = .ok (.ifCond .eq 7, 3) := by decide +kernel
theorem dX5_readSum_90 : decode cX5_readSum 90 = .ok (.iconst 1, 1) := by decide +kernel
theorem dX5_readSum_91 : decode cX5_readSum 91 = .ok (.goto 4, 3) := by decide +kernel
theorem dX5_readSum_94 : decode cX5_readSum 94 = .ok (.iconst 0, 1) := by decide +kernel
theorem dX5_readSum_95 : decode cX5_readSum 95 = .ok (.istore_n 2, 1) := by decide +kernel
theorem dX5_readSum_96 : decode cX5_readSum 96 = .ok (.iinc 3 1, 3) := by decide +kernel
theorem dX5_readSum_99 : decode cX5_readSum 99 = .ok (.goto (-91), 3) := by decide +kernel
theorem dX5_readSum_102 : decode cX5_readSum 102 = .ok (.iload_n 2, 1) := by decide +kernel
theorem dX5_readSum_103 : decode cX5_readSum 103 = .ok (.ireturn, 1) := by decide +kernel
theorem dX5_readProduct_0 : decode cX5_readProduct 0 = .ok (.aload_n 0, 1) := by decide +kernel
theorem dX5_readProduct_1 : decode cX5_readProduct 1 = .ok (.iload_n 1, 1) := by decide +kernel
theorem dX5_readProduct_2 : decode cX5_readProduct 2 = .ok (.invokevirtual 89, 3) := by decide +kernel
theorem dX5_readProduct_5 : decode cX5_readProduct 5 = .ok (.istore_n 2, 1) := by decide +kernel
theorem dX5_readProduct_6 : decode cX5_readProduct 6 = .ok (.iconst 0, 1) := by decide +kernel
theorem dX5_readProduct_7 : decode cX5_readProduct 7 = .ok (.istore_n 3, 1) := by decide +kernel
theorem dX5_readProduct_8 : decode cX5_readProduct 8 = .ok (.iload_n 3, 1) := by decide +kernel
theorem dX5_readProduct_9 : decode cX5_readProduct 9 = .ok (.sipush 1600, 3) := by decide +kernel
theorem dX5_readProduct_12 : decode cX5_readProduct 12 = .ok (.if_icmp .ge 61, 3) := by decide +kernel
theorem dX5_readProduct_15 : decode cX5_readProduct 15 = .ok (.iload_n 2, 1) := by decide +kernel
theorem dX5_readProduct_16 : decode cX5_readProduct 16 = .ok (.ifCond .eq 57, 3) := by decide +kernel
theorem dX5_readProduct_19 : decode cX5_readProduct 19 = .ok (.aload_n 0, 1) := by decide +kernel
theorem dX5_readProduct_20 : decode cX5_readProduct 20 = .ok (.invokevirtual 92, 3) := by decide +kernel
theorem dX5_readProduct_23 : decode cX5_readProduct 23 = .ok (.iconst (-1), 1) := by decide +kernel
theorem dX5_readProduct_24 : decode cX5_readProduct 24 = .ok (.if_icmp .eq 49, 3) := by decide +kernel
theorem dX5_readProduct_27 : decode cX5_readProduct 27 = .ok (.aload_n 0, 1) := by decide +kernel
theorem dX5_readProduct_28 : decode cX5_readProduct 28 = .ok (.invokevirtual 92, 3) := by decide +kernel
theorem dX5_readProduct_31 : decode cX5_readProduct 31 = .ok (.istore 4, 2) := by decide +kernel
theorem dX5_readProduct_33 : decode cX5_readProduct 33 = .ok (.aload_n 0, 1) := by decide +kernel
theorem dX5_readProduct_34 : decode cX5_readProduct 34 = .ok (.getfield 9, 3) := by decide +kernel
theorem dX5_readProduct_37 : decode cX5_readProduct 37 = .ok (.invokevirtual 50, 3) := by decide +kernel
theorem dX5_readProduct_40 : decode cX5_readProduct 40 = .ok (.aload_n 0, 1) := by decide +kernel
theorem dX5_readProduct_41 : decode cX5_readProduct 41 = .ok (.iload_n 1, 1) := by decide +kernel
theorem dX5_readProduct_42 : decode cX5_readProduct 42 = .ok (.invokevirtual 89, 3) := by decide +kernel
theorem dX5_readProduct_45 : decode cX5_readProduct 45 = .ok (.ifCond .eq 20, 3) := by decide +kernel
theorem dX5_readProduct_48 : decode cX5_readProduct 48 = .ok (.aload_n 0, 1) := by decide +kernel
theorem dX5_readProduct_49 : decode cX5_readProduct 49 = .ok (.getfield 15, 3) := by decide +kernel
theorem dX5_readProduct_52 : decode cX5_readProduct 52 = .ok (.iload 4, 2) := by decide +kernel
theorem dX5_readProduct_54 : decode cX5_readProduct 54 = .ok (.iconst 0, 1) := by decide +kernel
theorem dX5_readProduct_55 : decode cX5_readProduct 55 = .ok (.invokevirtual 53, 3) := by decide +kernel
theorem dX5_readProduct_58 : decode cX5_readProduct 58 = .ok (.ifCond .eq 7, 3) := by decide +kernel
theorem dX5_readProduct_61 : decode cX5_readProduct 61 = .ok (.iconst 1, 1) := by decide +kernel
theorem dX5_readProduct_62 : decode cX5_readProduct 62 = .ok (.goto 4, 3) := by decide +kernel
theorem dX5_readProduct_65 : decode cX5_readProduct 65 = .ok (.iconst 0, 1) := by decide +kernel
theorem dX5_readProduct_66 : decode cX5_readProduct 66 = .ok (.istore_n 2, 1) := by decide +kernel
theorem dX5_readProduct_67 : decode cX5_readProduct 67 = .ok (.iinc 3 1, 3) := by decide +kernel
theorem dX5_readProduct_70 : decode cX5_readProduct 70 = .ok (.goto (-62), 3) := by decide +kernel
theorem dX5_readProduct_73 : decode cX5_readProduct 73 = .ok (.iload_n 2, 1) := by decide +kernel
theorem dX5_readProduct_74 : decode cX5_readProduct 74 = .ok (.ireturn, 1) := by decide +kernel
theorem dX5_productSign_0 : decode cX5_productSign 0 = .ok (.aload_n 0, 1) := by decide +kernel
theorem dX5_productSign_1 : decode cX5_productSign 1 = .ok (.getfield 9, 3) := by decide +kernel
theorem dX5_productSign_4 : decode cX5_productSign 4 = .ok (.bipush 42, 2) := by decide +kernel
theorem dX5_productSign_6 : decode cX5_productSign 6 = .ok (.invokevirtual 63, 3) := by decide +kernel
theorem dX5_productSign_9 : decode cX5_productSign 9 = .ok (.ifCond .eq 6, 3) := by decide +kernel
theorem dX5_productSign_12 : decode cX5_productSign 12 = .ok (.bipush 6, 2) := by decide +kernel
theorem dX5_productSign_14 : decode cX5_productSign 14 = .ok (.ireturn, 1) := by decide +kernel
theorem dX5_productSign_15 : decode cX5_productSign 15 = .ok (.aload_n 0, 1) := by decide +kernel
theorem dX5_productSign_16 : decode cX5_productSign 16 = .ok (.getfield 9, 3) := by decide +kernel
theorem dX5_productSign_19 : decode cX5_productSign 19 = .ok (.bipush 47, 2) := by decide +kernel
theorem dX5_productSign_21 : decode cX5_productSign 21 = .ok (.invokevirtual 63, 3) := by decide +kernel
theorem dX5_productSign_24 : decode cX5_productSign 24 = .ok (.ifCond .eq 6, 3) := by decide +kernel
theorem dX5_productSign_27 : decode cX5_productSign 27 = .ok (.bipush 7, 2) := by decide +kernel
theorem dX5_productSign_29 : decode cX5_productSign 29 = .ok (.ireturn, 1) := by decide +kernel
theorem dX5_productSign_30 : decode cX5_productSign 30 = .ok (.aload_n 0, 1) := by decide +kernel
theorem dX5_productSign_31 : decode cX5_productSign 31 = .ok (.getfield 9, 3) := by decide +kernel
theorem dX5_productSign_34 : decode cX5_productSign 34 = .ok (.bipush 37, 2) := by decide +kernel
theorem dX5_productSign_36 : decode cX5_productSign 36 = .ok (.invokevirtual 63, 3) := by decide +kernel
theorem dX5_productSign_39 : decode cX5_productSign 39 = .ok (.ifCond .eq 8, 3) := by decide +kernel
theorem dX5_productSign_42 : decode cX5_productSign 42 = .ok (.bipush 8, 2) := by decide +kernel
theorem dX5_productSign_44 : decode cX5_productSign 44 = .ok (.goto 4, 3) := by decide +kernel
theorem dX5_productSign_47 : decode cX5_productSign 47 = .ok (.iconst (-1), 1) := by decide +kernel
theorem dX5_productSign_48 : decode cX5_productSign 48 = .ok (.ireturn, 1) := by decide +kernel
theorem dX5_readPart_0 : decode cX5_readPart 0 = .ok (.aload_n 0, 1) := by decide +kernel
theorem dX5_readPart_1 : decode cX5_readPart 1 = .ok (.getfield 9, 3) := by decide +kernel
theorem dX5_readPart_4 : decode cX5_readPart 4 = .ok (.getfield 95, 3) := by decide +kernel
theorem dX5_readPart_7 : decode cX5_readPart 7 = .ok (.iconst 2, 1) := by decide +kernel
theorem dX5_readPart_8 : decode cX5_readPart 8 = .ok (.if_icmp .ne 28, 3) := by decide +kernel
theorem dX5_readPart_11 : decode cX5_readPart 11 = .ok (.aload_n 0, 1) := by decide +kernel
theorem dX5_readPart_12 : decode cX5_readPart 12 = .ok (.getfield 15, 3) := by decide +kernel
theorem dX5_readPart_15 : decode cX5_readPart 15 = .ok (.iconst 0, 1) := by decide +kernel
theorem dX5_readPart_16 : decode cX5_readPart 16 = .ok (.aload_n 0, 1) := by decide +kernel
theorem dX5_readPart_17 : decode cX5_readPart 17 = .ok (.getfield 9, 3) := by decide +kernel
theorem dX5_readPart_20 : decode cX5_readPart 20 = .ok (.getfield 98, 3) := by decide +kernel
theorem dX5_readPart_23 : decode cX5_readPart 23 = .ok (.invokevirtual 53, 3) := by decide +kernel
theorem dX5_readPart_26 : decode cX5_readPart 26 = .ok (.pop, 1) := by decide +kernel
theorem dX5_readPart_27 : decode cX5_readPart 27 = .ok (.aload_n 0, 1) := by decide +kernel
theorem dX5_readPart_28 : decode cX5_readPart 28 = .ok (.getfield 9, 3) := by decide +kernel
theorem dX5_readPart_31 : decode cX5_readPart 31 = .ok (.invokevirtual 50, 3) := by decide +kernel
theorem dX5_readPart_34 : decode cX5_readPart 34 = .ok (.iconst 1, 1) := by decide +kernel
theorem dX5_readPart_35 : decode cX5_readPart 35 = .ok (.ireturn, 1) := by decide +kernel
theorem dX5_readPart_36 : decode cX5_readPart 36 = .ok (.aload_n 0, 1) := by decide +kernel
theorem dX5_readPart_37 : decode cX5_readPart 37 = .ok (.getfield 9, 3) := by decide +kernel
theorem dX5_readPart_40 : decode cX5_readPart 40 = .ok (.bipush 40, 2) := by decide +kernel
theorem dX5_readPart_42 : decode cX5_readPart 42 = .ok (.invokevirtual 63, 3) := by decide +kernel
theorem dX5_readPart_45 : decode cX5_readPart 45 = .ok (.ifCond .eq 39, 3) := by decide +kernel
theorem dX5_readPart_48 : decode cX5_readPart 48 = .ok (.aload_n 0, 1) := by decide +kernel
theorem dX5_readPart_49 : decode cX5_readPart 49 = .ok (.iload_n 1, 1) := by decide +kernel
theorem dX5_readPart_50 : decode cX5_readPart 50 = .ok (.invokevirtual 60, 3) := by decide +kernel
theorem dX5_readPart_53 : decode cX5_readPart 53 = .ok (.ifCond .eq 29, 3) := by decide +kernel
theorem dX5_readPart_56 : decode cX5_readPart 56 = .ok (.aload_n 0, 1) := by decide +kernel
theorem dX5_readPart_57 : decode cX5_readPart 57 = .ok (.iload_n 1, 1) := by decide +kernel
theorem dX5_readPart_58 : decode cX5_readPart 58 = .ok (.iconst 1, 1) := by decide +kernel
theorem dX5_readPart_59 : decode cX5_readPart 59 = .ok (.iadd, 1) := by decide +kernel
theorem dX5_readPart_60 : decode cX5_readPart 60 = .ok (.invokevirtual 72, 3) := by decide +kernel
theorem dX5_readPart_63 : decode cX5_readPart 63 = .ok (.ifCond .eq 19, 3) := by decide +kernel
theorem dX5_readPart_66 : decode cX5_readPart 66 = .ok (.aload_n 0, 1) := by decide +kernel
theorem dX5_readPart_67 : decode cX5_readPart 67 = .ok (.getfield 9, 3) := by decide +kernel
theorem dX5_readPart_70 : decode cX5_readPart 70 = .ok (.bipush 41, 2) := by decide +kernel
theorem dX5_readPart_72 : decode cX5_readPart 72 = .ok (.invokevirtual 69, 3) := by decide +kernel
theorem dX5_readPart_75 : decode cX5_readPart 75 = .ok (.ifCond .eq 7, 3) := by decide +kernel
theorem dX5_readPart_78 : decode cX5_readPart 78 = .ok (.iconst 1, 1) := by decide +kernel
theorem dX5_readPart_79 : decode cX5_readPart 79 = .ok (.goto 4, 3) := by decide +kernel
theorem dX5_readPart_82 : decode cX5_readPart 82 = .ok (.iconst 0, 1) := by decide +kernel
theorem dX5_readPart_83 : decode cX5_readPart 83 = .ok (.ireturn, 1) := by decide +kernel
theorem dX5_readPart_84 : decode cX5_readPart 84 = .ok (.aload_n 0, 1) := by decide +kernel
theorem dX5_readPart_85 : decode cX5_readPart 85 = .ok (.getfield 9, 3) := by decide +kernel
theorem dX5_readPart_88 : decode cX5_readPart 88 = .ok (.bipush 30, 2) := by decide +kernel
theorem dX5_readPart_90 : decode cX5_readPart 90 = .ok (.invokevirtual 47, 3) := by decide +kernel
theorem dX5_readPart_93 : decode cX5_readPart 93 = .ok (.ifCond .eq 11, 3) := by decide +kernel
theorem dX5_readPart_96 : decode cX5_readPart 96 = .ok (.aload_n 0, 1) := by decide +kernel
theorem dX5_readPart_97 : decode cX5_readPart 97 = .ok (.iload_n 1, 1) := by decide +kernel
theorem dX5_readPart_98 : decode cX5_readPart 98 = .ok (.bipush 9, 2) := by decide +kernel
theorem dX5_readPart_100 : decode cX5_readPart 100 = .ok (.invokevirtual 101, 3) := by decide +kernel
theorem dX5_readPart_103 : decode cX5_readPart 103 = .ok (.ireturn, 1) := by decide +kernel
theorem dX5_readPart_104 : decode cX5_readPart 104 = .ok (.aload_n 0, 1) := by decide +kernel
theorem dX5_readPart_105 : decode cX5_readPart 105 = .ok (.getfield 9, 3) := by decide +kernel
theorem dX5_readPart_108 : decode cX5_readPart 108 = .ok (.bipush 31, 2) := by decide +kernel
theorem dX5_readPart_110 : decode cX5_readPart 110 = .ok (.invokevirtual 47, 3) := by decide +kernel
theorem dX5_readPart_113 : decode cX5_readPart 113 = .ok (.ifCond .eq 11, 3) := by decide +kernel
theorem dX5_readPart_116 : decode cX5_readPart 116 = .ok (.aload_n 0, 1) := by decide +kernel
theorem dX5_readPart_117 : decode cX5_readPart 117 = .ok (.iload_n 1, 1) := by decide +kernel
theorem dX5_readPart_118 : decode cX5_readPart 118 = .ok (.bipush 10, 2) := by decide +kernel
theorem dX5_readPart_120 : decode cX5_readPart 120 = .ok (.invokevirtual 101, 3) := by decide +kernel
theorem dX5_readPart_123 : decode cX5_readPart 123 = .ok (.ireturn, 1) := by decide +kernel
theorem dX5_readPart_124 : decode cX5_readPart 124 = .ok (.aload_n 0, 1) := by decide +kernel
theorem dX5_readPart_125 : decode cX5_readPart 125 = .ok (.getfield 9, 3) := by decide +kernel
theorem dX5_readPart_128 : decode cX5_readPart 128 = .ok (.bipush 25, 2) := by decide +kernel
theorem dX5_readPart_130 : decode cX5_readPart 130 = .ok (.invokevirtual 47, 3) := by decide +kernel
theorem dX5_readPart_133 : decode cX5_readPart 133 = .ok (.ifCond .eq 9, 3) := by decide +kernel
theorem dX5_readPart_136 : decode cX5_readPart 136 = .ok (.aload_n 0, 1) := by decide +kernel
theorem dX5_readPart_137 : decode cX5_readPart 137 = .ok (.iload_n 1, 1) := by decide +kernel
theorem dX5_readPart_138 : decode cX5_readPart 138 = .ok (.invokevirtual 104, 3) := by decide +kernel
theorem dX5_readPart_141 : decode cX5_readPart 141 = .ok (.ireturn, 1) := by decide +kernel
theorem dX5_readPart_142 : decode cX5_readPart 142 = .ok (.aload_n 0, 1) := by decide +kernel
theorem dX5_readPart_143 : decode cX5_readPart 143 = .ok (.invokevirtual 107, 3) := by decide +kernel
theorem dX5_readPart_146 : decode cX5_readPart 146 = .ok (.istore_n 2, 1) := by decide +kernel
theorem dX5_readPart_147 : decode cX5_readPart 147 = .ok (.iload_n 2, 1) := by decide +kernel
theorem dX5_readPart_148 : decode cX5_readPart 148 = .ok (.iconst (-1), 1) := by decide +kernel
theorem dX5_readPart_149 : decode cX5_readPart 149 = .ok (.if_icmp .ne 11, 3) := by decide +kernel
theorem dX5_readPart_152 : decode cX5_readPart 152 = .ok (.aload_n 0, 1) := by decide +kernel
theorem dX5_readPart_153 : decode cX5_readPart 153 = .ok (.getfield 9, 3) := by decide +kernel
theorem dX5_readPart_156 : decode cX5_readPart 156 = .ok (.invokevirtual 82, 3) := by decide +kernel
theorem dX5_readPart_159 : decode cX5_readPart 159 = .ok (.ireturn, 1) := by decide +kernel
theorem dX5_readPart_160 : decode cX5_readPart 160 = .ok (.aload_n 0, 1) := by decide +kernel
theorem dX5_readPart_161 : decode cX5_readPart 161 = .ok (.getfield 9, 3) := by decide +kernel
theorem dX5_readPart_164 : decode cX5_readPart 164 = .ok (.invokevirtual 50, 3) := by decide +kernel
theorem dX5_readPart_167 : decode cX5_readPart 167 = .ok (.aload_n 0, 1) := by decide +kernel
theorem dX5_readPart_168 : decode cX5_readPart 168 = .ok (.getfield 15, 3) := by decide +kernel
theorem dX5_readPart_171 : decode cX5_readPart 171 = .ok (.iconst 1, 1) := by decide +kernel
theorem dX5_readPart_172 : decode cX5_readPart 172 = .ok (.iload_n 2, 1) := by decide +kernel
theorem dX5_readPart_173 : decode cX5_readPart 173 = .ok (.invokevirtual 53, 3) := by decide +kernel
theorem dX5_readPart_176 : decode cX5_readPart 176 = .ok (.ireturn, 1) := by decide +kernel
theorem dX5_readTwo_0 : decode cX5_readTwo 0 = .ok (.aload_n 0, 1) := by decide +kernel
theorem dX5_readTwo_1 : decode cX5_readTwo 1 = .ok (.getfield 9, 3) := by decide +kernel
theorem dX5_readTwo_4 : decode cX5_readTwo 4 = .ok (.invokevirtual 50, 3) := by decide +kernel
theorem dX5_readTwo_7 : decode cX5_readTwo 7 = .ok (.aload_n 0, 1) := by decide +kernel
theorem dX5_readTwo_8 : decode cX5_readTwo 8 = .ok (.getfield 9, 3) := by decide +kernel
theorem dX5_readTwo_11 : decode cX5_readTwo 11 = .ok (.bipush 40, 2) := by decide +kernel
theorem dX5_readTwo_13 : decode cX5_readTwo 13 = .ok (.invokevirtual 63, 3) := by decide +kernel
theorem dX5_readTwo_16 : decode cX5_readTwo 16 = .ok (.ifCond .ne 11, 3) := by decide +kernel
theorem dX5_readTwo_19 : decode cX5_readTwo 19 = .ok (.aload_n 0, 1) := by decide +kernel
theorem dX5_readTwo_20 : decode cX5_readTwo 20 = .ok (.getfield 9, 3) := by decide +kernel
theorem dX5_readTwo_23 : decode cX5_readTwo 23 = .ok (.invokevirtual 82, 3) := by decide +kernel
theorem dX5_readTwo_26 : decode cX5_readTwo 26 = .ok (.ireturn, 1) := by decide +kernel
theorem dX5_readTwo_27 : decode cX5_readTwo 27 = .ok (.aload_n 0, 1) := by decide +kernel
theorem dX5_readTwo_28 : decode cX5_readTwo 28 = .ok (.iload_n 1, 1) := by decide +kernel
theorem dX5_readTwo_29 : decode cX5_readTwo 29 = .ok (.invokevirtual 60, 3) := by decide +kernel
theorem dX5_readTwo_32 : decode cX5_readTwo 32 = .ok (.ifCond .eq 63, 3) := by decide +kernel
theorem dX5_readTwo_35 : decode cX5_readTwo 35 = .ok (.aload_n 0, 1) := by decide +kernel
theorem dX5_readTwo_36 : decode cX5_readTwo 36 = .ok (.iload_n 1, 1) := by decide +kernel
theorem dX5_readTwo_37 : decode cX5_readTwo 37 = .ok (.iconst 1, 1) := by decide +kernel
theorem dX5_readTwo_38 : decode cX5_readTwo 38 = .ok (.iadd, 1) := by decide +kernel
theorem dX5_readTwo_39 : decode cX5_readTwo 39 = .ok (.invokevirtual 72, 3) := by decide +kernel
theorem dX5_readTwo_42 : decode cX5_readTwo 42 = .ok (.ifCond .eq 53, 3) := by decide +kernel
theorem dX5_readTwo_45 : decode cX5_readTwo 45 = .ok (.aload_n 0, 1) := by decide +kernel
theorem dX5_readTwo_46 : decode cX5_readTwo 46 = .ok (.getfield 9, 3) := by decide +kernel
theorem dX5_readTwo_49 : decode cX5_readTwo 49 = .ok (.bipush 44, 2) := by decide +kernel
theorem dX5_readTwo_51 : decode cX5_readTwo 51 = .ok (.invokevirtual 69, 3) := by decide +kernel
theorem dX5_readTwo_54 : decode cX5_readTwo 54 = .ok (.ifCond .eq 41, 3) := by decide +kernel
theorem dX5_readTwo_57 : decode cX5_readTwo 57 = .ok (.aload_n 0, 1) := by decide +kernel
theorem dX5_readTwo_58 : decode cX5_readTwo 58 = .ok (.iload_n 1, 1) := by decide +kernel
theorem dX5_readTwo_59 : decode cX5_readTwo 59 = .ok (.iconst 1, 1) := by decide +kernel
theorem dX5_readTwo_60 : decode cX5_readTwo 60 = .ok (.iadd, 1) := by decide +kernel
theorem dX5_readTwo_61 : decode cX5_readTwo 61 = .ok (.invokevirtual 72, 3) := by decide +kernel
theorem dX5_readTwo_64 : decode cX5_readTwo 64 = .ok (.ifCond .eq 31, 3) := by decide +kernel
theorem dX5_readTwo_67 : decode cX5_readTwo 67 = .ok (.aload_n 0, 1) := by decide +kernel
theorem dX5_readTwo_68 : decode cX5_readTwo 68 = .ok (.getfield 9, 3) := by decide +kernel
theorem dX5_readTwo_71 : decode cX5_readTwo 71 = .ok (.bipush 41, 2) := by decide +kernel
theorem dX5_readTwo_73 : decode cX5_readTwo 73 = .ok (.invokevirtual 69, 3) := by decide +kernel
theorem dX5_readTwo_76 : decode cX5_readTwo 76 = .ok (.ifCond .eq 19, 3) := by decide +kernel
theorem dX5_readTwo_79 : decode cX5_readTwo 79 = .ok (.aload_n 0, 1) := by decide +kernel
theorem dX5_readTwo_80 : decode cX5_readTwo 80 = .ok (.getfield 15, 3) := by decide +kernel
theorem dX5_readTwo_83 : decode cX5_readTwo 83 = .ok (.iload_n 2, 1) := by decide +kernel
theorem dX5_readTwo_84 : decode cX5_readTwo 84 = .ok (.iconst 0, 1) := by decide +kernel
theorem dX5_readTwo_85 : decode cX5_readTwo 85 = .ok (.invokevirtual 53, 3) := by decide +kernel
theorem dX5_readTwo_88 : decode cX5_readTwo 88 = .ok (.ifCond .eq 7, 3) := by decide +kernel
theorem dX5_readTwo_91 : decode cX5_readTwo 91 = .ok (.iconst 1, 1) := by decide +kernel
theorem dX5_readTwo_92 : decode cX5_readTwo 92 = .ok (.goto 4, 3) := by decide +kernel
theorem dX5_readTwo_95 : decode cX5_readTwo 95 = .ok (.iconst 0, 1) := by decide +kernel
theorem dX5_readTwo_96 : decode cX5_readTwo 96 = .ok (.ireturn, 1) := by decide +kernel
theorem dX5_readIf_0 : decode cX5_readIf 0 = .ok (.aload_n 0, 1) := by decide +kernel
theorem dX5_readIf_1 : decode cX5_readIf 1 = .ok (.getfield 9, 3) := by decide +kernel
theorem dX5_readIf_4 : decode cX5_readIf 4 = .ok (.invokevirtual 50, 3) := by decide +kernel
theorem dX5_readIf_7 : decode cX5_readIf 7 = .ok (.aload_n 0, 1) := by decide +kernel
theorem dX5_readIf_8 : decode cX5_readIf 8 = .ok (.getfield 9, 3) := by decide +kernel
theorem dX5_readIf_11 : decode cX5_readIf 11 = .ok (.bipush 40, 2) := by decide +kernel
theorem dX5_readIf_13 : decode cX5_readIf 13 = .ok (.invokevirtual 63, 3) := by decide +kernel
theorem dX5_readIf_16 : decode cX5_readIf 16 = .ok (.ifCond .ne 11, 3) := by decide +kernel
theorem dX5_readIf_19 : decode cX5_readIf 19 = .ok (.aload_n 0, 1) := by decide +kernel
theorem dX5_readIf_20 : decode cX5_readIf 20 = .ok (.getfield 9, 3) := by decide +kernel
theorem dX5_readIf_23 : decode cX5_readIf 23 = .ok (.invokevirtual 82, 3) := by decide +kernel
theorem dX5_readIf_26 : decode cX5_readIf 26 = .ok (.ireturn, 1) := by decide +kernel
theorem dX5_readIf_27 : decode cX5_readIf 27 = .ok (.aload_n 0, 1) := by decide +kernel
theorem dX5_readIf_28 : decode cX5_readIf 28 = .ok (.iload_n 1, 1) := by decide +kernel
theorem dX5_readIf_29 : decode cX5_readIf 29 = .ok (.invokevirtual 60, 3) := by decide +kernel
theorem dX5_readIf_32 : decode cX5_readIf 32 = .ok (.ifCond .eq 85, 3) := by decide +kernel
theorem dX5_readIf_35 : decode cX5_readIf 35 = .ok (.aload_n 0, 1) := by decide +kernel
theorem dX5_readIf_36 : decode cX5_readIf 36 = .ok (.iload_n 1, 1) := by decide +kernel
theorem dX5_readIf_37 : decode cX5_readIf 37 = .ok (.iconst 1, 1) := by decide +kernel
theorem dX5_readIf_38 : decode cX5_readIf 38 = .ok (.iadd, 1) := by decide +kernel
theorem dX5_readIf_39 : decode cX5_readIf 39 = .ok (.invokevirtual 66, 3) := by decide +kernel
theorem dX5_readIf_42 : decode cX5_readIf 42 = .ok (.ifCond .eq 75, 3) := by decide +kernel
theorem dX5_readIf_45 : decode cX5_readIf 45 = .ok (.aload_n 0, 1) := by decide +kernel
theorem dX5_readIf_46 : decode cX5_readIf 46 = .ok (.getfield 9, 3) := by decide +kernel
theorem dX5_readIf_49 : decode cX5_readIf 49 = .ok (.bipush 44, 2) := by decide +kernel
theorem dX5_readIf_51 : decode cX5_readIf 51 = .ok (.invokevirtual 69, 3) := by decide +kernel
theorem dX5_readIf_54 : decode cX5_readIf 54 = .ok (.ifCond .eq 63, 3) := by decide +kernel
theorem dX5_readIf_57 : decode cX5_readIf 57 = .ok (.aload_n 0, 1) := by decide +kernel
theorem dX5_readIf_58 : decode cX5_readIf 58 = .ok (.iload_n 1, 1) := by decide +kernel
theorem dX5_readIf_59 : decode cX5_readIf 59 = .ok (.iconst 1, 1) := by decide +kernel
theorem dX5_readIf_60 : decode cX5_readIf 60 = .ok (.iadd, 1) := by decide +kernel
theorem dX5_readIf_61 : decode cX5_readIf 61 = .ok (.invokevirtual 72, 3) := by decide +kernel
theorem dX5_readIf_64 : decode cX5_readIf 64 = .ok (.ifCond .eq 53, 3) := by decide +kernel
theorem dX5_readIf_67 : decode cX5_readIf 67 = .ok (.aload_n 0, 1) := by decide +kernel
theorem dX5_readIf_68 : decode cX5_readIf 68 = .ok (.getfield 9, 3) := by decide +kernel
theorem dX5_readIf_71 : decode cX5_readIf 71 = .ok (.bipush 44, 2) := by decide +kernel
theorem dX5_readIf_73 : decode cX5_readIf 73 = .ok (.invokevirtual 69, 3) := by decide +kernel
theorem dX5_readIf_76 : decode cX5_readIf 76 = .ok (.ifCond .eq 41, 3) := by decide +kernel
theorem dX5_readIf_79 : decode cX5_readIf 79 = .ok (.aload_n 0, 1) := by decide +kernel
theorem dX5_readIf_80 : decode cX5_readIf 80 = .ok (.iload_n 1, 1) := by decide +kernel
theorem dX5_readIf_81 : decode cX5_readIf 81 = .ok (.iconst 1, 1) := by decide +kernel
theorem dX5_readIf_82 : decode cX5_readIf 82 = .ok (.iadd, 1) := by decide +kernel
theorem dX5_readIf_83 : decode cX5_readIf 83 = .ok (.invokevirtual 72, 3) := by decide +kernel
theorem dX5_readIf_86 : decode cX5_readIf 86 = .ok (.ifCond .eq 31, 3) := by decide +kernel
theorem dX5_readIf_89 : decode cX5_readIf 89 = .ok (.aload_n 0, 1) := by decide +kernel
theorem dX5_readIf_90 : decode cX5_readIf 90 = .ok (.getfield 9, 3) := by decide +kernel
theorem dX5_readIf_93 : decode cX5_readIf 93 = .ok (.bipush 41, 2) := by decide +kernel
theorem dX5_readIf_95 : decode cX5_readIf 95 = .ok (.invokevirtual 69, 3) := by decide +kernel
theorem dX5_readIf_98 : decode cX5_readIf 98 = .ok (.ifCond .eq 19, 3) := by decide +kernel
theorem dX5_readIf_101 : decode cX5_readIf 101 = .ok (.aload_n 0, 1) := by decide +kernel
theorem dX5_readIf_102 : decode cX5_readIf 102 = .ok (.getfield 15, 3) := by decide +kernel
theorem dX5_readIf_105 : decode cX5_readIf 105 = .ok (.iconst 3, 1) := by decide +kernel
theorem dX5_readIf_106 : decode cX5_readIf 106 = .ok (.iconst 0, 1) := by decide +kernel
theorem dX5_readIf_107 : decode cX5_readIf 107 = .ok (.invokevirtual 53, 3) := by decide +kernel
theorem dX5_readIf_110 : decode cX5_readIf 110 = .ok (.ifCond .eq 7, 3) := by decide +kernel
theorem dX5_readIf_113 : decode cX5_readIf 113 = .ok (.iconst 1, 1) := by decide +kernel
theorem dX5_readIf_114 : decode cX5_readIf 114 = .ok (.goto 4, 3) := by decide +kernel
theorem dX5_readIf_117 : decode cX5_readIf 117 = .ok (.iconst 0, 1) := by decide +kernel
theorem dX5_readIf_118 : decode cX5_readIf 118 = .ok (.ireturn, 1) := by decide +kernel
theorem dX5_opens_0 : decode cX5_opens 0 = .ok (.iload_n 1, 1) := by decide +kernel
theorem dX5_opens_1 : decode cX5_opens 1 = .ok (.bipush 7, 2) := by decide +kernel
theorem dX5_opens_3 : decode cX5_opens 3 = .ok (.if_icmp .lt 19, 3) := by decide +kernel
theorem dX5_opens_6 : decode cX5_opens 6 = .ok (.aload_n 0, 1) := by decide +kernel
theorem dX5_opens_7 : decode cX5_opens 7 = .ok (.getfield 9, 3) := by decide +kernel
theorem dX5_opens_10 : decode cX5_opens 10 = .ok (.iconst 5, 1) := by decide +kernel
theorem dX5_opens_11 : decode cX5_opens 11 = .ok (.aload_n 0, 1) := by decide +kernel
theorem dX5_opens_12 : decode cX5_opens 12 = .ok (.getfield 9, 3) := by decide +kernel
theorem dX5_opens_15 : decode cX5_opens 15 = .ok (.getfield 110, 3) := by decide +kernel
theorem dX5_opens_18 : decode cX5_opens 18 = .ok (.invokevirtual 113, 3) := by decide +kernel
theorem dX5_opens_21 : decode cX5_opens 21 = .ok (.ireturn, 1) := by decide +kernel
theorem dX5_opens_22 : decode cX5_opens 22 = .ok (.aload_n 0, 1) := by decide +kernel
theorem dX5_opens_23 : decode cX5_opens 23 = .ok (.getfield 9, 3) := by decide +kernel
theorem dX5_opens_26 : decode cX5_opens 26 = .ok (.invokevirtual 50, 3) := by decide +kernel
theorem dX5_opens_29 : decode cX5_opens 29 = .ok (.iconst 1, 1) := by decide +kernel
theorem dX5_opens_30 : decode cX5_opens 30 = .ok (.ireturn, 1) := by decide +kernel
theorem dX5_factOfWord_0 : decode cX5_factOfWord 0 = .ok (.aload_n 0, 1) := by decide +kernel
theorem dX5_factOfWord_1 : decode cX5_factOfWord 1 = .ok (.getfield 9, 3) := by decide +kernel
theorem dX5_factOfWord_4 : decode cX5_factOfWord 4 = .ok (.getfield 95, 3) := by decide +kernel
theorem dX5_factOfWord_7 : decode cX5_factOfWord 7 = .ok (.iconst 1, 1) := by decide +kernel
theorem dX5_factOfWord_8 : decode cX5_factOfWord 8 = .ok (.if_icmp .eq 5, 3) := by decide +kernel
theorem dX5_factOfWord_11 : decode cX5_factOfWord 11 = .ok (.iconst (-1), 1) := by decide +kernel
theorem dX5_factOfWord_12 : decode cX5_factOfWord 12 = .ok (.ireturn, 1) := by decide +kernel
theorem dX5_factOfWord_13 : decode cX5_factOfWord 13 = .ok (.aload_n 0, 1) := by decide +kernel
theorem dX5_factOfWord_14 : decode cX5_factOfWord 14 = .ok (.getfield 9, 3) := by decide +kernel
theorem dX5_factOfWord_17 : decode cX5_factOfWord 17 = .ok (.getfield 116, 3) := by decide +kernel
theorem dX5_factOfWord_20 : decode cX5_factOfWord 20 = .ok (.tableswitch 136 5 24 #[98, 136, 100, 136, 136, 136, 136, 136, 136, 136, 136, 136, 136, 136, 108, 96, 102, 104, 106, 122], 96) := by decide +kernel
theorem dX5_factOfWord_116 : decode cX5_factOfWord 116 = .ok (.iconst 0, 1) := by decide +kernel
theorem dX5_factOfWord_117 : decode cX5_factOfWord 117 = .ok (.ireturn, 1) := by decide +kernel
theorem dX5_factOfWord_118 : decode cX5_factOfWord 118 = .ok (.iconst 1, 1) := by decide +kernel
theorem dX5_factOfWord_119 : decode cX5_factOfWord 119 = .ok (.ireturn, 1) := by decide +kernel
theorem dX5_factOfWord_120 : decode cX5_factOfWord 120 = .ok (.iconst 2, 1) := by decide +kernel
theorem dX5_factOfWord_121 : decode cX5_factOfWord 121 = .ok (.ireturn, 1) := by decide +kernel
theorem dX5_factOfWord_122 : decode cX5_factOfWord 122 = .ok (.iconst 3, 1) := by decide +kernel
theorem dX5_factOfWord_123 : decode cX5_factOfWord 123 = .ok (.ireturn, 1) := by decide +kernel
theorem dX5_factOfWord_124 : decode cX5_factOfWord 124 = .ok (.iconst 4, 1) := by decide +kernel
theorem dX5_factOfWord_125 : decode cX5_factOfWord 125 = .ok (.ireturn, 1) := by decide +kernel
theorem dX5_factOfWord_126 : decode cX5_factOfWord 126 = .ok (.iconst 5, 1) := by decide +kernel
theorem dX5_factOfWord_127 : decode cX5_factOfWord 127 = .ok (.ireturn, 1) := by decide +kernel
theorem dX5_factOfWord_128 : decode cX5_factOfWord 128 = .ok (.aload_n 0, 1) := by decide +kernel
theorem dX5_factOfWord_129 : decode cX5_factOfWord 129 = .ok (.getfield 19, 3) := by decide +kernel
theorem dX5_factOfWord_132 : decode cX5_factOfWord 132 = .ok (.ifCond .eq 8, 3) := by decide +kernel
theorem dX5_factOfWord_135 : decode cX5_factOfWord 135 = .ok (.bipush 6, 2) := by decide +kernel
theorem dX5_factOfWord_137 : decode cX5_factOfWord 137 = .ok (.goto 4, 3) := by decide +kernel
theorem dX5_factOfWord_140 : decode cX5_factOfWord 140 = .ok (.iconst (-1), 1) := by decide +kernel
theorem dX5_factOfWord_141 : decode cX5_factOfWord 141 = .ok (.ireturn, 1) := by decide +kernel
theorem dX5_factOfWord_142 : decode cX5_factOfWord 142 = .ok (.aload_n 0, 1) := by decide +kernel
theorem dX5_factOfWord_143 : decode cX5_factOfWord 143 = .ok (.getfield 19, 3) := by decide +kernel
theorem dX5_factOfWord_146 : decode cX5_factOfWord 146 = .ok (.ifCond .eq 8, 3) := by decide +kernel
theorem dX5_factOfWord_149 : decode cX5_factOfWord 149 = .ok (.bipush 7, 2) := by decide +kernel
theorem dX5_factOfWord_151 : decode cX5_factOfWord 151 = .ok (.goto 4, 3) := by decide +kernel
theorem dX5_factOfWord_154 : decode cX5_factOfWord 154 = .ok (.iconst (-1), 1) := by decide +kernel
theorem dX5_factOfWord_155 : decode cX5_factOfWord 155 = .ok (.ireturn, 1) := by decide +kernel
theorem dX5_factOfWord_156 : decode cX5_factOfWord 156 = .ok (.iconst (-1), 1) := by decide +kernel
theorem dX5_factOfWord_157 : decode cX5_factOfWord 157 = .ok (.ireturn, 1) := by decide +kernel
theorem dX6_init_0 : decode cX6_init 0 = .ok (.aload_n 0, 1) := by decide +kernel
theorem dX6_init_1 : decode cX6_init 1 = .ok (.invokespecial 3, 3) := by decide +kernel
theorem dX6_init_4 : decode cX6_init 4 = .ok (.aload_n 0, 1) := by decide +kernel
theorem dX6_init_5 : decode cX6_init 5 = .ok (.bipush 6, 2) := by decide +kernel
theorem dX6_init_7 : decode cX6_init 7 = .ok (.newarray .int, 2) := by decide +kernel
theorem dX6_init_9 : decode cX6_init 9 = .ok (.putfield 9, 3) := by decide +kernel
theorem dX6_init_12 : decode cX6_init 12 = .ok (.aload_n 0, 1) := by decide +kernel
theorem dX6_init_13 : decode cX6_init 13 = .ok (.bipush 6, 2) := by decide +kernel
theorem dX6_init_15 : decode cX6_init 15 = .ok (.newarray .int, 2) := by decide +kernel
theorem dX6_init_17 : decode cX6_init 17 = .ok (.putfield 15, 3) := by decide +kernel
theorem dX6_init_20 : decode cX6_init 20 = .ok (.aload_n 0, 1) := by decide +kernel
theorem dX6_init_21 : decode cX6_init 21 = .ok (.bipush 8, 2) := by decide +kernel
theorem dX6_init_23 : decode cX6_init 23 = .ok (.newarray .int, 2) := by decide +kernel
theorem dX6_init_25 : decode cX6_init 25 = .ok (.putfield 20, 3) := by decide +kernel
theorem dX6_init_28 : decode cX6_init 28 = .ok (.aload_n 0, 1) := by decide +kernel
theorem dX6_init_29 : decode cX6_init 29 = .ok (.aload_n 1, 1) := by decide +kernel
theorem dX6_init_30 : decode cX6_init 30 = .ok (.putfield 23, 3) := by decide +kernel
theorem dX6_init_33 : decode cX6_init 33 = .ok (.aload_n 0, 1) := by decide +kernel
theorem dX6_init_34 : decode cX6_init 34 = .ok (.aload_n 2, 1) := by decide +kernel
theorem dX6_init_35 : decode cX6_init 35 = .ok (.putfield 27, 3) := by decide +kernel
theorem dX6_init_38 : decode cX6_init 38 = .ok (.aload_n 0, 1) := by decide +kernel
theorem dX6_init_39 : decode cX6_init 39 = .ok (.aload_n 3, 1) := by decide +kernel
theorem dX6_init_40 : decode cX6_init 40 = .ok (.putfield 31, 3) := by decide +kernel
theorem dX6_init_43 : decode cX6_init 43 = .ok (.return_, 1) := by decide +kernel
theorem dX6_open_0 : decode cX6_open 0 = .ok (.aload_n 0, 1) := by decide +kernel
theorem dX6_open_1 : decode cX6_open 1 = .ok (.aload_n 1, 1) := by decide +kernel
theorem dX6_open_2 : decode cX6_open 2 = .ok (.putfield 23, 3) := by decide +kernel
theorem dX6_open_5 : decode cX6_open 5 = .ok (.aload_n 0, 1) := by decide +kernel
theorem dX6_open_6 : decode cX6_open 6 = .ok (.aload_n 2, 1) := by decide +kernel
theorem dX6_open_7 : decode cX6_open 7 = .ok (.putfield 27, 3) := by decide +kernel
theorem dX6_open_10 : decode cX6_open 10 = .ok (.aload_n 0, 1) := by decide +kernel
theorem dX6_open_11 : decode cX6_open 11 = .ok (.iload_n 3, 1) := by decide +kernel
theorem dX6_open_12 : decode cX6_open 12 = .ok (.putfield 35, 3) := by decide +kernel
theorem dX6_open_15 : decode cX6_open 15 = .ok (.aload_n 0, 1) := by decide +kernel
theorem dX6_open_16 : decode cX6_open 16 = .ok (.getfield 23, 3) := by decide +kernel
theorem dX6_open_19 : decode cX6_open 19 = .ok (.getfield 39, 3) := by decide +kernel
theorem dX6_open_22 : decode cX6_open 22 = .ok (.iconst 0, 1) := by decide +kernel
theorem dX6_open_23 : decode cX6_open 23 = .ok (.aload_n 0, 1) := by decide +kernel
theorem dX6_open_24 : decode cX6_open 24 = .ok (.getfield 9, 3) := by decide +kernel
theorem dX6_open_27 : decode cX6_open 27 = .ok (.iconst 0, 1) := by decide +kernel
theorem dX6_open_28 : decode cX6_open 28 = .ok (.bipush 6, 2) := by decide +kernel
theorem dX6_open_30 : decode cX6_open 30 = .ok (.invokestatic 44, 3) := by decide +kernel
theorem dX6_open_33 : decode cX6_open 33 = .ok (.iconst 0, 1) := by decide +kernel
theorem dX6_open_34 : decode cX6_open 34 = .ok (.istore 4, 2) := by decide +kernel
theorem dX6_open_36 : decode cX6_open 36 = .ok (.iload 4, 2) := by decide +kernel
theorem dX6_open_38 : decode cX6_open 38 = .ok (.bipush 6, 2) := by decide +kernel
theorem dX6_open_40 : decode cX6_open 40 = .ok (.if_icmp .ge 18, 3) := by decide +kernel
theorem dX6_open_43 : decode cX6_open 43 = .ok (.aload_n 0, 1) := by decide +kernel
theorem dX6_open_44 : decode cX6_open 44 = .ok (.getfield 15, 3) := by decide +kernel
theorem dX6_open_47 : decode cX6_open 47 = .ok (.iload 4, 2) := by decide +kernel
theorem dX6_open_49 : decode cX6_open 49 = .ok (.iload 4, 2) := by decide +kernel
theorem dX6_open_51 : decode cX6_open 51 = .ok (.iastore, 1) := by decide +kernel
theorem dX6_open_52 : decode cX6_open 52 = .ok (.iinc 4 1, 3) := by decide +kernel
theorem dX6_open_55 : decode cX6_open 55 = .ok (.goto (-19), 3) := by decide +kernel
theorem dX6_open_58 : decode cX6_open 58 = .ok (.aload_n 0, 1) := by decide +kernel
theorem dX6_open_59 : decode cX6_open 59 = .ok (.iconst 0, 1) := by decide +kernel
theorem dX6_open_60 : decode cX6_open 60 = .ok (.putfield 50, 3) := by decide +kernel
theorem dX6_open_63 : decode cX6_open 63 = .ok (.aload_n 0, 1) := by decide +kernel
theorem dX6_open_64 : decode cX6_open 64 = .ok (.iconst 0, 1) := by decide +kernel
theorem dX6_open_65 : decode cX6_open 65 = .ok (.putfield 54, 3) := by decide +kernel
theorem dX6_open_68 : decode cX6_open 68 = .ok (.return_, 1) := by decide +kernel
theorem dX6_passDay_0 : decode cX6_passDay 0 = .ok (.aload_n 0, 1) := by decide +kernel
theorem dX6_passDay_1 : decode cX6_passDay 1 = .ok (.invokevirtual 57, 3) := by decide +kernel
theorem dX6_passDay_4 : decode cX6_passDay 4 = .ok (.aload_n 0, 1) := by decide +kernel
theorem dX6_passDay_5 : decode cX6_passDay 5 = .ok (.iconst 0, 1) := by decide +kernel
theorem dX6_passDay_6 : decode cX6_passDay 6 = .ok (.putfield 60, 3) := by decide +kernel
theorem dX6_passDay_9 : decode cX6_passDay 9 = .ok (.aload_n 0, 1) := by decide +kernel
theorem dX6_passDay_10 : decode cX6_passDay 10 = .ok (.iconst 0, 1) := by decide +kernel
theorem dX6_passDay_11 : decode cX6_passDay 11 = .ok (.putfield 63, 3) := by decide +kernel
theorem dX6_passDay_14 : decode cX6_passDay 14 = .ok (.aload_n 0, 1) := by decide +kernel
theorem dX6_passDay_15 : decode cX6_passDay 15 = .ok (.getfield 20, 3) := by decide +kernel
theorem dX6_passDay_18 : decode cX6_passDay 18 = .ok (.iconst 4, 1) := by decide +kernel
theorem dX6_passDay_19 : decode cX6_passDay 19 = .ok (.aload_n 0, 1) := by decide +kernel
theorem dX6_passDay_20 : decode cX6_passDay 20 = .ok (.getfield 27, 3) := by decide +kernel
theorem dX6_passDay_23 : decode cX6_passDay 23 = .ok (.getfield 66, 3) := by decide +kernel
theorem dX6_passDay_26 : decode cX6_passDay 26 = .ok (.iastore, 1) := by decide +kernel
theorem dX6_passDay_27 : decode cX6_passDay 27 = .ok (.aload_n 0, 1) := by decide +kernel
theorem dX6_passDay_28 : decode cX6_passDay 28 = .ok (.getfield 20, 3) := by decide +kernel
theorem dX6_passDay_31 : decode cX6_passDay 31 = .ok (.bipush 6, 2) := by decide +kernel
theorem dX6_passDay_33 : decode cX6_passDay 33 = .ok (.iload_n 1, 1) := by decide +kernel
theorem dX6_passDay_34 : decode cX6_passDay 34 = .ok (.iastore, 1) := by decide +kernel
theorem dX6_passDay_35 : decode cX6_passDay 35 = .ok (.iconst 0, 1) := by decide +kernel
theorem dX6_passDay_36 : decode cX6_passDay 36 = .ok (.istore_n 2, 1) := by decide +kernel
theorem dX6_passDay_37 : decode cX6_passDay 37 = .ok (.iload_n 2, 1) := by decide +kernel
theorem dX6_passDay_38 : decode cX6_passDay 38 = .ok (.aload_n 0, 1) := by decide +kernel
theorem dX6_passDay_39 : decode cX6_passDay 39 = .ok (.getfield 23, 3) := by decide +kernel
theorem dX6_passDay_42 : decode cX6_passDay 42 = .ok (.iconst 3, 1) := by decide +kernel
theorem dX6_passDay_43 : decode cX6_passDay 43 = .ok (.invokevirtual 71, 3) := by decide +kernel
theorem dX6_passDay_46 : decode cX6_passDay 46 = .ok (.if_icmp .ge 19, 3) := by decide +kernel
theorem dX6_passDay_49 : decode cX6_passDay 49 = .ok (.aload_n 0, 1) := by decide +kernel
theorem dX6_passDay_50 : decode cX6_passDay 50 = .ok (.aload_n 0, 1) := by decide +kernel
theorem dX6_passDay_51 : decode cX6_passDay 51 = .ok (.getfield 15, 3) := by decide +kernel
theorem dX6_passDay_54 : decode cX6_passDay 54 = .ok (.iload_n 2, 1) := by decide +kernel
theorem dX6_passDay_55 : decode cX6_passDay 55 = .ok (.iaload, 1) := by decide +kernel
theorem dX6_passDay_56 : decode cX6_passDay 56 = .ok (.invokevirtual 75, 3) := by decide +kernel
theorem dX6_passDay_59 : decode cX6_passDay 59 = .ok (.iinc 2 1, 3) := by decide +kernel
theorem dX6_passDay_62 : decode cX6_passDay 62 = .ok (.goto (-25), 3) := by decide +kernel
theorem dX6_passDay_65 : decode cX6_passDay 65 = .ok (.aload_n 0, 1) := by decide +kernel
theorem dX6_passDay_66 : decode cX6_passDay 66 = .ok (.invokevirtual 79, 3) := by decide +kernel
theorem dX6_passDay_69 : decode cX6_passDay 69 = .ok (.aload_n 0, 1) := by decide +kernel
theorem dX6_passDay_70 : decode cX6_passDay 70 = .ok (.getfield 27, 3) := by decide +kernel
theorem dX6_passDay_73 : decode cX6_passDay 73 = .ok (.sipush 999, 3) := by decide +kernel
theorem dX6_passDay_76 : decode cX6_passDay 76 = .ok (.aload_n 0, 1) := by decide +kernel
theorem dX6_passDay_77 : decode cX6_passDay 77 = .ok (.getfield 27, 3) := by decide +kernel
theorem dX6_passDay_80 : decode cX6_passDay 80 = .ok (.getfield 66, 3) := by decide +kernel
theorem dX6_passDay_83 : decode cX6_passDay 83 = .ok (.iconst 1, 1) := by decide +kernel
theorem dX6_passDay_84 : decode cX6_passDay 84 = .ok (.iadd, 1) := by decide +kernel
theorem dX6_passDay_85 : decode cX6_passDay 85 = .ok (.invokestatic 82, 3) := by decide +kernel
theorem dX6_passDay_88 : decode cX6_passDay 88 = .ok (.putfield 66, 3) := by decide +kernel
theorem dX6_passDay_91 : decode cX6_passDay 91 = .ok (.return_, 1) := by decide +kernel
theorem dX6_mend_0 : decode cX6_mend 0 = .ok (.aload_n 0, 1) := by decide +kernel
theorem dX6_mend_1 : decode cX6_mend 1 = .ok (.getfield 23, 3) := by decide +kernel
theorem dX6_mend_4 : decode cX6_mend 4 = .ok (.getfield 88, 3) := by decide +kernel
theorem dX6_mend_7 : decode cX6_mend 7 = .ok (.ifCond .le 28, 3) := by decide +kernel
theorem dX6_mend_10 : decode cX6_mend 10 = .ok (.aload_n 0, 1) := by decide +kernel
theorem dX6_mend_11 : decode cX6_mend 11 = .ok (.getfield 27, 3) := by decide +kernel
theorem dX6_mend_14 : decode cX6_mend 14 = .ok (.getfield 66, 3) := by decide +kernel
theorem dX6_mend_17 : decode cX6_mend 17 = .ok (.aload_n 0, 1) := by decide +kernel
theorem dX6_mend_18 : decode cX6_mend 18 = .ok (.getfield 23, 3) := by decide +kernel
theorem dX6_mend_21 : decode cX6_mend 21 = .ok (.getfield 88, 3) := by decide +kernel
theorem dX6_mend_24 : decode cX6_mend 24 = .ok (.irem, 1) := by decide +kernel
theorem dX6_mend_25 : decode cX6_mend 25 = .ok (.aload_n 0, 1) := by decide +kernel
theorem dX6_mend_26 : decode cX6_mend 26 = .ok (.getfield 23, 3) := by decide +kernel
theorem dX6_mend_29 : decode cX6_mend 29 = .ok (.getfield 91, 3) := by decide +kernel
theorem dX6_mend_32 : decode cX6_mend 32 = .ok (.if_icmp .eq 4, 3) := by decide +kernel
theorem dX6_mend_35 : decode cX6_mend 35 = .ok (.return_, 1) := by decide +kernel
theorem dX6_mend_36 : decode cX6_mend 36 = .ok (.iconst 0, 1) := by decide +kernel
theorem dX6_mend_37 : decode cX6_mend 37 = .ok (.istore_n 1, 1) := by decide +kernel
theorem dX6_mend_38 : decode cX6_mend 38 = .ok (.iload_n 1, 1) := by decide +kernel
theorem dX6_mend_39 : decode cX6_mend 39 = .ok (.bipush 8, 2) := by decide +kernel
theorem dX6_mend_41 : decode cX6_mend 41 = .ok (.if_icmp .ge 34, 3) := by decide +kernel
theorem dX6_mend_44 : decode cX6_mend 44 = .ok (.aload_n 0, 1) := by decide +kernel
theorem dX6_mend_45 : decode cX6_mend 45 = .ok (.getfield 27, 3) := by decide +kernel
theorem dX6_mend_48 : decode cX6_mend 48 = .ok (.getfield 94, 3) := by decide +kernel
theorem dX6_mend_51 : decode cX6_mend 51 = .ok (.iload_n 1, 1) := by decide +kernel
theorem dX6_mend_52 : decode cX6_mend 52 = .ok (.ishr, 1) := by decide +kernel
theorem dX6_mend_53 : decode cX6_mend 53 = .ok (.iconst 1, 1) := by decide +kernel
theorem dX6_mend_54 : decode cX6_mend 54 = .ok (.iand, 1) := by decide +kernel
theorem dX6_mend_55 : decode cX6_mend 55 = .ok (.iconst 1, 1) := by decide +kernel
theorem dX6_mend_56 : decode cX6_mend 56 = .ok (.if_icmp .ne 13, 3) := by decide +kernel
theorem dX6_mend_59 : decode cX6_mend 59 = .ok (.aload_n 0, 1) := by decide +kernel
theorem dX6_mend_60 : decode cX6_mend 60 = .ok (.getfield 27, 3) := by decide +kernel
theorem dX6_mend_63 : decode cX6_mend 63 = .ok (.getfield 97, 3) := by decide +kernel
theorem dX6_mend_66 : decode cX6_mend 66 = .ok (.iload_n 1, 1) := by decide +kernel
theorem dX6_mend_67 : decode cX6_mend 67 = .ok (.iconst 0, 1) := by decide +kernel
theorem dX6_mend_68 : decode cX6_mend 68 = .ok (.iastore, 1) := by decide +kernel
theorem dX6_mend_69 : decode cX6_mend 69 = .ok (.iinc 1 1, 3) := by decide +kernel
theorem dX6_mend_72 : decode cX6_mend 72 = .ok (.goto (-34), 3) := by decide +kernel
theorem dX6_mend_75 : decode cX6_mend 75 = .ok (.aload_n 0, 1) := by decide +kernel
theorem dX6_mend_76 : decode cX6_mend 76 = .ok (.getfield 27, 3) := by decide +kernel
theorem dX6_mend_79 : decode cX6_mend 79 = .ok (.iconst 0, 1) := by decide +kernel
theorem dX6_mend_80 : decode cX6_mend 80 = .ok (.putfield 94, 3) := by decide +kernel
theorem dX6_mend_83 : decode cX6_mend 83 = .ok (.return_, 1) := by decide +kernel
theorem dX6_workStep_0 : decode cX6_workStep 0 = .ok (.aload_n 0, 1) := by decide +kernel
theorem dX6_workStep_1 : decode cX6_workStep 1 = .ok (.getfield 23, 3) := by decide +kernel
theorem dX6_workStep_4 : decode cX6_workStep 4 = .ok (.iconst 3, 1) := by decide +kernel
theorem dX6_workStep_5 : decode cX6_workStep 5 = .ok (.iload_n 1, 1) := by decide +kernel
theorem dX6_workStep_6 : decode cX6_workStep 6 = .ok (.invokevirtual 100, 3) := by decide +kernel
theorem dX6_workStep_9 : decode cX6_workStep 9 = .ok (.ifCond .eq 18, 3) := by decide +kernel
theorem dX6_workStep_12 : decode cX6_workStep 12 = .ok (.aload_n 0, 1) := by decide +kernel
theorem dX6_workStep_13 : decode cX6_workStep 13 = .ok (.getfield 27, 3) := by decide +kernel
theorem dX6_workStep_16 : decode cX6_workStep 16 = .ok (.iload_n 1, 1) := by decide +kernel
theorem dX6_workStep_17 : decode cX6_workStep 17 = .ok (.aload_n 0, 1) := by decide +kernel
theorem dX6_workStep_18 : decode cX6_workStep 18 = .ok (.getfield 23, 3) := by decide +kernel
theorem dX6_workStep_21 : decode cX6_workStep 21 = .ok (.invokevirtual 104, 3) := by decide +kernel
theorem dX6_workStep_24 : decode cX6_workStep 24 = .ok (.ifCond .eq 4, 3) := by decide +kernel
theorem dX6_workStep_27 : decode cX6_workStep 27 = .ok (.return_, 1) := by decide +kernel
theorem dX6_workStep_28 : decode cX6_workStep 28 = .ok (.aload_n 0, 1) := by decide +kernel
theorem dX6_workStep_29 : decode cX6_workStep 29 = .ok (.getfield 23, 3) := by decide +kernel
theorem dX6_workStep_32 : decode cX6_workStep 32 = .ok (.iload_n 1, 1) := by decide +kernel
theorem dX6_workStep_33 : decode cX6_workStep 33 = .ok (.aload_n 0, 1) := by decide +kernel
theorem dX6_workStep_34 : decode cX6_workStep 34 = .ok (.getfield 27, 3) := by decide +kernel
theorem dX6_workStep_37 : decode cX6_workStep 37 = .ok (.getfield 108, 3) := by decide +kernel
theorem dX6_workStep_40 : decode cX6_workStep 40 = .ok (.iload_n 1, 1) := by decide +kernel
theorem dX6_workStep_41 : decode cX6_workStep 41 = .ok (.iaload, 1) := by decide +kernel
theorem dX6_workStep_42 : decode cX6_workStep 42 = .ok (.invokevirtual 111, 3) := by decide +kernel
theorem dX6_workStep_45 : decode cX6_workStep 45 = .ok (.istore_n 2, 1) := by decide +kernel
theorem dX6_workStep_46 : decode cX6_workStep 46 = .ok (.aload_n 0, 1) := by decide +kernel
theorem dX6_workStep_47 : decode cX6_workStep 47 = .ok (.getfield 23, 3) := by decide +kernel
theorem dX6_workStep_50 : decode cX6_workStep 50 = .ok (.iconst 0, 1) := by decide +kernel
theorem dX6_workStep_51 : decode cX6_workStep 51 = .ok (.iload_n 2, 1) := by decide +kernel
theorem dX6_workStep_52 : decode cX6_workStep 52 = .ok (.invokevirtual 100, 3) := by decide +kernel
theorem dX6_workStep_55 : decode cX6_workStep 55 = .ok (.ifCond .ne 4, 3) := by decide +kernel
theorem dX6_workStep_58 : decode cX6_workStep 58 = .ok (.return_, 1) := by decide +kernel
theorem dX6_workStep_59 : decode cX6_workStep 59 = .ok (.aload_n 0, 1) := by decide +kernel
theorem dX6_workStep_60 : decode cX6_workStep 60 = .ok (.getfield 20, 3) := by decide +kernel
theorem dX6_workStep_63 : decode cX6_workStep 63 = .ok (.iconst 0, 1) := by decide +kernel
theorem dX6_workStep_64 : decode cX6_workStep 64 = .ok (.aload_n 0, 1) := by decide +kernel
theorem dX6_workStep_65 : decode cX6_workStep 65 = .ok (.iload_n 2, 1) := by decide +kernel
theorem dX6_workStep_66 : decode cX6_workStep 66 = .ok (.invokevirtual 114, 3) := by decide +kernel
theorem dX6_workStep_69 : decode cX6_workStep 69 = .ok (.ifCond .eq 7, 3) := by decide +kernel
theorem dX6_workStep_72 : decode cX6_workStep 72 = .ok (.iconst 1, 1) := by decide +kernel
theorem dX6_workStep_73 : decode cX6_workStep 73 = .ok (.goto 4, 3) := by decide +kernel
theorem dX6_workStep_76 : decode cX6_workStep 76 = .ok (.iconst 0, 1) := by decide +kernel
theorem dX6_workStep_77 : decode cX6_workStep 77 = .ok (.iastore, 1) := by decide +kernel
theorem dX6_workStep_78 : decode cX6_workStep 78 = .ok (.aload_n 0, 1) := by decide +kernel
theorem dX6_workStep_79 : decode cX6_workStep 79 = .ok (.getfield 20, 3) := by decide +kernel
theorem dX6_workStep_82 : decode cX6_workStep 82 = .ok (.iconst 3, 1) := by decide +kernel
theorem dX6_workStep_83 : decode cX6_workStep 83 = .ok (.aload_n 0, 1) := by decide +kernel
theorem dX6_workStep_84 : decode cX6_workStep 84 = .ok (.getfield 23, 3) := by decide +kernel
theorem dX6_workStep_87 : decode cX6_workStep 87 = .ok (.iload_n 1, 1) := by decide +kernel
theorem dX6_workStep_88 : decode cX6_workStep 88 = .ok (.aload_n 0, 1) := by decide +kernel
theorem dX6_workStep_89 : decode cX6_workStep 89 = .ok (.getfield 27, 3) := by decide +kernel
theorem dX6_workStep_92 : decode cX6_workStep 92 = .ok (.getfield 108, 3) := by decide +kernel
theorem dX6_workStep_95 : decode cX6_workStep 95 = .ok (.iload_n 1, 1) := by decide +kernel
theorem dX6_workStep_96 : decode cX6_workStep 96 = .ok (.iaload, 1) := by decide +kernel
theorem dX6_workStep_97 : decode cX6_workStep 97 = .ok (.invokevirtual 118, 3) := by decide +kernel
theorem dX6_workStep_100 : decode cX6_workStep 100 = .ok (.iastore, 1) := by decide +kernel
theorem dX6_workStep_101 : decode cX6_workStep 101 = .ok (.aload_n 0, 1) := by decide +kernel
theorem dX6_workStep_102 : decode cX6_workStep 102 = .ok (.getfield 20, 3) := by decide +kernel
theorem dX6_workStep_105 : decode cX6_workStep 105 = .ok (.iconst 5, 1) := by decide +kernel
theorem dX6_workStep_106 : decode cX6_workStep 106 = .ok (.aload_n 0, 1) := by decide +kernel
theorem dX6_workStep_107 : decode cX6_workStep 107 = .ok (.getfield 27, 3) := by decide +kernel
theorem dX6_workStep_110 : decode cX6_workStep 110 = .ok (.iload_n 1, 1) := by decide +kernel
theorem dX6_workStep_111 : decode cX6_workStep 111 = .ok (.aload_n 0, 1) := by decide +kernel
theorem dX6_workStep_112 : decode cX6_workStep 112 = .ok (.getfield 23, 3) := by decide +kernel
theorem dX6_workStep_115 : decode cX6_workStep 115 = .ok (.invokevirtual 121, 3) := by decide +kernel
theorem dX6_workStep_118 : decode cX6_workStep 118 = .ok (.iastore, 1) := by decide +kernel
theorem dX6_workStep_119 : decode cX6_workStep 119 = .ok (.aload_n 0, 1) := by decide +kernel
theorem dX6_workStep_120 : decode cX6_workStep 120 = .ok (.getfield 20, 3) := by decide +kernel
theorem dX6_workStep_123 : decode cX6_workStep 123 = .ok (.bipush 7, 2) := by decide +kernel
theorem dX6_workStep_125 : decode cX6_workStep 125 = .ok (.aload_n 0, 1) := by decide +kernel
theorem dX6_workStep_126 : decode cX6_workStep 126 = .ok (.getfield 60, 3) := by decide +kernel
theorem dX6_workStep_129 : decode cX6_workStep 129 = .ok (.invokestatic 125, 3) := by decide +kernel
theorem dX6_workStep_132 : decode cX6_workStep 132 = .ok (.iastore, 1) := by decide +kernel
theorem dX6_workStep_133 : decode cX6_workStep 133 = .ok (.aload_n 0, 1) := by decide +kernel
theorem dX6_workStep_134 : decode cX6_workStep 134 = .ok (.iload_n 2, 1) := by decide +kernel
theorem dX6_workStep_135 : decode cX6_workStep 135 = .ok (.invokevirtual 130, 3) := by decide +kernel
theorem dX6_workStep_138 : decode cX6_workStep 138 = .ok (.istore_n 3, 1) := by decide +kernel
theorem dX6_workStep_139 : decode cX6_workStep 139 = .ok (.iload_n 3, 1) := by decide +kernel
theorem dX6_workStep_140 : decode cX6_workStep 140 = .ok (.iconst (-1), 1) := by decide +kernel
theorem dX6_workStep_141 : decode cX6_workStep 141 = .ok (.if_icmp .eq 14, 3) := by decide +kernel
theorem dX6_workStep_144 : decode cX6_workStep 144 = .ok (.aload_n 0, 1) := by decide +kernel
theorem dX6_workStep_145 : decode cX6_workStep 145 = .ok (.iload_n 1, 1) := by decide +kernel
theorem dX6_workStep_146 : decode cX6_workStep 146 = .ok (.iload_n 3, 1) := by decide +kernel
theorem dX6_workStep_147 : decode cX6_workStep 147 = .ok (.aload_n 0, 1) := by decide +kernel
theorem dX6_workStep_148 : decode cX6_workStep 148 = .ok (.iload_n 3, 1) := by decide +kernel
theorem dX6_workStep_149 : decode cX6_workStep 149 = .ok (.invokevirtual 133, 3) := by decide +kernel
theorem dX6_workStep_152 : decode cX6_workStep 152 = .ok (.invokevirtual 136, 3) := by decide +kernel
theorem dX6_workStep_155 : decode cX6_workStep 155 = .ok (.return_, 1) := by decide +kernel
theorem dX6_isResting_0 : decode cX6_isResting 0 = .ok (.aload_n 0, 1) := by decide +kernel
theorem dX6_isResting_1 : decode cX6_isResting 1 = .ok (.getfield 23, 3) := by decide +kernel
theorem dX6_isResting_4 : decode cX6_isResting 4 = .ok (.getfield 140, 3) := by decide +kernel
theorem dX6_isResting_7 : decode cX6_isResting 7 = .ok (.iload_n 1, 1) := by decide +kernel
theorem dX6_isResting_8 : decode cX6_isResting 8 = .ok (.iaload, 1) := by decide +kernel
theorem dX6_isResting_9 : decode cX6_isResting 9 = .ok (.ifCond .le 33, 3) := by decide +kernel
theorem dX6_isResting_12 : decode cX6_isResting 12 = .ok (.aload_n 0, 1) := by decide +kernel
theorem dX6_isResting_13 : decode cX6_isResting 13 = .ok (.getfield 27, 3) := by decide +kernel
theorem dX6_isResting_16 : decode cX6_isResting 16 = .ok (.getfield 66, 3) := by decide +kernel
theorem dX6_isResting_19 : decode cX6_isResting 19 = .ok (.aload_n 0, 1) := by decide +kernel
theorem dX6_isResting_20 : decode cX6_isResting 20 = .ok (.getfield 23, 3) := by decide +kernel
theorem dX6_isResting_23 : decode cX6_isResting 23 = .ok (.getfield 140, 3) := by decide +kernel
theorem dX6_isResting_26 : decode cX6_isResting 26 = .ok (.iload_n 1, 1) := by decide +kernel
theorem dX6_isResting_27 : decode cX6_isResting 27 = .ok (.iaload, 1) := by decide +kernel
theorem dX6_isResting_28 : decode cX6_isResting 28 = .ok (.irem, 1) := by decide +kernel
theorem dX6_isResting_29 : decode cX6_isResting 29 = .ok (.aload_n 0, 1) := by decide +kernel
theorem dX6_isResting_30 : decode cX6_isResting 30 = .ok (.getfield 9, 3) := by decide +kernel
theorem dX6_isResting_33 : decode cX6_isResting 33 = .ok (.iload_n 1, 1) := by decide +kernel
theorem dX6_isResting_34 : decode cX6_isResting 34 = .ok (.iaload, 1) := by decide +kernel
theorem dX6_isResting_35 : decode cX6_isResting 35 = .ok (.if_icmp .ne 7, 3) := by decide +kernel
theorem dX6_isResting_38 : decode cX6_isResting 38 = .ok (.iconst 1, 1) := by decide +kernel
theorem dX6_isResting_39 : decode cX6_isResting 39 = .ok (.goto 4, 3) := by decide +kernel
theorem dX6_isResting_42 : decode cX6_isResting 42 = .ok (.iconst 0, 1) := by decide +kernel
theorem dX6_isResting_43 : decode cX6_isResting 43 = .ok (.ireturn, 1) := by decide +kernel
theorem dX6_chooseTool_0 : decode cX6_chooseTool 0 = .ok (.aload_n 0, 1) := by decide +kernel
theorem dX6_chooseTool_1 : decode cX6_chooseTool 1 = .ok (.getfield 27, 3) := by decide +kernel
theorem dX6_chooseTool_4 : decode cX6_chooseTool 4 = .ok (.getfield 94, 3) := by decide +kernel
theorem dX6_chooseTool_7 : decode cX6_chooseTool 7 = .ok (.aload_n 0, 1) := by decide +kernel
theorem dX6_chooseTool_8 : decode cX6_chooseTool 8 = .ok (.getfield 27, 3) := by decide +kernel
theorem dX6_chooseTool_11 : decode cX6_chooseTool 11 = .ok (.getfield 143, 3) := by decide +kernel
theorem dX6_chooseTool_14 : decode cX6_chooseTool 14 = .ok (.ior, 1) := by decide +kernel
theorem dX6_chooseTool_15 : decode cX6_chooseTool 15 = .ok (.aload_n 0, 1) := by decide +kernel
theorem dX6_chooseTool_16 : decode cX6_chooseTool 16 = .ok (.getfield 60, 3) := by decide +kernel
theorem dX6_chooseTool_19 : decode cX6_chooseTool 19 = .ok (.ior, 1) := by decide +kernel
theorem dX6_chooseTool_20 : decode cX6_chooseTool 20 = .ok (.istore_n 2, 1) := by decide +kernel
theorem dX6_chooseTool_21 : decode cX6_chooseTool 21 = .ok (.aload_n 0, 1) := by decide +kernel
theorem dX6_chooseTool_22 : decode cX6_chooseTool 22 = .ok (.getfield 23, 3) := by decide +kernel
theorem dX6_chooseTool_25 : decode cX6_chooseTool 25 = .ok (.getfield 146, 3) := by decide +kernel
theorem dX6_chooseTool_28 : decode cX6_chooseTool 28 = .ok (.astore_n 3, 1) := by decide +kernel
theorem dX6_chooseTool_29 : decode cX6_chooseTool 29 = .ok (.iconst (-1), 1) := by decide +kernel
theorem dX6_chooseTool_30 : decode cX6_chooseTool 30 = .ok (.istore 4, 2) := by decide +kernel
theorem dX6_chooseTool_32 : decode cX6_chooseTool 32 = .ok (.iconst 0, 1) := by decide +kernel
theorem dX6_chooseTool_33 : decode cX6_chooseTool 33 = .ok (.istore 5, 2) := by decide +kernel
theorem dX6_chooseTool_35 : decode cX6_chooseTool 35 = .ok (.iload 5, 2) := by decide +kernel
theorem dX6_chooseTool_37 : decode cX6_chooseTool 37 = .ok (.aload_n 0, 1) := by decide +kernel
theorem dX6_chooseTool_38 : decode cX6_chooseTool 38 = .ok (.getfield 23, 3) := by decide +kernel
theorem dX6_chooseTool_41 : decode cX6_chooseTool 41 = .ok (.iconst 1, 1) := by decide +kernel
theorem dX6_chooseTool_42 : decode cX6_chooseTool 42 = .ok (.invokevirtual 71, 3) := by decide +kernel
theorem dX6_chooseTool_45 : decode cX6_chooseTool 45 = .ok (.if_icmp .ge 175, 3) := by decide +kernel
theorem dX6_chooseTool_48 : decode cX6_chooseTool 48 = .ok (.aload_n 0, 1) := by decide +kernel
theorem dX6_chooseTool_49 : decode cX6_chooseTool 49 = .ok (.getfield 23, 3) := by decide +kernel
theorem dX6_chooseTool_52 : decode cX6_chooseTool 52 = .ok (.getfield 150, 3) := by decide +kernel
theorem dX6_chooseTool_55 : decode cX6_chooseTool 55 = .ok (.iload 5, 2) := by decide +kernel
theorem dX6_chooseTool_57 : decode cX6_chooseTool 57 = .ok (.iaload, 1) := by decide +kernel
theorem dX6_chooseTool_58 : decode cX6_chooseTool 58 = .ok (.iload_n 1, 1) := by decide +kernel
theorem dX6_chooseTool_59 : decode cX6_chooseTool 59 = .ok (.if_icmp .ne 16, 3) := by decide +kernel
theorem dX6_chooseTool_62 : decode cX6_chooseTool 62 = .ok (.iload_n 2, 1) := by decide +kernel
theorem dX6_chooseTool_63 : decode cX6_chooseTool 63 = .ok (.iload 5, 2) := by decide +kernel
theorem dX6_chooseTool_65 : decode cX6_chooseTool 65 = .ok (.ishr, 1) := by decide +kernel
theorem dX6_chooseTool_66 : decode cX6_chooseTool 66 = .ok (.iconst 1, 1) := by decide +kernel
theorem dX6_chooseTool_67 : decode cX6_chooseTool 67 = .ok (.iand, 1) := by decide +kernel
theorem dX6_chooseTool_68 : decode cX6_chooseTool 68 = .ok (.ifCond .ne 7, 3) := by decide +kernel
theorem dX6_chooseTool_71 : decode cX6_chooseTool 71 = .ok (.iconst 1, 1) := by decide +kernel
theorem dX6_chooseTool_72 : decode cX6_chooseTool 72 = .ok (.goto 4, 3) := by decide +kernel
theorem dX6_chooseTool_75 : decode cX6_chooseTool 75 = .ok (.iconst 0, 1) := by decide +kernel
theorem dX6_chooseTool_76 : decode cX6_chooseTool 76 = .ok (.istore 6, 2) := by decide +kernel
theorem dX6_chooseTool_78 : decode cX6_chooseTool 78 = .ok (.iload 4, 2) := by decide +kernel
theorem dX6_chooseTool_80 : decode cX6_chooseTool 80 = .ok (.iconst (-1), 1) := by decide +kernel
theorem dX6_chooseTool_81 : decode cX6_chooseTool 81 = .ok (.if_icmp .eq 26, 3) := by decide +kernel
theorem dX6_chooseTool_84 : decode cX6_chooseTool 84 = .ok (.aload_n 0, 1) := by decide +kernel
theorem dX6_chooseTool_85 : decode cX6_chooseTool 85 = .ok (.getfield 27, 3) := by decide +kernel
theorem dX6_chooseTool_88 : decode cX6_chooseTool 88 = .ok (.getfield 97, 3) := by decide +kernel
theorem dX6_chooseTool_91 : decode cX6_chooseTool 91 = .ok (.iload 5, 2) := by decide +kernel
theorem dX6_chooseTool_93 : decode cX6_chooseTool 93 = .ok (.iaload, 1) := by decide +kernel
theorem dX6_chooseTool_94 : decode cX6_chooseTool 94 = .ok (.aload_n 0, 1) := by decide +kernel
theorem dX6_chooseTool_95 : decode cX6_chooseTool 95 = .ok (.getfield 27, 3) := by decide +kernel
theorem dX6_chooseTool_98 : decode cX6_chooseTool 98 = .ok (.getfield 97, 3) := by decide +kernel
theorem dX6_chooseTool_101 : decode cX6_chooseTool 101 = .ok (.iload 4, 2) := by decide +kernel
theorem dX6_chooseTool_103 : decode cX6_chooseTool 103 = .ok (.iaload, 1) := by decide +kernel
theorem dX6_chooseTool_104 : decode cX6_chooseTool 104 = .ok (.if_icmp .ge 7, 3) := by decide +kernel
theorem dX6_chooseTool_107 : decode cX6_chooseTool 107 = .ok (.iconst 1, 1) := by decide +kernel
theorem dX6_chooseTool_108 : decode cX6_chooseTool 108 = .ok (.goto 4, 3) := by decide +kernel
theorem dX6_chooseTool_111 : decode cX6_chooseTool 111 = .ok (.iconst 0, 1) := by decide +kernel
theorem dX6_chooseTool_112 : decode cX6_chooseTool 112 = .ok (.istore 7, 2) := by decide +kernel
theorem dX6_chooseTool_114 : decode cX6_chooseTool 114 = .ok (.iload 6, 2) := by decide +kernel
theorem dX6_chooseTool_116 : decode cX6_chooseTool 116 = .ok (.ifCond .eq 17, 3) := by decide +kernel
theorem dX6_chooseTool_119 : decode cX6_chooseTool 119 = .ok (.iload 7, 2) := by decide +kernel
theorem dX6_chooseTool_121 : decode cX6_chooseTool 121 = .ok (.ifCond .eq 12, 3) := by decide +kernel
theorem dX6_chooseTool_124 : decode cX6_chooseTool 124 = .ok (.aload_n 0, 1) := by decide +kernel
theorem dX6_chooseTool_125 : decode cX6_chooseTool 125 = .ok (.iload 5, 2) := by decide +kernel
theorem dX6_chooseTool_127 : decode cX6_chooseTool 127 = .ok (.invokevirtual 133, 3) := by decide +kernel
theorem dX6_chooseTool_130 : decode cX6_chooseTool 130 = .ok (.goto 4, 3) := by decide +kernel
theorem dX6_chooseTool_133 : decode cX6_chooseTool 133 = .ok (.iconst (-1), 1) := by decide +kernel
theorem dX6_chooseTool_134 : decode cX6_chooseTool 134 = .ok (.istore 8, 2) := by decide +kernel
theorem dX6_chooseTool_136 : decode cX6_chooseTool 136 = .ok (.iload 8, 2) := by decide +kernel
theorem dX6_chooseTool_138 : decode cX6_chooseTool 138 = .ok (.iconst (-1), 1) := by decide +kernel
theorem dX6_chooseTool_139 : decode cX6_chooseTool 139 = .ok (.if_icmp .eq 75, 3) := by decide +kernel
theorem dX6_chooseTool_142 : decode cX6_chooseTool 142 = .ok (.aload_n 0, 1) := by decide +kernel
theorem dX6_chooseTool_143 : decode cX6_chooseTool 143 = .ok (.iload 5, 2) := by decide +kernel
theorem dX6_chooseTool_145 : decode cX6_chooseTool 145 = .ok (.iload 8, 2) := by decide +kernel
theorem dX6_chooseTool_147 : decode cX6_chooseTool 147 = .ok (.invokevirtual 153, 3) := by decide +kernel
theorem dX6_chooseTool_150 : decode cX6_chooseTool 150 = .ok (.aload_n 3, 1) := by decide +kernel
theorem dX6_chooseTool_151 : decode cX6_chooseTool 151 = .ok (.invokevirtual 157, 3) := by decide +kernel
theorem dX6_chooseTool_154 : decode cX6_chooseTool 154 = .ok (.ifCond .eq 30, 3) := by decide +kernel
theorem dX6_chooseTool_157 : decode cX6_chooseTool 157 = .ok (.aload_n 3, 1) := by decide +kernel
theorem dX6_chooseTool_158 : decode cX6_chooseTool 158 = .ok (.aload_n 3, 1) := by decide +kernel
theorem dX6_chooseTool_159 : decode cX6_chooseTool 159 = .ok (.getfield 161, 3) := by decide +kernel
theorem dX6_chooseTool_162 : decode cX6_chooseTool 162 = .ok (.aload_n 3, 1) := by decide +kernel
theorem dX6_chooseTool_163 : decode cX6_chooseTool 163 = .ok (.getfield 164, 3) := by decide +kernel
theorem dX6_chooseTool_166 : decode cX6_chooseTool 166 = .ok (.aload_n 0, 1) := by decide +kernel
theorem dX6_chooseTool_167 : decode cX6_chooseTool 167 = .ok (.getfield 20, 3) := by decide +kernel
theorem dX6_chooseTool_170 : decode cX6_chooseTool 170 = .ok (.invokevirtual 167, 3) := by decide +kernel
theorem dX6_chooseTool_173 : decode cX6_chooseTool 173 = .ok (.ifCond .eq 7, 3) := by decide +kernel
theorem dX6_chooseTool_176 : decode cX6_chooseTool 176 = .ok (.iconst 1, 1) := by decide +kernel
theorem dX6_chooseTool_177 : decode cX6_chooseTool 177 = .ok (.goto 21, 3) := by decide +kernel
theorem dX6_chooseTool_180 : decode cX6_chooseTool 180 = .ok (.iconst 0, 1) := by decide +kernel
theorem dX6_chooseTool_181 : decode cX6_chooseTool 181 = .ok (.goto 17, 3) := by decide +kernel
theorem dX6_chooseTool_184 : decode cX6_chooseTool 184 = .ok (.aload_n 0, 1) := by decide +kernel
theorem dX6_chooseTool_185 : decode cX6_chooseTool 185 = .ok (.getfield 20, 3) := by decide +kernel
theorem dX6_chooseTool_188 : decode cX6_chooseTool 188 = .ok (.iconst 0, 1) := by decide +kernel
theorem dX6_chooseTool_189 : decode cX6_chooseTool 189 = .ok (.iaload, 1) := by decide +kernel
theorem dX6_chooseTool_190 : decode cX6_chooseTool 190 = .ok (.ifCond .ne 7, 3) := by decide +kernel
theorem dX6_chooseTool_193 : decode cX6_chooseTool 193 = .ok (.iconst 1, 1) := by decide +kernel
theorem dX6_chooseTool_194 : decode cX6_chooseTool 194 = .ok (.goto 4, 3) := by decide +kernel
theorem dX6_chooseTool_197 : decode cX6_chooseTool 197 = .ok (.iconst 0, 1) := by decide +kernel
theorem dX6_chooseTool_198 : decode cX6_chooseTool 198 = .ok (.istore 9, 2) := by decide +kernel
theorem dX6_chooseTool_200 : decode cX6_chooseTool 200 = .ok (.iload 9, 2) := by decide +kernel
theorem dX6_chooseTool_202 : decode cX6_chooseTool 202 = .ok (.ifCond .eq 8, 3) := by decide +kernel
theorem dX6_chooseTool_205 : decode cX6_chooseTool 205 = .ok (.iload 5, 2) := by decide +kernel
theorem dX6_chooseTool_207 : decode cX6_chooseTool 207 = .ok (.goto 5, 3) := by decide +kernel
theorem dX6_chooseTool_210 : decode cX6_chooseTool 210 = .ok (.iload 4, 2) := by decide +kernel
theorem dX6_chooseTool_212 : decode cX6_chooseTool 212 = .ok (.istore 4, 2) := by decide +kernel
theorem dX6_chooseTool_214 : decode cX6_chooseTool 214 = .ok (.iinc 5 1, 3) := by decide +kernel
theorem dX6_chooseTool_217 : decode cX6_chooseTool 217 = .ok (.goto (-182), 3) := by decide +kernel
theorem dX6_chooseTool_220 : decode cX6_chooseTool 220 = .ok (.iload 4, 2) := by decide +kernel
theorem dX6_chooseTool_222 : decode cX6_chooseTool 222 = .ok (.ireturn, 1) := by decide +kernel
theorem dX6_chooseHand_0 : decode cX6_chooseHand 0 = .ok (.iconst (-1), 1) := by decide +kernel
theorem dX6_chooseHand_1 : decode cX6_chooseHand 1 = .ok (.istore_n 2, 1) := by decide +kernel
theorem dX6_chooseHand_2 : decode cX6_chooseHand 2 = .ok (.iconst 0, 1) := by decide +kernel
theorem dX6_chooseHand_3 : decode cX6_chooseHand 3 = .ok (.istore_n 3, 1) := by decide +kernel
theorem dX6_chooseHand_4 : decode cX6_chooseHand 4 = .ok (.iload_n 3, 1) := by decide +kernel
theorem dX6_chooseHand_5 : decode cX6_chooseHand 5 = .ok (.aload_n 0, 1) := by decide +kernel
theorem dX6_chooseHand_6 : decode cX6_chooseHand 6 = .ok (.getfield 23, 3) := by decide +kernel
theorem dX6_chooseHand_9 : decode cX6_chooseHand 9 = .ok (.iconst 2, 1) := by decide +kernel
theorem dX6_chooseHand_10 : decode cX6_chooseHand 10 = .ok (.invokevirtual 71, 3) := by decide +kernel
theorem dX6_chooseHand_13 : decode cX6_chooseHand 13 = .ok (.if_icmp .ge 60, 3) := by decide +kernel
theorem dX6_chooseHand_16 : decode cX6_chooseHand 16 = .ok (.aload_n 0, 1) := by decide +kernel
theorem dX6_chooseHand_17 : decode cX6_chooseHand 17 = .ok (.getfield 63, 3) := by decide +kernel
theorem dX6_chooseHand_20 : decode cX6_chooseHand 20 = .ok (.iload_n 3, 1) := by decide +kernel
theorem dX6_chooseHand_21 : decode cX6_chooseHand 21 = .ok (.ishr, 1) := by decide +kernel
theorem dX6_chooseHand_22 : decode cX6_chooseHand 22 = .ok (.iconst 1, 1) := by decide +kernel
theorem dX6_chooseHand_23 : decode cX6_chooseHand 23 = .ok (.iand, 1) := by decide +kernel
theorem dX6_chooseHand_24 : decode cX6_chooseHand 24 = .ok (.ifCond .ne 7, 3) := by decide +kernel
theorem dX6_chooseHand_27 : decode cX6_chooseHand 27 = .ok (.iconst 1, 1) := by decide +kernel
theorem dX6_chooseHand_28 : decode cX6_chooseHand 28 = .ok (.goto 4, 3) := by decide +kernel
theorem dX6_chooseHand_31 : decode cX6_chooseHand 31 = .ok (.iconst 0, 1) := by decide +kernel
theorem dX6_chooseHand_32 : decode cX6_chooseHand 32 = .ok (.istore 4, 2) := by decide +kernel
theorem dX6_chooseHand_34 : decode cX6_chooseHand 34 = .ok (.iload 4, 2) := by decide +kernel
theorem dX6_chooseHand_36 : decode cX6_chooseHand 36 = .ok (.ifCond .eq 31, 3) := by decide +kernel
theorem dX6_chooseHand_39 : decode cX6_chooseHand 39 = .ok (.iload_n 2, 1) := by decide +kernel
theorem dX6_chooseHand_40 : decode cX6_chooseHand 40 = .ok (.iconst (-1), 1) := by decide +kernel
theorem dX6_chooseHand_41 : decode cX6_chooseHand 41 = .ok (.if_icmp .eq 24, 3) := by decide +kernel
theorem dX6_chooseHand_44 : decode cX6_chooseHand 44 = .ok (.aload_n 0, 1) := by decide +kernel
theorem dX6_chooseHand_45 : decode cX6_chooseHand 45 = .ok (.getfield 27, 3) := by decide +kernel
theorem dX6_chooseHand_48 : decode cX6_chooseHand 48 = .ok (.iload_n 3, 1) := by decide +kernel
theorem dX6_chooseHand_49 : decode cX6_chooseHand 49 = .ok (.iload_n 1, 1) := by decide +kernel
theorem dX6_chooseHand_50 : decode cX6_chooseHand 50 = .ok (.invokevirtual 171, 3) := by decide +kernel
theorem dX6_chooseHand_53 : decode cX6_chooseHand 53 = .ok (.aload_n 0, 1) := by decide +kernel
theorem dX6_chooseHand_54 : decode cX6_chooseHand 54 = .ok (.getfield 27, 3) := by decide +kernel
theorem dX6_chooseHand_57 : decode cX6_chooseHand 57 = .ok (.iload_n 2, 1) := by decide +kernel
theorem dX6_chooseHand_58 : decode cX6_chooseHand 58 = .ok (.iload_n 1, 1) := by decide +kernel
theorem dX6_chooseHand_59 : decode cX6_chooseHand 59 = .ok (.invokevirtual 171, 3) := by decide +kernel
theorem dX6_chooseHand_62 : decode cX6_chooseHand 62 = .ok (.if_icmp .le 5, 3) := by decide +kernel
theorem dX6_chooseHand_65 : decode cX6_chooseHand 65 = .ok (.iload_n 3, 1) := by decide +kernel
theorem dX6_chooseHand_66 : decode cX6_chooseHand 66 = .ok (.istore_n 2, 1) := by decide +kernel
theorem dX6_chooseHand_67 : decode cX6_chooseHand 67 = .ok (.iinc 3 1, 3) := by decide +kernel
theorem dX6_chooseHand_70 : decode cX6_chooseHand 70 = .ok (.goto (-66), 3) := by decide +kernel
theorem dX6_chooseHand_73 : decode cX6_chooseHand 73 = .ok (.iload_n 2, 1) := by decide +kernel
theorem dX6_chooseHand_74 : decode cX6_chooseHand 74 = .ok (.ireturn, 1) := by decide +kernel
theorem dX6_tellFacts_0 : decode cX6_tellFacts 0 = .ok (.iload_n 1, 1) := by decide +kernel
theorem dX6_tellFacts_1 : decode cX6_tellFacts 1 = .ok (.ifCond .lt 24, 3) := by decide +kernel
theorem dX6_tellFacts_4 : decode cX6_tellFacts 4 = .ok (.iload_n 1, 1) := by decide +kernel
theorem dX6_tellFacts_5 : decode cX6_tellFacts 5 = .ok (.bipush 8, 2) := by decide +kernel
theorem dX6_tellFacts_7 : decode cX6_tellFacts 7 = .ok (.if_icmp .ge 18, 3) := by decide +kernel
theorem dX6_tellFacts_10 : decode cX6_tellFacts 10 = .ok (.aload_n 0, 1) := by decide +kernel
theorem dX6_tellFacts_11 : decode cX6_tellFacts 11 = .ok (.getfield 20, 3) := by decide +kernel
theorem dX6_tellFacts_14 : decode cX6_tellFacts 14 = .ok (.iconst 1, 1) := by decide +kernel
theorem dX6_tellFacts_15 : decode cX6_tellFacts 15 = .ok (.aload_n 0, 1) := by decide +kernel
theorem dX6_tellFacts_16 : decode cX6_tellFacts 16 = .ok (.getfield 27, 3) := by decide +kernel
theorem dX6_tellFacts_19 : decode cX6_tellFacts 19 = .ok (.getfield 97, 3) := by decide +kernel
theorem dX6_tellFacts_22 : decode cX6_tellFacts 22 = .ok (.iload_n 1, 1) := by decide +kernel
theorem dX6_tellFacts_23 : decode cX6_tellFacts 23 = .ok (.iaload, 1) := by decide +kernel
theorem dX6_tellFacts_24 : decode cX6_tellFacts 24 = .ok (.iastore, 1) := by decide +kernel
theorem dX6_tellFacts_25 : decode cX6_tellFacts 25 = .ok (.aload_n 0, 1) := by decide +kernel
theorem dX6_tellFacts_26 : decode cX6_tellFacts 26 = .ok (.getfield 20, 3) := by decide +kernel
theorem dX6_tellFacts_29 : decode cX6_tellFacts 29 = .ok (.iconst 2, 1) := by decide +kernel
theorem dX6_tellFacts_30 : decode cX6_tellFacts 30 = .ok (.aload_n 0, 1) := by decide +kernel
theorem dX6_tellFacts_31 : decode cX6_tellFacts 31 = .ok (.getfield 27, 3) := by decide +kernel
theorem dX6_tellFacts_34 : decode cX6_tellFacts 34 = .ok (.iload_n 2, 1) := by decide +kernel
theorem dX6_tellFacts_35 : decode cX6_tellFacts 35 = .ok (.iload_n 1, 1) := by decide +kernel
theorem dX6_tellFacts_36 : decode cX6_tellFacts 36 = .ok (.invokevirtual 171, 3) := by decide +kernel
theorem dX6_tellFacts_39 : decode cX6_tellFacts 39 = .ok (.iastore, 1) := by decide +kernel
theorem dX6_tellFacts_40 : decode cX6_tellFacts 40 = .ok (.return_, 1) := by decide +kernel
theorem dX6_useTool_0 : decode cX6_useTool 0 = .ok (.iload_n 3, 1) := by decide +kernel
theorem dX6_useTool_1 : decode cX6_useTool 1 = .ok (.ifCond .lt 19, 3) := by decide +kernel
theorem dX6_useTool_4 : decode cX6_useTool 4 = .ok (.iload_n 3, 1) := by decide +kernel
theorem dX6_useTool_5 : decode cX6_useTool 5 = .ok (.bipush 6, 2) := by decide +kernel
theorem dX6_useTool_7 : decode cX6_useTool 7 = .ok (.if_icmp .ge 13, 3) := by decide +kernel
theorem dX6_useTool_10 : decode cX6_useTool 10 = .ok (.iload_n 2, 1) := by decide +kernel
theorem dX6_useTool_11 : decode cX6_useTool 11 = .ok (.ifCond .lt 9, 3) := by decide +kernel
theorem dX6_useTool_14 : decode cX6_useTool 14 = .ok (.iload_n 2, 1) := by decide +kernel
theorem dX6_useTool_15 : decode cX6_useTool 15 = .ok (.bipush 8, 2) := by decide +kernel
theorem dX6_useTool_17 : decode cX6_useTool 17 = .ok (.if_icmp .lt 4, 3) := by decide +kernel
theorem dX6_useTool_20 : decode cX6_useTool 20 = .ok (.return_, 1) := by decide +kernel
theorem dX6_useTool_21 : decode cX6_useTool 21 = .ok (.aload_n 0, 1) := by decide +kernel
theorem dX6_useTool_22 : decode cX6_useTool 22 = .ok (.iload_n 2, 1) := by decide +kernel
theorem dX6_useTool_23 : decode cX6_useTool 23 = .ok (.iload_n 3, 1) := by decide +kernel
theorem dX6_useTool_24 : decode cX6_useTool 24 = .ok (.invokevirtual 153, 3) := by decide +kernel
theorem dX6_useTool_27 : decode cX6_useTool 27 = .ok (.aload_n 0, 1) := by decide +kernel
theorem dX6_useTool_28 : decode cX6_useTool 28 = .ok (.getfield 23, 3) := by decide +kernel
theorem dX6_useTool_31 : decode cX6_useTool 31 = .ok (.getfield 146, 3) := by decide +kernel
theorem dX6_useTool_34 : decode cX6_useTool 34 = .ok (.astore 4, 2) := by decide +kernel
theorem dX6_useTool_36 : decode cX6_useTool 36 = .ok (.aload 4, 2) := by decide +kernel
theorem dX6_useTool_38 : decode cX6_useTool 38 = .ok (.invokevirtual 174, 3) := by decide +kernel
theorem dX6_useTool_41 : decode cX6_useTool 41 = .ok (.ifCond .eq 25, 3) := by decide +kernel
theorem dX6_useTool_44 : decode cX6_useTool 44 = .ok (.aload 4, 2) := by decide +kernel
theorem dX6_useTool_46 : decode cX6_useTool 46 = .ok (.aload 4, 2) := by decide +kernel
theorem dX6_useTool_48 : decode cX6_useTool 48 = .ok (.getfield 177, 3) := by decide +kernel
theorem dX6_useTool_51 : decode cX6_useTool 51 = .ok (.aload 4, 2) := by decide +kernel
theorem dX6_useTool_53 : decode cX6_useTool 53 = .ok (.getfield 180, 3) := by decide +kernel
theorem dX6_useTool_56 : decode cX6_useTool 56 = .ok (.aload_n 0, 1) := by decide +kernel
theorem dX6_useTool_57 : decode cX6_useTool 57 = .ok (.getfield 20, 3) := by decide +kernel
theorem dX6_useTool_60 : decode cX6_useTool 60 = .ok (.invokevirtual 167, 3) := by decide +kernel
theorem dX6_useTool_63 : decode cX6_useTool 63 = .ok (.goto 9, 3) := by decide +kernel
theorem dX6_useTool_66 : decode cX6_useTool 66 = .ok (.aload_n 0, 1) := by decide +kernel
theorem dX6_useTool_67 : decode cX6_useTool 67 = .ok (.getfield 20, 3) := by decide +kernel
theorem dX6_useTool_70 : decode cX6_useTool 70 = .ok (.iconst 3, 1) := by decide +kernel
theorem dX6_useTool_71 : decode cX6_useTool 71 = .ok (.iaload, 1) := by decide +kernel
theorem dX6_useTool_72 : decode cX6_useTool 72 = .ok (.istore 5, 2) := by decide +kernel
theorem dX6_useTool_74 : decode cX6_useTool 74 = .ok (.aload_n 0, 1) := by decide +kernel
theorem dX6_useTool_75 : decode cX6_useTool 75 = .ok (.getfield 27, 3) := by decide +kernel
theorem dX6_useTool_78 : decode cX6_useTool 78 = .ok (.getfield 97, 3) := by decide +kernel
theorem dX6_useTool_81 : decode cX6_useTool 81 = .ok (.iload_n 2, 1) := by decide +kernel
theorem dX6_useTool_82 : decode cX6_useTool 82 = .ok (.bipush 100, 2) := by decide +kernel
theorem dX6_useTool_84 : decode cX6_useTool 84 = .ok (.aload_n 0, 1) := by decide +kernel
theorem dX6_useTool_85 : decode cX6_useTool 85 = .ok (.getfield 27, 3) := by decide +kernel
theorem dX6_useTool_88 : decode cX6_useTool 88 = .ok (.getfield 97, 3) := by decide +kernel
theorem dX6_useTool_91 : decode cX6_useTool 91 = .ok (.iload_n 2, 1) := by decide +kernel
theorem dX6_useTool_92 : decode cX6_useTool 92 = .ok (.iaload, 1) := by decide +kernel
theorem dX6_useTool_93 : decode cX6_useTool 93 = .ok (.iconst 0, 1) := by decide +kernel
theorem dX6_useTool_94 : decode cX6_useTool 94 = .ok (.bipush 99, 2) := by decide +kernel
theorem dX6_useTool_96 : decode cX6_useTool 96 = .ok (.iload 5, 2) := by decide +kernel
theorem dX6_useTool_98 : decode cX6_useTool 98 = .ok (.invokestatic 82, 3) := by decide +kernel
theorem dX6_useTool_101 : decode cX6_useTool 101 = .ok (.invokestatic 183, 3) := by decide +kernel
theorem dX6_useTool_104 : decode cX6_useTool 104 = .ok (.iadd, 1) := by decide +kernel
theorem dX6_useTool_105 : decode cX6_useTool 105 = .ok (.invokestatic 82, 3) := by decide +kernel
theorem dX6_useTool_108 : decode cX6_useTool 108 = .ok (.iastore, 1) := by decide +kernel
theorem dX6_useTool_109 : decode cX6_useTool 109 = .ok (.aload_n 0, 1) := by decide +kernel
theorem dX6_useTool_110 : decode cX6_useTool 110 = .ok (.getfield 27, 3) := by decide +kernel
theorem dX6_useTool_113 : decode cX6_useTool 113 = .ok (.getfield 186, 3) := by decide +kernel
theorem dX6_useTool_116 : decode cX6_useTool 116 = .ok (.iload_n 3, 1) := by decide +kernel
theorem dX6_useTool_117 : decode cX6_useTool 117 = .ok (.bipush 8, 2) := by decide +kernel
theorem dX6_useTool_119 : decode cX6_useTool 119 = .ok (.imul, 1) := by decide +kernel
theorem dX6_useTool_120 : decode cX6_useTool 120 = .ok (.iload_n 2, 1) := by decide +kernel
theorem dX6_useTool_121 : decode cX6_useTool 121 = .ok (.iadd, 1) := by decide +kernel
theorem dX6_useTool_122 : decode cX6_useTool 122 = .ok (.bipush 9, 2) := by decide +kernel
theorem dX6_useTool_124 : decode cX6_useTool 124 = .ok (.aload_n 0, 1) := by decide +kernel
theorem dX6_useTool_125 : decode cX6_useTool 125 = .ok (.getfield 27, 3) := by decide +kernel
theorem dX6_useTool_128 : decode cX6_useTool 128 = .ok (.iload_n 3, 1) := by decide +kernel
theorem dX6_useTool_129 : decode cX6_useTool 129 = .ok (.iload_n 2, 1) := by decide +kernel
theorem dX6_useTool_130 : decode cX6_useTool 130 = .ok (.invokevirtual 171, 3) := by decide +kernel
theorem dX6_useTool_133 : decode cX6_useTool 133 = .ok (.iconst 1, 1) := by decide +kernel
theorem dX6_useTool_134 : decode cX6_useTool 134 = .ok (.iadd, 1) := by decide +kernel
theorem dX6_useTool_135 : decode cX6_useTool 135 = .ok (.invokestatic 82, 3) := by decide +kernel
theorem dX6_useTool_138 : decode cX6_useTool 138 = .ok (.iastore, 1) := by decide +kernel
theorem dX6_useTool_139 : decode cX6_useTool 139 = .ok (.aload_n 0, 1) := by decide +kernel
theorem dX6_useTool_140 : decode cX6_useTool 140 = .ok (.getfield 20, 3) := by decide +kernel
theorem dX6_useTool_143 : decode cX6_useTool 143 = .ok (.iconst 0, 1) := by decide +kernel
theorem dX6_useTool_144 : decode cX6_useTool 144 = .ok (.iaload, 1) := by decide +kernel
theorem dX6_useTool_145 : decode cX6_useTool 145 = .ok (.iconst 1, 1) := by decide +kernel
theorem dX6_useTool_146 : decode cX6_useTool 146 = .ok (.if_icmp .ne 17, 3) := by decide +kernel
theorem dX6_useTool_149 : decode cX6_useTool 149 = .ok (.aload_n 0, 1) := by decide +kernel
theorem dX6_useTool_150 : decode cX6_useTool 150 = .ok (.getfield 27, 3) := by decide +kernel
theorem dX6_useTool_153 : decode cX6_useTool 153 = .ok (.aload_n 0, 1) := by decide +kernel
theorem dX6_useTool_154 : decode cX6_useTool 154 = .ok (.getfield 23, 3) := by decide +kernel
theorem dX6_useTool_157 : decode cX6_useTool 157 = .ok (.getfield 189, 3) := by decide +kernel
theorem dX6_useTool_160 : decode cX6_useTool 160 = .ok (.invokevirtual 192, 3) := by decide +kernel
theorem dX6_useTool_163 : decode cX6_useTool 163 = .ok (.aload_n 0, 1) := by decide +kernel
theorem dX6_useTool_164 : decode cX6_useTool 164 = .ok (.getfield 27, 3) := by decide +kernel
theorem dX6_useTool_167 : decode cX6_useTool 167 = .ok (.getfield 97, 3) := by decide +kernel
theorem dX6_useTool_170 : decode cX6_useTool 170 = .ok (.iload_n 2, 1) := by decide +kernel
theorem dX6_useTool_171 : decode cX6_useTool 171 = .ok (.iaload, 1) := by decide +kernel
theorem dX6_useTool_172 : decode cX6_useTool 172 = .ok (.aload_n 0, 1) := by decide +kernel
theorem dX6_useTool_173 : decode cX6_useTool 173 = .ok (.getfield 23, 3) := by decide +kernel
theorem dX6_useTool_176 : decode cX6_useTool 176 = .ok (.getfield 195, 3) := by decide +kernel
theorem dX6_useTool_179 : decode cX6_useTool 179 = .ok (.if_icmp .lt 18, 3) := by decide +kernel
theorem dX6_useTool_182 : decode cX6_useTool 182 = .ok (.aload_n 0, 1) := by decide +kernel
theorem dX6_useTool_183 : decode cX6_useTool 183 = .ok (.getfield 27, 3) := by decide +kernel
theorem dX6_useTool_186 : decode cX6_useTool 186 = .ok (.dup, 1) := by decide +kernel
theorem dX6_useTool_187 : decode cX6_useTool 187 = .ok (.getfield 94, 3) := by decide +kernel
theorem dX6_useTool_190 : decode cX6_useTool 190 = .ok (.iconst 1, 1) := by decide +kernel
theorem dX6_useTool_191 : decode cX6_useTool 191 = .ok (.iload_n 2, 1) := by decide +kernel
theorem dX6_useTool_192 : decode cX6_useTool 192 = .ok (.ishl, 1) := by decide +kernel
theorem dX6_useTool_193 : decode cX6_useTool 193 = .ok (.ior, 1) := by decide +kernel
theorem dX6_useTool_194 : decode cX6_useTool 194 = .ok (.putfield 94, 3) := by decide +kernel
theorem dX6_useTool_197 : decode cX6_useTool 197 = .ok (.aload_n 0, 1) := by decide +kernel
theorem dX6_useTool_198 : decode cX6_useTool 198 = .ok (.dup, 1) := by decide +kernel
theorem dX6_useTool_199 : decode cX6_useTool 199 = .ok (.getfield 60, 3) := by decide +kernel
theorem dX6_useTool_202 : decode cX6_useTool 202 = .ok (.iconst 1, 1) := by decide +kernel
theorem dX6_useTool_203 : decode cX6_useTool 203 = .ok (.iload_n 2, 1) := by decide +kernel
theorem dX6_useTool_204 : decode cX6_useTool 204 = .ok (.ishl, 1) := by decide +kernel
theorem dX6_useTool_205 : decode cX6_useTool 205 = .ok (.ior, 1) := by decide +kernel
theorem dX6_useTool_206 : decode cX6_useTool 206 = .ok (.putfield 60, 3) := by decide +kernel
theorem dX6_useTool_209 : decode cX6_useTool 209 = .ok (.aload_n 0, 1) := by decide +kernel
theorem dX6_useTool_210 : decode cX6_useTool 210 = .ok (.dup, 1) := by decide +kernel
theorem dX6_useTool_211 : decode cX6_useTool 211 = .ok (.getfield 63, 3) := by decide +kernel
theorem dX6_useTool_214 : decode cX6_useTool 214 = .ok (.iconst 1, 1) := by decide +kernel
theorem dX6_useTool_215 : decode cX6_useTool 215 = .ok (.iload_n 3, 1) := by decide +kernel
theorem dX6_useTool_216 : decode cX6_useTool 216 = .ok (.ishl, 1) := by decide +kernel
theorem dX6_useTool_217 : decode cX6_useTool 217 = .ok (.ior, 1) := by decide +kernel
theorem dX6_useTool_218 : decode cX6_useTool 218 = .ok (.putfield 63, 3) := by decide +kernel
theorem dX6_useTool_221 : decode cX6_useTool 221 = .ok (.aload_n 0, 1) := by decide +kernel
theorem dX6_useTool_222 : decode cX6_useTool 222 = .ok (.getfield 27, 3) := by decide +kernel
theorem dX6_useTool_225 : decode cX6_useTool 225 = .ok (.getfield 108, 3) := by decide +kernel
theorem dX6_useTool_228 : decode cX6_useTool 228 = .ok (.iload_n 1, 1) := by decide +kernel
theorem dX6_useTool_229 : decode cX6_useTool 229 = .ok (.dup2, 1) := by decide +kernel
theorem dX6_useTool_230 : decode cX6_useTool 230 = .ok (.iaload, 1) := by decide +kernel
theorem dX6_useTool_231 : decode cX6_useTool 231 = .ok (.iconst 1, 1) := by decide +kernel
theorem dX6_useTool_232 : decode cX6_useTool 232 = .ok (.iadd, 1) := by decide +kernel
theorem dX6_useTool_233 : decode cX6_useTool 233 = .ok (.iastore, 1) := by decide +kernel
theorem dX6_useTool_234 : decode cX6_useTool 234 = .ok (.aload_n 0, 1) := by decide +kernel
theorem dX6_useTool_235 : decode cX6_useTool 235 = .ok (.dup, 1) := by decide +kernel
theorem dX6_useTool_236 : decode cX6_useTool 236 = .ok (.getfield 54, 3) := by decide +kernel
theorem dX6_useTool_239 : decode cX6_useTool 239 = .ok (.iconst 1, 1) := by decide +kernel
theorem dX6_useTool_240 : decode cX6_useTool 240 = .ok (.iadd, 1) := by decide +kernel
theorem dX6_useTool_241 : decode cX6_useTool 241 = .ok (.putfield 54, 3) := by decide +kernel
theorem dX6_useTool_244 : decode cX6_useTool 244 = .ok (.aload_n 0, 1) := by decide +kernel
theorem dX6_useTool_245 : decode cX6_useTool 245 = .ok (.getfield 35, 3) := by decide +kernel
theorem dX6_useTool_248 : decode cX6_useTool 248 = .ok (.ifCond .eq 17, 3) := by decide +kernel
theorem dX6_useTool_251 : decode cX6_useTool 251 = .ok (.aload_n 0, 1) := by decide +kernel
theorem dX6_useTool_252 : decode cX6_useTool 252 = .ok (.getfield 31, 3) := by decide +kernel
theorem dX6_useTool_255 : decode cX6_useTool 255 = .ok (.aload_n 0, 1) := by decide +kernel
theorem dX6_useTool_256 : decode cX6_useTool 256 = .ok (.getfield 27, 3) := by decide +kernel
theorem dX6_useTool_259 : decode cX6_useTool 259 = .ok (.iload_n 1, 1) := by decide +kernel
theorem dX6_useTool_260 : decode cX6_useTool 260 = .ok (.iload_n 2, 1) := by decide +kernel
theorem dX6_useTool_261 : decode cX6_useTool 261 = .ok (.iload_n 3, 1) := by decide +kernel
theorem dX6_useTool_262 : decode cX6_useTool 262 = .ok (.invokevirtual 198, 3) := by decide +kernel
theorem dX6_useTool_265 : decode cX6_useTool 265 = .ok (.return_, 1) := by decide +kernel
theorem dX6_payForLate_0 : decode cX6_payForLate 0 = .ok (.iconst 0, 1) := by decide +kernel
theorem dX6_payForLate_1 : decode cX6_payForLate 1 = .ok (.istore_n 1, 1) := by decide +kernel
theorem dX6_payForLate_2 : decode cX6_payForLate 2 = .ok (.iload_n 1, 1) := by decide +kernel
theorem dX6_payForLate_3 : decode cX6_payForLate 3 = .ok (.aload_n 0, 1) := by decide +kernel
theorem dX6_payForLate_4 : decode cX6_payForLate 4 = .ok (.getfield 23, 3) := by decide +kernel
theorem dX6_payForLate_7 : decode cX6_payForLate 7 = .ok (.iconst 3, 1) := by decide +kernel
theorem dX6_payForLate_8 : decode cX6_payForLate 8 = .ok (.invokevirtual 71, 3) := by decide +kernel
theorem dX6_payForLate_11 : decode cX6_payForLate 11 = .ok (.if_icmp .ge 50, 3) := by decide +kernel
theorem dX6_payForLate_14 : decode cX6_payForLate 14 = .ok (.aload_n 0, 1) := by decide +kernel
theorem dX6_payForLate_15 : decode cX6_payForLate 15 = .ok (.getfield 27, 3) := by decide +kernel
theorem dX6_payForLate_18 : decode cX6_payForLate 18 = .ok (.iload_n 1, 1) := by decide +kernel
theorem dX6_payForLate_19 : decode cX6_payForLate 19 = .ok (.aload_n 0, 1) := by decide +kernel
theorem dX6_payForLate_20 : decode cX6_payForLate 20 = .ok (.getfield 23, 3) := by decide +kernel
theorem dX6_payForLate_23 : decode cX6_payForLate 23 = .ok (.invokevirtual 121, 3) := by decide +kernel
theorem dX6_payForLate_26 : decode cX6_payForLate 26 = .ok (.istore_n 2, 1) := by decide +kernel
theorem dX6_payForLate_27 : decode cX6_payForLate 27 = .ok (.aload_n 0, 1) := by decide +kernel
theorem dX6_payForLate_28 : decode cX6_payForLate 28 = .ok (.dup, 1) := by decide +kernel
theorem dX6_payForLate_29 : decode cX6_payForLate 29 = .ok (.getfield 50, 3) := by decide +kernel
theorem dX6_payForLate_32 : decode cX6_payForLate 32 = .ok (.iload_n 2, 1) := by decide +kernel
theorem dX6_payForLate_33 : decode cX6_payForLate 33 = .ok (.iadd, 1) := by decide +kernel
theorem dX6_payForLate_34 : decode cX6_payForLate 34 = .ok (.putfield 50, 3) := by decide +kernel
theorem dX6_payForLate_37 : decode cX6_payForLate 37 = .ok (.iload_n 2, 1) := by decide +kernel
theorem dX6_payForLate_38 : decode cX6_payForLate 38 = .ok (.ifCond .le 17, 3) := by decide +kernel
theorem dX6_payForLate_41 : decode cX6_payForLate 41 = .ok (.aload_n 0, 1) := by decide +kernel
theorem dX6_payForLate_42 : decode cX6_payForLate 42 = .ok (.getfield 27, 3) := by decide +kernel
theorem dX6_payForLate_45 : decode cX6_payForLate 45 = .ok (.aload_n 0, 1) := by decide +kernel
theorem dX6_payForLate_46 : decode cX6_payForLate 46 = .ok (.getfield 23, 3) := by decide +kernel
theorem dX6_payForLate_49 : decode cX6_payForLate 49 = .ok (.getfield 189, 3) := by decide +kernel
theorem dX6_payForLate_52 : decode cX6_payForLate 52 = .ok (.invokevirtual 192, 3) := by decide +kernel
theorem dX6_payForLate_55 : decode cX6_payForLate 55 = .ok (.iinc 1 1, 3) := by decide +kernel
theorem dX6_payForLate_58 : decode cX6_payForLate 58 = .ok (.goto (-56), 3) := by decide +kernel
theorem dX6_payForLate_61 : decode cX6_payForLate 61 = .ok (.return_, 1) := by decide +kernel
theorem dX7_init_0 : decode cX7_init 0 = .ok (.aload_n 0, 1) := by decide +kernel
theorem dX7_init_1 : decode cX7_init 1 = .ok (.invokespecial 3, 3) := by decide +kernel
theorem dX7_init_4 : decode cX7_init 4 = .ok (.aload_n 0, 1) := by decide +kernel
theorem dX7_init_5 : decode cX7_init 5 = .ok (.bipush 32, 2) := by decide +kernel
theorem dX7_init_7 : decode cX7_init 7 = .ok (.newarray .int, 2) := by decide +kernel
theorem dX7_init_9 : decode cX7_init 9 = .ok (.putfield 11, 3) := by decide +kernel
theorem dX7_init_12 : decode cX7_init 12 = .ok (.aload_n 0, 1) := by decide +kernel
theorem dX7_init_13 : decode cX7_init 13 = .ok (.iconst (-1), 1) := by decide +kernel
theorem dX7_init_14 : decode cX7_init 14 = .ok (.putfield 15, 3) := by decide +kernel
theorem dX7_init_17 : decode cX7_init 17 = .ok (.aload_n 0, 1) := by decide +kernel
theorem dX7_init_18 : decode cX7_init 18 = .ok (.iconst (-1), 1) := by decide +kernel
theorem dX7_init_19 : decode cX7_init 19 = .ok (.putfield 19, 3) := by decide +kernel
theorem dX7_init_22 : decode cX7_init 22 = .ok (.aload_n 0, 1) := by decide +kernel
theorem dX7_init_23 : decode cX7_init 23 = .ok (.aload_n 1, 1) := by decide +kernel
theorem dX7_init_24 : decode cX7_init 24 = .ok (.putfield 22, 3) := by decide +kernel
theorem dX7_init_27 : decode cX7_init 27 = .ok (.iconst 0, 1) := by decide +kernel
theorem dX7_init_28 : decode cX7_init 28 = .ok (.istore_n 2, 1) := by decide +kernel
theorem dX7_init_29 : decode cX7_init 29 = .ok (.iconst 0, 1) := by decide +kernel
theorem dX7_init_30 : decode cX7_init 30 = .ok (.istore_n 3, 1) := by decide +kernel
theorem dX7_init_31 : decode cX7_init 31 = .ok (.iconst 0, 1) := by decide +kernel
theorem dX7_init_32 : decode cX7_init 32 = .ok (.istore 4, 2) := by decide +kernel
theorem dX7_init_34 : decode cX7_init 34 = .ok (.iconst 0, 1) := by decide +kernel
theorem dX7_init_35 : decode cX7_init 35 = .ok (.istore 5, 2) := by decide +kernel
theorem dX7_init_37 : decode cX7_init 37 = .ok (.iload 5, 2) := by decide +kernel
theorem dX7_init_39 : decode cX7_init 39 = .ok (.ldc 25, 2) := by decide +kernel
theorem dX7_init_41 : decode cX7_init 41 = .ok (.invokevirtual 27, 3) := by decide +kernel
theorem dX7_init_44 : decode cX7_init 44 = .ok (.if_icmp .ge 61, 3) := by decide +kernel
theorem dX7_init_47 : decode cX7_init 47 = .ok (.ldc 25, 2) := by decide +kernel
theorem dX7_init_49 : decode cX7_init 49 = .ok (.iload 5, 2) := by decide +kernel
theorem dX7_init_51 : decode cX7_init 51 = .ok (.invokevirtual 33, 3) := by decide +kernel
theorem dX7_init_54 : decode cX7_init 54 = .ok (.istore 6, 2) := by decide +kernel
theorem dX7_init_56 : decode cX7_init 56 = .ok (.iload 6, 2) := by decide +kernel
theorem dX7_init_58 : decode cX7_init 58 = .ok (.bipush 32, 2) := by decide +kernel
theorem dX7_init_60 : decode cX7_init 60 = .ok (.if_icmp .eq 17, 3) := by decide +kernel
theorem dX7_init_63 : decode cX7_init 63 = .ok (.iload_n 2, 1) := by decide +kernel
theorem dX7_init_64 : decode cX7_init 64 = .ok (.iload_n 3, 1) := by decide +kernel
theorem dX7_init_65 : decode cX7_init 65 = .ok (.iload 6, 2) := by decide +kernel
theorem dX7_init_67 : decode cX7_init 67 = .ok (.invokestatic 37, 3) := by decide +kernel
theorem dX7_init_70 : decode cX7_init 70 = .ok (.istore_n 2, 1) := by decide +kernel
theorem dX7_init_71 : decode cX7_init 71 = .ok (.iinc 3 1, 3) := by decide +kernel
theorem dX7_init_74 : decode cX7_init 74 = .ok (.goto 25, 3) := by decide +kernel
theorem dX7_init_77 : decode cX7_init 77 = .ok (.iload 4, 2) := by decide +kernel
theorem dX7_init_79 : decode cX7_init 79 = .ok (.bipush 32, 2) := by decide +kernel
theorem dX7_init_81 : decode cX7_init 81 = .ok (.if_icmp .ge 18, 3) := by decide +kernel
theorem dX7_init_84 : decode cX7_init 84 = .ok (.aload_n 0, 1) := by decide +kernel
theorem dX7_init_85 : decode cX7_init 85 = .ok (.getfield 11, 3) := by decide +kernel
theorem dX7_init_88 : decode cX7_init 88 = .ok (.iload 4, 2) := by decide +kernel
theorem dX7_init_90 : decode cX7_init 90 = .ok (.iload_n 2, 1) := by decide +kernel
theorem dX7_init_91 : decode cX7_init 91 = .ok (.iastore, 1) := by decide +kernel
theorem dX7_init_92 : decode cX7_init 92 = .ok (.iinc 4 1, 3) := by decide +kernel
theorem dX7_init_95 : decode cX7_init 95 = .ok (.iconst 0, 1) := by decide +kernel
theorem dX7_init_96 : decode cX7_init 96 = .ok (.istore_n 2, 1) := by decide +kernel
theorem dX7_init_97 : decode cX7_init 97 = .ok (.iconst 0, 1) := by decide +kernel
theorem dX7_init_98 : decode cX7_init 98 = .ok (.istore_n 3, 1) := by decide +kernel
theorem dX7_init_99 : decode cX7_init 99 = .ok (.iinc 5 1, 3) := by decide +kernel
theorem dX7_init_102 : decode cX7_init 102 = .ok (.goto (-65), 3) := by decide +kernel
theorem dX7_init_105 : decode cX7_init 105 = .ok (.return_, 1) := by decide +kernel
theorem dX7_letterOf_0 : decode cX7_letterOf 0 = .ok (.iload_n 1, 1) := by decide +kernel
theorem dX7_letterOf_1 : decode cX7_letterOf 1 = .ok (.ifCond .lt 22, 3) := by decide +kernel
theorem dX7_letterOf_4 : decode cX7_letterOf 4 = .ok (.iload_n 1, 1) := by decide +kernel
theorem dX7_letterOf_5 : decode cX7_letterOf 5 = .ok (.bipush 6, 2) := by decide +kernel
theorem dX7_letterOf_7 : decode cX7_letterOf 7 = .ok (.if_icmp .ge 16, 3) := by decide +kernel
theorem dX7_letterOf_10 : decode cX7_letterOf 10 = .ok (.iload_n 0, 1) := by decide +kernel
theorem dX7_letterOf_11 : decode cX7_letterOf 11 = .ok (.iconst 5, 1) := by decide +kernel
theorem dX7_letterOf_12 : decode cX7_letterOf 12 = .ok (.iload_n 1, 1) := by decide +kernel
theorem dX7_letterOf_13 : decode cX7_letterOf 13 = .ok (.isub, 1) := by decide +kernel
theorem dX7_letterOf_14 : decode cX7_letterOf 14 = .ok (.iconst 5, 1) := by decide +kernel
theorem dX7_letterOf_15 : decode cX7_letterOf 15 = .ok (.imul, 1) := by decide +kernel
theorem dX7_letterOf_16 : decode cX7_letterOf 16 = .ok (.ishr, 1) := by decide +kernel
theorem dX7_letterOf_17 : decode cX7_letterOf 17 = .ok (.bipush 31, 2) := by decide +kernel
theorem dX7_letterOf_19 : decode cX7_letterOf 19 = .ok (.iand, 1) := by decide +kernel
theorem dX7_letterOf_20 : decode cX7_letterOf 20 = .ok (.goto 4, 3) := by decide +kernel
theorem dX7_letterOf_23 : decode cX7_letterOf 23 = .ok (.iconst 0, 1) := by decide +kernel
theorem dX7_letterOf_24 : decode cX7_letterOf 24 = .ok (.ireturn, 1) := by decide +kernel
theorem dX7_withLetter_0 : decode cX7_withLetter 0 = .ok (.iload_n 0, 1) := by decide +kernel
theorem dX7_withLetter_1 : decode cX7_withLetter 1 = .ok (.iload_n 2, 1) := by decide +kernel
theorem dX7_withLetter_2 : decode cX7_withLetter 2 = .ok (.bipush 97, 2) := by decide +kernel
theorem dX7_withLetter_4 : decode cX7_withLetter 4 = .ok (.isub, 1) := by decide +kernel
theorem dX7_withLetter_5 : decode cX7_withLetter 5 = .ok (.iconst 1, 1) := by decide +kernel
theorem dX7_withLetter_6 : decode cX7_withLetter 6 = .ok (.iadd, 1) := by decide +kernel
theorem dX7_withLetter_7 : decode cX7_withLetter 7 = .ok (.iconst 5, 1) := by decide +kernel
theorem dX7_withLetter_8 : decode cX7_withLetter 8 = .ok (.iload_n 1, 1) := by decide +kernel
theorem dX7_withLetter_9 : decode cX7_withLetter 9 = .ok (.isub, 1) := by decide +kernel
theorem dX7_withLetter_10 : decode cX7_withLetter 10 = .ok (.iconst 5, 1) := by decide +kernel
theorem dX7_withLetter_11 : decode cX7_withLetter 11 = .ok (.imul, 1) := by decide +kernel
theorem dX7_withLetter_12 : decode cX7_withLetter 12 = .ok (.ishl, 1) := by decide +kernel
theorem dX7_withLetter_13 : decode cX7_withLetter 13 = .ok (.ior, 1) := by decide +kernel
theorem dX7_withLetter_14 : decode cX7_withLetter 14 = .ok (.ireturn, 1) := by decide +kernel
theorem dX7_begin_0 : decode cX7_begin 0 = .ok (.aload_n 0, 1) := by decide +kernel
theorem dX7_begin_1 : decode cX7_begin 1 = .ok (.iconst 0, 1) := by decide +kernel
theorem dX7_begin_2 : decode cX7_begin 2 = .ok (.iload_n 1, 1) := by decide +kernel
theorem dX7_begin_3 : decode cX7_begin 3 = .ok (.aload_n 0, 1) := by decide +kernel
theorem dX7_begin_4 : decode cX7_begin 4 = .ok (.getfield 22, 3) := by decide +kernel
theorem dX7_begin_7 : decode cX7_begin 7 = .ok (.arraylength, 1) := by decide +kernel
theorem dX7_begin_8 : decode cX7_begin 8 = .ok (.invokestatic 41, 3) := by decide +kernel
theorem dX7_begin_11 : decode cX7_begin 11 = .ok (.invokestatic 47, 3) := by decide +kernel
theorem dX7_begin_14 : decode cX7_begin 14 = .ok (.putfield 50, 3) := by decide +kernel
theorem dX7_begin_17 : decode cX7_begin 17 = .ok (.aload_n 0, 1) := by decide +kernel
theorem dX7_begin_18 : decode cX7_begin 18 = .ok (.iconst 0, 1) := by decide +kernel
theorem dX7_begin_19 : decode cX7_begin 19 = .ok (.putfield 52, 3) := by decide +kernel
theorem dX7_begin_22 : decode cX7_begin 22 = .ok (.aload_n 0, 1) := by decide +kernel
theorem dX7_begin_23 : decode cX7_begin 23 = .ok (.iconst 3, 1) := by decide +kernel
theorem dX7_begin_24 : decode cX7_begin 24 = .ok (.putfield 55, 3) := by decide +kernel
theorem dX7_begin_27 : decode cX7_begin 27 = .ok (.aload_n 0, 1) := by decide +kernel
theorem dX7_begin_28 : decode cX7_begin 28 = .ok (.iconst 0, 1) := by decide +kernel
theorem dX7_begin_29 : decode cX7_begin 29 = .ok (.putfield 58, 3) := by decide +kernel
theorem dX7_begin_32 : decode cX7_begin 32 = .ok (.aload_n 0, 1) := by decide +kernel
theorem dX7_begin_33 : decode cX7_begin 33 = .ok (.iconst (-1), 1) := by decide +kernel
theorem dX7_begin_34 : decode cX7_begin 34 = .ok (.putfield 19, 3) := by decide +kernel
theorem dX7_begin_37 : decode cX7_begin 37 = .ok (.aload_n 0, 1) := by decide +kernel
theorem dX7_begin_38 : decode cX7_begin 38 = .ok (.invokevirtual 61, 3) := by decide +kernel
theorem dX7_begin_41 : decode cX7_begin 41 = .ok (.return_, 1) := by decide +kernel
theorem dX7_fail_0 : decode cX7_fail 0 = .ok (.aload_n 0, 1) := by decide +kernel
theorem dX7_fail_1 : decode cX7_fail 1 = .ok (.iload_n 1, 1) := by decide +kernel
theorem dX7_fail_2 : decode cX7_fail 2 = .ok (.putfield 58, 3) := by decide +kernel
theorem dX7_fail_5 : decode cX7_fail 5 = .ok (.aload_n 0, 1) := by decide +kernel
theorem dX7_fail_6 : decode cX7_fail 6 = .ok (.iload_n 2, 1) := by decide +kernel
theorem dX7_fail_7 : decode cX7_fail 7 = .ok (.putfield 19, 3) := by decide +kernel
theorem dX7_fail_10 : decode cX7_fail 10 = .ok (.iconst 0, 1) := by decide +kernel
theorem dX7_fail_11 : decode cX7_fail 11 = .ok (.ireturn, 1) := by decide +kernel
theorem dX7_failHere_0 : decode cX7_failHere 0 = .ok (.aload_n 0, 1) := by decide +kernel
theorem dX7_failHere_1 : decode cX7_failHere 1 = .ok (.iconst 1, 1) := by decide +kernel
theorem dX7_failHere_2 : decode cX7_failHere 2 = .ok (.aload_n 0, 1) := by decide +kernel
theorem dX7_failHere_3 : decode cX7_failHere 3 = .ok (.getfield 64, 3) := by decide +kernel
theorem dX7_failHere_6 : decode cX7_failHere 6 = .ok (.invokevirtual 67, 3) := by decide +kernel
theorem dX7_failHere_9 : decode cX7_failHere 9 = .ok (.ireturn, 1) := by decide +kernel
theorem dX7_advance_0 : decode cX7_advance 0 = .ok (.aload_n 0, 1) := by decide +kernel
theorem dX7_advance_1 : decode cX7_advance 1 = .ok (.getfield 52, 3) := by decide +kernel
theorem dX7_advance_4 : decode cX7_advance 4 = .ok (.istore_n 1, 1) := by decide +kernel
theorem dX7_advance_5 : decode cX7_advance 5 = .ok (.aload_n 0, 1) := by decide +kernel
theorem dX7_advance_6 : decode cX7_advance 6 = .ok (.getfield 55, 3) := by decide +kernel
theorem dX7_advance_9 : decode cX7_advance 9 = .ok (.iconst 1, 1) := by decide +kernel
theorem dX7_advance_10 : decode cX7_advance 10 = .ok (.if_icmp .eq 11, 3) := by decide +kernel
theorem dX7_advance_13 : decode cX7_advance 13 = .ok (.aload_n 0, 1) := by decide +kernel
theorem dX7_advance_14 : decode cX7_advance 14 = .ok (.getfield 55, 3) := by decide +kernel
theorem dX7_advance_17 : decode cX7_advance 17 = .ok (.iconst 2, 1) := by decide +kernel
theorem dX7_advance_18 : decode cX7_advance 18 = .ok (.if_icmp .ne 7, 3) := by decide +kernel
theorem dX7_advance_21 : decode cX7_advance 21 = .ok (.iconst 1, 1) := by decide +kernel
theorem dX7_advance_22 : decode cX7_advance 22 = .ok (.goto 4, 3) := by decide +kernel
theorem dX7_advance_25 : decode cX7_advance 25 = .ok (.iconst 0, 1) := by decide +kernel
theorem dX7_advance_26 : decode cX7_advance 26 = .ok (.istore_n 2, 1) := by decide +kernel
theorem dX7_advance_27 : decode cX7_advance 27 = .ok (.aload_n 0, 1) := by decide +kernel
theorem dX7_advance_28 : decode cX7_advance 28 = .ok (.invokevirtual 71, 3) := by decide +kernel
theorem dX7_advance_31 : decode cX7_advance 31 = .ok (.aload_n 0, 1) := by decide +kernel
theorem dX7_advance_32 : decode cX7_advance 32 = .ok (.aload_n 0, 1) := by decide +kernel
theorem dX7_advance_33 : decode cX7_advance 33 = .ok (.getfield 52, 3) := by decide +kernel
theorem dX7_advance_36 : decode cX7_advance 36 = .ok (.putfield 74, 3) := by decide +kernel
theorem dX7_advance_39 : decode cX7_advance 39 = .ok (.aload_n 0, 1) := by decide +kernel
theorem dX7_advance_40 : decode cX7_advance 40 = .ok (.aload_n 0, 1) := by decide +kernel
theorem dX7_advance_41 : decode cX7_advance 41 = .ok (.getfield 52, 3) := by decide +kernel
theorem dX7_advance_44 : decode cX7_advance 44 = .ok (.putfield 64, 3) := by decide +kernel
theorem dX7_advance_47 : decode cX7_advance 47 = .ok (.aload_n 0, 1) := by decide +kernel
theorem dX7_advance_48 : decode cX7_advance 48 = .ok (.iconst (-1), 1) := by decide +kernel
theorem dX7_advance_49 : decode cX7_advance 49 = .ok (.putfield 15, 3) := by decide +kernel
theorem dX7_advance_52 : decode cX7_advance 52 = .ok (.aload_n 0, 1) := by decide +kernel
theorem dX7_advance_53 : decode cX7_advance 53 = .ok (.aload_n 0, 1) := by decide +kernel
theorem dX7_advance_54 : decode cX7_advance 54 = .ok (.getfield 52, 3) := by decide +kernel
theorem dX7_advance_57 : decode cX7_advance 57 = .ok (.invokevirtual 77, 3) := by decide +kernel
theorem dX7_advance_60 : decode cX7_advance 60 = .ok (.istore_n 3, 1) := by decide +kernel
theorem dX7_advance_61 : decode cX7_advance 61 = .ok (.iload_n 3, 1) := by decide +kernel
theorem dX7_advance_62 : decode cX7_advance 62 = .ok (.iconst (-1), 1) := by decide +kernel
theorem dX7_advance_63 : decode cX7_advance 63 = .ok (.if_icmp .ne 11, 3) := by decide +kernel
theorem dX7_advance_66 : decode cX7_advance 66 = .ok (.aload_n 0, 1) := by decide +kernel
theorem dX7_advance_67 : decode cX7_advance 67 = .ok (.iconst 0, 1) := by decide +kernel
theorem dX7_advance_68 : decode cX7_advance 68 = .ok (.putfield 55, 3) := by decide +kernel
theorem dX7_advance_71 : decode cX7_advance 71 = .ok (.goto 51, 3) := by decide +kernel
theorem dX7_advance_74 : decode cX7_advance 74 = .ok (.iload_n 3, 1) := by decide +kernel
theorem dX7_advance_75 : decode cX7_advance 75 = .ok (.invokestatic 81, 3) := by decide +kernel
theorem dX7_advance_78 : decode cX7_advance 78 = .ok (.ifCond .eq 10, 3) := by decide +kernel
theorem dX7_advance_81 : decode cX7_advance 81 = .ok (.aload_n 0, 1) := by decide +kernel
theorem dX7_advance_82 : decode cX7_advance 82 = .ok (.invokevirtual 85, 3) := by decide +kernel
theorem dX7_advance_85 : decode cX7_advance 85 = .ok (.goto 37, 3) := by decide +kernel
theorem dX7_advance_88 : decode cX7_advance 88 = .ok (.iload_n 3, 1) := by decide +kernel
theorem dX7_advance_89 : decode cX7_advance 89 = .ok (.invokestatic 88, 3) := by decide +kernel
theorem dX7_advance_92 : decode cX7_advance 92 = .ok (.ifCond .eq 10, 3) := by decide +kernel
theorem dX7_advance_95 : decode cX7_advance 95 = .ok (.aload_n 0, 1) := by decide +kernel
theorem dX7_advance_96 : decode cX7_advance 96 = .ok (.invokevirtual 91, 3) := by decide +kernel
theorem dX7_advance_99 : decode cX7_advance 99 = .ok (.goto 23, 3) := by decide +kernel
theorem dX7_advance_102 : decode cX7_advance 102 = .ok (.aload_n 0, 1) := by decide +kernel
theorem dX7_advance_103 : decode cX7_advance 103 = .ok (.iconst 3, 1) := by decide +kernel
theorem dX7_advance_104 : decode cX7_advance 104 = .ok (.putfield 55, 3) := by decide +kernel
theorem dX7_advance_107 : decode cX7_advance 107 = .ok (.aload_n 0, 1) := by decide +kernel
theorem dX7_advance_108 : decode cX7_advance 108 = .ok (.iload_n 3, 1) := by decide +kernel
theorem dX7_advance_109 : decode cX7_advance 109 = .ok (.putfield 94, 3) := by decide +kernel
theorem dX7_advance_112 : decode cX7_advance 112 = .ok (.aload_n 0, 1) := by decide +kernel
theorem dX7_advance_113 : decode cX7_advance 113 = .ok (.dup, 1) := by decide +kernel
theorem dX7_advance_114 : decode cX7_advance 114 = .ok (.getfield 52, 3) := by decide +kernel
theorem dX7_advance_117 : decode cX7_advance 117 = .ok (.iconst 1, 1) := by decide +kernel
theorem dX7_advance_118 : decode cX7_advance 118 = .ok (.iadd, 1) := by decide +kernel
theorem dX7_advance_119 : decode cX7_advance 119 = .ok (.putfield 52, 3) := by decide +kernel
theorem dX7_advance_122 : decode cX7_advance 122 = .ok (.iload_n 2, 1) := by decide +kernel
theorem dX7_advance_123 : decode cX7_advance 123 = .ok (.ifCond .eq 38, 3) := by decide +kernel
theorem dX7_advance_126 : decode cX7_advance 126 = .ok (.aload_n 0, 1) := by decide +kernel
theorem dX7_advance_127 : decode cX7_advance 127 = .ok (.getfield 74, 3) := by decide +kernel
theorem dX7_advance_130 : decode cX7_advance 130 = .ok (.iload_n 1, 1) := by decide +kernel
theorem dX7_advance_131 : decode cX7_advance 131 = .ok (.if_icmp .ne 30, 3) := by decide +kernel
theorem dX7_advance_134 : decode cX7_advance 134 = .ok (.iload_n 3, 1) := by decide +kernel
theorem dX7_advance_135 : decode cX7_advance 135 = .ok (.invokestatic 81, 3) := by decide +kernel
theorem dX7_advance_138 : decode cX7_advance 138 = .ok (.ifCond .ne 10, 3) := by decide +kernel
theorem dX7_advance_141 : decode cX7_advance 141 = .ok (.iload_n 3, 1) := by decide +kernel
theorem dX7_advance_142 : decode cX7_advance 142 = .ok (.invokestatic 88, 3) := by decide +kernel
theorem dX7_advance_145 : decode cX7_advance 145 = .ok (.ifCond .eq 16, 3) := by decide +kernel
theorem dX7_advance_148 : decode cX7_advance 148 = .ok (.aload_n 0, 1) := by decide +kernel
theorem dX7_advance_149 : decode cX7_advance 149 = .ok (.iconst 4, 1) := by decide +kernel
theorem dX7_advance_150 : decode cX7_advance 150 = .ok (.putfield 55, 3) := by decide +kernel
theorem dX7_advance_153 : decode cX7_advance 153 = .ok (.aload_n 0, 1) := by decide +kernel
theorem dX7_advance_154 : decode cX7_advance 154 = .ok (.aload_n 0, 1) := by decide +kernel
theorem dX7_advance_155 : decode cX7_advance 155 = .ok (.getfield 74, 3) := by decide +kernel
theorem dX7_advance_158 : decode cX7_advance 158 = .ok (.putfield 64, 3) := by decide +kernel
theorem dX7_advance_161 : decode cX7_advance 161 = .ok (.return_, 1) := by decide +kernel
theorem dX7_skipBlanks_0 : decode cX7_skipBlanks 0 = .ok (.iconst 0, 1) := by decide +kernel
theorem dX7_skipBlanks_1 : decode cX7_skipBlanks 1 = .ok (.istore_n 1, 1) := by decide +kernel
theorem dX7_skipBlanks_2 : decode cX7_skipBlanks 2 = .ok (.iload_n 1, 1) := by decide +kernel
theorem dX7_skipBlanks_3 : decode cX7_skipBlanks 3 = .ok (.sipush 1600, 3) := by decide +kernel
theorem dX7_skipBlanks_6 : decode cX7_skipBlanks 6 = .ok (.if_icmp .ge 45, 3) := by decide +kernel
theorem dX7_skipBlanks_9 : decode cX7_skipBlanks 9 = .ok (.aload_n 0, 1) := by decide +kernel
theorem dX7_skipBlanks_10 : decode cX7_skipBlanks 10 = .ok (.aload_n 0, 1) := by decide +kernel
theorem dX7_skipBlanks_11 : decode cX7_skipBlanks 11 = .ok (.getfield 52, 3) := by decide +kernel
theorem dX7_skipBlanks_14 : decode cX7_skipBlanks 14 = .ok (.invokevirtual 77, 3) := by decide +kernel
theorem dX7_skipBlanks_17 : decode cX7_skipBlanks 17 = .ok (.bipush 32, 2) := by decide +kernel
theorem dX7_skipBlanks_19 : decode cX7_skipBlanks 19 = .ok (.if_icmp .eq 16, 3) := by decide +kernel
theorem dX7_skipBlanks_22 : decode cX7_skipBlanks 22 = .ok (.aload_n 0, 1) := by decide +kernel
theorem dX7_skipBlanks_23 : decode cX7_skipBlanks 23 = .ok (.aload_n 0, 1) := by decide +kernel
theorem dX7_skipBlanks_24 : decode cX7_skipBlanks 24 = .ok (.getfield 52, 3) := by decide +kernel
theorem dX7_skipBlanks_27 : decode cX7_skipBlanks 27 = .ok (.invokevirtual 77, 3) := by decide +kernel
theorem dX7_skipBlanks_30 : decode cX7_skipBlanks 30 = .ok (.bipush 10, 2) := by decide +kernel
theorem dX7_skipBlanks_32 : decode cX7_skipBlanks 32 = .ok (.if_icmp .ne 19, 3) := by decide +kernel
theorem dX7_skipBlanks_35 : decode cX7_skipBlanks 35 = .ok (.aload_n 0, 1) := by decide +kernel
theorem dX7_skipBlanks_36 : decode cX7_skipBlanks 36 = .ok (.dup, 1) := by decide +kernel
theorem dX7_skipBlanks_37 : decode cX7_skipBlanks 37 = .ok (.getfield 52, 3) := by decide +kernel
theorem dX7_skipBlanks_40 : decode cX7_skipBlanks 40 = .ok (.iconst 1, 1) := by decide +kernel
theorem dX7_skipBlanks_41 : decode cX7_skipBlanks 41 = .ok (.iadd, 1) := by decide +kernel
theorem dX7_skipBlanks_42 : decode cX7_skipBlanks 42 = .ok (.putfield 52, 3) := by decide +kernel
theorem dX7_skipBlanks_45 : decode cX7_skipBlanks 45 = .ok (.iinc 1 1, 3) := by decide +kernel
theorem dX7_skipBlanks_48 : decode cX7_skipBlanks 48 = .ok (.goto (-46), 3) := by decide +kernel
theorem dX7_skipBlanks_51 : decode cX7_skipBlanks 51 = .ok (.return_, 1) := by decide +kernel
theorem dX7_readWord_0 : decode cX7_readWord 0 = .ok (.aload_n 0, 1) := by decide +kernel
theorem dX7_readWord_1 : decode cX7_readWord 1 = .ok (.iconst 1, 1) := by decide +kernel
theorem dX7_readWord_2 : decode cX7_readWord 2 = .ok (.putfield 55, 3) := by decide +kernel
theorem dX7_readWord_5 : decode cX7_readWord 5 = .ok (.aload_n 0, 1) := by decide +kernel
theorem dX7_readWord_6 : decode cX7_readWord 6 = .ok (.iconst 0, 1) := by decide +kernel
theorem dX7_readWord_7 : decode cX7_readWord 7 = .ok (.putfield 94, 3) := by decide +kernel
theorem dX7_readWord_10 : decode cX7_readWord 10 = .ok (.iconst 0, 1) := by decide +kernel
theorem dX7_readWord_11 : decode cX7_readWord 11 = .ok (.istore_n 1, 1) := by decide +kernel
theorem dX7_readWord_12 : decode cX7_readWord 12 = .ok (.iload_n 1, 1) := by decide +kernel
theorem dX7_readWord_13 : decode cX7_readWord 13 = .ok (.bipush 6, 2) := by decide +kernel
theorem dX7_readWord_15 : decode cX7_readWord 15 = .ok (.if_icmp .ge 53, 3) := by decide +kernel
theorem dX7_readWord_18 : decode cX7_readWord 18 = .ok (.aload_n 0, 1) := by decide +kernel
theorem dX7_readWord_19 : decode cX7_readWord 19 = .ok (.aload_n 0, 1) := by decide +kernel
theorem dX7_readWord_20 : decode cX7_readWord 20 = .ok (.getfield 52, 3) := by decide +kernel
theorem dX7_readWord_23 : decode cX7_readWord 23 = .ok (.invokevirtual 77, 3) := by decide +kernel
theorem dX7_readWord_26 : decode cX7_readWord 26 = .ok (.invokestatic 81, 3) := by decide +kernel
theorem dX7_readWord_29 : decode cX7_readWord 29 = .ok (.ifCond .eq 39, 3) := by decide +kernel
theorem dX7_readWord_32 : decode cX7_readWord 32 = .ok (.aload_n 0, 1) := by decide +kernel
theorem dX7_readWord_33 : decode cX7_readWord 33 = .ok (.aload_n 0, 1) := by decide +kernel
theorem dX7_readWord_34 : decode cX7_readWord 34 = .ok (.getfield 94, 3) := by decide +kernel
theorem dX7_readWord_37 : decode cX7_readWord 37 = .ok (.iload_n 1, 1) := by decide +kernel
theorem dX7_readWord_38 : decode cX7_readWord 38 = .ok (.aload_n 0, 1) := by decide +kernel
theorem dX7_readWord_39 : decode cX7_readWord 39 = .ok (.aload_n 0, 1) := by decide +kernel
theorem dX7_readWord_40 : decode cX7_readWord 40 = .ok (.getfield 52, 3) := by decide +kernel
theorem dX7_readWord_43 : decode cX7_readWord 43 = .ok (.invokevirtual 77, 3) := by decide +kernel
theorem dX7_readWord_46 : decode cX7_readWord 46 = .ok (.invokestatic 37, 3) := by decide +kernel
theorem dX7_readWord_49 : decode cX7_readWord 49 = .ok (.putfield 94, 3) := by decide +kernel
theorem dX7_readWord_52 : decode cX7_readWord 52 = .ok (.aload_n 0, 1) := by decide +kernel
theorem dX7_readWord_53 : decode cX7_readWord 53 = .ok (.dup, 1) := by decide +kernel
theorem dX7_readWord_54 : decode cX7_readWord 54 = .ok (.getfield 52, 3) := by decide +kernel
theorem dX7_readWord_57 : decode cX7_readWord 57 = .ok (.iconst 1, 1) := by decide +kernel
theorem dX7_readWord_58 : decode cX7_readWord 58 = .ok (.iadd, 1) := by decide +kernel
theorem dX7_readWord_59 : decode cX7_readWord 59 = .ok (.putfield 52, 3) := by decide +kernel
theorem dX7_readWord_62 : decode cX7_readWord 62 = .ok (.iinc 1 1, 3) := by decide +kernel
theorem dX7_readWord_65 : decode cX7_readWord 65 = .ok (.goto (-53), 3) := by decide +kernel
theorem dX7_readWord_68 : decode cX7_readWord 68 = .ok (.aload_n 0, 1) := by decide +kernel
theorem dX7_readWord_69 : decode cX7_readWord 69 = .ok (.aload_n 0, 1) := by decide +kernel
theorem dX7_readWord_70 : decode cX7_readWord 70 = .ok (.aload_n 0, 1) := by decide +kernel
theorem dX7_readWord_71 : decode cX7_readWord 71 = .ok (.getfield 94, 3) := by decide +kernel
theorem dX7_readWord_74 : decode cX7_readWord 74 = .ok (.invokevirtual 97, 3) := by decide +kernel
theorem dX7_readWord_77 : decode cX7_readWord 77 = .ok (.putfield 15, 3) := by decide +kernel
theorem dX7_readWord_80 : decode cX7_readWord 80 = .ok (.aload_n 0, 1) := by decide +kernel
theorem dX7_readWord_81 : decode cX7_readWord 81 = .ok (.aload_n 0, 1) := by decide +kernel
theorem dX7_readWord_82 : decode cX7_readWord 82 = .ok (.aload_n 0, 1) := by decide +kernel
theorem dX7_readWord_83 : decode cX7_readWord 83 = .ok (.getfield 52, 3) := by decide +kernel
theorem dX7_readWord_86 : decode cX7_readWord 86 = .ok (.invokevirtual 77, 3) := by decide +kernel
theorem dX7_readWord_89 : decode cX7_readWord 89 = .ok (.invokestatic 81, 3) := by decide +kernel
theorem dX7_readWord_92 : decode cX7_readWord 92 = .ok (.invokevirtual 100, 3) := by decide +kernel
theorem dX7_readWord_95 : decode cX7_readWord 95 = .ok (.return_, 1) := by decide +kernel
theorem dX7_readNumber_0 : decode cX7_readNumber 0 = .ok (.aload_n 0, 1) := by decide +kernel
theorem dX7_readNumber_1 : decode cX7_readNumber 1 = .ok (.iconst 2, 1) := by decide +kernel
theorem dX7_readNumber_2 : decode cX7_readNumber 2 = .ok (.putfield 55, 3) := by decide +kernel
theorem dX7_readNumber_5 : decode cX7_readNumber 5 = .ok (.aload_n 0, 1) := by decide +kernel
theorem dX7_readNumber_6 : decode cX7_readNumber 6 = .ok (.iconst 0, 1) := by decide +kernel
theorem dX7_readNumber_7 : decode cX7_readNumber 7 = .ok (.putfield 94, 3) := by decide +kernel
theorem dX7_readNumber_10 : decode cX7_readNumber 10 = .ok (.iconst 0, 1) := by decide +kernel
theorem dX7_readNumber_11 : decode cX7_readNumber 11 = .ok (.istore_n 1, 1) := by decide +kernel
theorem dX7_readNumber_12 : decode cX7_readNumber 12 = .ok (.iload_n 1, 1) := by decide +kernel
theorem dX7_readNumber_13 : decode cX7_readNumber 13 = .ok (.iconst 4, 1) := by decide +kernel
theorem dX7_readNumber_14 : decode cX7_readNumber 14 = .ok (.if_icmp .ge 56, 3) := by decide +kernel
theorem dX7_readNumber_17 : decode cX7_readNumber 17 = .ok (.aload_n 0, 1) := by decide +kernel
theorem dX7_readNumber_18 : decode cX7_readNumber 18 = .ok (.aload_n 0, 1) := by decide +kernel
theorem dX7_readNumber_19 : decode cX7_readNumber 19 = .ok (.getfield 52, 3) := by decide +kernel
theorem dX7_readNumber_22 : decode cX7_readNumber 22 = .ok (.invokevirtual 77, 3) := by decide +kernel
theorem dX7_readNumber_25 : decode cX7_readNumber 25 = .ok (.invokestatic 88, 3) := by decide +kernel
theorem dX7_readNumber_28 : decode cX7_readNumber 28 = .ok (.ifCond .eq 42, 3) := by decide +kernel
theorem dX7_readNumber_31 : decode cX7_readNumber 31 = .ok (.aload_n 0, 1) := by decide +kernel
theorem dX7_readNumber_32 : decode cX7_readNumber 32 = .ok (.aload_n 0, 1) := by decide +kernel
theorem dX7_readNumber_33 : decode cX7_readNumber 33 = .ok (.getfield 94, 3) := by decide +kernel
theorem dX7_readNumber_36 : decode cX7_readNumber 36 = .ok (.bipush 10, 2) := by decide +kernel
theorem dX7_readNumber_38 : decode cX7_readNumber 38 = .ok (.imul, 1) := by decide +kernel
theorem dX7_readNumber_39 : decode cX7_readNumber 39 = .ok (.aload_n 0, 1) := by decide +kernel
theorem dX7_readNumber_40 : decode cX7_readNumber 40 = .ok (.aload_n 0, 1) := by decide +kernel
theorem dX7_readNumber_41 : decode cX7_readNumber 41 = .ok (.getfield 52, 3) := by decide +kernel
theorem dX7_readNumber_44 : decode cX7_readNumber 44 = .ok (.invokevirtual 77, 3) := by decide +kernel
theorem dX7_readNumber_47 : decode cX7_readNumber 47 = .ok (.iadd, 1) := by decide +kernel
theorem dX7_readNumber_48 : decode cX7_readNumber 48 = .ok (.bipush 48, 2) := by decide +kernel
theorem dX7_readNumber_50 : decode cX7_readNumber 50 = .ok (.isub, 1) := by decide +kernel
theorem dX7_readNumber_51 : decode cX7_readNumber 51 = .ok (.putfield 94, 3) := by decide +kernel
theorem dX7_readNumber_54 : decode cX7_readNumber 54 = .ok (.aload_n 0, 1) := by decide +kernel
theorem dX7_readNumber_55 : decode cX7_readNumber 55 = .ok (.dup, 1) := by decide +kernel
theorem dX7_readNumber_56 : decode cX7_readNumber 56 = .ok (.getfield 52, 3) := by decide +kernel
theorem dX7_readNumber_59 : decode cX7_readNumber 59 = .ok (.iconst 1, 1) := by decide +kernel
theorem dX7_readNumber_60 : decode cX7_readNumber 60 = .ok (.iadd, 1) := by decide +kernel
theorem dX7_readNumber_61 : decode cX7_readNumber 61 = .ok (.putfield 52, 3) := by decide +kernel
theorem dX7_readNumber_64 : decode cX7_readNumber 64 = .ok (.iinc 1 1, 3) := by decide +kernel
theorem dX7_readNumber_67 : decode cX7_readNumber 67 = .ok (.goto (-55), 3) := by decide +kernel
theorem dX7_readNumber_70 : decode cX7_readNumber 70 = .ok (.aload_n 0, 1) := by decide +kernel
theorem dX7_readNumber_71 : decode cX7_readNumber 71 = .ok (.aload_n 0, 1) := by decide +kernel
theorem dX7_readNumber_72 : decode cX7_readNumber 72 = .ok (.aload_n 0, 1) := by decide +kernel
theorem dX7_readNumber_73 : decode cX7_readNumber 73 = .ok (.getfield 52, 3) := by decide +kernel
theorem dX7_readNumber_76 : decode cX7_readNumber 76 = .ok (.invokevirtual 77, 3) := by decide +kernel
theorem dX7_readNumber_79 : decode cX7_readNumber 79 = .ok (.invokestatic 88, 3) := by decide +kernel
theorem dX7_readNumber_82 : decode cX7_readNumber 82 = .ok (.invokevirtual 100, 3) := by decide +kernel
theorem dX7_readNumber_85 : decode cX7_readNumber 85 = .ok (.return_, 1) := by decide +kernel
theorem dX7_refuseIf_0 : decode cX7_refuseIf 0 = .ok (.iload_n 1, 1) := by decide +kernel
theorem dX7_refuseIf_1 : decode cX7_refuseIf 1 = .ok (.ifCond .eq 16, 3) := by decide +kernel
theorem dX7_refuseIf_4 : decode cX7_refuseIf 4 = .ok (.aload_n 0, 1) := by decide +kernel
theorem dX7_refuseIf_5 : decode cX7_refuseIf 5 = .ok (.iconst 4, 1) := by decide +kernel
theorem dX7_refuseIf_6 : decode cX7_refuseIf 6 = .ok (.putfield 55, 3) := by decide +kernel
theorem dX7_refuseIf_9 : decode cX7_refuseIf 9 = .ok (.aload_n 0, 1) := by decide +kernel
theorem dX7_refuseIf_10 : decode cX7_refuseIf 10 = .ok (.aload_n 0, 1) := by decide +kernel
theorem dX7_refuseIf_11 : decode cX7_refuseIf 11 = .ok (.getfield 52, 3) := by decide +kernel
theorem dX7_refuseIf_14 : decode cX7_refuseIf 14 = .ok (.putfield 64, 3) := by decide +kernel
theorem dX7_refuseIf_17 : decode cX7_refuseIf 17 = .ok (.return_, 1) := by decide +kernel
theorem dX7_ownNumber_0 : decode cX7_ownNumber 0 = .ok (.iconst 0, 1) := by decide +kernel
theorem dX7_ownNumber_1 : decode cX7_ownNumber 1 = .ok (.istore_n 2, 1) := by decide +kernel
theorem dX7_ownNumber_2 : decode cX7_ownNumber 2 = .ok (.iload_n 2, 1) := by decide +kernel
theorem dX7_ownNumber_3 : decode cX7_ownNumber 3 = .ok (.bipush 32, 2) := by decide +kernel
theorem dX7_ownNumber_5 : decode cX7_ownNumber 5 = .ok (.if_icmp .ge 21, 3) := by decide +kernel
theorem dX7_ownNumber_8 : decode cX7_ownNumber 8 = .ok (.aload_n 0, 1) := by decide +kernel
theorem dX7_ownNumber_9 : decode cX7_ownNumber 9 = .ok (.getfield 11, 3) := by decide +kernel
theorem dX7_ownNumber_12 : decode cX7_ownNumber 12 = .ok (.iload_n 2, 1) := by decide +kernel
theorem dX7_ownNumber_13 : decode cX7_ownNumber 13 = .ok (.iaload, 1) := by decide +kernel
theorem dX7_ownNumber_14 : decode cX7_ownNumber 14 = .ok (.iload_n 1, 1) := by decide +kernel
theorem dX7_ownNumber_15 : decode cX7_ownNumber 15 = .ok (.if_icmp .ne 5, 3) := by decide +kernel
theorem dX7_ownNumber_18 : decode cX7_ownNumber 18 = .ok (.iload_n 2, 1) := by decide +kernel
theorem dX7_ownNumber_19 : decode cX7_ownNumber 19 = .ok (.ireturn, 1) := by decide +kernel
theorem dX7_ownNumber_20 : decode cX7_ownNumber 20 = .ok (.iinc 2 1, 3) := by decide +kernel
theorem dX7_ownNumber_23 : decode cX7_ownNumber 23 = .ok (.goto (-21), 3) := by decide +kernel
theorem dX7_ownNumber_26 : decode cX7_ownNumber 26 = .ok (.iconst (-1), 1) := by decide +kernel
theorem dX7_ownNumber_27 : decode cX7_ownNumber 27 = .ok (.ireturn, 1) := by decide +kernel
theorem dX7_byteAt_0 : decode cX7_byteAt 0 = .ok (.iload_n 1, 1) := by decide +kernel
theorem dX7_byteAt_1 : decode cX7_byteAt 1 = .ok (.ifCond .lt 29, 3) := by decide +kernel
theorem dX7_byteAt_4 : decode cX7_byteAt 4 = .ok (.iload_n 1, 1) := by decide +kernel
theorem dX7_byteAt_5 : decode cX7_byteAt 5 = .ok (.aload_n 0, 1) := by decide +kernel
theorem dX7_byteAt_6 : decode cX7_byteAt 6 = .ok (.getfield 50, 3) := by decide +kernel
theorem dX7_byteAt_9 : decode cX7_byteAt 9 = .ok (.if_icmp .ge 21, 3) := by decide +kernel
theorem dX7_byteAt_12 : decode cX7_byteAt 12 = .ok (.iload_n 1, 1) := by decide +kernel
theorem dX7_byteAt_13 : decode cX7_byteAt 13 = .ok (.aload_n 0, 1) := by decide +kernel
theorem dX7_byteAt_14 : decode cX7_byteAt 14 = .ok (.getfield 22, 3) := by decide +kernel
theorem dX7_byteAt_17 : decode cX7_byteAt 17 = .ok (.arraylength, 1) := by decide +kernel
theorem dX7_byteAt_18 : decode cX7_byteAt 18 = .ok (.if_icmp .ge 12, 3) := by decide +kernel
theorem dX7_byteAt_21 : decode cX7_byteAt 21 = .ok (.aload_n 0, 1) := by decide +kernel
theorem dX7_byteAt_22 : decode cX7_byteAt 22 = .ok (.getfield 22, 3) := by decide +kernel
theorem dX7_byteAt_25 : decode cX7_byteAt 25 = .ok (.iload_n 1, 1) := by decide +kernel
theorem dX7_byteAt_26 : decode cX7_byteAt 26 = .ok (.iaload, 1) := by decide +kernel
theorem dX7_byteAt_27 : decode cX7_byteAt 27 = .ok (.goto 4, 3) := by decide +kernel
theorem dX7_byteAt_30 : decode cX7_byteAt 30 = .ok (.iconst (-1), 1) := by decide +kernel
theorem dX7_byteAt_31 : decode cX7_byteAt 31 = .ok (.ireturn, 1) := by decide +kernel
theorem dX7_isLetter_0 : decode cX7_isLetter 0 = .ok (.iload_n 0, 1) := by decide +kernel
theorem dX7_isLetter_1 : decode cX7_isLetter 1 = .ok (.bipush 97, 2) := by decide +kernel
theorem dX7_isLetter_3 : decode cX7_isLetter 3 = .ok (.if_icmp .lt 13, 3) := by decide +kernel
theorem dX7_isLetter_6 : decode cX7_isLetter 6 = .ok (.iload_n 0, 1) := by decide +kernel
theorem dX7_isLetter_7 : decode cX7_isLetter 7 = .ok (.bipush 122, 2) := by decide +kernel
theorem dX7_isLetter_9 : decode cX7_isLetter 9 = .ok (.if_icmp .gt 7, 3) := by decide +kernel
theorem dX7_isLetter_12 : decode cX7_isLetter 12 = .ok (.iconst 1, 1) := by decide +kernel
theorem dX7_isLetter_13 : decode cX7_isLetter 13 = .ok (.goto 4, 3) := by decide +kernel
theorem dX7_isLetter_16 : decode cX7_isLetter 16 = .ok (.iconst 0, 1) := by decide +kernel
theorem dX7_isLetter_17 : decode cX7_isLetter 17 = .ok (.ireturn, 1) := by decide +kernel
theorem dX7_isDigit_0 : decode cX7_isDigit 0 = .ok (.iload_n 0, 1) := by decide +kernel
theorem dX7_isDigit_1 : decode cX7_isDigit 1 = .ok (.bipush 48, 2) := by decide +kernel
theorem dX7_isDigit_3 : decode cX7_isDigit 3 = .ok (.if_icmp .lt 13, 3) := by decide +kernel
theorem dX7_isDigit_6 : decode cX7_isDigit 6 = .ok (.iload_n 0, 1) := by decide +kernel
theorem dX7_isDigit_7 : decode cX7_isDigit 7 = .ok (.bipush 57, 2) := by decide +kernel
theorem dX7_isDigit_9 : decode cX7_isDigit 9 = .ok (.if_icmp .gt 7, 3) := by decide +kernel
theorem dX7_isDigit_12 : decode cX7_isDigit 12 = .ok (.iconst 1, 1) := by decide +kernel
theorem dX7_isDigit_13 : decode cX7_isDigit 13 = .ok (.goto 4, 3) := by decide +kernel
theorem dX7_isDigit_16 : decode cX7_isDigit 16 = .ok (.iconst 0, 1) := by decide +kernel
theorem dX7_isDigit_17 : decode cX7_isDigit 17 = .ok (.ireturn, 1) := by decide +kernel
theorem dX7_startsStep_0 : decode cX7_startsStep 0 = .ok (.aload_n 0, 1) := by decide +kernel
theorem dX7_startsStep_1 : decode cX7_startsStep 1 = .ok (.aload_n 0, 1) := by decide +kernel
theorem dX7_startsStep_2 : decode cX7_startsStep 2 = .ok (.getfield 74, 3) := by decide +kernel
theorem dX7_startsStep_5 : decode cX7_startsStep 5 = .ok (.invokevirtual 77, 3) := by decide +kernel
theorem dX7_startsStep_8 : decode cX7_startsStep 8 = .ok (.invokestatic 81, 3) := by decide +kernel
theorem dX7_startsStep_11 : decode cX7_startsStep 11 = .ok (.ireturn, 1) := by decide +kernel
theorem dX7_isWord_0 : decode cX7_isWord 0 = .ok (.aload_n 0, 1) := by decide +kernel
theorem dX7_isWord_1 : decode cX7_isWord 1 = .ok (.getfield 55, 3) := by decide +kernel
theorem dX7_isWord_4 : decode cX7_isWord 4 = .ok (.iconst 1, 1) := by decide +kernel
theorem dX7_isWord_5 : decode cX7_isWord 5 = .ok (.if_icmp .ne 15, 3) := by decide +kernel
theorem dX7_isWord_8 : decode cX7_isWord 8 = .ok (.aload_n 0, 1) := by decide +kernel
theorem dX7_isWord_9 : decode cX7_isWord 9 = .ok (.getfield 15, 3) := by decide +kernel
theorem dX7_isWord_12 : decode cX7_isWord 12 = .ok (.iload_n 1, 1) := by decide +kernel
theorem dX7_isWord_13 : decode cX7_isWord 13 = .ok (.if_icmp .ne 7, 3) := by decide +kernel
theorem dX7_isWord_16 : decode cX7_isWord 16 = .ok (.iconst 1, 1) := by decide +kernel
theorem dX7_isWord_17 : decode cX7_isWord 17 = .ok (.goto 4, 3) := by decide +kernel
theorem dX7_isWord_20 : decode cX7_isWord 20 = .ok (.iconst 0, 1) := by decide +kernel
theorem dX7_isWord_21 : decode cX7_isWord 21 = .ok (.ireturn, 1) := by decide +kernel
theorem dX7_isSign_0 : decode cX7_isSign 0 = .ok (.aload_n 0, 1) := by decide +kernel
theorem dX7_isSign_1 : decode cX7_isSign 1 = .ok (.getfield 55, 3) := by decide +kernel
theorem dX7_isSign_4 : decode cX7_isSign 4 = .ok (.iconst 3, 1) := by decide +kernel
theorem dX7_isSign_5 : decode cX7_isSign 5 = .ok (.if_icmp .ne 15, 3) := by decide +kernel
theorem dX7_isSign_8 : decode cX7_isSign 8 = .ok (.aload_n 0, 1) := by decide +kernel
theorem dX7_isSign_9 : decode cX7_isSign 9 = .ok (.getfield 94, 3) := by decide +kernel
theorem dX7_isSign_12 : decode cX7_isSign 12 = .ok (.iload_n 1, 1) := by decide +kernel
theorem dX7_isSign_13 : decode cX7_isSign 13 = .ok (.if_icmp .ne 7, 3) := by decide +kernel
theorem dX7_isSign_16 : decode cX7_isSign 16 = .ok (.iconst 1, 1) := by decide +kernel
theorem dX7_isSign_17 : decode cX7_isSign 17 = .ok (.goto 4, 3) := by decide +kernel
theorem dX7_isSign_20 : decode cX7_isSign 20 = .ok (.iconst 0, 1) := by decide +kernel
theorem dX7_isSign_21 : decode cX7_isSign 21 = .ok (.ireturn, 1) := by decide +kernel
theorem dX7_takeWord_0 : decode cX7_takeWord 0 = .ok (.aload_n 0, 1) := by decide +kernel
theorem dX7_takeWord_1 : decode cX7_takeWord 1 = .ok (.iload_n 1, 1) := by decide +kernel
theorem dX7_takeWord_2 : decode cX7_takeWord 2 = .ok (.invokevirtual 104, 3) := by decide +kernel
theorem dX7_takeWord_5 : decode cX7_takeWord 5 = .ok (.ifCond .ne 8, 3) := by decide +kernel
theorem dX7_takeWord_8 : decode cX7_takeWord 8 = .ok (.aload_n 0, 1) := by decide +kernel
theorem dX7_takeWord_9 : decode cX7_takeWord 9 = .ok (.invokevirtual 107, 3) := by decide +kernel
theorem dX7_takeWord_12 : decode cX7_takeWord 12 = .ok (.ireturn, 1) := by decide +kernel
theorem dX7_takeWord_13 : decode cX7_takeWord 13 = .ok (.aload_n 0, 1) := by decide +kernel
theorem dX7_takeWord_14 : decode cX7_takeWord 14 = .ok (.invokevirtual 61, 3) := by decide +kernel
theorem dX7_takeWord_17 : decode cX7_takeWord 17 = .ok (.iconst 1, 1) := by decide +kernel
theorem dX7_takeWord_18 : decode cX7_takeWord 18 = .ok (.ireturn, 1) := by decide +kernel
theorem dX7_takeSign_0 : decode cX7_takeSign 0 = .ok (.aload_n 0, 1) := by decide +kernel
theorem dX7_takeSign_1 : decode cX7_takeSign 1 = .ok (.iload_n 1, 1) := by decide +kernel
theorem dX7_takeSign_2 : decode cX7_takeSign 2 = .ok (.invokevirtual 111, 3) := by decide +kernel
theorem dX7_takeSign_5 : decode cX7_takeSign 5 = .ok (.ifCond .ne 8, 3) := by decide +kernel
theorem dX7_takeSign_8 : decode cX7_takeSign 8 = .ok (.aload_n 0, 1) := by decide +kernel
theorem dX7_takeSign_9 : decode cX7_takeSign 9 = .ok (.invokevirtual 107, 3) := by decide +kernel
theorem dX7_takeSign_12 : decode cX7_takeSign 12 = .ok (.ireturn, 1) := by decide +kernel
theorem dX7_takeSign_13 : decode cX7_takeSign 13 = .ok (.aload_n 0, 1) := by decide +kernel
theorem dX7_takeSign_14 : decode cX7_takeSign 14 = .ok (.invokevirtual 61, 3) := by decide +kernel
theorem dX7_takeSign_17 : decode cX7_takeSign 17 = .ok (.iconst 1, 1) := by decide +kernel
theorem dX7_takeSign_18 : decode cX7_takeSign 18 = .ok (.ireturn, 1) := by decide +kernel
theorem dX7_takeNumber_0 : decode cX7_takeNumber 0 = .ok (.aload_n 0, 1) := by decide +kernel
theorem dX7_takeNumber_1 : decode cX7_takeNumber 1 = .ok (.getfield 55, 3) := by decide +kernel
theorem dX7_takeNumber_4 : decode cX7_takeNumber 4 = .ok (.iconst 2, 1) := by decide +kernel
theorem dX7_takeNumber_5 : decode cX7_takeNumber 5 = .ok (.if_icmp .eq 10, 3) := by decide +kernel
theorem dX7_takeNumber_8 : decode cX7_takeNumber 8 = .ok (.aload_n 0, 1) := by decide +kernel
theorem dX7_takeNumber_9 : decode cX7_takeNumber 9 = .ok (.invokevirtual 107, 3) := by decide +kernel
theorem dX7_takeNumber_12 : decode cX7_takeNumber 12 = .ok (.pop, 1) := by decide +kernel
theorem dX7_takeNumber_13 : decode cX7_takeNumber 13 = .ok (.iconst (-1), 1) := by decide +kernel
theorem dX7_takeNumber_14 : decode cX7_takeNumber 14 = .ok (.ireturn, 1) := by decide +kernel
theorem dX7_takeNumber_15 : decode cX7_takeNumber 15 = .ok (.aload_n 0, 1) := by decide +kernel
theorem dX7_takeNumber_16 : decode cX7_takeNumber 16 = .ok (.getfield 94, 3) := by decide +kernel
theorem dX7_takeNumber_19 : decode cX7_takeNumber 19 = .ok (.iload_n 1, 1) := by decide +kernel
theorem dX7_takeNumber_20 : decode cX7_takeNumber 20 = .ok (.if_icmp .lt 11, 3) := by decide +kernel
theorem dX7_takeNumber_23 : decode cX7_takeNumber 23 = .ok (.aload_n 0, 1) := by decide +kernel
theorem dX7_takeNumber_24 : decode cX7_takeNumber 24 = .ok (.getfield 94, 3) := by decide +kernel
theorem dX7_takeNumber_27 : decode cX7_takeNumber 27 = .ok (.iload_n 2, 1) := by decide +kernel
theorem dX7_takeNumber_28 : decode cX7_takeNumber 28 = .ok (.if_icmp .le 15, 3) := by decide +kernel
theorem dX7_takeNumber_31 : decode cX7_takeNumber 31 = .ok (.aload_n 0, 1) := by decide +kernel
theorem dX7_takeNumber_32 : decode cX7_takeNumber 32 = .ok (.iconst 4, 1) := by decide +kernel
theorem dX7_takeNumber_33 : decode cX7_takeNumber 33 = .ok (.aload_n 0, 1) := by decide +kernel
theorem dX7_takeNumber_34 : decode cX7_takeNumber 34 = .ok (.getfield 74, 3) := by decide +kernel
theorem dX7_takeNumber_37 : decode cX7_takeNumber 37 = .ok (.invokevirtual 67, 3) := by decide +kernel
theorem dX7_takeNumber_40 : decode cX7_takeNumber 40 = .ok (.pop, 1) := by decide +kernel
theorem dX7_takeNumber_41 : decode cX7_takeNumber 41 = .ok (.iconst (-1), 1) := by decide +kernel
theorem dX7_takeNumber_42 : decode cX7_takeNumber 42 = .ok (.ireturn, 1) := by decide +kernel
theorem dX7_takeNumber_43 : decode cX7_takeNumber 43 = .ok (.aload_n 0, 1) := by decide +kernel
theorem dX7_takeNumber_44 : decode cX7_takeNumber 44 = .ok (.getfield 94, 3) := by decide +kernel
theorem dX7_takeNumber_47 : decode cX7_takeNumber 47 = .ok (.istore_n 3, 1) := by decide +kernel
theorem dX7_takeNumber_48 : decode cX7_takeNumber 48 = .ok (.aload_n 0, 1) := by decide +kernel
theorem dX7_takeNumber_49 : decode cX7_takeNumber 49 = .ok (.invokevirtual 61, 3) := by decide +kernel
theorem dX7_takeNumber_52 : decode cX7_takeNumber 52 = .ok (.iload_n 3, 1) := by decide +kernel
theorem dX7_takeNumber_53 : decode cX7_takeNumber 53 = .ok (.ireturn, 1) := by decide +kernel
theorem dX8_init_0 : decode cX8_init 0 = .ok (.aload_n 0, 1) := by decide +kernel
theorem dX8_init_1 : decode cX8_init 1 = .ok (.invokespecial 3, 3) := by decide +kernel
theorem dX8_init_4 : decode cX8_init 4 = .ok (.aload_n 0, 1) := by decide +kernel
theorem dX8_init_5 : decode cX8_init 5 = .ok (.bipush 8, 2) := by decide +kernel
theorem dX8_init_7 : decode cX8_init 7 = .ok (.newarray .int, 2) := by decide +kernel
theorem dX8_init_9 : decode cX8_init 9 = .ok (.putfield 9, 3) := by decide +kernel
theorem dX8_init_12 : decode cX8_init 12 = .ok (.aload_n 0, 1) := by decide +kernel
theorem dX8_init_13 : decode cX8_init 13 = .ok (.bipush 48, 2) := by decide +kernel
theorem dX8_init_15 : decode cX8_init 15 = .ok (.newarray .int, 2) := by decide +kernel
theorem dX8_init_17 : decode cX8_init 17 = .ok (.putfield 15, 3) := by decide +kernel
theorem dX8_init_20 : decode cX8_init 20 = .ok (.aload_n 0, 1) := by decide +kernel
theorem dX8_init_21 : decode cX8_init 21 = .ok (.bipush 6, 2) := by decide +kernel
theorem dX8_init_23 : decode cX8_init 23 = .ok (.newarray .int, 2) := by decide +kernel
theorem dX8_init_25 : decode cX8_init 25 = .ok (.putfield 18, 3) := by decide +kernel
theorem dX8_init_28 : decode cX8_init 28 = .ok (.aload_n 0, 1) := by decide +kernel
theorem dX8_init_29 : decode cX8_init 29 = .ok (.bipush 6, 2) := by decide +kernel
theorem dX8_init_31 : decode cX8_init 31 = .ok (.newarray .int, 2) := by decide +kernel
theorem dX8_init_33 : decode cX8_init 33 = .ok (.putfield 21, 3) := by decide +kernel
theorem dX8_init_36 : decode cX8_init 36 = .ok (.return_, 1) := by decide +kernel
theorem dX8_copy_0 : decode cX8_copy 0 = .ok (.aload_n 0, 1) := by decide +kernel
theorem dX8_copy_1 : decode cX8_copy 1 = .ok (.aload_n 1, 1) := by decide +kernel
theorem dX8_copy_2 : decode cX8_copy 2 = .ok (.getfield 24, 3) := by decide +kernel
theorem dX8_copy_5 : decode cX8_copy 5 = .ok (.putfield 24, 3) := by decide +kernel
theorem dX8_copy_8 : decode cX8_copy 8 = .ok (.aload_n 0, 1) := by decide +kernel
theorem dX8_copy_9 : decode cX8_copy 9 = .ok (.aload_n 1, 1) := by decide +kernel
theorem dX8_copy_10 : decode cX8_copy 10 = .ok (.getfield 28, 3) := by decide +kernel
theorem dX8_copy_13 : decode cX8_copy 13 = .ok (.putfield 28, 3) := by decide +kernel
theorem dX8_copy_16 : decode cX8_copy 16 = .ok (.aload_n 0, 1) := by decide +kernel
theorem dX8_copy_17 : decode cX8_copy 17 = .ok (.aload_n 1, 1) := by decide +kernel
theorem dX8_copy_18 : decode cX8_copy 18 = .ok (.getfield 31, 3) := by decide +kernel
theorem dX8_copy_21 : decode cX8_copy 21 = .ok (.putfield 31, 3) := by decide +kernel
theorem dX8_copy_24 : decode cX8_copy 24 = .ok (.aload_n 0, 1) := by decide +kernel
theorem dX8_copy_25 : decode cX8_copy 25 = .ok (.aload_n 1, 1) := by decide +kernel
theorem dX8_copy_26 : decode cX8_copy 26 = .ok (.getfield 34, 3) := by decide +kernel
theorem dX8_copy_29 : decode cX8_copy 29 = .ok (.putfield 34, 3) := by decide +kernel
theorem dX8_copy_32 : decode cX8_copy 32 = .ok (.aload_n 0, 1) := by decide +kernel
theorem dX8_copy_33 : decode cX8_copy 33 = .ok (.aload_n 1, 1) := by decide +kernel
theorem dX8_copy_34 : decode cX8_copy 34 = .ok (.getfield 37, 3) := by decide +kernel
theorem dX8_copy_37 : decode cX8_copy 37 = .ok (.putfield 37, 3) := by decide +kernel
theorem dX8_copy_40 : decode cX8_copy 40 = .ok (.aload_n 1, 1) := by decide +kernel
theorem dX8_copy_41 : decode cX8_copy 41 = .ok (.getfield 9, 3) := by decide +kernel
theorem dX8_copy_44 : decode cX8_copy 44 = .ok (.iconst 0, 1) := by decide +kernel
theorem dX8_copy_45 : decode cX8_copy 45 = .ok (.aload_n 0, 1) := by decide +kernel
theorem dX8_copy_46 : decode cX8_copy 46 = .ok (.getfield 9, 3) := by decide +kernel
theorem dX8_copy_49 : decode cX8_copy 49 = .ok (.iconst 0, 1) := by decide +kernel
theorem dX8_copy_50 : decode cX8_copy 50 = .ok (.bipush 8, 2) := by decide +kernel
theorem dX8_copy_52 : decode cX8_copy 52 = .ok (.invokestatic 40, 3) := by decide +kernel
theorem dX8_copy_55 : decode cX8_copy 55 = .ok (.aload_n 1, 1) := by decide +kernel
theorem dX8_copy_56 : decode cX8_copy 56 = .ok (.getfield 15, 3) := by decide +kernel
theorem dX8_copy_59 : decode cX8_copy 59 = .ok (.iconst 0, 1) := by decide +kernel
theorem dX8_copy_60 : decode cX8_copy 60 = .ok (.aload_n 0, 1) := by decide +kernel
theorem dX8_copy_61 : decode cX8_copy 61 = .ok (.getfield 15, 3) := by decide +kernel
theorem dX8_copy_64 : decode cX8_copy 64 = .ok (.iconst 0, 1) := by decide +kernel
theorem dX8_copy_65 : decode cX8_copy 65 = .ok (.bipush 48, 2) := by decide +kernel
theorem dX8_copy_67 : decode cX8_copy 67 = .ok (.invokestatic 40, 3) := by decide +kernel
theorem dX8_copy_70 : decode cX8_copy 70 = .ok (.aload_n 1, 1) := by decide +kernel
theorem dX8_copy_71 : decode cX8_copy 71 = .ok (.getfield 18, 3) := by decide +kernel
theorem dX8_copy_74 : decode cX8_copy 74 = .ok (.iconst 0, 1) := by decide +kernel
theorem dX8_copy_75 : decode cX8_copy 75 = .ok (.aload_n 0, 1) := by decide +kernel
theorem dX8_copy_76 : decode cX8_copy 76 = .ok (.getfield 18, 3) := by decide +kernel
theorem dX8_copy_79 : decode cX8_copy 79 = .ok (.iconst 0, 1) := by decide +kernel
theorem dX8_copy_80 : decode cX8_copy 80 = .ok (.bipush 6, 2) := by decide +kernel
theorem dX8_copy_82 : decode cX8_copy 82 = .ok (.invokestatic 40, 3) := by decide +kernel
theorem dX8_copy_85 : decode cX8_copy 85 = .ok (.aload_n 1, 1) := by decide +kernel
theorem dX8_copy_86 : decode cX8_copy 86 = .ok (.getfield 21, 3) := by decide +kernel
theorem dX8_copy_89 : decode cX8_copy 89 = .ok (.iconst 0, 1) := by decide +kernel
theorem dX8_copy_90 : decode cX8_copy 90 = .ok (.aload_n 0, 1) := by decide +kernel
theorem dX8_copy_91 : decode cX8_copy 91 = .ok (.getfield 21, 3) := by decide +kernel
theorem dX8_copy_94 : decode cX8_copy 94 = .ok (.iconst 0, 1) := by decide +kernel
theorem dX8_copy_95 : decode cX8_copy 95 = .ok (.bipush 6, 2) := by decide +kernel
theorem dX8_copy_97 : decode cX8_copy 97 = .ok (.invokestatic 40, 3) := by decide +kernel
theorem dX8_copy_100 : decode cX8_copy 100 = .ok (.return_, 1) := by decide +kernel
theorem dX8_start_0 : decode cX8_start 0 = .ok (.aload_n 0, 1) := by decide +kernel
theorem dX8_start_1 : decode cX8_start 1 = .ok (.iconst 0, 1) := by decide +kernel
theorem dX8_start_2 : decode cX8_start 2 = .ok (.putfield 24, 3) := by decide +kernel
theorem dX8_start_5 : decode cX8_start 5 = .ok (.aload_n 0, 1) := by decide +kernel
theorem dX8_start_6 : decode cX8_start 6 = .ok (.iconst 0, 1) := by decide +kernel
theorem dX8_start_7 : decode cX8_start 7 = .ok (.putfield 28, 3) := by decide +kernel
theorem dX8_start_10 : decode cX8_start 10 = .ok (.aload_n 0, 1) := by decide +kernel
theorem dX8_start_11 : decode cX8_start 11 = .ok (.iconst 0, 1) := by decide +kernel
theorem dX8_start_12 : decode cX8_start 12 = .ok (.putfield 31, 3) := by decide +kernel
theorem dX8_start_15 : decode cX8_start 15 = .ok (.aload_n 0, 1) := by decide +kernel
theorem dX8_start_16 : decode cX8_start 16 = .ok (.iconst 0, 1) := by decide +kernel
theorem dX8_start_17 : decode cX8_start 17 = .ok (.putfield 34, 3) := by decide +kernel
theorem dX8_start_20 : decode cX8_start 20 = .ok (.aload_n 0, 1) := by decide +kernel
theorem dX8_start_21 : decode cX8_start 21 = .ok (.iconst 0, 1) := by decide +kernel
theorem dX8_start_22 : decode cX8_start 22 = .ok (.putfield 37, 3) := by decide +kernel
theorem dX8_start_25 : decode cX8_start 25 = .ok (.aload_n 1, 1) := by decide +kernel
theorem dX8_start_26 : decode cX8_start 26 = .ok (.getfield 46, 3) := by decide +kernel
theorem dX8_start_29 : decode cX8_start 29 = .ok (.iconst 0, 1) := by decide +kernel
theorem dX8_start_30 : decode cX8_start 30 = .ok (.aload_n 0, 1) := by decide +kernel
theorem dX8_start_31 : decode cX8_start 31 = .ok (.getfield 9, 3) := by decide +kernel
theorem dX8_start_34 : decode cX8_start 34 = .ok (.iconst 0, 1) := by decide +kernel
theorem dX8_start_35 : decode cX8_start 35 = .ok (.bipush 8, 2) := by decide +kernel
theorem dX8_start_37 : decode cX8_start 37 = .ok (.invokestatic 40, 3) := by decide +kernel
theorem dX8_start_40 : decode cX8_start 40 = .ok (.aload_n 1, 1) := by decide +kernel
theorem dX8_start_41 : decode cX8_start 41 = .ok (.getfield 51, 3) := by decide +kernel
theorem dX8_start_44 : decode cX8_start 44 = .ok (.iconst 0, 1) := by decide +kernel
theorem dX8_start_45 : decode cX8_start 45 = .ok (.aload_n 0, 1) := by decide +kernel
theorem dX8_start_46 : decode cX8_start 46 = .ok (.getfield 15, 3) := by decide +kernel
theorem dX8_start_49 : decode cX8_start 49 = .ok (.iconst 0, 1) := by decide +kernel
theorem dX8_start_50 : decode cX8_start 50 = .ok (.bipush 48, 2) := by decide +kernel
theorem dX8_start_52 : decode cX8_start 52 = .ok (.invokestatic 40, 3) := by decide +kernel
theorem dX8_start_55 : decode cX8_start 55 = .ok (.aload_n 0, 1) := by decide +kernel
theorem dX8_start_56 : decode cX8_start 56 = .ok (.getfield 18, 3) := by decide +kernel
theorem dX8_start_59 : decode cX8_start 59 = .ok (.iconst 0, 1) := by decide +kernel
theorem dX8_start_60 : decode cX8_start 60 = .ok (.invokestatic 52, 3) := by decide +kernel
theorem dX8_start_63 : decode cX8_start 63 = .ok (.aload_n 1, 1) := by decide +kernel
theorem dX8_start_64 : decode cX8_start 64 = .ok (.getfield 58, 3) := by decide +kernel
theorem dX8_start_67 : decode cX8_start 67 = .ok (.iconst 0, 1) := by decide +kernel
theorem dX8_start_68 : decode cX8_start 68 = .ok (.aload_n 0, 1) := by decide +kernel
theorem dX8_start_69 : decode cX8_start 69 = .ok (.getfield 21, 3) := by decide +kernel
theorem dX8_start_72 : decode cX8_start 72 = .ok (.iconst 0, 1) := by decide +kernel
theorem dX8_start_73 : decode cX8_start 73 = .ok (.bipush 6, 2) := by decide +kernel
theorem dX8_start_75 : decode cX8_start 75 = .ok (.invokestatic 40, 3) := by decide +kernel
theorem dX8_start_78 : decode cX8_start 78 = .ok (.return_, 1) := by decide +kernel
theorem dX8_isFinished_0 : decode cX8_isFinished 0 = .ok (.iload_n 1, 1) := by decide +kernel
theorem dX8_isFinished_1 : decode cX8_isFinished 1 = .ok (.ifCond .lt 28, 3) := by decide +kernel
theorem dX8_isFinished_4 : decode cX8_isFinished 4 = .ok (.iload_n 1, 1) := by decide +kernel
theorem dX8_isFinished_5 : decode cX8_isFinished 5 = .ok (.bipush 6, 2) := by decide +kernel
theorem dX8_isFinished_7 : decode cX8_isFinished 7 = .ok (.if_icmp .ge 22, 3) := by decide +kernel
theorem dX8_isFinished_10 : decode cX8_isFinished 10 = .ok (.aload_n 0, 1) := by decide +kernel
theorem dX8_isFinished_11 : decode cX8_isFinished 11 = .ok (.getfield 18, 3) := by decide +kernel
theorem dX8_isFinished_14 : decode cX8_isFinished 14 = .ok (.iload_n 1, 1) := by decide +kernel
theorem dX8_isFinished_15 : decode cX8_isFinished 15 = .ok (.iaload, 1) := by decide +kernel
theorem dX8_isFinished_16 : decode cX8_isFinished 16 = .ok (.aload_n 2, 1) := by decide +kernel
theorem dX8_isFinished_17 : decode cX8_isFinished 17 = .ok (.getfield 59, 3) := by decide +kernel
theorem dX8_isFinished_20 : decode cX8_isFinished 20 = .ok (.iload_n 1, 1) := by decide +kernel
theorem dX8_isFinished_21 : decode cX8_isFinished 21 = .ok (.iaload, 1) := by decide +kernel
theorem dX8_isFinished_22 : decode cX8_isFinished 22 = .ok (.if_icmp .lt 7, 3) := by decide +kernel
theorem dX8_isFinished_25 : decode cX8_isFinished 25 = .ok (.iconst 1, 1) := by decide +kernel
theorem dX8_isFinished_26 : decode cX8_isFinished 26 = .ok (.goto 4, 3) := by decide +kernel
theorem dX8_isFinished_29 : decode cX8_isFinished 29 = .ok (.iconst 0, 1) := by decide +kernel
theorem dX8_isFinished_30 : decode cX8_isFinished 30 = .ok (.ireturn, 1) := by decide +kernel
theorem dX8_isAllFinished_0 : decode cX8_isAllFinished 0 = .ok (.iconst 0, 1) := by decide +kernel
theorem dX8_isAllFinished_1 : decode cX8_isAllFinished 1 = .ok (.istore_n 2, 1) := by decide +kernel
theorem dX8_isAllFinished_2 : decode cX8_isAllFinished 2 = .ok (.iload_n 2, 1) := by decide +kernel
theorem dX8_isAllFinished_3 : decode cX8_isAllFinished 3 = .ok (.aload_n 1, 1) := by decide +kernel
theorem dX8_isAllFinished_4 : decode cX8_isAllFinished 4 = .ok (.iconst 3, 1) := by decide +kernel
theorem dX8_isAllFinished_5 : decode cX8_isAllFinished 5 = .ok (.invokevirtual 62, 3) := by decide +kernel
theorem dX8_isAllFinished_8 : decode cX8_isAllFinished 8 = .ok (.if_icmp .ge 20, 3) := by decide +kernel
theorem dX8_isAllFinished_11 : decode cX8_isAllFinished 11 = .ok (.aload_n 0, 1) := by decide +kernel
theorem dX8_isAllFinished_12 : decode cX8_isAllFinished 12 = .ok (.iload_n 2, 1) := by decide +kernel
theorem dX8_isAllFinished_13 : decode cX8_isAllFinished 13 = .ok (.aload_n 1, 1) := by decide +kernel
theorem dX8_isAllFinished_14 : decode cX8_isAllFinished 14 = .ok (.invokevirtual 66, 3) := by decide +kernel
theorem dX8_isAllFinished_17 : decode cX8_isAllFinished 17 = .ok (.ifCond .ne 5, 3) := by decide +kernel
theorem dX8_isAllFinished_20 : decode cX8_isAllFinished 20 = .ok (.iconst 0, 1) := by decide +kernel
theorem dX8_isAllFinished_21 : decode cX8_isAllFinished 21 = .ok (.ireturn, 1) := by decide +kernel
theorem dX8_isAllFinished_22 : decode cX8_isAllFinished 22 = .ok (.iinc 2 1, 3) := by decide +kernel
theorem dX8_isAllFinished_25 : decode cX8_isAllFinished 25 = .ok (.goto (-23), 3) := by decide +kernel
theorem dX8_isAllFinished_28 : decode cX8_isAllFinished 28 = .ok (.iconst 1, 1) := by decide +kernel
theorem dX8_isAllFinished_29 : decode cX8_isAllFinished 29 = .ok (.ireturn, 1) := by decide +kernel
theorem dX8_daysLate_0 : decode cX8_daysLate 0 = .ok (.aload_n 2, 1) := by decide +kernel
theorem dX8_daysLate_1 : decode cX8_daysLate 1 = .ok (.iconst 3, 1) := by decide +kernel
theorem dX8_daysLate_2 : decode cX8_daysLate 2 = .ok (.iload_n 1, 1) := by decide +kernel
theorem dX8_daysLate_3 : decode cX8_daysLate 3 = .ok (.invokevirtual 70, 3) := by decide +kernel
theorem dX8_daysLate_6 : decode cX8_daysLate 6 = .ok (.ifCond .eq 30, 3) := by decide +kernel
theorem dX8_daysLate_9 : decode cX8_daysLate 9 = .ok (.aload_n 0, 1) := by decide +kernel
theorem dX8_daysLate_10 : decode cX8_daysLate 10 = .ok (.iload_n 1, 1) := by decide +kernel
theorem dX8_daysLate_11 : decode cX8_daysLate 11 = .ok (.aload_n 2, 1) := by decide +kernel
theorem dX8_daysLate_12 : decode cX8_daysLate 12 = .ok (.invokevirtual 66, 3) := by decide +kernel
theorem dX8_daysLate_15 : decode cX8_daysLate 15 = .ok (.ifCond .ne 21, 3) := by decide +kernel
theorem dX8_daysLate_18 : decode cX8_daysLate 18 = .ok (.iconst 0, 1) := by decide +kernel
theorem dX8_daysLate_19 : decode cX8_daysLate 19 = .ok (.aload_n 0, 1) := by decide +kernel
theorem dX8_daysLate_20 : decode cX8_daysLate 20 = .ok (.getfield 24, 3) := by decide +kernel
theorem dX8_daysLate_23 : decode cX8_daysLate 23 = .ok (.aload_n 0, 1) := by decide +kernel
theorem dX8_daysLate_24 : decode cX8_daysLate 24 = .ok (.getfield 21, 3) := by decide +kernel
theorem dX8_daysLate_27 : decode cX8_daysLate 27 = .ok (.iload_n 1, 1) := by decide +kernel
theorem dX8_daysLate_28 : decode cX8_daysLate 28 = .ok (.iaload, 1) := by decide +kernel
theorem dX8_daysLate_29 : decode cX8_daysLate 29 = .ok (.isub, 1) := by decide +kernel
theorem dX8_daysLate_30 : decode cX8_daysLate 30 = .ok (.invokestatic 74, 3) := by decide +kernel
theorem dX8_daysLate_33 : decode cX8_daysLate 33 = .ok (.goto 4, 3) := by decide +kernel
theorem dX8_daysLate_36 : decode cX8_daysLate 36 = .ok (.iconst 0, 1) := by decide +kernel
theorem dX8_daysLate_37 : decode cX8_daysLate 37 = .ok (.ireturn, 1) := by decide +kernel
theorem dX8_knownBy_0 : decode cX8_knownBy 0 = .ok (.iload_n 1, 1) := by decide +kernel
theorem dX8_knownBy_1 : decode cX8_knownBy 1 = .ok (.ifCond .lt 23, 3) := by decide +kernel
theorem dX8_knownBy_4 : decode cX8_knownBy 4 = .ok (.iload_n 1, 1) := by decide +kernel
theorem dX8_knownBy_5 : decode cX8_knownBy 5 = .ok (.bipush 6, 2) := by decide +kernel
theorem dX8_knownBy_7 : decode cX8_knownBy 7 = .ok (.if_icmp .ge 17, 3) := by decide +kernel
theorem dX8_knownBy_10 : decode cX8_knownBy 10 = .ok (.iload_n 2, 1) := by decide +kernel
theorem dX8_knownBy_11 : decode cX8_knownBy 11 = .ok (.ifCond .lt 13, 3) := by decide +kernel
theorem dX8_knownBy_14 : decode cX8_knownBy 14 = .ok (.iload_n 2, 1) := by decide +kernel
theorem dX8_knownBy_15 : decode cX8_knownBy 15 = .ok (.bipush 8, 2) := by decide +kernel
theorem dX8_knownBy_17 : decode cX8_knownBy 17 = .ok (.if_icmp .ge 7, 3) := by decide +kernel
theorem dX8_knownBy_20 : decode cX8_knownBy 20 = .ok (.iconst 1, 1) := by decide +kernel
theorem dX8_knownBy_21 : decode cX8_knownBy 21 = .ok (.goto 4, 3) := by decide +kernel
theorem dX8_knownBy_24 : decode cX8_knownBy 24 = .ok (.iconst 0, 1) := by decide +kernel
theorem dX8_knownBy_25 : decode cX8_knownBy 25 = .ok (.istore_n 3, 1) := by decide +kernel
theorem dX8_knownBy_26 : decode cX8_knownBy 26 = .ok (.iload_n 3, 1) := by decide +kernel
theorem dX8_knownBy_27 : decode cX8_knownBy 27 = .ok (.ifCond .eq 17, 3) := by decide +kernel
theorem dX8_knownBy_30 : decode cX8_knownBy 30 = .ok (.aload_n 0, 1) := by decide +kernel
theorem dX8_knownBy_31 : decode cX8_knownBy 31 = .ok (.getfield 15, 3) := by decide +kernel
theorem dX8_knownBy_34 : decode cX8_knownBy 34 = .ok (.iload_n 1, 1) := by decide +kernel
theorem dX8_knownBy_35 : decode cX8_knownBy 35 = .ok (.bipush 8, 2) := by decide +kernel
theorem dX8_knownBy_37 : decode cX8_knownBy 37 = .ok (.imul, 1) := by decide +kernel
theorem dX8_knownBy_38 : decode cX8_knownBy 38 = .ok (.iload_n 2, 1) := by decide +kernel
theorem dX8_knownBy_39 : decode cX8_knownBy 39 = .ok (.iadd, 1) := by decide +kernel
theorem dX8_knownBy_40 : decode cX8_knownBy 40 = .ok (.iaload, 1) := by decide +kernel
theorem dX8_knownBy_41 : decode cX8_knownBy 41 = .ok (.goto 4, 3) := by decide +kernel
theorem dX8_knownBy_44 : decode cX8_knownBy 44 = .ok (.iconst 0, 1) := by decide +kernel
theorem dX8_knownBy_45 : decode cX8_knownBy 45 = .ok (.ireturn, 1) := by decide +kernel
theorem dX8_pay_0 : decode cX8_pay 0 = .ok (.aload_n 0, 1) := by decide +kernel
theorem dX8_pay_1 : decode cX8_pay 1 = .ok (.sipush 9999, 3) := by decide +kernel
theorem dX8_pay_4 : decode cX8_pay 4 = .ok (.aload_n 0, 1) := by decide +kernel
theorem dX8_pay_5 : decode cX8_pay 5 = .ok (.getfield 28, 3) := by decide +kernel
theorem dX8_pay_8 : decode cX8_pay 8 = .ok (.iload_n 1, 1) := by decide +kernel
theorem dX8_pay_9 : decode cX8_pay 9 = .ok (.iadd, 1) := by decide +kernel
theorem dX8_pay_10 : decode cX8_pay 10 = .ok (.invokestatic 80, 3) := by decide +kernel
theorem dX8_pay_13 : decode cX8_pay 13 = .ok (.putfield 28, 3) := by decide +kernel
theorem dX8_pay_16 : decode cX8_pay 16 = .ok (.return_, 1) := by decide +kernel
theorem dX8_swapHands_0 : decode cX8_swapHands 0 = .ok (.iload_n 1, 1) := by decide +kernel
theorem dX8_swapHands_1 : decode cX8_swapHands 1 = .ok (.ifCond .lt 19, 3) := by decide +kernel
theorem dX8_swapHands_4 : decode cX8_swapHands 4 = .ok (.iload_n 1, 1) := by decide +kernel
theorem dX8_swapHands_5 : decode cX8_swapHands 5 = .ok (.bipush 6, 2) := by decide +kernel
theorem dX8_swapHands_7 : decode cX8_swapHands 7 = .ok (.if_icmp .ge 13, 3) := by decide +kernel
theorem dX8_swapHands_10 : decode cX8_swapHands 10 = .ok (.iload_n 2, 1) := by decide +kernel
theorem dX8_swapHands_11 : decode cX8_swapHands 11 = .ok (.ifCond .lt 9, 3) := by decide +kernel
theorem dX8_swapHands_14 : decode cX8_swapHands 14 = .ok (.iload_n 2, 1) := by decide +kernel
theorem dX8_swapHands_15 : decode cX8_swapHands 15 = .ok (.bipush 6, 2) := by decide +kernel
theorem dX8_swapHands_17 : decode cX8_swapHands 17 = .ok (.if_icmp .lt 4, 3) := by decide +kernel
theorem dX8_swapHands_20 : decode cX8_swapHands 20 = .ok (.return_, 1) := by decide +kernel
theorem dX8_swapHands_21 : decode cX8_swapHands 21 = .ok (.iconst 0, 1) := by decide +kernel
theorem dX8_swapHands_22 : decode cX8_swapHands 22 = .ok (.istore_n 3, 1) := by decide +kernel
theorem dX8_swapHands_23 : decode cX8_swapHands 23 = .ok (.iload_n 3, 1) := by decide +kernel
theorem dX8_swapHands_24 : decode cX8_swapHands 24 = .ok (.bipush 8, 2) := by decide +kernel
theorem dX8_swapHands_26 : decode cX8_swapHands 26 = .ok (.if_icmp .ge 57, 3) := by decide +kernel
theorem dX8_swapHands_29 : decode cX8_swapHands 29 = .ok (.aload_n 0, 1) := by decide +kernel
theorem dX8_swapHands_30 : decode cX8_swapHands 30 = .ok (.getfield 15, 3) := by decide +kernel
theorem dX8_swapHands_33 : decode cX8_swapHands 33 = .ok (.iload_n 1, 1) := by decide +kernel
theorem dX8_swapHands_34 : decode cX8_swapHands 34 = .ok (.bipush 8, 2) := by decide +kernel
theorem dX8_swapHands_36 : decode cX8_swapHands 36 = .ok (.imul, 1) := by decide +kernel
theorem dX8_swapHands_37 : decode cX8_swapHands 37 = .ok (.iload_n 3, 1) := by decide +kernel
theorem dX8_swapHands_38 : decode cX8_swapHands 38 = .ok (.iadd, 1) := by decide +kernel
theorem dX8_swapHands_39 : decode cX8_swapHands 39 = .ok (.iaload, 1) := by decide +kernel
theorem dX8_swapHands_40 : decode cX8_swapHands 40 = .ok (.istore 4, 2) := by decide +kernel
theorem dX8_swapHands_42 : decode cX8_swapHands 42 = .ok (.aload_n 0, 1) := by decide +kernel
theorem dX8_swapHands_43 : decode cX8_swapHands 43 = .ok (.getfield 15, 3) := by decide +kernel
theorem dX8_swapHands_46 : decode cX8_swapHands 46 = .ok (.iload_n 1, 1) := by decide +kernel
theorem dX8_swapHands_47 : decode cX8_swapHands 47 = .ok (.bipush 8, 2) := by decide +kernel
theorem dX8_swapHands_49 : decode cX8_swapHands 49 = .ok (.imul, 1) := by decide +kernel
theorem dX8_swapHands_50 : decode cX8_swapHands 50 = .ok (.iload_n 3, 1) := by decide +kernel
theorem dX8_swapHands_51 : decode cX8_swapHands 51 = .ok (.iadd, 1) := by decide +kernel
theorem dX8_swapHands_52 : decode cX8_swapHands 52 = .ok (.aload_n 0, 1) := by decide +kernel
theorem dX8_swapHands_53 : decode cX8_swapHands 53 = .ok (.getfield 15, 3) := by decide +kernel
theorem dX8_swapHands_56 : decode cX8_swapHands 56 = .ok (.iload_n 2, 1) := by decide +kernel
theorem dX8_swapHands_57 : decode cX8_swapHands 57 = .ok (.bipush 8, 2) := by decide +kernel
theorem dX8_swapHands_59 : decode cX8_swapHands 59 = .ok (.imul, 1) := by decide +kernel
theorem dX8_swapHands_60 : decode cX8_swapHands 60 = .ok (.iload_n 3, 1) := by decide +kernel
theorem dX8_swapHands_61 : decode cX8_swapHands 61 = .ok (.iadd, 1) := by decide +kernel
theorem dX8_swapHands_62 : decode cX8_swapHands 62 = .ok (.iaload, 1) := by decide +kernel
theorem dX8_swapHands_63 : decode cX8_swapHands 63 = .ok (.iastore, 1) := by decide +kernel
theorem dX8_swapHands_64 : decode cX8_swapHands 64 = .ok (.aload_n 0, 1) := by decide +kernel
theorem dX8_swapHands_65 : decode cX8_swapHands 65 = .ok (.getfield 15, 3) := by decide +kernel
theorem dX8_swapHands_68 : decode cX8_swapHands 68 = .ok (.iload_n 2, 1) := by decide +kernel
theorem dX8_swapHands_69 : decode cX8_swapHands 69 = .ok (.bipush 8, 2) := by decide +kernel
theorem dX8_swapHands_71 : decode cX8_swapHands 71 = .ok (.imul, 1) := by decide +kernel
theorem dX8_swapHands_72 : decode cX8_swapHands 72 = .ok (.iload_n 3, 1) := by decide +kernel
theorem dX8_swapHands_73 : decode cX8_swapHands 73 = .ok (.iadd, 1) := by decide +kernel
theorem dX8_swapHands_74 : decode cX8_swapHands 74 = .ok (.iload 4, 2) := by decide +kernel
theorem dX8_swapHands_76 : decode cX8_swapHands 76 = .ok (.iastore, 1) := by decide +kernel
theorem dX8_swapHands_77 : decode cX8_swapHands 77 = .ok (.iinc 3 1, 3) := by decide +kernel
theorem dX8_swapHands_80 : decode cX8_swapHands 80 = .ok (.goto (-57), 3) := by decide +kernel
theorem dX8_swapHands_83 : decode cX8_swapHands 83 = .ok (.return_, 1) := by decide +kernel
theorem dX9_init_0 : decode cX9_init 0 = .ok (.aload_n 0, 1) := by decide +kernel
theorem dX9_init_1 : decode cX9_init 1 = .ok (.invokespecial 3, 3) := by decide +kernel
theorem dX9_init_4 : decode cX9_init 4 = .ok (.aload_n 0, 1) := by decide +kernel
theorem dX9_init_5 : decode cX9_init 5 = .ok (.bipush 32, 2) := by decide +kernel
theorem dX9_init_7 : decode cX9_init 7 = .ok (.newarray .int, 2) := by decide +kernel
theorem dX9_init_9 : decode cX9_init 9 = .ok (.putfield 9, 3) := by decide +kernel
theorem dX9_init_12 : decode cX9_init 12 = .ok (.aload_n 0, 1) := by decide +kernel
theorem dX9_init_13 : decode cX9_init 13 = .ok (.iconst 4, 1) := by decide +kernel
theorem dX9_init_14 : decode cX9_init 14 = .ok (.newarray .int, 2) := by decide +kernel
theorem dX9_init_16 : decode cX9_init 16 = .ok (.putfield 15, 3) := by decide +kernel
theorem dX9_init_19 : decode cX9_init 19 = .ok (.aload_n 0, 1) := by decide +kernel
theorem dX9_init_20 : decode cX9_init 20 = .ok (.bipush 6, 2) := by decide +kernel
theorem dX9_init_22 : decode cX9_init 22 = .ok (.newarray .int, 2) := by decide +kernel
theorem dX9_init_24 : decode cX9_init 24 = .ok (.putfield 18, 3) := by decide +kernel
theorem dX9_init_27 : decode cX9_init 27 = .ok (.aload_n 0, 1) := by decide +kernel
theorem dX9_init_28 : decode cX9_init 28 = .ok (.bipush 6, 2) := by decide +kernel
theorem dX9_init_30 : decode cX9_init 30 = .ok (.newarray .int, 2) := by decide +kernel
theorem dX9_init_32 : decode cX9_init 32 = .ok (.putfield 21, 3) := by decide +kernel
theorem dX9_init_35 : decode cX9_init 35 = .ok (.aload_n 0, 1) := by decide +kernel
theorem dX9_init_36 : decode cX9_init 36 = .ok (.bipush 8, 2) := by decide +kernel
theorem dX9_init_38 : decode cX9_init 38 = .ok (.newarray .int, 2) := by decide +kernel
theorem dX9_init_40 : decode cX9_init 40 = .ok (.putfield 24, 3) := by decide +kernel
theorem dX9_init_43 : decode cX9_init 43 = .ok (.aload_n 0, 1) := by decide +kernel
theorem dX9_init_44 : decode cX9_init 44 = .ok (.bipush 8, 2) := by decide +kernel
theorem dX9_init_46 : decode cX9_init 46 = .ok (.newarray .int, 2) := by decide +kernel
theorem dX9_init_48 : decode cX9_init 48 = .ok (.putfield 27, 3) := by decide +kernel
theorem dX9_init_51 : decode cX9_init 51 = .ok (.aload_n 0, 1) := by decide +kernel
theorem dX9_init_52 : decode cX9_init 52 = .ok (.bipush 48, 2) := by decide +kernel
theorem dX9_init_54 : decode cX9_init 54 = .ok (.newarray .int, 2) := by decide +kernel
theorem dX9_init_56 : decode cX9_init 56 = .ok (.putfield 30, 3) := by decide +kernel
theorem dX9_init_59 : decode cX9_init 59 = .ok (.aload_n 0, 1) := by decide +kernel
theorem dX9_init_60 : decode cX9_init 60 = .ok (.bipush 6, 2) := by decide +kernel
theorem dX9_init_62 : decode cX9_init 62 = .ok (.newarray .int, 2) := by decide +kernel
theorem dX9_init_64 : decode cX9_init 64 = .ok (.putfield 33, 3) := by decide +kernel
theorem dX9_init_67 : decode cX9_init 67 = .ok (.aload_n 0, 1) := by decide +kernel
theorem dX9_init_68 : decode cX9_init 68 = .ok (.bipush 6, 2) := by decide +kernel
theorem dX9_init_70 : decode cX9_init 70 = .ok (.newarray .int, 2) := by decide +kernel
theorem dX9_init_72 : decode cX9_init 72 = .ok (.putfield 36, 3) := by decide +kernel
theorem dX9_init_75 : decode cX9_init 75 = .ok (.aload_n 0, 1) := by decide +kernel
theorem dX9_init_76 : decode cX9_init 76 = .ok (.bipush 24, 2) := by decide +kernel
theorem dX9_init_78 : decode cX9_init 78 = .ok (.newarray .int, 2) := by decide +kernel
theorem dX9_init_80 : decode cX9_init 80 = .ok (.putfield 39, 3) := by decide +kernel
theorem dX9_init_83 : decode cX9_init 83 = .ok (.aload_n 0, 1) := by decide +kernel
theorem dX9_init_84 : decode cX9_init 84 = .ok (.bipush 24, 2) := by decide +kernel
theorem dX9_init_86 : decode cX9_init 86 = .ok (.newarray .int, 2) := by decide +kernel
theorem dX9_init_88 : decode cX9_init 88 = .ok (.putfield 42, 3) := by decide +kernel
theorem dX9_init_91 : decode cX9_init 91 = .ok (.aload_n 0, 1) := by decide +kernel
theorem dX9_init_92 : decode cX9_init 92 = .ok (.bipush 36, 2) := by decide +kernel
theorem dX9_init_94 : decode cX9_init 94 = .ok (.newarray .int, 2) := by decide +kernel
theorem dX9_init_96 : decode cX9_init 96 = .ok (.putfield 45, 3) := by decide +kernel
theorem dX9_init_99 : decode cX9_init 99 = .ok (.aload_n 0, 1) := by decide +kernel
theorem dX9_init_100 : decode cX9_init 100 = .ok (.bipush 6, 2) := by decide +kernel
theorem dX9_init_102 : decode cX9_init 102 = .ok (.newarray .int, 2) := by decide +kernel
theorem dX9_init_104 : decode cX9_init 104 = .ok (.putfield 48, 3) := by decide +kernel
theorem dX9_init_107 : decode cX9_init 107 = .ok (.aload_n 0, 1) := by decide +kernel
theorem dX9_init_108 : decode cX9_init 108 = .ok (.new 51, 3) := by decide +kernel
theorem dX9_init_111 : decode cX9_init 111 = .ok (.dup, 1) := by decide +kernel
theorem dX9_init_112 : decode cX9_init 112 = .ok (.invokespecial 53, 3) := by decide +kernel
theorem dX9_init_115 : decode cX9_init 115 = .ok (.putfield 54, 3) := by decide +kernel
theorem dX9_init_118 : decode cX9_init 118 = .ok (.aload_n 0, 1) := by decide +kernel
theorem dX9_init_119 : decode cX9_init 119 = .ok (.bipush 100, 2) := by decide +kernel
theorem dX9_init_121 : decode cX9_init 121 = .ok (.putfield 58, 3) := by decide +kernel
theorem dX9_init_124 : decode cX9_init 124 = .ok (.aload_n 0, 1) := by decide +kernel
theorem dX9_init_125 : decode cX9_init 125 = .ok (.iconst 0, 1) := by decide +kernel
theorem dX9_init_126 : decode cX9_init 126 = .ok (.putfield 62, 3) := by decide +kernel
theorem dX9_init_129 : decode cX9_init 129 = .ok (.aload_n 0, 1) := by decide +kernel
theorem dX9_init_130 : decode cX9_init 130 = .ok (.bipush 9, 2) := by decide +kernel
theorem dX9_init_132 : decode cX9_init 132 = .ok (.putfield 65, 3) := by decide +kernel
theorem dX9_init_135 : decode cX9_init 135 = .ok (.aload_n 0, 1) := by decide +kernel
theorem dX9_init_136 : decode cX9_init 136 = .ok (.iconst 5, 1) := by decide +kernel
theorem dX9_init_137 : decode cX9_init 137 = .ok (.putfield 68, 3) := by decide +kernel
theorem dX9_init_140 : decode cX9_init 140 = .ok (.aload_n 0, 1) := by decide +kernel
theorem dX9_init_141 : decode cX9_init 141 = .ok (.iconst 0, 1) := by decide +kernel
theorem dX9_init_142 : decode cX9_init 142 = .ok (.putfield 71, 3) := by decide +kernel
theorem dX9_init_145 : decode cX9_init 145 = .ok (.return_, 1) := by decide +kernel
theorem dX9_clear_0 : decode cX9_clear 0 = .ok (.aload_n 0, 1) := by decide +kernel
theorem dX9_clear_1 : decode cX9_clear 1 = .ok (.getfield 15, 3) := by decide +kernel
theorem dX9_clear_4 : decode cX9_clear 4 = .ok (.iconst 0, 1) := by decide +kernel
theorem dX9_clear_5 : decode cX9_clear 5 = .ok (.invokestatic 74, 3) := by decide +kernel
theorem dX9_clear_8 : decode cX9_clear 8 = .ok (.aload_n 0, 1) := by decide +kernel
theorem dX9_clear_9 : decode cX9_clear 9 = .ok (.getfield 30, 3) := by decide +kernel
theorem dX9_clear_12 : decode cX9_clear 12 = .ok (.iconst 0, 1) := by decide +kernel
theorem dX9_clear_13 : decode cX9_clear 13 = .ok (.invokestatic 74, 3) := by decide +kernel
theorem dX9_clear_16 : decode cX9_clear 16 = .ok (.aload_n 0, 1) := by decide +kernel
theorem dX9_clear_17 : decode cX9_clear 17 = .ok (.getfield 45, 3) := by decide +kernel
theorem dX9_clear_20 : decode cX9_clear 20 = .ok (.iconst 0, 1) := by decide +kernel
theorem dX9_clear_21 : decode cX9_clear 21 = .ok (.invokestatic 74, 3) := by decide +kernel
theorem dX9_clear_24 : decode cX9_clear 24 = .ok (.aload_n 0, 1) := by decide +kernel
theorem dX9_clear_25 : decode cX9_clear 25 = .ok (.getfield 54, 3) := by decide +kernel
theorem dX9_clear_28 : decode cX9_clear 28 = .ok (.invokevirtual 80, 3) := by decide +kernel
theorem dX9_clear_31 : decode cX9_clear 31 = .ok (.aload_n 0, 1) := by decide +kernel
theorem dX9_clear_32 : decode cX9_clear 32 = .ok (.bipush 100, 2) := by decide +kernel
theorem dX9_clear_34 : decode cX9_clear 34 = .ok (.putfield 58, 3) := by decide +kernel
theorem dX9_clear_37 : decode cX9_clear 37 = .ok (.aload_n 0, 1) := by decide +kernel
theorem dX9_clear_38 : decode cX9_clear 38 = .ok (.iconst 0, 1) := by decide +kernel
theorem dX9_clear_39 : decode cX9_clear 39 = .ok (.putfield 62, 3) := by decide +kernel
theorem dX9_clear_42 : decode cX9_clear 42 = .ok (.aload_n 0, 1) := by decide +kernel
theorem dX9_clear_43 : decode cX9_clear 43 = .ok (.bipush 9, 2) := by decide +kernel
theorem dX9_clear_45 : decode cX9_clear 45 = .ok (.putfield 65, 3) := by decide +kernel
theorem dX9_clear_48 : decode cX9_clear 48 = .ok (.aload_n 0, 1) := by decide +kernel
theorem dX9_clear_49 : decode cX9_clear 49 = .ok (.iconst 5, 1) := by decide +kernel
theorem dX9_clear_50 : decode cX9_clear 50 = .ok (.putfield 68, 3) := by decide +kernel
theorem dX9_clear_53 : decode cX9_clear 53 = .ok (.aload_n 0, 1) := by decide +kernel
theorem dX9_clear_54 : decode cX9_clear 54 = .ok (.iconst 0, 1) := by decide +kernel
theorem dX9_clear_55 : decode cX9_clear 55 = .ok (.putfield 71, 3) := by decide +kernel
theorem dX9_clear_58 : decode cX9_clear 58 = .ok (.return_, 1) := by decide +kernel
theorem dX9_count_0 : decode cX9_count 0 = .ok (.iload_n 1, 1) := by decide +kernel
theorem dX9_count_1 : decode cX9_count 1 = .ok (.ifCond .lt 17, 3) := by decide +kernel
theorem dX9_count_4 : decode cX9_count 4 = .ok (.iload_n 1, 1) := by decide +kernel
theorem dX9_count_5 : decode cX9_count 5 = .ok (.iconst 4, 1) := by decide +kernel
theorem dX9_count_6 : decode cX9_count 6 = .ok (.if_icmp .ge 12, 3) := by decide +kernel
theorem dX9_count_9 : decode cX9_count 9 = .ok (.aload_n 0, 1) := by decide +kernel
theorem dX9_count_10 : decode cX9_count 10 = .ok (.getfield 15, 3) := by decide +kernel
theorem dX9_count_13 : decode cX9_count 13 = .ok (.iload_n 1, 1) := by decide +kernel
theorem dX9_count_14 : decode cX9_count 14 = .ok (.iaload, 1) := by decide +kernel
theorem dX9_count_15 : decode cX9_count 15 = .ok (.goto 4, 3) := by decide +kernel
theorem dX9_count_18 : decode cX9_count 18 = .ok (.iconst 0, 1) := by decide +kernel
theorem dX9_count_19 : decode cX9_count 19 = .ok (.ireturn, 1) := by decide +kernel
theorem dX9_holds_0 : decode cX9_holds 0 = .ok (.iload_n 1, 1) := by decide +kernel
theorem dX9_holds_1 : decode cX9_holds 1 = .ok (.ifCond .lt 26, 3) := by decide +kernel
theorem dX9_holds_4 : decode cX9_holds 4 = .ok (.iload_n 1, 1) := by decide +kernel
theorem dX9_holds_5 : decode cX9_holds 5 = .ok (.iconst 4, 1) := by decide +kernel
theorem dX9_holds_6 : decode cX9_holds 6 = .ok (.if_icmp .ge 21, 3) := by decide +kernel
theorem dX9_holds_9 : decode cX9_holds 9 = .ok (.iload_n 2, 1) := by decide +kernel
theorem dX9_holds_10 : decode cX9_holds 10 = .ok (.ifCond .lt 17, 3) := by decide +kernel
theorem dX9_holds_13 : decode cX9_holds 13 = .ok (.iload_n 2, 1) := by decide +kernel
theorem dX9_holds_14 : decode cX9_holds 14 = .ok (.aload_n 0, 1) := by decide +kernel
theorem dX9_holds_15 : decode cX9_holds 15 = .ok (.getfield 15, 3) := by decide +kernel
theorem dX9_holds_18 : decode cX9_holds 18 = .ok (.iload_n 1, 1) := by decide +kernel
theorem dX9_holds_19 : decode cX9_holds 19 = .ok (.iaload, 1) := by decide +kernel
theorem dX9_holds_20 : decode cX9_holds 20 = .ok (.if_icmp .ge 7, 3) := by decide +kernel
theorem dX9_holds_23 : decode cX9_holds 23 = .ok (.iconst 1, 1) := by decide +kernel
theorem dX9_holds_24 : decode cX9_holds 24 = .ok (.goto 4, 3) := by decide +kernel
theorem dX9_holds_27 : decode cX9_holds 27 = .ok (.iconst 0, 1) := by decide +kernel
theorem dX9_holds_28 : decode cX9_holds 28 = .ok (.ireturn, 1) := by decide +kernel
theorem dX9_isFull_0 : decode cX9_isFull 0 = .ok (.iload_n 1, 1) := by decide +kernel
theorem dX9_isFull_1 : decode cX9_isFull 1 = .ok (.tableswitch 75 0 2 #[27, 43, 59], 27) := by decide +kernel
theorem dX9_isFull_28 : decode cX9_isFull 28 = .ok (.aload_n 0, 1) := by decide +kernel
theorem dX9_isFull_29 : decode cX9_isFull 29 = .ok (.iload_n 1, 1) := by decide +kernel
theorem dX9_isFull_30 : decode cX9_isFull 30 = .ok (.invokevirtual 83, 3) := by decide +kernel
theorem dX9_isFull_33 : decode cX9_isFull 33 = .ok (.bipush 6, 2) := by decide +kernel
theorem dX9_isFull_35 : decode cX9_isFull 35 = .ok (.if_icmp .lt 7, 3) := by decide +kernel
theorem dX9_isFull_38 : decode cX9_isFull 38 = .ok (.iconst 1, 1) := by decide +kernel
theorem dX9_isFull_39 : decode cX9_isFull 39 = .ok (.goto 4, 3) := by decide +kernel
theorem dX9_isFull_42 : decode cX9_isFull 42 = .ok (.iconst 0, 1) := by decide +kernel
theorem dX9_isFull_43 : decode cX9_isFull 43 = .ok (.ireturn, 1) := by decide +kernel
theorem dX9_isFull_44 : decode cX9_isFull 44 = .ok (.aload_n 0, 1) := by decide +kernel
theorem dX9_isFull_45 : decode cX9_isFull 45 = .ok (.iload_n 1, 1) := by decide +kernel
theorem dX9_isFull_46 : decode cX9_isFull 46 = .ok (.invokevirtual 83, 3) := by decide +kernel
theorem dX9_isFull_49 : decode cX9_isFull 49 = .ok (.bipush 8, 2) := by decide +kernel
theorem dX9_isFull_51 : decode cX9_isFull 51 = .ok (.if_icmp .lt 7, 3) := by decide +kernel
theorem dX9_isFull_54 : decode cX9_isFull 54 = .ok (.iconst 1, 1) := by decide +kernel
theorem dX9_isFull_55 : decode cX9_isFull 55 = .ok (.goto 4, 3) := by decide +kernel
theorem dX9_isFull_58 : decode cX9_isFull 58 = .ok (.iconst 0, 1) := by decide +kernel
theorem dX9_isFull_59 : decode cX9_isFull 59 = .ok (.ireturn, 1) := by decide +kernel
theorem dX9_isFull_60 : decode cX9_isFull 60 = .ok (.aload_n 0, 1) := by decide +kernel
theorem dX9_isFull_61 : decode cX9_isFull 61 = .ok (.iload_n 1, 1) := by decide +kernel
theorem dX9_isFull_62 : decode cX9_isFull 62 = .ok (.invokevirtual 83, 3) := by decide +kernel
theorem dX9_isFull_65 : decode cX9_isFull 65 = .ok (.bipush 6, 2) := by decide +kernel
theorem dX9_isFull_67 : decode cX9_isFull 67 = .ok (.if_icmp .lt 7, 3) := by decide +kernel
theorem dX9_isFull_70 : decode cX9_isFull 70 = .ok (.iconst 1, 1) := by decide +kernel
theorem dX9_isFull_71 : decode cX9_isFull 71 = .ok (.goto 4, 3) := by decide +kernel
theorem dX9_isFull_74 : decode cX9_isFull 74 = .ok (.iconst 0, 1) := by decide +kernel
theorem dX9_isFull_75 : decode cX9_isFull 75 = .ok (.ireturn, 1) := by decide +kernel
theorem dX9_isFull_76 : decode cX9_isFull 76 = .ok (.aload_n 0, 1) := by decide +kernel
theorem dX9_isFull_77 : decode cX9_isFull 77 = .ok (.iload_n 1, 1) := by decide +kernel
theorem dX9_isFull_78 : decode cX9_isFull 78 = .ok (.invokevirtual 83, 3) := by decide +kernel
theorem dX9_isFull_81 : decode cX9_isFull 81 = .ok (.bipush 6, 2) := by decide +kernel
theorem dX9_isFull_83 : decode cX9_isFull 83 = .ok (.if_icmp .lt 7, 3) := by decide +kernel
theorem dX9_isFull_86 : decode cX9_isFull 86 = .ok (.iconst 1, 1) := by decide +kernel
theorem dX9_isFull_87 : decode cX9_isFull 87 = .ok (.goto 4, 3) := by decide +kernel
theorem dX9_isFull_90 : decode cX9_isFull 90 = .ok (.iconst 0, 1) := by decide +kernel
theorem dX9_isFull_91 : decode cX9_isFull 91 = .ok (.ireturn, 1) := by decide +kernel
theorem dX9_nameOf_0 : decode cX9_nameOf 0 = .ok (.aload_n 0, 1) := by decide +kernel
theorem dX9_nameOf_1 : decode cX9_nameOf 1 = .ok (.iload_n 1, 1) := by decide +kernel
theorem dX9_nameOf_2 : decode cX9_nameOf 2 = .ok (.iload_n 2, 1) := by decide +kernel
theorem dX9_nameOf_3 : decode cX9_nameOf 3 = .ok (.invokevirtual 87, 3) := by decide +kernel
theorem dX9_nameOf_6 : decode cX9_nameOf 6 = .ok (.ifCond .eq 23, 3) := by decide +kernel
theorem dX9_nameOf_9 : decode cX9_nameOf 9 = .ok (.iload_n 2, 1) := by decide +kernel
theorem dX9_nameOf_10 : decode cX9_nameOf 10 = .ok (.bipush 8, 2) := by decide +kernel
theorem dX9_nameOf_12 : decode cX9_nameOf 12 = .ok (.if_icmp .ge 17, 3) := by decide +kernel
theorem dX9_nameOf_15 : decode cX9_nameOf 15 = .ok (.aload_n 0, 1) := by decide +kernel
theorem dX9_nameOf_16 : decode cX9_nameOf 16 = .ok (.getfield 9, 3) := by decide +kernel
theorem dX9_nameOf_19 : decode cX9_nameOf 19 = .ok (.iload_n 1, 1) := by decide +kernel
theorem dX9_nameOf_20 : decode cX9_nameOf 20 = .ok (.bipush 8, 2) := by decide +kernel
theorem dX9_nameOf_22 : decode cX9_nameOf 22 = .ok (.imul, 1) := by decide +kernel
theorem dX9_nameOf_23 : decode cX9_nameOf 23 = .ok (.iload_n 2, 1) := by decide +kernel
theorem dX9_nameOf_24 : decode cX9_nameOf 24 = .ok (.iadd, 1) := by decide +kernel
theorem dX9_nameOf_25 : decode cX9_nameOf 25 = .ok (.iaload, 1) := by decide +kernel
theorem dX9_nameOf_26 : decode cX9_nameOf 26 = .ok (.goto 4, 3) := by decide +kernel
theorem dX9_nameOf_29 : decode cX9_nameOf 29 = .ok (.iconst 0, 1) := by decide +kernel
theorem dX9_nameOf_30 : decode cX9_nameOf 30 = .ok (.ireturn, 1) := by decide +kernel
theorem dX9_find_0 : decode cX9_find 0 = .ok (.iconst 0, 1) := by decide +kernel
theorem dX9_find_1 : decode cX9_find 1 = .ok (.istore_n 3, 1) := by decide +kernel
theorem dX9_find_2 : decode cX9_find 2 = .ok (.iload_n 3, 1) := by decide +kernel
theorem dX9_find_3 : decode cX9_find 3 = .ok (.aload_n 0, 1) := by decide +kernel
theorem dX9_find_4 : decode cX9_find 4 = .ok (.iload_n 1, 1) := by decide +kernel
theorem dX9_find_5 : decode cX9_find 5 = .ok (.invokevirtual 83, 3) := by decide +kernel
theorem dX9_find_8 : decode cX9_find 8 = .ok (.if_icmp .ge 32, 3) := by decide +kernel
theorem dX9_find_11 : decode cX9_find 11 = .ok (.iload_n 3, 1) := by decide +kernel
theorem dX9_find_12 : decode cX9_find 12 = .ok (.bipush 8, 2) := by decide +kernel
theorem dX9_find_14 : decode cX9_find 14 = .ok (.if_icmp .ge 26, 3) := by decide +kernel
theorem dX9_find_17 : decode cX9_find 17 = .ok (.aload_n 0, 1) := by decide +kernel
theorem dX9_find_18 : decode cX9_find 18 = .ok (.getfield 9, 3) := by decide +kernel
theorem dX9_find_21 : decode cX9_find 21 = .ok (.iload_n 1, 1) := by decide +kernel
theorem dX9_find_22 : decode cX9_find 22 = .ok (.bipush 8, 2) := by decide +kernel
theorem dX9_find_24 : decode cX9_find 24 = .ok (.imul, 1) := by decide +kernel
theorem dX9_find_25 : decode cX9_find 25 = .ok (.iload_n 3, 1) := by decide +kernel
theorem dX9_find_26 : decode cX9_find 26 = .ok (.iadd, 1) := by decide +kernel
theorem dX9_find_27 : decode cX9_find 27 = .ok (.iaload, 1) := by decide +kernel
theorem dX9_find_28 : decode cX9_find 28 = .ok (.iload_n 2, 1) := by decide +kernel
theorem dX9_find_29 : decode cX9_find 29 = .ok (.if_icmp .ne 5, 3) := by decide +kernel
theorem dX9_find_32 : decode cX9_find 32 = .ok (.iload_n 3, 1) := by decide +kernel
theorem dX9_find_33 : decode cX9_find 33 = .ok (.ireturn, 1) := by decide +kernel
theorem dX9_find_34 : decode cX9_find 34 = .ok (.iinc 3 1, 3) := by decide +kernel
theorem dX9_find_37 : decode cX9_find 37 = .ok (.goto (-35), 3) := by decide +kernel
theorem dX9_find_40 : decode cX9_find 40 = .ok (.iconst (-1), 1) := by decide +kernel
theorem dX9_find_41 : decode cX9_find 41 = .ok (.ireturn, 1) := by decide +kernel
theorem dX9_isGiven_0 : decode cX9_isGiven 0 = .ok (.iconst 0, 1) := by decide +kernel
theorem dX9_isGiven_1 : decode cX9_isGiven 1 = .ok (.istore_n 2, 1) := by decide +kernel
theorem dX9_isGiven_2 : decode cX9_isGiven 2 = .ok (.iload_n 2, 1) := by decide +kernel
theorem dX9_isGiven_3 : decode cX9_isGiven 3 = .ok (.iconst 4, 1) := by decide +kernel
theorem dX9_isGiven_4 : decode cX9_isGiven 4 = .ok (.if_icmp .ge 21, 3) := by decide +kernel
theorem dX9_isGiven_7 : decode cX9_isGiven 7 = .ok (.aload_n 0, 1) := by decide +kernel
theorem dX9_isGiven_8 : decode cX9_isGiven 8 = .ok (.iload_n 2, 1) := by decide +kernel
theorem dX9_isGiven_9 : decode cX9_isGiven 9 = .ok (.iload_n 1, 1) := by decide +kernel
theorem dX9_isGiven_10 : decode cX9_isGiven 10 = .ok (.invokevirtual 91, 3) := by decide +kernel
theorem dX9_isGiven_13 : decode cX9_isGiven 13 = .ok (.iconst (-1), 1) := by decide +kernel
theorem dX9_isGiven_14 : decode cX9_isGiven 14 = .ok (.if_icmp .eq 5, 3) := by decide +kernel
theorem dX9_isGiven_17 : decode cX9_isGiven 17 = .ok (.iconst 1, 1) := by decide +kernel
theorem dX9_isGiven_18 : decode cX9_isGiven 18 = .ok (.ireturn, 1) := by decide +kernel
theorem dX9_isGiven_19 : decode cX9_isGiven 19 = .ok (.iinc 2 1, 3) := by decide +kernel
theorem dX9_isGiven_22 : decode cX9_isGiven 22 = .ok (.goto (-20), 3) := by decide +kernel
theorem dX9_isGiven_25 : decode cX9_isGiven 25 = .ok (.iconst 0, 1) := by decide +kernel
theorem dX9_isGiven_26 : decode cX9_isGiven 26 = .ok (.ireturn, 1) := by decide +kernel
theorem dX9_give_0 : decode cX9_give 0 = .ok (.iload_n 1, 1) := by decide +kernel
theorem dX9_give_1 : decode cX9_give 1 = .ok (.ifCond .lt 16, 3) := by decide +kernel
theorem dX9_give_4 : decode cX9_give 4 = .ok (.iload_n 1, 1) := by decide +kernel
theorem dX9_give_5 : decode cX9_give 5 = .ok (.iconst 4, 1) := by decide +kernel
theorem dX9_give_6 : decode cX9_give 6 = .ok (.if_icmp .ge 11, 3) := by decide +kernel
theorem dX9_give_9 : decode cX9_give 9 = .ok (.aload_n 0, 1) := by decide +kernel
theorem dX9_give_10 : decode cX9_give 10 = .ok (.iload_n 1, 1) := by decide +kernel
theorem dX9_give_11 : decode cX9_give 11 = .ok (.invokevirtual 95, 3) := by decide +kernel
theorem dX9_give_14 : decode cX9_give 14 = .ok (.ifCond .eq 5, 3) := by decide +kernel
theorem dX9_give_17 : decode cX9_give 17 = .ok (.iconst (-1), 1) := by decide +kernel
theorem dX9_give_18 : decode cX9_give 18 = .ok (.ireturn, 1) := by decide +kernel
theorem dX9_give_19 : decode cX9_give 19 = .ok (.aload_n 0, 1) := by decide +kernel
theorem dX9_give_20 : decode cX9_give 20 = .ok (.getfield 15, 3) := by decide +kernel
theorem dX9_give_23 : decode cX9_give 23 = .ok (.iload_n 1, 1) := by decide +kernel
theorem dX9_give_24 : decode cX9_give 24 = .ok (.iaload, 1) := by decide +kernel
theorem dX9_give_25 : decode cX9_give 25 = .ok (.istore_n 3, 1) := by decide +kernel
theorem dX9_give_26 : decode cX9_give 26 = .ok (.aload_n 0, 1) := by decide +kernel
theorem dX9_give_27 : decode cX9_give 27 = .ok (.getfield 9, 3) := by decide +kernel
theorem dX9_give_30 : decode cX9_give 30 = .ok (.iload_n 1, 1) := by decide +kernel
theorem dX9_give_31 : decode cX9_give 31 = .ok (.bipush 8, 2) := by decide +kernel
theorem dX9_give_33 : decode cX9_give 33 = .ok (.imul, 1) := by decide +kernel
theorem dX9_give_34 : decode cX9_give 34 = .ok (.iload_n 3, 1) := by decide +kernel
theorem dX9_give_35 : decode cX9_give 35 = .ok (.iadd, 1) := by decide +kernel
theorem dX9_give_36 : decode cX9_give 36 = .ok (.iload_n 2, 1) := by decide +kernel
theorem dX9_give_37 : decode cX9_give 37 = .ok (.iastore, 1) := by decide +kernel
theorem dX9_give_38 : decode cX9_give 38 = .ok (.aload_n 0, 1) := by decide +kernel
theorem dX9_give_39 : decode cX9_give 39 = .ok (.getfield 15, 3) := by decide +kernel
theorem dX9_give_42 : decode cX9_give 42 = .ok (.iload_n 1, 1) := by decide +kernel
theorem dX9_give_43 : decode cX9_give 43 = .ok (.iload_n 3, 1) := by decide +kernel
theorem dX9_give_44 : decode cX9_give 44 = .ok (.iconst 1, 1) := by decide +kernel
theorem dX9_give_45 : decode cX9_give 45 = .ok (.iadd, 1) := by decide +kernel
theorem dX9_give_46 : decode cX9_give 46 = .ok (.iastore, 1) := by decide +kernel
theorem dX9_give_47 : decode cX9_give 47 = .ok (.iload_n 3, 1) := by decide +kernel
theorem dX9_give_48 : decode cX9_give 48 = .ok (.ireturn, 1) := by decide +kernel
theorem dX9_toolsOf_0 : decode cX9_toolsOf 0 = .ok (.iconst 0, 1) := by decide +kernel
theorem dX9_toolsOf_1 : decode cX9_toolsOf 1 = .ok (.istore_n 2, 1) := by decide +kernel
theorem dX9_toolsOf_2 : decode cX9_toolsOf 2 = .ok (.iconst 0, 1) := by decide +kernel
theorem dX9_toolsOf_3 : decode cX9_toolsOf 3 = .ok (.istore_n 3, 1) := by decide +kernel
theorem dX9_toolsOf_4 : decode cX9_toolsOf 4 = .ok (.iload_n 3, 1) := by decide +kernel
theorem dX9_toolsOf_5 : decode cX9_toolsOf 5 = .ok (.aload_n 0, 1) := by decide +kernel
theorem dX9_toolsOf_6 : decode cX9_toolsOf 6 = .ok (.iconst 1, 1) := by decide +kernel
theorem dX9_toolsOf_7 : decode cX9_toolsOf 7 = .ok (.invokevirtual 83, 3) := by decide +kernel
theorem dX9_toolsOf_10 : decode cX9_toolsOf 10 = .ok (.if_icmp .ge 29, 3) := by decide +kernel
theorem dX9_toolsOf_13 : decode cX9_toolsOf 13 = .ok (.iload_n 2, 1) := by decide +kernel
theorem dX9_toolsOf_14 : decode cX9_toolsOf 14 = .ok (.aload_n 0, 1) := by decide +kernel
theorem dX9_toolsOf_15 : decode cX9_toolsOf 15 = .ok (.getfield 24, 3) := by decide +kernel
theorem dX9_toolsOf_18 : decode cX9_toolsOf 18 = .ok (.iload_n 3, 1) := by decide +kernel
theorem dX9_toolsOf_19 : decode cX9_toolsOf 19 = .ok (.iaload, 1) := by decide +kernel
theorem dX9_toolsOf_20 : decode cX9_toolsOf 20 = .ok (.iload_n 1, 1) := by decide +kernel
theorem dX9_toolsOf_21 : decode cX9_toolsOf 21 = .ok (.if_icmp .ne 9, 3) := by decide +kernel
theorem dX9_toolsOf_24 : decode cX9_toolsOf 24 = .ok (.iconst 1, 1) := by decide +kernel
theorem dX9_toolsOf_25 : decode cX9_toolsOf 25 = .ok (.iload_n 3, 1) := by decide +kernel
theorem dX9_toolsOf_26 : decode cX9_toolsOf 26 = .ok (.ishl, 1) := by decide +kernel
theorem dX9_toolsOf_27 : decode cX9_toolsOf 27 = .ok (.goto 4, 3) := by decide +kernel
theorem dX9_toolsOf_30 : decode cX9_toolsOf 30 = .ok (.iconst 0, 1) := by decide +kernel
theorem dX9_toolsOf_31 : decode cX9_toolsOf 31 = .ok (.ior, 1) := by decide +kernel
theorem dX9_toolsOf_32 : decode cX9_toolsOf 32 = .ok (.istore_n 2, 1) := by decide +kernel
theorem dX9_toolsOf_33 : decode cX9_toolsOf 33 = .ok (.iinc 3 1, 3) := by decide +kernel
theorem dX9_toolsOf_36 : decode cX9_toolsOf 36 = .ok (.goto (-32), 3) := by decide +kernel
theorem dX9_toolsOf_39 : decode cX9_toolsOf 39 = .ok (.iload_n 2, 1) := by decide +kernel
theorem dX9_toolsOf_40 : decode cX9_toolsOf 40 = .ok (.ireturn, 1) := by decide +kernel
theorem dX9_daysToRest_0 : decode cX9_daysToRest 0 = .ok (.aload_n 0, 1) := by decide +kernel
theorem dX9_daysToRest_1 : decode cX9_daysToRest 1 = .ok (.iconst 0, 1) := by decide +kernel
theorem dX9_daysToRest_2 : decode cX9_daysToRest 2 = .ok (.iload_n 1, 1) := by decide +kernel
theorem dX9_daysToRest_3 : decode cX9_daysToRest 3 = .ok (.invokevirtual 87, 3) := by decide +kernel
theorem dX9_daysToRest_6 : decode cX9_daysToRest 6 = .ok (.ifCond .eq 32, 3) := by decide +kernel
theorem dX9_daysToRest_9 : decode cX9_daysToRest 9 = .ok (.aload_n 0, 1) := by decide +kernel
theorem dX9_daysToRest_10 : decode cX9_daysToRest 10 = .ok (.getfield 21, 3) := by decide +kernel
theorem dX9_daysToRest_13 : decode cX9_daysToRest 13 = .ok (.iload_n 1, 1) := by decide +kernel
theorem dX9_daysToRest_14 : decode cX9_daysToRest 14 = .ok (.iaload, 1) := by decide +kernel
theorem dX9_daysToRest_15 : decode cX9_daysToRest 15 = .ok (.ifCond .le 23, 3) := by decide +kernel
theorem dX9_daysToRest_18 : decode cX9_daysToRest 18 = .ok (.aload_n 0, 1) := by decide +kernel
theorem dX9_daysToRest_19 : decode cX9_daysToRest 19 = .ok (.getfield 18, 3) := by decide +kernel
theorem dX9_daysToRest_22 : decode cX9_daysToRest 22 = .ok (.iload_n 1, 1) := by decide +kernel
theorem dX9_daysToRest_23 : decode cX9_daysToRest 23 = .ok (.iaload, 1) := by decide +kernel
theorem dX9_daysToRest_24 : decode cX9_daysToRest 24 = .ok (.iload_n 2, 1) := by decide +kernel
theorem dX9_daysToRest_25 : decode cX9_daysToRest 25 = .ok (.isub, 1) := by decide +kernel
theorem dX9_daysToRest_26 : decode cX9_daysToRest 26 = .ok (.aload_n 0, 1) := by decide +kernel
theorem dX9_daysToRest_27 : decode cX9_daysToRest 27 = .ok (.getfield 21, 3) := by decide +kernel
theorem dX9_daysToRest_30 : decode cX9_daysToRest 30 = .ok (.iload_n 1, 1) := by decide +kernel
theorem dX9_daysToRest_31 : decode cX9_daysToRest 31 = .ok (.iaload, 1) := by decide +kernel
theorem dX9_daysToRest_32 : decode cX9_daysToRest 32 = .ok (.invokestatic 99, 3) := by decide +kernel
theorem dX9_daysToRest_35 : decode cX9_daysToRest 35 = .ok (.goto 4, 3) := by decide +kernel
theorem dX9_daysToRest_38 : decode cX9_daysToRest 38 = .ok (.iconst (-1), 1) := by decide +kernel
theorem dX9_daysToRest_39 : decode cX9_daysToRest 39 = .ok (.ireturn, 1) := by decide +kernel
theorem dX9_hasStep_0 : decode cX9_hasStep 0 = .ok (.iload_n 1, 1) := by decide +kernel
theorem dX9_hasStep_1 : decode cX9_hasStep 1 = .ok (.ifCond .lt 17, 3) := by decide +kernel
theorem dX9_hasStep_4 : decode cX9_hasStep 4 = .ok (.iload_n 1, 1) := by decide +kernel
theorem dX9_hasStep_5 : decode cX9_hasStep 5 = .ok (.aload_n 0, 1) := by decide +kernel
theorem dX9_hasStep_6 : decode cX9_hasStep 6 = .ok (.getfield 15, 3) := by decide +kernel
theorem dX9_hasStep_9 : decode cX9_hasStep 9 = .ok (.iconst 3, 1) := by decide +kernel
theorem dX9_hasStep_10 : decode cX9_hasStep 10 = .ok (.iaload, 1) := by decide +kernel
theorem dX9_hasStep_11 : decode cX9_hasStep 11 = .ok (.if_icmp .ge 7, 3) := by decide +kernel
theorem dX9_hasStep_14 : decode cX9_hasStep 14 = .ok (.iconst 1, 1) := by decide +kernel
theorem dX9_hasStep_15 : decode cX9_hasStep 15 = .ok (.goto 4, 3) := by decide +kernel
theorem dX9_hasStep_18 : decode cX9_hasStep 18 = .ok (.iconst 0, 1) := by decide +kernel
theorem dX9_hasStep_19 : decode cX9_hasStep 19 = .ok (.istore_n 3, 1) := by decide +kernel
theorem dX9_hasStep_20 : decode cX9_hasStep 20 = .ok (.iload_n 3, 1) := by decide +kernel
theorem dX9_hasStep_21 : decode cX9_hasStep 21 = .ok (.ifCond .eq 26, 3) := by decide +kernel
theorem dX9_hasStep_24 : decode cX9_hasStep 24 = .ok (.iload_n 2, 1) := by decide +kernel
theorem dX9_hasStep_25 : decode cX9_hasStep 25 = .ok (.ifCond .lt 22, 3) := by decide +kernel
theorem dX9_hasStep_28 : decode cX9_hasStep 28 = .ok (.iload_n 2, 1) := by decide +kernel
theorem dX9_hasStep_29 : decode cX9_hasStep 29 = .ok (.aload_n 0, 1) := by decide +kernel
theorem dX9_hasStep_30 : decode cX9_hasStep 30 = .ok (.getfield 36, 3) := by decide +kernel
theorem dX9_hasStep_33 : decode cX9_hasStep 33 = .ok (.iload_n 1, 1) := by decide +kernel
theorem dX9_hasStep_34 : decode cX9_hasStep 34 = .ok (.iaload, 1) := by decide +kernel
theorem dX9_hasStep_35 : decode cX9_hasStep 35 = .ok (.if_icmp .ge 12, 3) := by decide +kernel
theorem dX9_hasStep_38 : decode cX9_hasStep 38 = .ok (.iload_n 2, 1) := by decide +kernel
theorem dX9_hasStep_39 : decode cX9_hasStep 39 = .ok (.iconst 4, 1) := by decide +kernel
theorem dX9_hasStep_40 : decode cX9_hasStep 40 = .ok (.if_icmp .ge 7, 3) := by decide +kernel
theorem dX9_hasStep_43 : decode cX9_hasStep 43 = .ok (.iconst 1, 1) := by decide +kernel
theorem dX9_hasStep_44 : decode cX9_hasStep 44 = .ok (.goto 4, 3) := by decide +kernel
theorem dX9_hasStep_47 : decode cX9_hasStep 47 = .ok (.iconst 0, 1) := by decide +kernel
theorem dX9_hasStep_48 : decode cX9_hasStep 48 = .ok (.ireturn, 1) := by decide +kernel
theorem dX9_kindOfStep_0 : decode cX9_kindOfStep 0 = .ok (.aload_n 0, 1) := by decide +kernel
theorem dX9_kindOfStep_1 : decode cX9_kindOfStep 1 = .ok (.iload_n 1, 1) := by decide +kernel
theorem dX9_kindOfStep_2 : decode cX9_kindOfStep 2 = .ok (.iload_n 2, 1) := by decide +kernel
theorem dX9_kindOfStep_3 : decode cX9_kindOfStep 3 = .ok (.invokevirtual 104, 3) := by decide +kernel
theorem dX9_kindOfStep_6 : decode cX9_kindOfStep 6 = .ok (.ifCond .eq 16, 3) := by decide +kernel
theorem dX9_kindOfStep_9 : decode cX9_kindOfStep 9 = .ok (.aload_n 0, 1) := by decide +kernel
theorem dX9_kindOfStep_10 : decode cX9_kindOfStep 10 = .ok (.getfield 39, 3) := by decide +kernel
theorem dX9_kindOfStep_13 : decode cX9_kindOfStep 13 = .ok (.iload_n 1, 1) := by decide +kernel
theorem dX9_kindOfStep_14 : decode cX9_kindOfStep 14 = .ok (.iconst 4, 1) := by decide +kernel
theorem dX9_kindOfStep_15 : decode cX9_kindOfStep 15 = .ok (.imul, 1) := by decide +kernel
theorem dX9_kindOfStep_16 : decode cX9_kindOfStep 16 = .ok (.iload_n 2, 1) := by decide +kernel
theorem dX9_kindOfStep_17 : decode cX9_kindOfStep 17 = .ok (.iadd, 1) := by decide +kernel
theorem dX9_kindOfStep_18 : decode cX9_kindOfStep 18 = .ok (.iaload, 1) := by decide +kernel
theorem dX9_kindOfStep_19 : decode cX9_kindOfStep 19 = .ok (.goto 4, 3) := by decide +kernel
theorem dX9_kindOfStep_22 : decode cX9_kindOfStep 22 = .ok (.iconst (-1), 1) := by decide +kernel
theorem dX9_kindOfStep_23 : decode cX9_kindOfStep 23 = .ok (.ireturn, 1) := by decide +kernel
theorem dX9_hoursOfStep_0 : decode cX9_hoursOfStep 0 = .ok (.aload_n 0, 1) := by decide +kernel
theorem dX9_hoursOfStep_1 : decode cX9_hoursOfStep 1 = .ok (.iload_n 1, 1) := by decide +kernel
theorem dX9_hoursOfStep_2 : decode cX9_hoursOfStep 2 = .ok (.iload_n 2, 1) := by decide +kernel
theorem dX9_hoursOfStep_3 : decode cX9_hoursOfStep 3 = .ok (.invokevirtual 104, 3) := by decide +kernel
theorem dX9_hoursOfStep_6 : decode cX9_hoursOfStep 6 = .ok (.ifCond .eq 16, 3) := by decide +kernel
theorem dX9_hoursOfStep_9 : decode cX9_hoursOfStep 9 = .ok (.aload_n 0, 1) := by decide +kernel
theorem dX9_hoursOfStep_10 : decode cX9_hoursOfStep 10 = .ok (.getfield 42, 3) := by decide +kernel
theorem dX9_hoursOfStep_13 : decode cX9_hoursOfStep 13 = .ok (.iload_n 1, 1) := by decide +kernel
theorem dX9_hoursOfStep_14 : decode cX9_hoursOfStep 14 = .ok (.iconst 4, 1) := by decide +kernel
theorem dX9_hoursOfStep_15 : decode cX9_hoursOfStep 15 = .ok (.imul, 1) := by decide +kernel
theorem dX9_hoursOfStep_16 : decode cX9_hoursOfStep 16 = .ok (.iload_n 2, 1) := by decide +kernel
theorem dX9_hoursOfStep_17 : decode cX9_hoursOfStep 17 = .ok (.iadd, 1) := by decide +kernel
theorem dX9_hoursOfStep_18 : decode cX9_hoursOfStep 18 = .ok (.iaload, 1) := by decide +kernel
theorem dX9_hoursOfStep_19 : decode cX9_hoursOfStep 19 = .ok (.goto 4, 3) := by decide +kernel
theorem dX9_hoursOfStep_22 : decode cX9_hoursOfStep 22 = .ok (.iconst (-1), 1) := by decide +kernel
theorem dX9_hoursOfStep_23 : decode cX9_hoursOfStep 23 = .ok (.ireturn, 1) := by decide +kernel
theorem dX9_measurePathsTo_0 : decode cX9_measurePathsTo 0 = .ok (.aload_n 0, 1) := by decide +kernel
theorem dX9_measurePathsTo_1 : decode cX9_measurePathsTo 1 = .ok (.getfield 48, 3) := by decide +kernel
theorem dX9_measurePathsTo_4 : decode cX9_measurePathsTo 4 = .ok (.ldc 107, 2) := by decide +kernel
theorem dX9_measurePathsTo_6 : decode cX9_measurePathsTo 6 = .ok (.invokestatic 74, 3) := by decide +kernel
theorem dX9_measurePathsTo_9 : decode cX9_measurePathsTo 9 = .ok (.aload_n 0, 1) := by decide +kernel
theorem dX9_measurePathsTo_10 : decode cX9_measurePathsTo 10 = .ok (.iconst 0, 1) := by decide +kernel
theorem dX9_measurePathsTo_11 : decode cX9_measurePathsTo 11 = .ok (.iload_n 1, 1) := by decide +kernel
theorem dX9_measurePathsTo_12 : decode cX9_measurePathsTo 12 = .ok (.invokevirtual 87, 3) := by decide +kernel
theorem dX9_measurePathsTo_15 : decode cX9_measurePathsTo 15 = .ok (.ifCond .eq 10, 3) := by decide +kernel
theorem dX9_measurePathsTo_18 : decode cX9_measurePathsTo 18 = .ok (.aload_n 0, 1) := by decide +kernel
theorem dX9_measurePathsTo_19 : decode cX9_measurePathsTo 19 = .ok (.getfield 48, 3) := by decide +kernel
theorem dX9_measurePathsTo_22 : decode cX9_measurePathsTo 22 = .ok (.iload_n 1, 1) := by decide +kernel
theorem dX9_measurePathsTo_23 : decode cX9_measurePathsTo 23 = .ok (.iconst 0, 1) := by decide +kernel
theorem dX9_measurePathsTo_24 : decode cX9_measurePathsTo 24 = .ok (.iastore, 1) := by decide +kernel
theorem dX9_measurePathsTo_25 : decode cX9_measurePathsTo 25 = .ok (.iconst 0, 1) := by decide +kernel
theorem dX9_measurePathsTo_26 : decode cX9_measurePathsTo 26 = .ok (.istore_n 2, 1) := by decide +kernel
theorem dX9_measurePathsTo_27 : decode cX9_measurePathsTo 27 = .ok (.iload_n 2, 1) := by decide +kernel
theorem dX9_measurePathsTo_28 : decode cX9_measurePathsTo 28 = .ok (.bipush 6, 2) := by decide +kernel
theorem dX9_measurePathsTo_30 : decode cX9_measurePathsTo 30 = .ok (.if_icmp .ge 67, 3) := by decide +kernel
theorem dX9_measurePathsTo_33 : decode cX9_measurePathsTo 33 = .ok (.iconst 0, 1) := by decide +kernel
theorem dX9_measurePathsTo_34 : decode cX9_measurePathsTo 34 = .ok (.istore_n 3, 1) := by decide +kernel
theorem dX9_measurePathsTo_35 : decode cX9_measurePathsTo 35 = .ok (.iload_n 3, 1) := by decide +kernel
theorem dX9_measurePathsTo_36 : decode cX9_measurePathsTo 36 = .ok (.aload_n 0, 1) := by decide +kernel
theorem dX9_measurePathsTo_37 : decode cX9_measurePathsTo 37 = .ok (.iconst 0, 1) := by decide +kernel
theorem dX9_measurePathsTo_38 : decode cX9_measurePathsTo 38 = .ok (.invokevirtual 83, 3) := by decide +kernel
theorem dX9_measurePathsTo_41 : decode cX9_measurePathsTo 41 = .ok (.if_icmp .ge 50, 3) := by decide +kernel
theorem dX9_measurePathsTo_44 : decode cX9_measurePathsTo 44 = .ok (.iconst 0, 1) := by decide +kernel
theorem dX9_measurePathsTo_45 : decode cX9_measurePathsTo 45 = .ok (.istore 4, 2) := by decide +kernel
theorem dX9_measurePathsTo_47 : decode cX9_measurePathsTo 47 = .ok (.iload 4, 2) := by decide +kernel
theorem dX9_measurePathsTo_49 : decode cX9_measurePathsTo 49 = .ok (.aload_n 0, 1) := by decide +kernel
theorem dX9_measurePathsTo_50 : decode cX9_measurePathsTo 50 = .ok (.iconst 0, 1) := by decide +kernel
theorem dX9_measurePathsTo_51 : decode cX9_measurePathsTo 51 = .ok (.invokevirtual 83, 3) := by decide +kernel
theorem dX9_measurePathsTo_54 : decode cX9_measurePathsTo 54 = .ok (.if_icmp .ge 31, 3) := by decide +kernel
theorem dX9_measurePathsTo_57 : decode cX9_measurePathsTo 57 = .ok (.aload_n 0, 1) := by decide +kernel
theorem dX9_measurePathsTo_58 : decode cX9_measurePathsTo 58 = .ok (.getfield 48, 3) := by decide +kernel
theorem dX9_measurePathsTo_61 : decode cX9_measurePathsTo 61 = .ok (.iload_n 3, 1) := by decide +kernel
theorem dX9_measurePathsTo_62 : decode cX9_measurePathsTo 62 = .ok (.aload_n 0, 1) := by decide +kernel
theorem dX9_measurePathsTo_63 : decode cX9_measurePathsTo 63 = .ok (.getfield 48, 3) := by decide +kernel
theorem dX9_measurePathsTo_66 : decode cX9_measurePathsTo 66 = .ok (.iload_n 3, 1) := by decide +kernel
theorem dX9_measurePathsTo_67 : decode cX9_measurePathsTo 67 = .ok (.iaload, 1) := by decide +kernel
theorem dX9_measurePathsTo_68 : decode cX9_measurePathsTo 68 = .ok (.aload_n 0, 1) := by decide +kernel
theorem dX9_measurePathsTo_69 : decode cX9_measurePathsTo 69 = .ok (.iload_n 3, 1) := by decide +kernel
theorem dX9_measurePathsTo_70 : decode cX9_measurePathsTo 70 = .ok (.iload 4, 2) := by decide +kernel
theorem dX9_measurePathsTo_72 : decode cX9_measurePathsTo 72 = .ok (.invokevirtual 108, 3) := by decide +kernel
theorem dX9_measurePathsTo_75 : decode cX9_measurePathsTo 75 = .ok (.invokestatic 111, 3) := by decide +kernel
theorem dX9_measurePathsTo_78 : decode cX9_measurePathsTo 78 = .ok (.iastore, 1) := by decide +kernel
theorem dX9_measurePathsTo_79 : decode cX9_measurePathsTo 79 = .ok (.iinc 4 1, 3) := by decide +kernel
theorem dX9_measurePathsTo_82 : decode cX9_measurePathsTo 82 = .ok (.goto (-35), 3) := by decide +kernel
theorem dX9_measurePathsTo_85 : decode cX9_measurePathsTo 85 = .ok (.iinc 3 1, 3) := by decide +kernel
theorem dX9_measurePathsTo_88 : decode cX9_measurePathsTo 88 = .ok (.goto (-53), 3) := by decide +kernel
theorem dX9_measurePathsTo_91 : decode cX9_measurePathsTo 91 = .ok (.iinc 2 1, 3) := by decide +kernel
theorem dX9_measurePathsTo_94 : decode cX9_measurePathsTo 94 = .ok (.goto (-67), 3) := by decide +kernel
theorem dX9_measurePathsTo_97 : decode cX9_measurePathsTo 97 = .ok (.return_, 1) := by decide +kernel
theorem dX9_lengthOver_0 : decode cX9_lengthOver 0 = .ok (.aload_n 0, 1) := by decide +kernel
theorem dX9_lengthOver_1 : decode cX9_lengthOver 1 = .ok (.getfield 45, 3) := by decide +kernel
theorem dX9_lengthOver_4 : decode cX9_lengthOver 4 = .ok (.iload_n 2, 1) := by decide +kernel
theorem dX9_lengthOver_5 : decode cX9_lengthOver 5 = .ok (.bipush 6, 2) := by decide +kernel
theorem dX9_lengthOver_7 : decode cX9_lengthOver 7 = .ok (.imul, 1) := by decide +kernel
theorem dX9_lengthOver_8 : decode cX9_lengthOver 8 = .ok (.iload_n 1, 1) := by decide +kernel
theorem dX9_lengthOver_9 : decode cX9_lengthOver 9 = .ok (.iadd, 1) := by decide +kernel
theorem dX9_lengthOver_10 : decode cX9_lengthOver 10 = .ok (.iaload, 1) := by decide +kernel
theorem dX9_lengthOver_11 : decode cX9_lengthOver 11 = .ok (.istore_n 3, 1) := by decide +kernel
theorem dX9_lengthOver_12 : decode cX9_lengthOver 12 = .ok (.iload_n 3, 1) := by decide +kernel
theorem dX9_lengthOver_13 : decode cX9_lengthOver 13 = .ok (.ifCond .ne 8, 3) := by decide +kernel
theorem dX9_lengthOver_16 : decode cX9_lengthOver 16 = .ok (.ldc 107, 2) := by decide +kernel
theorem dX9_lengthOver_18 : decode cX9_lengthOver 18 = .ok (.goto 16, 3) := by decide +kernel
theorem dX9_lengthOver_21 : decode cX9_lengthOver 21 = .ok (.iload_n 3, 1) := by decide +kernel
theorem dX9_lengthOver_22 : decode cX9_lengthOver 22 = .ok (.bipush 8, 2) := by decide +kernel
theorem dX9_lengthOver_24 : decode cX9_lengthOver 24 = .ok (.imul, 1) := by decide +kernel
theorem dX9_lengthOver_25 : decode cX9_lengthOver 25 = .ok (.iconst 1, 1) := by decide +kernel
theorem dX9_lengthOver_26 : decode cX9_lengthOver 26 = .ok (.iadd, 1) := by decide +kernel
theorem dX9_lengthOver_27 : decode cX9_lengthOver 27 = .ok (.aload_n 0, 1) := by decide +kernel
theorem dX9_lengthOver_28 : decode cX9_lengthOver 28 = .ok (.getfield 48, 3) := by decide +kernel
theorem dX9_lengthOver_31 : decode cX9_lengthOver 31 = .ok (.iload_n 2, 1) := by decide +kernel
theorem dX9_lengthOver_32 : decode cX9_lengthOver 32 = .ok (.iaload, 1) := by decide +kernel
theorem dX9_lengthOver_33 : decode cX9_lengthOver 33 = .ok (.iadd, 1) := by decide +kernel
theorem dX9_lengthOver_34 : decode cX9_lengthOver 34 = .ok (.ireturn, 1) := by decide +kernel
theorem dX9_pathPrice_0 : decode cX9_pathPrice 0 = .ok (.aload_n 0, 1) := by decide +kernel
theorem dX9_pathPrice_1 : decode cX9_pathPrice 1 = .ok (.iconst 0, 1) := by decide +kernel
theorem dX9_pathPrice_2 : decode cX9_pathPrice 2 = .ok (.iload_n 1, 1) := by decide +kernel
theorem dX9_pathPrice_3 : decode cX9_pathPrice 3 = .ok (.invokevirtual 87, 3) := by decide +kernel
theorem dX9_pathPrice_6 : decode cX9_pathPrice 6 = .ok (.ifCond .eq 26, 3) := by decide +kernel
theorem dX9_pathPrice_9 : decode cX9_pathPrice 9 = .ok (.aload_n 0, 1) := by decide +kernel
theorem dX9_pathPrice_10 : decode cX9_pathPrice 10 = .ok (.getfield 48, 3) := by decide +kernel
theorem dX9_pathPrice_13 : decode cX9_pathPrice 13 = .ok (.iload_n 1, 1) := by decide +kernel
theorem dX9_pathPrice_14 : decode cX9_pathPrice 14 = .ok (.iaload, 1) := by decide +kernel
theorem dX9_pathPrice_15 : decode cX9_pathPrice 15 = .ok (.ldc 107, 2) := by decide +kernel
theorem dX9_pathPrice_17 : decode cX9_pathPrice 17 = .ok (.if_icmp .ge 15, 3) := by decide +kernel
theorem dX9_pathPrice_20 : decode cX9_pathPrice 20 = .ok (.aload_n 0, 1) := by decide +kernel
theorem dX9_pathPrice_21 : decode cX9_pathPrice 21 = .ok (.getfield 48, 3) := by decide +kernel
theorem dX9_pathPrice_24 : decode cX9_pathPrice 24 = .ok (.iload_n 1, 1) := by decide +kernel
theorem dX9_pathPrice_25 : decode cX9_pathPrice 25 = .ok (.iaload, 1) := by decide +kernel
theorem dX9_pathPrice_26 : decode cX9_pathPrice 26 = .ok (.bipush 8, 2) := by decide +kernel
theorem dX9_pathPrice_28 : decode cX9_pathPrice 28 = .ok (.idiv, 1) := by decide +kernel
theorem dX9_pathPrice_29 : decode cX9_pathPrice 29 = .ok (.goto 4, 3) := by decide +kernel
theorem dX9_pathPrice_32 : decode cX9_pathPrice 32 = .ok (.iconst (-1), 1) := by decide +kernel
theorem dX9_pathPrice_33 : decode cX9_pathPrice 33 = .ok (.ireturn, 1) := by decide +kernel
theorem dX9_pathKind_0 : decode cX9_pathKind 0 = .ok (.iload_n 2, 1) := by decide +kernel
theorem dX9_pathKind_1 : decode cX9_pathKind 1 = .ok (.istore 4, 2) := by decide +kernel
theorem dX9_pathKind_3 : decode cX9_pathKind 3 = .ok (.iconst 0, 1) := by decide +kernel
theorem dX9_pathKind_4 : decode cX9_pathKind 4 = .ok (.istore 5, 2) := by decide +kernel
theorem dX9_pathKind_6 : decode cX9_pathKind 6 = .ok (.iload 5, 2) := by decide +kernel
theorem dX9_pathKind_8 : decode cX9_pathKind 8 = .ok (.bipush 6, 2) := by decide +kernel
theorem dX9_pathKind_10 : decode cX9_pathKind 10 = .ok (.if_icmp .ge 32, 3) := by decide +kernel
theorem dX9_pathKind_13 : decode cX9_pathKind 13 = .ok (.iload 5, 2) := by decide +kernel
theorem dX9_pathKind_15 : decode cX9_pathKind 15 = .ok (.iload_n 3, 1) := by decide +kernel
theorem dX9_pathKind_16 : decode cX9_pathKind 16 = .ok (.if_icmp .gt 26, 3) := by decide +kernel
theorem dX9_pathKind_19 : decode cX9_pathKind 19 = .ok (.aload_n 0, 1) := by decide +kernel
theorem dX9_pathKind_20 : decode cX9_pathKind 20 = .ok (.iload 4, 2) := by decide +kernel
theorem dX9_pathKind_22 : decode cX9_pathKind 22 = .ok (.iload_n 1, 1) := by decide +kernel
theorem dX9_pathKind_23 : decode cX9_pathKind 23 = .ok (.invokevirtual 114, 3) := by decide +kernel
theorem dX9_pathKind_26 : decode cX9_pathKind 26 = .ok (.istore 4, 2) := by decide +kernel
theorem dX9_pathKind_28 : decode cX9_pathKind 28 = .ok (.iload 4, 2) := by decide +kernel
theorem dX9_pathKind_30 : decode cX9_pathKind 30 = .ok (.iconst (-1), 1) := by decide +kernel
theorem dX9_pathKind_31 : decode cX9_pathKind 31 = .ok (.if_icmp .ne 5, 3) := by decide +kernel
theorem dX9_pathKind_34 : decode cX9_pathKind 34 = .ok (.iconst (-1), 1) := by decide +kernel
theorem dX9_pathKind_35 : decode cX9_pathKind 35 = .ok (.ireturn, 1) := by decide +kernel
theorem dX9_pathKind_36 : decode cX9_pathKind 36 = .ok (.iinc 5 1, 3) := by decide +kernel
theorem dX9_pathKind_39 : decode cX9_pathKind 39 = .ok (.goto (-33), 3) := by decide +kernel
theorem dX9_pathKind_42 : decode cX9_pathKind 42 = .ok (.iload_n 3, 1) := by decide +kernel
theorem dX9_pathKind_43 : decode cX9_pathKind 43 = .ok (.bipush 6, 2) := by decide +kernel
theorem dX9_pathKind_45 : decode cX9_pathKind 45 = .ok (.if_icmp .ge 8, 3) := by decide +kernel
theorem dX9_pathKind_48 : decode cX9_pathKind 48 = .ok (.iload 4, 2) := by decide +kernel
theorem dX9_pathKind_50 : decode cX9_pathKind 50 = .ok (.goto 4, 3) := by decide +kernel
theorem dX9_pathKind_53 : decode cX9_pathKind 53 = .ok (.iconst (-1), 1) := by decide +kernel
theorem dX9_pathKind_54 : decode cX9_pathKind 54 = .ok (.ireturn, 1) := by decide +kernel
theorem dX9_nextOnPath_0 : decode cX9_nextOnPath 0 = .ok (.iload_n 1, 1) := by decide +kernel
theorem dX9_nextOnPath_1 : decode cX9_nextOnPath 1 = .ok (.iload_n 2, 1) := by decide +kernel
theorem dX9_nextOnPath_2 : decode cX9_nextOnPath 2 = .ok (.if_icmp .eq 12, 3) := by decide +kernel
theorem dX9_nextOnPath_5 : decode cX9_nextOnPath 5 = .ok (.aload_n 0, 1) := by decide +kernel
theorem dX9_nextOnPath_6 : decode cX9_nextOnPath 6 = .ok (.iload_n 1, 1) := by decide +kernel
theorem dX9_nextOnPath_7 : decode cX9_nextOnPath 7 = .ok (.invokevirtual 117, 3) := by decide +kernel
theorem dX9_nextOnPath_10 : decode cX9_nextOnPath 10 = .ok (.iconst (-1), 1) := by decide +kernel
theorem dX9_nextOnPath_11 : decode cX9_nextOnPath 11 = .ok (.if_icmp .ne 5, 3) := by decide +kernel
theorem dX9_nextOnPath_14 : decode cX9_nextOnPath 14 = .ok (.iconst (-1), 1) := by decide +kernel
theorem dX9_nextOnPath_15 : decode cX9_nextOnPath 15 = .ok (.ireturn, 1) := by decide +kernel
theorem dX9_nextOnPath_16 : decode cX9_nextOnPath 16 = .ok (.iconst 0, 1) := by decide +kernel
theorem dX9_nextOnPath_17 : decode cX9_nextOnPath 17 = .ok (.istore_n 3, 1) := by decide +kernel
theorem dX9_nextOnPath_18 : decode cX9_nextOnPath 18 = .ok (.iload_n 3, 1) := by decide +kernel
theorem dX9_nextOnPath_19 : decode cX9_nextOnPath 19 = .ok (.aload_n 0, 1) := by decide +kernel
theorem dX9_nextOnPath_20 : decode cX9_nextOnPath 20 = .ok (.iconst 0, 1) := by decide +kernel
theorem dX9_nextOnPath_21 : decode cX9_nextOnPath 21 = .ok (.invokevirtual 83, 3) := by decide +kernel
theorem dX9_nextOnPath_24 : decode cX9_nextOnPath 24 = .ok (.if_icmp .ge 26, 3) := by decide +kernel
theorem dX9_nextOnPath_27 : decode cX9_nextOnPath 27 = .ok (.aload_n 0, 1) := by decide +kernel
theorem dX9_nextOnPath_28 : decode cX9_nextOnPath 28 = .ok (.iload_n 1, 1) := by decide +kernel
theorem dX9_nextOnPath_29 : decode cX9_nextOnPath 29 = .ok (.iload_n 3, 1) := by decide +kernel
theorem dX9_nextOnPath_30 : decode cX9_nextOnPath 30 = .ok (.invokevirtual 108, 3) := by decide +kernel
theorem dX9_nextOnPath_33 : decode cX9_nextOnPath 33 = .ok (.aload_n 0, 1) := by decide +kernel
theorem dX9_nextOnPath_34 : decode cX9_nextOnPath 34 = .ok (.getfield 48, 3) := by decide +kernel
theorem dX9_nextOnPath_37 : decode cX9_nextOnPath 37 = .ok (.iload_n 1, 1) := by decide +kernel
theorem dX9_nextOnPath_38 : decode cX9_nextOnPath 38 = .ok (.iaload, 1) := by decide +kernel
theorem dX9_nextOnPath_39 : decode cX9_nextOnPath 39 = .ok (.if_icmp .ne 5, 3) := by decide +kernel
theorem dX9_nextOnPath_42 : decode cX9_nextOnPath 42 = .ok (.iload_n 3, 1) := by decide +kernel
theorem dX9_nextOnPath_43 : decode cX9_nextOnPath 43 = .ok (.ireturn, 1) := by decide +kernel
theorem dX9_nextOnPath_44 : decode cX9_nextOnPath 44 = .ok (.iinc 3 1, 3) := by decide +kernel
theorem dX9_nextOnPath_47 : decode cX9_nextOnPath 47 = .ok (.goto (-29), 3) := by decide +kernel
theorem dX9_nextOnPath_50 : decode cX9_nextOnPath 50 = .ok (.iconst (-1), 1) := by decide +kernel
theorem dX9_nextOnPath_51 : decode cX9_nextOnPath 51 = .ok (.ireturn, 1) := by decide +kernel
theorem dX10_init_0 : decode cX10_init 0 = .ok (.aload_n 0, 1) := by decide +kernel
theorem dX10_init_1 : decode cX10_init 1 = .ok (.invokespecial 3, 3) := by decide +kernel
theorem dX10_init_4 : decode cX10_init 4 = .ok (.aload_n 0, 1) := by decide +kernel
theorem dX10_init_5 : decode cX10_init 5 = .ok (.aload_n 1, 1) := by decide +kernel
theorem dX10_init_6 : decode cX10_init 6 = .ok (.putfield 9, 3) := by decide +kernel
theorem dX10_init_9 : decode cX10_init 9 = .ok (.aload_n 0, 1) := by decide +kernel
theorem dX10_init_10 : decode cX10_init 10 = .ok (.new 15, 3) := by decide +kernel
theorem dX10_init_13 : decode cX10_init 13 = .ok (.dup, 1) := by decide +kernel
theorem dX10_init_14 : decode cX10_init 14 = .ok (.aload_n 1, 1) := by decide +kernel
theorem dX10_init_15 : decode cX10_init 15 = .ok (.aload_n 2, 1) := by decide +kernel
theorem dX10_init_16 : decode cX10_init 16 = .ok (.getfield 17, 3) := by decide +kernel
theorem dX10_init_19 : decode cX10_init 19 = .ok (.invokespecial 23, 3) := by decide +kernel
theorem dX10_init_22 : decode cX10_init 22 = .ok (.putfield 26, 3) := by decide +kernel
theorem dX10_init_25 : decode cX10_init 25 = .ok (.aload_n 0, 1) := by decide +kernel
theorem dX10_init_26 : decode cX10_init 26 = .ok (.aload_n 2, 1) := by decide +kernel
theorem dX10_init_27 : decode cX10_init 27 = .ok (.putfield 30, 3) := by decide +kernel
theorem dX10_init_30 : decode cX10_init 30 = .ok (.return_, 1) := by decide +kernel
theorem dX10_read_0 : decode cX10_read 0 = .ok (.aload_n 0, 1) := by decide +kernel
theorem dX10_read_1 : decode cX10_read 1 = .ok (.aload_n 1, 1) := by decide +kernel
theorem dX10_read_2 : decode cX10_read 2 = .ok (.putfield 30, 3) := by decide +kernel
theorem dX10_read_5 : decode cX10_read 5 = .ok (.aload_n 0, 1) := by decide +kernel
theorem dX10_read_6 : decode cX10_read 6 = .ok (.getfield 30, 3) := by decide +kernel
theorem dX10_read_9 : decode cX10_read 9 = .ok (.invokevirtual 34, 3) := by decide +kernel
theorem dX10_read_12 : decode cX10_read 12 = .ok (.aload_n 0, 1) := by decide +kernel
theorem dX10_read_13 : decode cX10_read 13 = .ok (.getfield 9, 3) := by decide +kernel
theorem dX10_read_16 : decode cX10_read 16 = .ok (.iload_n 2, 1) := by decide +kernel
theorem dX10_read_17 : decode cX10_read 17 = .ok (.invokevirtual 37, 3) := by decide +kernel
theorem dX10_read_20 : decode cX10_read 20 = .ok (.iconst 0, 1) := by decide +kernel
theorem dX10_read_21 : decode cX10_read 21 = .ok (.istore_n 3, 1) := by decide +kernel
theorem dX10_read_22 : decode cX10_read 22 = .ok (.iload_n 3, 1) := by decide +kernel
theorem dX10_read_23 : decode cX10_read 23 = .ok (.bipush 80, 2) := by decide +kernel
theorem dX10_read_25 : decode cX10_read 25 = .ok (.if_icmp .gt 67, 3) := by decide +kernel
theorem dX10_read_28 : decode cX10_read 28 = .ok (.aload_n 0, 1) := by decide +kernel
theorem dX10_read_29 : decode cX10_read 29 = .ok (.getfield 9, 3) := by decide +kernel
theorem dX10_read_32 : decode cX10_read 32 = .ok (.getfield 43, 3) := by decide +kernel
theorem dX10_read_35 : decode cX10_read 35 = .ok (.ifCond .ne 5, 3) := by decide +kernel
theorem dX10_read_38 : decode cX10_read 38 = .ok (.iload_n 3, 1) := by decide +kernel
theorem dX10_read_39 : decode cX10_read 39 = .ok (.ireturn, 1) := by decide +kernel
theorem dX10_read_40 : decode cX10_read 40 = .ok (.iload_n 3, 1) := by decide +kernel
theorem dX10_read_41 : decode cX10_read 41 = .ok (.bipush 80, 2) := by decide +kernel
theorem dX10_read_43 : decode cX10_read 43 = .ok (.if_icmp .ne 22, 3) := by decide +kernel
theorem dX10_read_46 : decode cX10_read 46 = .ok (.aload_n 0, 1) := by decide +kernel
theorem dX10_read_47 : decode cX10_read 47 = .ok (.getfield 9, 3) := by decide +kernel
theorem dX10_read_50 : decode cX10_read 50 = .ok (.bipush 6, 2) := by decide +kernel
theorem dX10_read_52 : decode cX10_read 52 = .ok (.aload_n 0, 1) := by decide +kernel
theorem dX10_read_53 : decode cX10_read 53 = .ok (.getfield 9, 3) := by decide +kernel
theorem dX10_read_56 : decode cX10_read 56 = .ok (.getfield 47, 3) := by decide +kernel
theorem dX10_read_59 : decode cX10_read 59 = .ok (.invokevirtual 50, 3) := by decide +kernel
theorem dX10_read_62 : decode cX10_read 62 = .ok (.pop, 1) := by decide +kernel
theorem dX10_read_63 : decode cX10_read 63 = .ok (.iconst (-1), 1) := by decide +kernel
theorem dX10_read_64 : decode cX10_read 64 = .ok (.ireturn, 1) := by decide +kernel
theorem dX10_read_65 : decode cX10_read 65 = .ok (.aload_n 0, 1) := by decide +kernel
theorem dX10_read_66 : decode cX10_read 66 = .ok (.invokevirtual 54, 3) := by decide +kernel
theorem dX10_read_69 : decode cX10_read 69 = .ok (.ifCond .eq 15, 3) := by decide +kernel
theorem dX10_read_72 : decode cX10_read 72 = .ok (.aload_n 0, 1) := by decide +kernel
theorem dX10_read_73 : decode cX10_read 73 = .ok (.getfield 9, 3) := by decide +kernel
theorem dX10_read_76 : decode cX10_read 76 = .ok (.bipush 59, 2) := by decide +kernel
theorem dX10_read_78 : decode cX10_read 78 = .ok (.invokevirtual 58, 3) := by decide +kernel
theorem dX10_read_81 : decode cX10_read 81 = .ok (.ifCond .ne 5, 3) := by decide +kernel
theorem dX10_read_84 : decode cX10_read 84 = .ok (.iconst (-1), 1) := by decide +kernel
theorem dX10_read_85 : decode cX10_read 85 = .ok (.ireturn, 1) := by decide +kernel
theorem dX10_read_86 : decode cX10_read 86 = .ok (.iinc 3 1, 3) := by decide +kernel
theorem dX10_read_89 : decode cX10_read 89 = .ok (.goto (-67), 3) := by decide +kernel
theorem dX10_read_92 : decode cX10_read 92 = .ok (.iconst (-1), 1) := by decide +kernel
theorem dX10_read_93 : decode cX10_read 93 = .ok (.ireturn, 1) := by decide +kernel
theorem dX10_readStatement_0 : decode cX10_readStatement 0 = .ok (.aload_n 0, 1) := by decide +kernel
theorem dX10_readStatement_1 : decode cX10_readStatement 1 = .ok (.getfield 9, 3) := by decide +kernel
theorem dX10_readStatement_4 : decode cX10_readStatement 4 = .ok (.getfield 43, 3) := by decide +kernel
theorem dX10_readStatement_7 : decode cX10_readStatement 7 = .ok (.iconst 1, 1) := by decide +kernel
theorem dX10_readStatement_8 : decode cX10_readStatement 8 = .ok (.if_icmp .eq 11, 3) := by decide +kernel
theorem dX10_readStatement_11 : decode cX10_readStatement 11 = .ok (.aload_n 0, 1) := by decide +kernel
theorem dX10_readStatement_12 : decode cX10_readStatement 12 = .ok (.getfield 9, 3) := by decide +kernel
theorem dX10_readStatement_15 : decode cX10_readStatement 15 = .ok (.invokevirtual 62, 3) := by decide +kernel
theorem dX10_readStatement_18 : decode cX10_readStatement 18 = .ok (.ireturn, 1) := by decide +kernel
theorem dX10_readStatement_19 : decode cX10_readStatement 19 = .ok (.aload_n 0, 1) := by decide +kernel
theorem dX10_readStatement_20 : decode cX10_readStatement 20 = .ok (.getfield 9, 3) := by decide +kernel
theorem dX10_readStatement_23 : decode cX10_readStatement 23 = .ok (.getfield 65, 3) := by decide +kernel
theorem dX10_readStatement_26 : decode cX10_readStatement 26 = .ok (.tableswitch 329 0 19 #[94, 329, 329, 115, 329, 329, 136, 180, 159, 329, 329, 185, 329, 329, 190, 251, 312, 324, 312, 312], 94) := by decide +kernel
theorem dX10_readStatement_120 : decode cX10_readStatement 120 = .ok (.aload_n 0, 1) := by decide +kernel
theorem dX10_readStatement_121 : decode cX10_readStatement 121 = .ok (.iconst 0, 1) := by decide +kernel
theorem dX10_readStatement_122 : decode cX10_readStatement 122 = .ok (.invokevirtual 68, 3) := by decide +kernel
theorem dX10_readStatement_125 : decode cX10_readStatement 125 = .ok (.ifCond .eq 14, 3) := by decide +kernel
theorem dX10_readStatement_128 : decode cX10_readStatement 128 = .ok (.aload_n 0, 1) := by decide +kernel
theorem dX10_readStatement_129 : decode cX10_readStatement 129 = .ok (.invokevirtual 71, 3) := by decide +kernel
theorem dX10_readStatement_132 : decode cX10_readStatement 132 = .ok (.ifCond .eq 7, 3) := by decide +kernel
theorem dX10_readStatement_135 : decode cX10_readStatement 135 = .ok (.iconst 1, 1) := by decide +kernel
theorem dX10_readStatement_136 : decode cX10_readStatement 136 = .ok (.goto 4, 3) := by decide +kernel
theorem dX10_readStatement_139 : decode cX10_readStatement 139 = .ok (.iconst 0, 1) := by decide +kernel
theorem dX10_readStatement_140 : decode cX10_readStatement 140 = .ok (.ireturn, 1) := by decide +kernel
theorem dX10_readStatement_141 : decode cX10_readStatement 141 = .ok (.aload_n 0, 1) := by decide +kernel
theorem dX10_readStatement_142 : decode cX10_readStatement 142 = .ok (.iconst 1, 1) := by decide +kernel
theorem dX10_readStatement_143 : decode cX10_readStatement 143 = .ok (.invokevirtual 68, 3) := by decide +kernel
theorem dX10_readStatement_146 : decode cX10_readStatement 146 = .ok (.ifCond .eq 14, 3) := by decide +kernel
theorem dX10_readStatement_149 : decode cX10_readStatement 149 = .ok (.aload_n 0, 1) := by decide +kernel
theorem dX10_readStatement_150 : decode cX10_readStatement 150 = .ok (.invokevirtual 74, 3) := by decide +kernel
theorem dX10_readStatement_153 : decode cX10_readStatement 153 = .ok (.ifCond .eq 7, 3) := by decide +kernel
theorem dX10_readStatement_156 : decode cX10_readStatement 156 = .ok (.iconst 1, 1) := by decide +kernel
theorem dX10_readStatement_157 : decode cX10_readStatement 157 = .ok (.goto 4, 3) := by decide +kernel
theorem dX10_readStatement_160 : decode cX10_readStatement 160 = .ok (.iconst 0, 1) := by decide +kernel
theorem dX10_readStatement_161 : decode cX10_readStatement 161 = .ok (.ireturn, 1) := by decide +kernel
theorem dX10_readStatement_162 : decode cX10_readStatement 162 = .ok (.aload_n 0, 1) := by decide +kernel
theorem dX10_readStatement_163 : decode cX10_readStatement 163 = .ok (.iconst 2, 1) := by decide +kernel
theorem dX10_readStatement_164 : decode cX10_readStatement 164 = .ok (.invokevirtual 68, 3) := by decide +kernel
theorem dX10_readStatement_167 : decode cX10_readStatement 167 = .ok (.ifCond .eq 16, 3) := by decide +kernel
theorem dX10_readStatement_170 : decode cX10_readStatement 170 = .ok (.aload_n 0, 1) := by decide +kernel
theorem dX10_readStatement_171 : decode cX10_readStatement 171 = .ok (.iconst 2, 1) := by decide +kernel
theorem dX10_readStatement_172 : decode cX10_readStatement 172 = .ok (.invokevirtual 77, 3) := by decide +kernel
theorem dX10_readStatement_175 : decode cX10_readStatement 175 = .ok (.iconst (-1), 1) := by decide +kernel
theorem dX10_readStatement_176 : decode cX10_readStatement 176 = .ok (.if_icmp .eq 7, 3) := by decide +kernel
theorem dX10_readStatement_179 : decode cX10_readStatement 179 = .ok (.iconst 1, 1) := by decide +kernel
theorem dX10_readStatement_180 : decode cX10_readStatement 180 = .ok (.goto 4, 3) := by decide +kernel
theorem dX10_readStatement_183 : decode cX10_readStatement 183 = .ok (.iconst 0, 1) := by decide +kernel
theorem dX10_readStatement_184 : decode cX10_readStatement 184 = .ok (.ireturn, 1) := by decide +kernel
theorem dX10_readStatement_185 : decode cX10_readStatement 185 = .ok (.aload_n 0, 1) := by decide +kernel
theorem dX10_readStatement_186 : decode cX10_readStatement 186 = .ok (.iconst 3, 1) := by decide +kernel
theorem dX10_readStatement_187 : decode cX10_readStatement 187 = .ok (.invokevirtual 68, 3) := by decide +kernel
theorem dX10_readStatement_190 : decode cX10_readStatement 190 = .ok (.ifCond .eq 14, 3) := by decide +kernel
theorem dX10_readStatement_193 : decode cX10_readStatement 193 = .ok (.aload_n 0, 1) := by decide +kernel
theorem dX10_readStatement_194 : decode cX10_readStatement 194 = .ok (.invokevirtual 81, 3) := by decide +kernel
theorem dX10_readStatement_197 : decode cX10_readStatement 197 = .ok (.ifCond .eq 7, 3) := by decide +kernel
theorem dX10_readStatement_200 : decode cX10_readStatement 200 = .ok (.iconst 1, 1) := by decide +kernel
theorem dX10_readStatement_201 : decode cX10_readStatement 201 = .ok (.goto 4, 3) := by decide +kernel
theorem dX10_readStatement_204 : decode cX10_readStatement 204 = .ok (.iconst 0, 1) := by decide +kernel
theorem dX10_readStatement_205 : decode cX10_readStatement 205 = .ok (.ireturn, 1) := by decide +kernel
theorem dX10_readStatement_206 : decode cX10_readStatement 206 = .ok (.aload_n 0, 1) := by decide +kernel
theorem dX10_readStatement_207 : decode cX10_readStatement 207 = .ok (.invokevirtual 84, 3) := by decide +kernel
theorem dX10_readStatement_210 : decode cX10_readStatement 210 = .ok (.ireturn, 1) := by decide +kernel
theorem dX10_readStatement_211 : decode cX10_readStatement 211 = .ok (.aload_n 0, 1) := by decide +kernel
theorem dX10_readStatement_212 : decode cX10_readStatement 212 = .ok (.invokevirtual 87, 3) := by decide +kernel
theorem dX10_readStatement_215 : decode cX10_readStatement 215 = .ok (.ireturn, 1) := by decide +kernel
theorem dX10_readStatement_216 : decode cX10_readStatement 216 = .ok (.aload_n 0, 1) := by decide +kernel
theorem dX10_readStatement_217 : decode cX10_readStatement 217 = .ok (.aload_n 0, 1) := by decide +kernel
theorem dX10_readStatement_218 : decode cX10_readStatement 218 = .ok (.getfield 30, 3) := by decide +kernel
theorem dX10_readStatement_221 : decode cX10_readStatement 221 = .ok (.getfield 17, 3) := by decide +kernel
theorem dX10_readStatement_224 : decode cX10_readStatement 224 = .ok (.invokevirtual 90, 3) := by decide +kernel
theorem dX10_readStatement_227 : decode cX10_readStatement 227 = .ok (.invokevirtual 95, 3) := by decide +kernel
theorem dX10_readStatement_230 : decode cX10_readStatement 230 = .ok (.ifCond .eq 45, 3) := by decide +kernel
theorem dX10_readStatement_233 : decode cX10_readStatement 233 = .ok (.aload_n 0, 1) := by decide +kernel
theorem dX10_readStatement_234 : decode cX10_readStatement 234 = .ok (.getfield 26, 3) := by decide +kernel
theorem dX10_readStatement_237 : decode cX10_readStatement 237 = .ok (.aload_n 0, 1) := by decide +kernel
theorem dX10_readStatement_238 : decode cX10_readStatement 238 = .ok (.getfield 30, 3) := by decide +kernel
theorem dX10_readStatement_241 : decode cX10_readStatement 241 = .ok (.getfield 17, 3) := by decide +kernel
theorem dX10_readStatement_244 : decode cX10_readStatement 244 = .ok (.invokevirtual 99, 3) := by decide +kernel
theorem dX10_readStatement_247 : decode cX10_readStatement 247 = .ok (.ifCond .eq 28, 3) := by decide +kernel
theorem dX10_readStatement_250 : decode cX10_readStatement 250 = .ok (.aload_n 0, 1) := by decide +kernel
theorem dX10_readStatement_251 : decode cX10_readStatement 251 = .ok (.getfield 26, 3) := by decide +kernel
theorem dX10_readStatement_254 : decode cX10_readStatement 254 = .ok (.iconst 0, 1) := by decide +kernel
theorem dX10_readStatement_255 : decode cX10_readStatement 255 = .ok (.invokevirtual 103, 3) := by decide +kernel
theorem dX10_readStatement_258 : decode cX10_readStatement 258 = .ok (.ifCond .eq 17, 3) := by decide +kernel
theorem dX10_readStatement_261 : decode cX10_readStatement 261 = .ok (.aload_n 0, 1) := by decide +kernel
theorem dX10_readStatement_262 : decode cX10_readStatement 262 = .ok (.getfield 26, 3) := by decide +kernel
theorem dX10_readStatement_265 : decode cX10_readStatement 265 = .ok (.invokevirtual 106, 3) := by decide +kernel
theorem dX10_readStatement_268 : decode cX10_readStatement 268 = .ok (.ifCond .eq 7, 3) := by decide +kernel
theorem dX10_readStatement_271 : decode cX10_readStatement 271 = .ok (.iconst 1, 1) := by decide +kernel
theorem dX10_readStatement_272 : decode cX10_readStatement 272 = .ok (.goto 4, 3) := by decide +kernel
theorem dX10_readStatement_275 : decode cX10_readStatement 275 = .ok (.iconst 0, 1) := by decide +kernel
theorem dX10_readStatement_276 : decode cX10_readStatement 276 = .ok (.ireturn, 1) := by decide +kernel
theorem dX10_readStatement_277 : decode cX10_readStatement 277 = .ok (.aload_n 0, 1) := by decide +kernel
theorem dX10_readStatement_278 : decode cX10_readStatement 278 = .ok (.aload_n 0, 1) := by decide +kernel
theorem dX10_readStatement_279 : decode cX10_readStatement 279 = .ok (.getfield 30, 3) := by decide +kernel
theorem dX10_readStatement_282 : decode cX10_readStatement 282 = .ok (.getfield 17, 3) := by decide +kernel
theorem dX10_readStatement_285 : decode cX10_readStatement 285 = .ok (.invokevirtual 109, 3) := by decide +kernel
theorem dX10_readStatement_288 : decode cX10_readStatement 288 = .ok (.invokevirtual 95, 3) := by decide +kernel
theorem dX10_readStatement_291 : decode cX10_readStatement 291 = .ok (.ifCond .eq 45, 3) := by decide +kernel
theorem dX10_readStatement_294 : decode cX10_readStatement 294 = .ok (.aload_n 0, 1) := by decide +kernel
theorem dX10_readStatement_295 : decode cX10_readStatement 295 = .ok (.getfield 26, 3) := by decide +kernel
theorem dX10_readStatement_298 : decode cX10_readStatement 298 = .ok (.aload_n 0, 1) := by decide +kernel
theorem dX10_readStatement_299 : decode cX10_readStatement 299 = .ok (.getfield 30, 3) := by decide +kernel
theorem dX10_readStatement_302 : decode cX10_readStatement 302 = .ok (.getfield 17, 3) := by decide +kernel
theorem dX10_readStatement_305 : decode cX10_readStatement 305 = .ok (.invokevirtual 112, 3) := by decide +kernel
theorem dX10_readStatement_308 : decode cX10_readStatement 308 = .ok (.ifCond .eq 28, 3) := by decide +kernel
theorem dX10_readStatement_311 : decode cX10_readStatement 311 = .ok (.aload_n 0, 1) := by decide +kernel
theorem dX10_readStatement_312 : decode cX10_readStatement 312 = .ok (.getfield 26, 3) := by decide +kernel
theorem dX10_readStatement_315 : decode cX10_readStatement 315 = .ok (.iconst 0, 1) := by decide +kernel
theorem dX10_readStatement_316 : decode cX10_readStatement 316 = .ok (.invokevirtual 115, 3) := by decide +kernel
theorem dX10_readStatement_319 : decode cX10_readStatement 319 = .ok (.ifCond .eq 17, 3) := by decide +kernel
theorem dX10_readStatement_322 : decode cX10_readStatement 322 = .ok (.aload_n 0, 1) := by decide +kernel
theorem dX10_readStatement_323 : decode cX10_readStatement 323 = .ok (.getfield 26, 3) := by decide +kernel
theorem dX10_readStatement_326 : decode cX10_readStatement 326 = .ok (.invokevirtual 118, 3) := by decide +kernel
theorem dX10_readStatement_329 : decode cX10_readStatement 329 = .ok (.ifCond .eq 7, 3) := by decide +kernel
theorem dX10_readStatement_332 : decode cX10_readStatement 332 = .ok (.iconst 1, 1) := by decide +kernel
theorem dX10_readStatement_333 : decode cX10_readStatement 333 = .ok (.goto 4, 3) := by decide +kernel
theorem dX10_readStatement_336 : decode cX10_readStatement 336 = .ok (.iconst 0, 1) := by decide +kernel
theorem dX10_readStatement_337 : decode cX10_readStatement 337 = .ok (.ireturn, 1) := by decide +kernel
theorem dX10_readStatement_338 : decode cX10_readStatement 338 = .ok (.aload_n 0, 1) := by decide +kernel
theorem dX10_readStatement_339 : decode cX10_readStatement 339 = .ok (.aload_n 0, 1) := by decide +kernel
theorem dX10_readStatement_340 : decode cX10_readStatement 340 = .ok (.getfield 9, 3) := by decide +kernel
theorem dX10_readStatement_343 : decode cX10_readStatement 343 = .ok (.getfield 65, 3) := by decide +kernel
theorem dX10_readStatement_346 : decode cX10_readStatement 346 = .ok (.invokevirtual 121, 3) := by decide +kernel
theorem dX10_readStatement_349 : decode cX10_readStatement 349 = .ok (.ireturn, 1) := by decide +kernel
theorem dX10_readStatement_350 : decode cX10_readStatement 350 = .ok (.aload_n 0, 1) := by decide +kernel
theorem dX10_readStatement_351 : decode cX10_readStatement 351 = .ok (.invokevirtual 124, 3) := by decide +kernel
theorem dX10_readStatement_354 : decode cX10_readStatement 354 = .ok (.ireturn, 1) := by decide +kernel
theorem dX10_readStatement_355 : decode cX10_readStatement 355 = .ok (.aload_n 0, 1) := by decide +kernel
theorem dX10_readStatement_356 : decode cX10_readStatement 356 = .ok (.getfield 9, 3) := by decide +kernel
theorem dX10_readStatement_359 : decode cX10_readStatement 359 = .ok (.invokevirtual 62, 3) := by decide +kernel
theorem dX10_readStatement_362 : decode cX10_readStatement 362 = .ok (.ireturn, 1) := by decide +kernel
theorem dX10_opensSort_0 : decode cX10_opensSort 0 = .ok (.aload_n 0, 1) := by decide +kernel
theorem dX10_opensSort_1 : decode cX10_opensSort 1 = .ok (.aload_n 0, 1) := by decide +kernel
theorem dX10_opensSort_2 : decode cX10_opensSort 2 = .ok (.getfield 30, 3) := by decide +kernel
theorem dX10_opensSort_5 : decode cX10_opensSort 5 = .ok (.iload_n 1, 1) := by decide +kernel
theorem dX10_opensSort_6 : decode cX10_opensSort 6 = .ok (.invokevirtual 127, 3) := by decide +kernel
theorem dX10_opensSort_9 : decode cX10_opensSort 9 = .ok (.invokevirtual 95, 3) := by decide +kernel
theorem dX10_opensSort_12 : decode cX10_opensSort 12 = .ok (.ireturn, 1) := by decide +kernel
theorem dX10_opensRule_0 : decode cX10_opensRule 0 = .ok (.iload_n 1, 1) := by decide +kernel
theorem dX10_opensRule_1 : decode cX10_opensRule 1 = .ok (.ifCond .eq 20, 3) := by decide +kernel
theorem dX10_opensRule_4 : decode cX10_opensRule 4 = .ok (.aload_n 0, 1) := by decide +kernel
theorem dX10_opensRule_5 : decode cX10_opensRule 5 = .ok (.getfield 9, 3) := by decide +kernel
theorem dX10_opensRule_8 : decode cX10_opensRule 8 = .ok (.bipush 6, 2) := by decide +kernel
theorem dX10_opensRule_10 : decode cX10_opensRule 10 = .ok (.aload_n 0, 1) := by decide +kernel
theorem dX10_opensRule_11 : decode cX10_opensRule 11 = .ok (.getfield 9, 3) := by decide +kernel
theorem dX10_opensRule_14 : decode cX10_opensRule 14 = .ok (.getfield 47, 3) := by decide +kernel
theorem dX10_opensRule_17 : decode cX10_opensRule 17 = .ok (.invokevirtual 50, 3) := by decide +kernel
theorem dX10_opensRule_20 : decode cX10_opensRule 20 = .ok (.ireturn, 1) := by decide +kernel
theorem dX10_opensRule_21 : decode cX10_opensRule 21 = .ok (.aload_n 0, 1) := by decide +kernel
theorem dX10_opensRule_22 : decode cX10_opensRule 22 = .ok (.getfield 9, 3) := by decide +kernel
theorem dX10_opensRule_25 : decode cX10_opensRule 25 = .ok (.invokevirtual 130, 3) := by decide +kernel
theorem dX10_opensRule_28 : decode cX10_opensRule 28 = .ok (.iconst 1, 1) := by decide +kernel
theorem dX10_opensRule_29 : decode cX10_opensRule 29 = .ok (.ireturn, 1) := by decide +kernel
theorem dX10_readKind_0 : decode cX10_readKind 0 = .ok (.aload_n 0, 1) := by decide +kernel
theorem dX10_readKind_1 : decode cX10_readKind 1 = .ok (.iconst 0, 1) := by decide +kernel
theorem dX10_readKind_2 : decode cX10_readKind 2 = .ok (.invokevirtual 77, 3) := by decide +kernel
theorem dX10_readKind_5 : decode cX10_readKind 5 = .ok (.istore_n 1, 1) := by decide +kernel
theorem dX10_readKind_6 : decode cX10_readKind 6 = .ok (.iload_n 1, 1) := by decide +kernel
theorem dX10_readKind_7 : decode cX10_readKind 7 = .ok (.iconst (-1), 1) := by decide +kernel
theorem dX10_readKind_8 : decode cX10_readKind 8 = .ok (.if_icmp .eq 14, 3) := by decide +kernel
theorem dX10_readKind_11 : decode cX10_readKind 11 = .ok (.aload_n 0, 1) := by decide +kernel
theorem dX10_readKind_12 : decode cX10_readKind 12 = .ok (.getfield 9, 3) := by decide +kernel
theorem dX10_readKind_15 : decode cX10_readKind 15 = .ok (.iconst 1, 1) := by decide +kernel
theorem dX10_readKind_16 : decode cX10_readKind 16 = .ok (.invokevirtual 133, 3) := by decide +kernel
theorem dX10_readKind_19 : decode cX10_readKind 19 = .ok (.ifCond .ne 5, 3) := by decide +kernel
theorem dX10_readKind_22 : decode cX10_readKind 22 = .ok (.iconst 0, 1) := by decide +kernel
theorem dX10_readKind_23 : decode cX10_readKind 23 = .ok (.ireturn, 1) := by decide +kernel
theorem dX10_readKind_24 : decode cX10_readKind 24 = .ok (.aload_n 0, 1) := by decide +kernel
theorem dX10_readKind_25 : decode cX10_readKind 25 = .ok (.getfield 9, 3) := by decide +kernel
theorem dX10_readKind_28 : decode cX10_readKind 28 = .ok (.iconst 0, 1) := by decide +kernel
theorem dX10_readKind_29 : decode cX10_readKind 29 = .ok (.sipush 9999, 3) := by decide +kernel
theorem dX10_readKind_32 : decode cX10_readKind 32 = .ok (.invokevirtual 136, 3) := by decide +kernel
theorem dX10_readKind_35 : decode cX10_readKind 35 = .ok (.istore_n 2, 1) := by decide +kernel
theorem dX10_readKind_36 : decode cX10_readKind 36 = .ok (.iload_n 2, 1) := by decide +kernel
theorem dX10_readKind_37 : decode cX10_readKind 37 = .ok (.iconst (-1), 1) := by decide +kernel
theorem dX10_readKind_38 : decode cX10_readKind 38 = .ok (.if_icmp .eq 14, 3) := by decide +kernel
theorem dX10_readKind_41 : decode cX10_readKind 41 = .ok (.aload_n 0, 1) := by decide +kernel
theorem dX10_readKind_42 : decode cX10_readKind 42 = .ok (.getfield 9, 3) := by decide +kernel
theorem dX10_readKind_45 : decode cX10_readKind 45 = .ok (.iconst 2, 1) := by decide +kernel
theorem dX10_readKind_46 : decode cX10_readKind 46 = .ok (.invokevirtual 133, 3) := by decide +kernel
theorem dX10_readKind_49 : decode cX10_readKind 49 = .ok (.ifCond .ne 5, 3) := by decide +kernel
theorem dX10_readKind_52 : decode cX10_readKind 52 = .ok (.iconst 0, 1) := by decide +kernel
theorem dX10_readKind_53 : decode cX10_readKind 53 = .ok (.ireturn, 1) := by decide +kernel
theorem dX10_readKind_54 : decode cX10_readKind 54 = .ok (.aload_n 0, 1) := by decide +kernel
theorem dX10_readKind_55 : decode cX10_readKind 55 = .ok (.getfield 9, 3) := by decide +kernel
theorem dX10_readKind_58 : decode cX10_readKind 58 = .ok (.iload_n 2, 1) := by decide +kernel
theorem dX10_readKind_59 : decode cX10_readKind 59 = .ok (.invokestatic 140, 3) := by decide +kernel
theorem dX10_readKind_62 : decode cX10_readKind 62 = .ok (.bipush 30, 2) := by decide +kernel
theorem dX10_readKind_64 : decode cX10_readKind 64 = .ok (.invokevirtual 136, 3) := by decide +kernel
theorem dX10_readKind_67 : decode cX10_readKind 67 = .ok (.istore_n 3, 1) := by decide +kernel
theorem dX10_readKind_68 : decode cX10_readKind 68 = .ok (.iload_n 3, 1) := by decide +kernel
theorem dX10_readKind_69 : decode cX10_readKind 69 = .ok (.iconst (-1), 1) := by decide +kernel
theorem dX10_readKind_70 : decode cX10_readKind 70 = .ok (.if_icmp .eq 9, 3) := by decide +kernel
theorem dX10_readKind_73 : decode cX10_readKind 73 = .ok (.iload_n 1, 1) := by decide +kernel
theorem dX10_readKind_74 : decode cX10_readKind 74 = .ok (.bipush 6, 2) := by decide +kernel
theorem dX10_readKind_76 : decode cX10_readKind 76 = .ok (.if_icmp .lt 5, 3) := by decide +kernel
theorem dX10_readKind_79 : decode cX10_readKind 79 = .ok (.iconst 0, 1) := by decide +kernel
theorem dX10_readKind_80 : decode cX10_readKind 80 = .ok (.ireturn, 1) := by decide +kernel
theorem dX10_readKind_81 : decode cX10_readKind 81 = .ok (.aload_n 0, 1) := by decide +kernel
theorem dX10_readKind_82 : decode cX10_readKind 82 = .ok (.getfield 30, 3) := by decide +kernel
theorem dX10_readKind_85 : decode cX10_readKind 85 = .ok (.getfield 143, 3) := by decide +kernel
theorem dX10_readKind_88 : decode cX10_readKind 88 = .ok (.iload_n 1, 1) := by decide +kernel
theorem dX10_readKind_89 : decode cX10_readKind 89 = .ok (.iload_n 2, 1) := by decide +kernel
theorem dX10_readKind_90 : decode cX10_readKind 90 = .ok (.iastore, 1) := by decide +kernel
theorem dX10_readKind_91 : decode cX10_readKind 91 = .ok (.aload_n 0, 1) := by decide +kernel
theorem dX10_readKind_92 : decode cX10_readKind 92 = .ok (.getfield 30, 3) := by decide +kernel
theorem dX10_readKind_95 : decode cX10_readKind 95 = .ok (.getfield 147, 3) := by decide +kernel
theorem dX10_readKind_98 : decode cX10_readKind 98 = .ok (.iload_n 1, 1) := by decide +kernel
theorem dX10_readKind_99 : decode cX10_readKind 99 = .ok (.iload_n 3, 1) := by decide +kernel
theorem dX10_readKind_100 : decode cX10_readKind 100 = .ok (.iastore, 1) := by decide +kernel
theorem dX10_readKind_101 : decode cX10_readKind 101 = .ok (.iconst 1, 1) := by decide +kernel
theorem dX10_readKind_102 : decode cX10_readKind 102 = .ok (.ireturn, 1) := by decide +kernel
theorem dX10_leastRound_0 : decode cX10_leastRound 0 = .ok (.iconst 2, 1) := by decide +kernel
theorem dX10_leastRound_1 : decode cX10_leastRound 1 = .ok (.iload_n 0, 1) := by decide +kernel
theorem dX10_leastRound_2 : decode cX10_leastRound 2 = .ok (.iconst 1, 1) := by decide +kernel
theorem dX10_leastRound_3 : decode cX10_leastRound 3 = .ok (.iadd, 1) := by decide +kernel
theorem dX10_leastRound_4 : decode cX10_leastRound 4 = .ok (.invokestatic 150, 3) := by decide +kernel
theorem dX10_leastRound_7 : decode cX10_leastRound 7 = .ok (.ireturn, 1) := by decide +kernel
theorem dX10_readTool_0 : decode cX10_readTool 0 = .ok (.aload_n 0, 1) := by decide +kernel
theorem dX10_readTool_1 : decode cX10_readTool 1 = .ok (.iconst 1, 1) := by decide +kernel
theorem dX10_readTool_2 : decode cX10_readTool 2 = .ok (.invokevirtual 77, 3) := by decide +kernel
theorem dX10_readTool_5 : decode cX10_readTool 5 = .ok (.istore_n 1, 1) := by decide +kernel
theorem dX10_readTool_6 : decode cX10_readTool 6 = .ok (.iload_n 1, 1) := by decide +kernel
theorem dX10_readTool_7 : decode cX10_readTool 7 = .ok (.iconst (-1), 1) := by decide +kernel
theorem dX10_readTool_8 : decode cX10_readTool 8 = .ok (.if_icmp .eq 14, 3) := by decide +kernel
theorem dX10_readTool_11 : decode cX10_readTool 11 = .ok (.aload_n 0, 1) := by decide +kernel
theorem dX10_readTool_12 : decode cX10_readTool 12 = .ok (.getfield 9, 3) := by decide +kernel
theorem dX10_readTool_15 : decode cX10_readTool 15 = .ok (.iconst 4, 1) := by decide +kernel
theorem dX10_readTool_16 : decode cX10_readTool 16 = .ok (.invokevirtual 133, 3) := by decide +kernel
theorem dX10_readTool_19 : decode cX10_readTool 19 = .ok (.ifCond .ne 5, 3) := by decide +kernel
theorem dX10_readTool_22 : decode cX10_readTool 22 = .ok (.iconst 0, 1) := by decide +kernel
theorem dX10_readTool_23 : decode cX10_readTool 23 = .ok (.ireturn, 1) := by decide +kernel
theorem dX10_readTool_24 : decode cX10_readTool 24 = .ok (.aload_n 0, 1) := by decide +kernel
theorem dX10_readTool_25 : decode cX10_readTool 25 = .ok (.iconst 0, 1) := by decide +kernel
theorem dX10_readTool_26 : decode cX10_readTool 26 = .ok (.iconst (-1), 1) := by decide +kernel
theorem dX10_readTool_27 : decode cX10_readTool 27 = .ok (.invokevirtual 155, 3) := by decide +kernel
theorem dX10_readTool_30 : decode cX10_readTool 30 = .ok (.istore_n 2, 1) := by decide +kernel
theorem dX10_readTool_31 : decode cX10_readTool 31 = .ok (.iload_n 2, 1) := by decide +kernel
theorem dX10_readTool_32 : decode cX10_readTool 32 = .ok (.iconst (-1), 1) := by decide +kernel
theorem dX10_readTool_33 : decode cX10_readTool 33 = .ok (.if_icmp .eq 14, 3) := by decide +kernel
theorem dX10_readTool_36 : decode cX10_readTool 36 = .ok (.aload_n 0, 1) := by decide +kernel
theorem dX10_readTool_37 : decode cX10_readTool 37 = .ok (.getfield 9, 3) := by decide +kernel
theorem dX10_readTool_40 : decode cX10_readTool 40 = .ok (.iconst 5, 1) := by decide +kernel
theorem dX10_readTool_41 : decode cX10_readTool 41 = .ok (.invokevirtual 133, 3) := by decide +kernel
theorem dX10_readTool_44 : decode cX10_readTool 44 = .ok (.ifCond .ne 5, 3) := by decide +kernel
theorem dX10_readTool_47 : decode cX10_readTool 47 = .ok (.iconst 0, 1) := by decide +kernel
theorem dX10_readTool_48 : decode cX10_readTool 48 = .ok (.ireturn, 1) := by decide +kernel
theorem dX10_readTool_49 : decode cX10_readTool 49 = .ok (.aload_n 0, 1) := by decide +kernel
theorem dX10_readTool_50 : decode cX10_readTool 50 = .ok (.getfield 9, 3) := by decide +kernel
theorem dX10_readTool_53 : decode cX10_readTool 53 = .ok (.iconst 0, 1) := by decide +kernel
theorem dX10_readTool_54 : decode cX10_readTool 54 = .ok (.bipush 99, 2) := by decide +kernel
theorem dX10_readTool_56 : decode cX10_readTool 56 = .ok (.invokevirtual 136, 3) := by decide +kernel
theorem dX10_readTool_59 : decode cX10_readTool 59 = .ok (.istore_n 3, 1) := by decide +kernel
theorem dX10_readTool_60 : decode cX10_readTool 60 = .ok (.iload_n 3, 1) := by decide +kernel
theorem dX10_readTool_61 : decode cX10_readTool 61 = .ok (.iconst (-1), 1) := by decide +kernel
theorem dX10_readTool_62 : decode cX10_readTool 62 = .ok (.if_icmp .eq 9, 3) := by decide +kernel
theorem dX10_readTool_65 : decode cX10_readTool 65 = .ok (.iload_n 1, 1) := by decide +kernel
theorem dX10_readTool_66 : decode cX10_readTool 66 = .ok (.bipush 8, 2) := by decide +kernel
theorem dX10_readTool_68 : decode cX10_readTool 68 = .ok (.if_icmp .lt 5, 3) := by decide +kernel
theorem dX10_readTool_71 : decode cX10_readTool 71 = .ok (.iconst 0, 1) := by decide +kernel
theorem dX10_readTool_72 : decode cX10_readTool 72 = .ok (.ireturn, 1) := by decide +kernel
theorem dX10_readTool_73 : decode cX10_readTool 73 = .ok (.aload_n 0, 1) := by decide +kernel
theorem dX10_readTool_74 : decode cX10_readTool 74 = .ok (.getfield 30, 3) := by decide +kernel
theorem dX10_readTool_77 : decode cX10_readTool 77 = .ok (.getfield 158, 3) := by decide +kernel
theorem dX10_readTool_80 : decode cX10_readTool 80 = .ok (.iload_n 1, 1) := by decide +kernel
theorem dX10_readTool_81 : decode cX10_readTool 81 = .ok (.iload_n 2, 1) := by decide +kernel
theorem dX10_readTool_82 : decode cX10_readTool 82 = .ok (.iastore, 1) := by decide +kernel
theorem dX10_readTool_83 : decode cX10_readTool 83 = .ok (.aload_n 0, 1) := by decide +kernel
theorem dX10_readTool_84 : decode cX10_readTool 84 = .ok (.getfield 30, 3) := by decide +kernel
theorem dX10_readTool_87 : decode cX10_readTool 87 = .ok (.getfield 161, 3) := by decide +kernel
theorem dX10_readTool_90 : decode cX10_readTool 90 = .ok (.iload_n 1, 1) := by decide +kernel
theorem dX10_readTool_91 : decode cX10_readTool 91 = .ok (.iload_n 3, 1) := by decide +kernel
theorem dX10_readTool_92 : decode cX10_readTool 92 = .ok (.iastore, 1) := by decide +kernel
theorem dX10_readTool_93 : decode cX10_readTool 93 = .ok (.iconst 1, 1) := by decide +kernel
theorem dX10_readTool_94 : decode cX10_readTool 94 = .ok (.ireturn, 1) := by decide +kernel
theorem dX10_readKnows_0 : decode cX10_readKnows 0 = .ok (.aload_n 0, 1) := by decide +kernel
theorem dX10_readKnows_1 : decode cX10_readKnows 1 = .ok (.getfield 9, 3) := by decide +kernel
theorem dX10_readKnows_4 : decode cX10_readKnows 4 = .ok (.invokevirtual 130, 3) := by decide +kernel
theorem dX10_readKnows_7 : decode cX10_readKnows 7 = .ok (.aload_n 0, 1) := by decide +kernel
theorem dX10_readKnows_8 : decode cX10_readKnows 8 = .ok (.iconst 2, 1) := by decide +kernel
theorem dX10_readKnows_9 : decode cX10_readKnows 9 = .ok (.iconst (-1), 1) := by decide +kernel
theorem dX10_readKnows_10 : decode cX10_readKnows 10 = .ok (.invokevirtual 155, 3) := by decide +kernel
theorem dX10_readKnows_13 : decode cX10_readKnows 13 = .ok (.istore_n 1, 1) := by decide +kernel
theorem dX10_readKnows_14 : decode cX10_readKnows 14 = .ok (.iload_n 1, 1) := by decide +kernel
theorem dX10_readKnows_15 : decode cX10_readKnows 15 = .ok (.iconst (-1), 1) := by decide +kernel
theorem dX10_readKnows_16 : decode cX10_readKnows 16 = .ok (.if_icmp .ne 7, 3) := by decide +kernel
theorem dX10_readKnows_19 : decode cX10_readKnows 19 = .ok (.iconst (-1), 1) := by decide +kernel
theorem dX10_readKnows_20 : decode cX10_readKnows 20 = .ok (.goto 9, 3) := by decide +kernel
theorem dX10_readKnows_23 : decode cX10_readKnows 23 = .ok (.aload_n 0, 1) := by decide +kernel
theorem dX10_readKnows_24 : decode cX10_readKnows 24 = .ok (.iconst 1, 1) := by decide +kernel
theorem dX10_readKnows_25 : decode cX10_readKnows 25 = .ok (.iconst (-1), 1) := by decide +kernel
theorem dX10_readKnows_26 : decode cX10_readKnows 26 = .ok (.invokevirtual 155, 3) := by decide +kernel
theorem dX10_readKnows_29 : decode cX10_readKnows 29 = .ok (.istore_n 2, 1) := by decide +kernel
theorem dX10_readKnows_30 : decode cX10_readKnows 30 = .ok (.iload_n 2, 1) := by decide +kernel
theorem dX10_readKnows_31 : decode cX10_readKnows 31 = .ok (.iconst (-1), 1) := by decide +kernel
theorem dX10_readKnows_32 : decode cX10_readKnows 32 = .ok (.if_icmp .ne 7, 3) := by decide +kernel
theorem dX10_readKnows_35 : decode cX10_readKnows 35 = .ok (.iconst (-1), 1) := by decide +kernel
theorem dX10_readKnows_36 : decode cX10_readKnows 36 = .ok (.goto 13, 3) := by decide +kernel
theorem dX10_readKnows_39 : decode cX10_readKnows 39 = .ok (.aload_n 0, 1) := by decide +kernel
theorem dX10_readKnows_40 : decode cX10_readKnows 40 = .ok (.getfield 9, 3) := by decide +kernel
theorem dX10_readKnows_43 : decode cX10_readKnows 43 = .ok (.iconst 0, 1) := by decide +kernel
theorem dX10_readKnows_44 : decode cX10_readKnows 44 = .ok (.bipush 9, 2) := by decide +kernel
theorem dX10_readKnows_46 : decode cX10_readKnows 46 = .ok (.invokevirtual 136, 3) := by decide +kernel
theorem dX10_readKnows_49 : decode cX10_readKnows 49 = .ok (.istore_n 3, 1) := by decide +kernel
theorem dX10_readKnows_50 : decode cX10_readKnows 50 = .ok (.iload_n 3, 1) := by decide +kernel
theorem dX10_readKnows_51 : decode cX10_readKnows 51 = .ok (.iconst (-1), 1) := by decide +kernel
theorem dX10_readKnows_52 : decode cX10_readKnows 52 = .ok (.if_icmp .eq 15, 3) := by decide +kernel
theorem dX10_readKnows_55 : decode cX10_readKnows 55 = .ok (.iload_n 1, 1) := by decide +kernel
theorem dX10_readKnows_56 : decode cX10_readKnows 56 = .ok (.bipush 6, 2) := by decide +kernel
theorem dX10_readKnows_58 : decode cX10_readKnows 58 = .ok (.if_icmp .ge 9, 3) := by decide +kernel
theorem dX10_readKnows_61 : decode cX10_readKnows 61 = .ok (.iload_n 2, 1) := by decide +kernel
theorem dX10_readKnows_62 : decode cX10_readKnows 62 = .ok (.bipush 8, 2) := by decide +kernel
theorem dX10_readKnows_64 : decode cX10_readKnows 64 = .ok (.if_icmp .lt 5, 3) := by decide +kernel
theorem dX10_readKnows_67 : decode cX10_readKnows 67 = .ok (.iconst 0, 1) := by decide +kernel
theorem dX10_readKnows_68 : decode cX10_readKnows 68 = .ok (.ireturn, 1) := by decide +kernel
theorem dX10_readKnows_69 : decode cX10_readKnows 69 = .ok (.aload_n 0, 1) := by decide +kernel
theorem dX10_readKnows_70 : decode cX10_readKnows 70 = .ok (.getfield 30, 3) := by decide +kernel
theorem dX10_readKnows_73 : decode cX10_readKnows 73 = .ok (.getfield 164, 3) := by decide +kernel
theorem dX10_readKnows_76 : decode cX10_readKnows 76 = .ok (.iload_n 1, 1) := by decide +kernel
theorem dX10_readKnows_77 : decode cX10_readKnows 77 = .ok (.bipush 8, 2) := by decide +kernel
theorem dX10_readKnows_79 : decode cX10_readKnows 79 = .ok (.imul, 1) := by decide +kernel
theorem dX10_readKnows_80 : decode cX10_readKnows 80 = .ok (.iload_n 2, 1) := by decide +kernel
theorem dX10_readKnows_81 : decode cX10_readKnows 81 = .ok (.iadd, 1) := by decide +kernel
theorem dX10_readKnows_82 : decode cX10_readKnows 82 = .ok (.iload_n 3, 1) := by decide +kernel
theorem dX10_readKnows_83 : decode cX10_readKnows 83 = .ok (.iastore, 1) := by decide +kernel
theorem dX10_readKnows_84 : decode cX10_readKnows 84 = .ok (.iconst 1, 1) := by decide +kernel
theorem dX10_readKnows_85 : decode cX10_readKnows 85 = .ok (.ireturn, 1) := by decide +kernel
theorem dX10_readJob_0 : decode cX10_readJob 0 = .ok (.aload_n 0, 1) := by decide +kernel
theorem dX10_readJob_1 : decode cX10_readJob 1 = .ok (.iconst 3, 1) := by decide +kernel
theorem dX10_readJob_2 : decode cX10_readJob 2 = .ok (.invokevirtual 77, 3) := by decide +kernel
theorem dX10_readJob_5 : decode cX10_readJob 5 = .ok (.istore_n 1, 1) := by decide +kernel
theorem dX10_readJob_6 : decode cX10_readJob 6 = .ok (.iload_n 1, 1) := by decide +kernel
theorem dX10_readJob_7 : decode cX10_readJob 7 = .ok (.iconst (-1), 1) := by decide +kernel
theorem dX10_readJob_8 : decode cX10_readJob 8 = .ok (.if_icmp .eq 21, 3) := by decide +kernel
theorem dX10_readJob_11 : decode cX10_readJob 11 = .ok (.iload_n 1, 1) := by decide +kernel
theorem dX10_readJob_12 : decode cX10_readJob 12 = .ok (.bipush 6, 2) := by decide +kernel
theorem dX10_readJob_14 : decode cX10_readJob 14 = .ok (.if_icmp .ge 15, 3) := by decide +kernel
theorem dX10_readJob_17 : decode cX10_readJob 17 = .ok (.aload_n 0, 1) := by decide +kernel
theorem dX10_readJob_18 : decode cX10_readJob 18 = .ok (.getfield 9, 3) := by decide +kernel
theorem dX10_readJob_21 : decode cX10_readJob 21 = .ok (.bipush 9, 2) := by decide +kernel
theorem dX10_readJob_23 : decode cX10_readJob 23 = .ok (.invokevirtual 133, 3) := by decide +kernel
theorem dX10_readJob_26 : decode cX10_readJob 26 = .ok (.ifCond .ne 5, 3) := by decide +kernel
theorem dX10_readJob_29 : decode cX10_readJob 29 = .ok (.iconst 0, 1) := by decide +kernel
theorem dX10_readJob_30 : decode cX10_readJob 30 = .ok (.ireturn, 1) := by decide +kernel
theorem dX10_readJob_31 : decode cX10_readJob 31 = .ok (.aload_n 0, 1) := by decide +kernel
theorem dX10_readJob_32 : decode cX10_readJob 32 = .ok (.getfield 9, 3) := by decide +kernel
theorem dX10_readJob_35 : decode cX10_readJob 35 = .ok (.iconst 0, 1) := by decide +kernel
theorem dX10_readJob_36 : decode cX10_readJob 36 = .ok (.sipush 999, 3) := by decide +kernel
theorem dX10_readJob_39 : decode cX10_readJob 39 = .ok (.invokevirtual 136, 3) := by decide +kernel
theorem dX10_readJob_42 : decode cX10_readJob 42 = .ok (.istore_n 2, 1) := by decide +kernel
theorem dX10_readJob_43 : decode cX10_readJob 43 = .ok (.iload_n 2, 1) := by decide +kernel
theorem dX10_readJob_44 : decode cX10_readJob 44 = .ok (.iconst (-1), 1) := by decide +kernel
theorem dX10_readJob_45 : decode cX10_readJob 45 = .ok (.if_icmp .eq 15, 3) := by decide +kernel
theorem dX10_readJob_48 : decode cX10_readJob 48 = .ok (.aload_n 0, 1) := by decide +kernel
theorem dX10_readJob_49 : decode cX10_readJob 49 = .ok (.getfield 9, 3) := by decide +kernel
theorem dX10_readJob_52 : decode cX10_readJob 52 = .ok (.bipush 10, 2) := by decide +kernel
theorem dX10_readJob_54 : decode cX10_readJob 54 = .ok (.invokevirtual 133, 3) := by decide +kernel
theorem dX10_readJob_57 : decode cX10_readJob 57 = .ok (.ifCond .ne 5, 3) := by decide +kernel
theorem dX10_readJob_60 : decode cX10_readJob 60 = .ok (.iconst 0, 1) := by decide +kernel
