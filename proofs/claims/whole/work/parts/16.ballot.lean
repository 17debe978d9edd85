theorem dX0_open_0 : decode cX0_open 0 = .ok (.aload_n 0, 1) := by decide +kernel
theorem dX0_open_1 : decode cX0_open 1 = .ok (.iconst 0, 1) := by decide +kernel
theorem dX0_open_2 : decode cX0_open 2 = .ok (.putfield 15, 3) := by decide +kernel
theorem dX0_open_5 : decode cX0_open 5 = .ok (.return_, 1) := by decide +kernel
theorem dX0_cast_0 : decode cX0_cast 0 = .ok (.iload_n 1, 1) := by decide +kernel
theorem dX0_cast_1 : decode cX0_cast 1 = .ok (.iconst (-1), 1) := by decide +kernel
theorem dX0_cast_2 : decode cX0_cast 2 = .ok (.if_icmp .eq 32, 3) := by decide +kernel
theorem dX0_cast_5 : decode cX0_cast 5 = .ok (.aload_n 0, 1) := by decide +kernel
theorem dX0_cast_6 : decode cX0_cast 6 = .ok (.getfield 15, 3) := by decide +kernel
theorem dX0_cast_9 : decode cX0_cast 9 = .ok (.bipush 8, 2) := by decide +kernel
theorem dX0_cast_11 : decode cX0_cast 11 = .ok (.if_icmp .ge 23, 3) := by decide +kernel
theorem dX0_cast_14 : decode cX0_cast 14 = .ok (.aload_n 0, 1) := by decide +kernel
theorem dX0_cast_15 : decode cX0_cast 15 = .ok (.getfield 9, 3) := by decide +kernel
theorem dX0_cast_18 : decode cX0_cast 18 = .ok (.aload_n 0, 1) := by decide +kernel
theorem dX0_cast_19 : decode cX0_cast 19 = .ok (.getfield 15, 3) := by decide +kernel
theorem dX0_cast_22 : decode cX0_cast 22 = .ok (.iload_n 1, 1) := by decide +kernel
theorem dX0_cast_23 : decode cX0_cast 23 = .ok (.iastore, 1) := by decide +kernel
theorem dX0_cast_24 : decode cX0_cast 24 = .ok (.aload_n 0, 1) := by decide +kernel
theorem dX0_cast_25 : decode cX0_cast 25 = .ok (.dup, 1) := by decide +kernel
theorem dX0_cast_26 : decode cX0_cast 26 = .ok (.getfield 15, 3) := by decide +kernel
theorem dX0_cast_29 : decode cX0_cast 29 = .ok (.iconst 1, 1) := by decide +kernel
theorem dX0_cast_30 : decode cX0_cast 30 = .ok (.iadd, 1) := by decide +kernel
theorem dX0_cast_31 : decode cX0_cast 31 = .ok (.putfield 15, 3) := by decide +kernel
theorem dX0_cast_34 : decode cX0_cast 34 = .ok (.return_, 1) := by decide +kernel
theorem dX0_votesFor_0 : decode cX0_votesFor 0 = .ok (.iconst 0, 1) := by decide +kernel
theorem dX0_votesFor_1 : decode cX0_votesFor 1 = .ok (.istore_n 2, 1) := by decide +kernel
theorem dX0_votesFor_2 : decode cX0_votesFor 2 = .ok (.iconst 0, 1) := by decide +kernel
theorem dX0_votesFor_3 : decode cX0_votesFor 3 = .ok (.istore_n 3, 1) := by decide +kernel
theorem dX0_votesFor_4 : decode cX0_votesFor 4 = .ok (.iload_n 3, 1) := by decide +kernel
theorem dX0_votesFor_5 : decode cX0_votesFor 5 = .ok (.aload_n 0, 1) := by decide +kernel
theorem dX0_votesFor_6 : decode cX0_votesFor 6 = .ok (.getfield 15, 3) := by decide +kernel
theorem dX0_votesFor_9 : decode cX0_votesFor 9 = .ok (.if_icmp .ge 22, 3) := by decide +kernel
theorem dX0_votesFor_12 : decode cX0_votesFor 12 = .ok (.aload_n 0, 1) := by decide +kernel
theorem dX0_votesFor_13 : decode cX0_votesFor 13 = .ok (.getfield 9, 3) := by decide +kernel
theorem dX0_votesFor_16 : decode cX0_votesFor 16 = .ok (.iload_n 3, 1) := by decide +kernel
theorem dX0_votesFor_17 : decode cX0_votesFor 17 = .ok (.iaload, 1) := by decide +kernel
theorem dX0_votesFor_18 : decode cX0_votesFor 18 = .ok (.iload_n 1, 1) := by decide +kernel
theorem dX0_votesFor_19 : decode cX0_votesFor 19 = .ok (.if_icmp .ne 6, 3) := by decide +kernel
theorem dX0_votesFor_22 : decode cX0_votesFor 22 = .ok (.iinc 2 1, 3) := by decide +kernel
theorem dX0_votesFor_25 : decode cX0_votesFor 25 = .ok (.iinc 3 1, 3) := by decide +kernel
theorem dX0_votesFor_28 : decode cX0_votesFor 28 = .ok (.goto (-24), 3) := by decide +kernel
theorem dX0_votesFor_31 : decode cX0_votesFor 31 = .ok (.iload_n 2, 1) := by decide +kernel
theorem dX0_votesFor_32 : decode cX0_votesFor 32 = .ok (.ireturn, 1) := by decide +kernel
theorem dX0_leader_0 : decode cX0_leader 0 = .ok (.iconst (-1), 1) := by decide +kernel
theorem dX0_leader_1 : decode cX0_leader 1 = .ok (.istore_n 1, 1) := by decide +kernel
theorem dX0_leader_2 : decode cX0_leader 2 = .ok (.iconst 0, 1) := by decide +kernel
theorem dX0_leader_3 : decode cX0_leader 3 = .ok (.istore_n 2, 1) := by decide +kernel
theorem dX0_leader_4 : decode cX0_leader 4 = .ok (.iconst 0, 1) := by decide +kernel
theorem dX0_leader_5 : decode cX0_leader 5 = .ok (.istore_n 3, 1) := by decide +kernel
theorem dX0_leader_6 : decode cX0_leader 6 = .ok (.iload_n 3, 1) := by decide +kernel
theorem dX0_leader_7 : decode cX0_leader 7 = .ok (.aload_n 0, 1) := by decide +kernel
theorem dX0_leader_8 : decode cX0_leader 8 = .ok (.getfield 15, 3) := by decide +kernel
theorem dX0_leader_11 : decode cX0_leader 11 = .ok (.if_icmp .ge 49, 3) := by decide +kernel
theorem dX0_leader_14 : decode cX0_leader 14 = .ok (.aload_n 0, 1) := by decide +kernel
theorem dX0_leader_15 : decode cX0_leader 15 = .ok (.getfield 9, 3) := by decide +kernel
theorem dX0_leader_18 : decode cX0_leader 18 = .ok (.iload_n 3, 1) := by decide +kernel
theorem dX0_leader_19 : decode cX0_leader 19 = .ok (.iaload, 1) := by decide +kernel
theorem dX0_leader_20 : decode cX0_leader 20 = .ok (.istore 4, 2) := by decide +kernel
theorem dX0_leader_22 : decode cX0_leader 22 = .ok (.aload_n 0, 1) := by decide +kernel
theorem dX0_leader_23 : decode cX0_leader 23 = .ok (.iload 4, 2) := by decide +kernel
theorem dX0_leader_25 : decode cX0_leader 25 = .ok (.invokevirtual 19, 3) := by decide +kernel
theorem dX0_leader_28 : decode cX0_leader 28 = .ok (.istore 5, 2) := by decide +kernel
theorem dX0_leader_30 : decode cX0_leader 30 = .ok (.iload 5, 2) := by decide +kernel
theorem dX0_leader_32 : decode cX0_leader 32 = .ok (.iload_n 2, 1) := by decide +kernel
theorem dX0_leader_33 : decode cX0_leader 33 = .ok (.if_icmp .gt 15, 3) := by decide +kernel
theorem dX0_leader_36 : decode cX0_leader 36 = .ok (.iload 5, 2) := by decide +kernel
theorem dX0_leader_38 : decode cX0_leader 38 = .ok (.iload_n 2, 1) := by decide +kernel
theorem dX0_leader_39 : decode cX0_leader 39 = .ok (.if_icmp .ne 15, 3) := by decide +kernel
theorem dX0_leader_42 : decode cX0_leader 42 = .ok (.iload 4, 2) := by decide +kernel
theorem dX0_leader_44 : decode cX0_leader 44 = .ok (.iload_n 1, 1) := by decide +kernel
theorem dX0_leader_45 : decode cX0_leader 45 = .ok (.if_icmp .ge 9, 3) := by decide +kernel
theorem dX0_leader_48 : decode cX0_leader 48 = .ok (.iload 4, 2) := by decide +kernel
theorem dX0_leader_50 : decode cX0_leader 50 = .ok (.istore_n 1, 1) := by decide +kernel
theorem dX0_leader_51 : decode cX0_leader 51 = .ok (.iload 5, 2) := by decide +kernel
theorem dX0_leader_53 : decode cX0_leader 53 = .ok (.istore_n 2, 1) := by decide +kernel
theorem dX0_leader_54 : decode cX0_leader 54 = .ok (.iinc 3 1, 3) := by decide +kernel
theorem dX0_leader_57 : decode cX0_leader 57 = .ok (.goto (-51), 3) := by decide +kernel
theorem dX0_leader_60 : decode cX0_leader 60 = .ok (.iload_n 1, 1) := by decide +kernel
theorem dX0_leader_61 : decode cX0_leader 61 = .ok (.ireturn, 1) := by decide +kernel
theorem dX0_winner_0 : decode cX0_winner 0 = .ok (.aload_n 0, 1) := by decide +kernel
theorem dX0_winner_1 : decode cX0_winner 1 = .ok (.invokevirtual 23, 3) := by decide +kernel
theorem dX0_winner_4 : decode cX0_winner 4 = .ok (.istore_n 2, 1) := by decide +kernel
theorem dX0_winner_5 : decode cX0_winner 5 = .ok (.aload_n 0, 1) := by decide +kernel
theorem dX0_winner_6 : decode cX0_winner 6 = .ok (.iload_n 2, 1) := by decide +kernel
theorem dX0_winner_7 : decode cX0_winner 7 = .ok (.invokevirtual 19, 3) := by decide +kernel
theorem dX0_winner_10 : decode cX0_winner 10 = .ok (.istore_n 3, 1) := by decide +kernel
theorem dX0_winner_11 : decode cX0_winner 11 = .ok (.iload_n 3, 1) := by decide +kernel
theorem dX0_winner_12 : decode cX0_winner 12 = .ok (.iload_n 1, 1) := by decide +kernel
theorem dX0_winner_13 : decode cX0_winner 13 = .ok (.if_icmp .ge 5, 3) := by decide +kernel
theorem dX0_winner_16 : decode cX0_winner 16 = .ok (.iconst (-1), 1) := by decide +kernel
theorem dX0_winner_17 : decode cX0_winner 17 = .ok (.ireturn, 1) := by decide +kernel
theorem dX0_winner_18 : decode cX0_winner 18 = .ok (.iconst 0, 1) := by decide +kernel
theorem dX0_winner_19 : decode cX0_winner 19 = .ok (.istore 4, 2) := by decide +kernel
theorem dX0_winner_21 : decode cX0_winner 21 = .ok (.iload 4, 2) := by decide +kernel
theorem dX0_winner_23 : decode cX0_winner 23 = .ok (.aload_n 0, 1) := by decide +kernel
theorem dX0_winner_24 : decode cX0_winner 24 = .ok (.getfield 15, 3) := by decide +kernel
theorem dX0_winner_27 : decode cX0_winner 27 = .ok (.if_icmp .ge 37, 3) := by decide +kernel
theorem dX0_winner_30 : decode cX0_winner 30 = .ok (.aload_n 0, 1) := by decide +kernel
theorem dX0_winner_31 : decode cX0_winner 31 = .ok (.getfield 9, 3) := by decide +kernel
theorem dX0_winner_34 : decode cX0_winner 34 = .ok (.iload 4, 2) := by decide +kernel
theorem dX0_winner_36 : decode cX0_winner 36 = .ok (.iaload, 1) := by decide +kernel
theorem dX0_winner_37 : decode cX0_winner 37 = .ok (.iload_n 2, 1) := by decide +kernel
theorem dX0_winner_38 : decode cX0_winner 38 = .ok (.if_icmp .eq 20, 3) := by decide +kernel
theorem dX0_winner_41 : decode cX0_winner 41 = .ok (.aload_n 0, 1) := by decide +kernel
theorem dX0_winner_42 : decode cX0_winner 42 = .ok (.aload_n 0, 1) := by decide +kernel
theorem dX0_winner_43 : decode cX0_winner 43 = .ok (.getfield 9, 3) := by decide +kernel
theorem dX0_winner_46 : decode cX0_winner 46 = .ok (.iload 4, 2) := by decide +kernel
theorem dX0_winner_48 : decode cX0_winner 48 = .ok (.iaload, 1) := by decide +kernel
theorem dX0_winner_49 : decode cX0_winner 49 = .ok (.invokevirtual 19, 3) := by decide +kernel
theorem dX0_winner_52 : decode cX0_winner 52 = .ok (.iload_n 3, 1) := by decide +kernel
theorem dX0_winner_53 : decode cX0_winner 53 = .ok (.if_icmp .ne 5, 3) := by decide +kernel
theorem dX0_winner_56 : decode cX0_winner 56 = .ok (.iconst (-1), 1) := by decide +kernel
theorem dX0_winner_57 : decode cX0_winner 57 = .ok (.ireturn, 1) := by decide +kernel
theorem dX0_winner_58 : decode cX0_winner 58 = .ok (.iinc 4 1, 3) := by decide +kernel
theorem dX0_winner_61 : decode cX0_winner 61 = .ok (.goto (-40), 3) := by decide +kernel
theorem dX0_winner_64 : decode cX0_winner 64 = .ok (.iload_n 2, 1) := by decide +kernel
theorem dX0_winner_65 : decode cX0_winner 65 = .ok (.ireturn, 1) := by decide +kernel
theorem dX4_hearingStart_0 : decode cX4_hearingStart 0 = .ok (.aload_n 0, 1) := by decide +kernel
theorem dX4_hearingStart_1 : decode cX4_hearingStart 1 = .ok (.getfield 19, 3) := by decide +kernel
theorem dX4_hearingStart_4 : decode cX4_hearingStart 4 = .ok (.iconst (-1), 1) := by decide +kernel
theorem dX4_hearingStart_5 : decode cX4_hearingStart 5 = .ok (.if_icmp .ne 5, 3) := by decide +kernel
theorem dX4_hearingStart_8 : decode cX4_hearingStart 8 = .ok (.iconst 0, 1) := by decide +kernel
theorem dX4_hearingStart_9 : decode cX4_hearingStart 9 = .ok (.ireturn, 1) := by decide +kernel
theorem dX4_hearingStart_10 : decode cX4_hearingStart 10 = .ok (.aload_n 0, 1) := by decide +kernel
theorem dX4_hearingStart_11 : decode cX4_hearingStart 11 = .ok (.getfield 22, 3) := by decide +kernel
theorem dX4_hearingStart_14 : decode cX4_hearingStart 14 = .ok (.iconst (-1), 1) := by decide +kernel
theorem dX4_hearingStart_15 : decode cX4_hearingStart 15 = .ok (.if_icmp .ne 14, 3) := by decide +kernel
theorem dX4_hearingStart_18 : decode cX4_hearingStart 18 = .ok (.aload_n 0, 1) := by decide +kernel
theorem dX4_hearingStart_19 : decode cX4_hearingStart 19 = .ok (.getfield 19, 3) := by decide +kernel
theorem dX4_hearingStart_22 : decode cX4_hearingStart 22 = .ok (.sipush 2000, 3) := by decide +kernel
theorem dX4_hearingStart_25 : decode cX4_hearingStart 25 = .ok (.iadd, 1) := by decide +kernel
theorem dX4_hearingStart_26 : decode cX4_hearingStart 26 = .ok (.goto 21, 3) := by decide +kernel
theorem dX4_hearingStart_29 : decode cX4_hearingStart 29 = .ok (.aload_n 0, 1) := by decide +kernel
theorem dX4_hearingStart_30 : decode cX4_hearingStart 30 = .ok (.getfield 19, 3) := by decide +kernel
theorem dX4_hearingStart_33 : decode cX4_hearingStart 33 = .ok (.sipush 1000, 3) := by decide +kernel
theorem dX4_hearingStart_36 : decode cX4_hearingStart 36 = .ok (.aload_n 0, 1) := by decide +kernel
theorem dX4_hearingStart_37 : decode cX4_hearingStart 37 = .ok (.getfield 25, 3) := by decide +kernel
theorem dX4_hearingStart_40 : decode cX4_hearingStart 40 = .ok (.aload_n 0, 1) := by decide +kernel
theorem dX4_hearingStart_41 : decode cX4_hearingStart 41 = .ok (.getfield 22, 3) := by decide +kernel
theorem dX4_hearingStart_44 : decode cX4_hearingStart 44 = .ok (.isub, 1) := by decide +kernel
theorem dX4_hearingStart_45 : decode cX4_hearingStart 45 = .ok (.imul, 1) := by decide +kernel
theorem dX4_hearingStart_46 : decode cX4_hearingStart 46 = .ok (.iadd, 1) := by decide +kernel
theorem dX4_hearingStart_47 : decode cX4_hearingStart 47 = .ok (.ireturn, 1) := by decide +kernel
theorem dX4_canHear_0 : decode cX4_canHear 0 = .ok (.aload_n 0, 1) := by decide +kernel
theorem dX4_canHear_1 : decode cX4_canHear 1 = .ok (.invokevirtual 154, 3) := by decide +kernel
theorem dX4_canHear_4 : decode cX4_canHear 4 = .ok (.ldc 158, 2) := by decide +kernel
theorem dX4_canHear_6 : decode cX4_canHear 6 = .ok (.iadd, 1) := by decide +kernel
theorem dX4_canHear_7 : decode cX4_canHear 7 = .ok (.ldc 159, 2) := by decide +kernel
theorem dX4_canHear_9 : decode cX4_canHear 9 = .ok (.if_icmp .gt 7, 3) := by decide +kernel
theorem dX4_canHear_12 : decode cX4_canHear 12 = .ok (.iconst 1, 1) := by decide +kernel
theorem dX4_canHear_13 : decode cX4_canHear 13 = .ok (.goto 4, 3) := by decide +kernel
theorem dX4_canHear_16 : decode cX4_canHear 16 = .ok (.iconst 0, 1) := by decide +kernel
theorem dX4_canHear_17 : decode cX4_canHear 17 = .ok (.ireturn, 1) := by decide +kernel
theorem dX4_copyFrom_0 : decode cX4_copyFrom 0 = .ok (.aload_n 1, 1) := by decide +kernel
theorem dX4_copyFrom_1 : decode cX4_copyFrom 1 = .ok (.getfield 9, 3) := by decide +kernel
theorem dX4_copyFrom_4 : decode cX4_copyFrom 4 = .ok (.iconst 0, 1) := by decide +kernel
theorem dX4_copyFrom_5 : decode cX4_copyFrom 5 = .ok (.aload_n 0, 1) := by decide +kernel
theorem dX4_copyFrom_6 : decode cX4_copyFrom 6 = .ok (.getfield 9, 3) := by decide +kernel
theorem dX4_copyFrom_9 : decode cX4_copyFrom 9 = .ok (.iconst 0, 1) := by decide +kernel
theorem dX4_copyFrom_10 : decode cX4_copyFrom 10 = .ok (.iconst 5, 1) := by decide +kernel
theorem dX4_copyFrom_11 : decode cX4_copyFrom 11 = .ok (.invokestatic 54, 3) := by decide +kernel
theorem dX4_copyFrom_14 : decode cX4_copyFrom 14 = .ok (.aload_n 0, 1) := by decide +kernel
theorem dX4_copyFrom_15 : decode cX4_copyFrom 15 = .ok (.aload_n 1, 1) := by decide +kernel
theorem dX4_copyFrom_16 : decode cX4_copyFrom 16 = .ok (.getfield 15, 3) := by decide +kernel
theorem dX4_copyFrom_19 : decode cX4_copyFrom 19 = .ok (.putfield 15, 3) := by decide +kernel
theorem dX4_copyFrom_22 : decode cX4_copyFrom 22 = .ok (.aload_n 0, 1) := by decide +kernel
theorem dX4_copyFrom_23 : decode cX4_copyFrom 23 = .ok (.aload_n 1, 1) := by decide +kernel
theorem dX4_copyFrom_24 : decode cX4_copyFrom 24 = .ok (.getfield 19, 3) := by decide +kernel
theorem dX4_copyFrom_27 : decode cX4_copyFrom 27 = .ok (.putfield 19, 3) := by decide +kernel
theorem dX4_copyFrom_30 : decode cX4_copyFrom 30 = .ok (.aload_n 0, 1) := by decide +kernel
theorem dX4_copyFrom_31 : decode cX4_copyFrom 31 = .ok (.aload_n 1, 1) := by decide +kernel
theorem dX4_copyFrom_32 : decode cX4_copyFrom 32 = .ok (.getfield 60, 3) := by decide +kernel
theorem dX4_copyFrom_35 : decode cX4_copyFrom 35 = .ok (.putfield 60, 3) := by decide +kernel
theorem dX4_copyFrom_38 : decode cX4_copyFrom 38 = .ok (.aload_n 0, 1) := by decide +kernel
theorem dX4_copyFrom_39 : decode cX4_copyFrom 39 = .ok (.aload_n 1, 1) := by decide +kernel
theorem dX4_copyFrom_40 : decode cX4_copyFrom 40 = .ok (.getfield 22, 3) := by decide +kernel
theorem dX4_copyFrom_43 : decode cX4_copyFrom 43 = .ok (.putfield 22, 3) := by decide +kernel
theorem dX4_copyFrom_46 : decode cX4_copyFrom 46 = .ok (.aload_n 0, 1) := by decide +kernel
theorem dX4_copyFrom_47 : decode cX4_copyFrom 47 = .ok (.aload_n 1, 1) := by decide +kernel
theorem dX4_copyFrom_48 : decode cX4_copyFrom 48 = .ok (.getfield 25, 3) := by decide +kernel
theorem dX4_copyFrom_51 : decode cX4_copyFrom 51 = .ok (.putfield 25, 3) := by decide +kernel
theorem dX4_copyFrom_54 : decode cX4_copyFrom 54 = .ok (.aload_n 0, 1) := by decide +kernel
theorem dX4_copyFrom_55 : decode cX4_copyFrom 55 = .ok (.aload_n 1, 1) := by decide +kernel
theorem dX4_copyFrom_56 : decode cX4_copyFrom 56 = .ok (.getfield 63, 3) := by decide +kernel
theorem dX4_copyFrom_59 : decode cX4_copyFrom 59 = .ok (.putfield 63, 3) := by decide +kernel
theorem dX4_copyFrom_62 : decode cX4_copyFrom 62 = .ok (.aload_n 0, 1) := by decide +kernel
theorem dX4_copyFrom_63 : decode cX4_copyFrom 63 = .ok (.aload_n 1, 1) := by decide +kernel
theorem dX4_copyFrom_64 : decode cX4_copyFrom 64 = .ok (.getfield 67, 3) := by decide +kernel
theorem dX4_copyFrom_67 : decode cX4_copyFrom 67 = .ok (.putfield 67, 3) := by decide +kernel
theorem dX4_copyFrom_70 : decode cX4_copyFrom 70 = .ok (.aload_n 1, 1) := by decide +kernel
theorem dX4_copyFrom_71 : decode cX4_copyFrom 71 = .ok (.getfield 28, 3) := by decide +kernel
theorem dX4_copyFrom_74 : decode cX4_copyFrom 74 = .ok (.iconst 0, 1) := by decide +kernel
theorem dX4_copyFrom_75 : decode cX4_copyFrom 75 = .ok (.aload_n 0, 1) := by decide +kernel
theorem dX4_copyFrom_76 : decode cX4_copyFrom 76 = .ok (.getfield 28, 3) := by decide +kernel
theorem dX4_copyFrom_79 : decode cX4_copyFrom 79 = .ok (.iconst 0, 1) := by decide +kernel
theorem dX4_copyFrom_80 : decode cX4_copyFrom 80 = .ok (.bipush 8, 2) := by decide +kernel
theorem dX4_copyFrom_82 : decode cX4_copyFrom 82 = .ok (.invokestatic 54, 3) := by decide +kernel
theorem dX4_copyFrom_85 : decode cX4_copyFrom 85 = .ok (.aload_n 1, 1) := by decide +kernel
theorem dX4_copyFrom_86 : decode cX4_copyFrom 86 = .ok (.getfield 32, 3) := by decide +kernel
theorem dX4_copyFrom_89 : decode cX4_copyFrom 89 = .ok (.iconst 0, 1) := by decide +kernel
theorem dX4_copyFrom_90 : decode cX4_copyFrom 90 = .ok (.aload_n 0, 1) := by decide +kernel
theorem dX4_copyFrom_91 : decode cX4_copyFrom 91 = .ok (.getfield 32, 3) := by decide +kernel
theorem dX4_copyFrom_94 : decode cX4_copyFrom 94 = .ok (.iconst 0, 1) := by decide +kernel
theorem dX4_copyFrom_95 : decode cX4_copyFrom 95 = .ok (.bipush 8, 2) := by decide +kernel
theorem dX4_copyFrom_97 : decode cX4_copyFrom 97 = .ok (.invokestatic 54, 3) := by decide +kernel
theorem dX4_copyFrom_100 : decode cX4_copyFrom 100 = .ok (.aload_n 1, 1) := by decide +kernel
theorem dX4_copyFrom_101 : decode cX4_copyFrom 101 = .ok (.getfield 35, 3) := by decide +kernel
theorem dX4_copyFrom_104 : decode cX4_copyFrom 104 = .ok (.iconst 0, 1) := by decide +kernel
theorem dX4_copyFrom_105 : decode cX4_copyFrom 105 = .ok (.aload_n 0, 1) := by decide +kernel
theorem dX4_copyFrom_106 : decode cX4_copyFrom 106 = .ok (.getfield 35, 3) := by decide +kernel
theorem dX4_copyFrom_109 : decode cX4_copyFrom 109 = .ok (.iconst 0, 1) := by decide +kernel
theorem dX4_copyFrom_110 : decode cX4_copyFrom 110 = .ok (.bipush 8, 2) := by decide +kernel
theorem dX4_copyFrom_112 : decode cX4_copyFrom 112 = .ok (.invokestatic 54, 3) := by decide +kernel
theorem dX4_copyFrom_115 : decode cX4_copyFrom 115 = .ok (.aload_n 0, 1) := by decide +kernel
theorem dX4_copyFrom_116 : decode cX4_copyFrom 116 = .ok (.aload_n 1, 1) := by decide +kernel
theorem dX4_copyFrom_117 : decode cX4_copyFrom 117 = .ok (.getfield 70, 3) := by decide +kernel
theorem dX4_copyFrom_120 : decode cX4_copyFrom 120 = .ok (.putfield 70, 3) := by decide +kernel
theorem dX4_copyFrom_123 : decode cX4_copyFrom 123 = .ok (.aload_n 0, 1) := by decide +kernel
theorem dX4_copyFrom_124 : decode cX4_copyFrom 124 = .ok (.aload_n 1, 1) := by decide +kernel
theorem dX4_copyFrom_125 : decode cX4_copyFrom 125 = .ok (.getfield 38, 3) := by decide +kernel
theorem dX4_copyFrom_128 : decode cX4_copyFrom 128 = .ok (.putfield 38, 3) := by decide +kernel
theorem dX4_copyFrom_131 : decode cX4_copyFrom 131 = .ok (.aload_n 0, 1) := by decide +kernel
theorem dX4_copyFrom_132 : decode cX4_copyFrom 132 = .ok (.aload_n 1, 1) := by decide +kernel
theorem dX4_copyFrom_133 : decode cX4_copyFrom 133 = .ok (.getfield 73, 3) := by decide +kernel
theorem dX4_copyFrom_136 : decode cX4_copyFrom 136 = .ok (.putfield 73, 3) := by decide +kernel
theorem dX4_copyFrom_139 : decode cX4_copyFrom 139 = .ok (.aload_n 1, 1) := by decide +kernel
theorem dX4_copyFrom_140 : decode cX4_copyFrom 140 = .ok (.getfield 41, 3) := by decide +kernel
theorem dX4_copyFrom_143 : decode cX4_copyFrom 143 = .ok (.iconst 0, 1) := by decide +kernel
theorem dX4_copyFrom_144 : decode cX4_copyFrom 144 = .ok (.aload_n 0, 1) := by decide +kernel
theorem dX4_copyFrom_145 : decode cX4_copyFrom 145 = .ok (.getfield 41, 3) := by decide +kernel
theorem dX4_copyFrom_148 : decode cX4_copyFrom 148 = .ok (.iconst 0, 1) := by decide +kernel
theorem dX4_copyFrom_149 : decode cX4_copyFrom 149 = .ok (.bipush 8, 2) := by decide +kernel
theorem dX4_copyFrom_151 : decode cX4_copyFrom 151 = .ok (.invokestatic 54, 3) := by decide +kernel
theorem dX4_copyFrom_154 : decode cX4_copyFrom 154 = .ok (.aload_n 1, 1) := by decide +kernel
theorem dX4_copyFrom_155 : decode cX4_copyFrom 155 = .ok (.getfield 44, 3) := by decide +kernel
theorem dX4_copyFrom_158 : decode cX4_copyFrom 158 = .ok (.iconst 0, 1) := by decide +kernel
theorem dX4_copyFrom_159 : decode cX4_copyFrom 159 = .ok (.aload_n 0, 1) := by decide +kernel
theorem dX4_copyFrom_160 : decode cX4_copyFrom 160 = .ok (.getfield 44, 3) := by decide +kernel
theorem dX4_copyFrom_163 : decode cX4_copyFrom 163 = .ok (.iconst 0, 1) := by decide +kernel
theorem dX4_copyFrom_164 : decode cX4_copyFrom 164 = .ok (.bipush 8, 2) := by decide +kernel
theorem dX4_copyFrom_166 : decode cX4_copyFrom 166 = .ok (.invokestatic 54, 3) := by decide +kernel
theorem dX4_copyFrom_169 : decode cX4_copyFrom 169 = .ok (.aload_n 0, 1) := by decide +kernel
theorem dX4_copyFrom_170 : decode cX4_copyFrom 170 = .ok (.aload_n 1, 1) := by decide +kernel
theorem dX4_copyFrom_171 : decode cX4_copyFrom 171 = .ok (.getfield 76, 3) := by decide +kernel
theorem dX4_copyFrom_174 : decode cX4_copyFrom 174 = .ok (.putfield 76, 3) := by decide +kernel
theorem dX4_copyFrom_177 : decode cX4_copyFrom 177 = .ok (.return_, 1) := by decide +kernel
theorem dX4_change_0 : decode cX4_change 0 = .ok (.aload_n 0, 1) := by decide +kernel
theorem dX4_change_1 : decode cX4_change 1 = .ok (.getfield 9, 3) := by decide +kernel
theorem dX4_change_4 : decode cX4_change 4 = .ok (.iload_n 1, 1) := by decide +kernel
theorem dX4_change_5 : decode cX4_change 5 = .ok (.iload_n 2, 1) := by decide +kernel
theorem dX4_change_6 : decode cX4_change 6 = .ok (.iastore, 1) := by decide +kernel
theorem dX4_change_7 : decode cX4_change 7 = .ok (.aload_n 0, 1) := by decide +kernel
theorem dX4_change_8 : decode cX4_change 8 = .ok (.getfield 70, 3) := by decide +kernel
theorem dX4_change_11 : decode cX4_change 11 = .ok (.aload_n 0, 1) := by decide +kernel
theorem dX4_change_12 : decode cX4_change 12 = .ok (.getfield 9, 3) := by decide +kernel
theorem dX4_change_15 : decode cX4_change 15 = .ok (.iconst 2, 1) := by decide +kernel
theorem dX4_change_16 : decode cX4_change 16 = .ok (.iaload, 1) := by decide +kernel
theorem dX4_change_17 : decode cX4_change 17 = .ok (.if_icmp .le 13, 3) := by decide +kernel
theorem dX4_change_20 : decode cX4_change 20 = .ok (.aload_n 0, 1) := by decide +kernel
theorem dX4_change_21 : decode cX4_change 21 = .ok (.aload_n 0, 1) := by decide +kernel
theorem dX4_change_22 : decode cX4_change 22 = .ok (.getfield 9, 3) := by decide +kernel
theorem dX4_change_25 : decode cX4_change 25 = .ok (.iconst 2, 1) := by decide +kernel
theorem dX4_change_26 : decode cX4_change 26 = .ok (.iaload, 1) := by decide +kernel
theorem dX4_change_27 : decode cX4_change 27 = .ok (.putfield 70, 3) := by decide +kernel
theorem dX4_change_30 : decode cX4_change 30 = .ok (.return_, 1) := by decide +kernel
theorem dX4_hasFrame_0 : decode cX4_hasFrame 0 = .ok (.iload_n 1, 1) := by decide +kernel
theorem dX4_hasFrame_1 : decode cX4_hasFrame 1 = .ok (.ifCond .lt 21, 3) := by decide +kernel
theorem dX4_hasFrame_4 : decode cX4_hasFrame 4 = .ok (.iload_n 1, 1) := by decide +kernel
theorem dX4_hasFrame_5 : decode cX4_hasFrame 5 = .ok (.aload_n 0, 1) := by decide +kernel
theorem dX4_hasFrame_6 : decode cX4_hasFrame 6 = .ok (.getfield 70, 3) := by decide +kernel
theorem dX4_hasFrame_9 : decode cX4_hasFrame 9 = .ok (.if_icmp .ge 13, 3) := by decide +kernel
theorem dX4_hasFrame_12 : decode cX4_hasFrame 12 = .ok (.iload_n 1, 1) := by decide +kernel
theorem dX4_hasFrame_13 : decode cX4_hasFrame 13 = .ok (.bipush 8, 2) := by decide +kernel
theorem dX4_hasFrame_15 : decode cX4_hasFrame 15 = .ok (.if_icmp .ge 7, 3) := by decide +kernel
theorem dX4_hasFrame_18 : decode cX4_hasFrame 18 = .ok (.iconst 1, 1) := by decide +kernel
theorem dX4_hasFrame_19 : decode cX4_hasFrame 19 = .ok (.goto 4, 3) := by decide +kernel
theorem dX4_hasFrame_22 : decode cX4_hasFrame 22 = .ok (.iconst 0, 1) := by decide +kernel
theorem dX4_hasFrame_23 : decode cX4_hasFrame 23 = .ok (.ireturn, 1) := by decide +kernel
theorem dX4_doubtsSoFar_0 : decode cX4_doubtsSoFar 0 = .ok (.aload_n 0, 1) := by decide +kernel
theorem dX4_doubtsSoFar_1 : decode cX4_doubtsSoFar 1 = .ok (.getfield 22, 3) := by decide +kernel
theorem dX4_doubtsSoFar_4 : decode cX4_doubtsSoFar 4 = .ok (.iconst (-1), 1) := by decide +kernel
theorem dX4_doubtsSoFar_5 : decode cX4_doubtsSoFar 5 = .ok (.if_icmp .ne 5, 3) := by decide +kernel
theorem dX4_doubtsSoFar_8 : decode cX4_doubtsSoFar 8 = .ok (.iconst 0, 1) := by decide +kernel
theorem dX4_doubtsSoFar_9 : decode cX4_doubtsSoFar 9 = .ok (.ireturn, 1) := by decide +kernel
theorem dX4_doubtsSoFar_10 : decode cX4_doubtsSoFar 10 = .ok (.aload_n 0, 1) := by decide +kernel
theorem dX4_doubtsSoFar_11 : decode cX4_doubtsSoFar 11 = .ok (.getfield 22, 3) := by decide +kernel
theorem dX4_doubtsSoFar_14 : decode cX4_doubtsSoFar 14 = .ok (.bipush 58, 2) := by decide +kernel
theorem dX4_doubtsSoFar_16 : decode cX4_doubtsSoFar 16 = .ok (.invokestatic 79, 3) := by decide +kernel
theorem dX4_doubtsSoFar_19 : decode cX4_doubtsSoFar 19 = .ok (.istore_n 1, 1) := by decide +kernel
theorem dX4_doubtsSoFar_20 : decode cX4_doubtsSoFar 20 = .ok (.aload_n 0, 1) := by decide +kernel
theorem dX4_doubtsSoFar_21 : decode cX4_doubtsSoFar 21 = .ok (.getfield 67, 3) := by decide +kernel
theorem dX4_doubtsSoFar_24 : decode cX4_doubtsSoFar 24 = .ok (.lconst 1, 1) := by decide +kernel
theorem dX4_doubtsSoFar_25 : decode cX4_doubtsSoFar 25 = .ok (.iload_n 1, 1) := by decide +kernel
theorem dX4_doubtsSoFar_26 : decode cX4_doubtsSoFar 26 = .ok (.iconst 1, 1) := by decide +kernel
theorem dX4_doubtsSoFar_27 : decode cX4_doubtsSoFar 27 = .ok (.iadd, 1) := by decide +kernel
theorem dX4_doubtsSoFar_28 : decode cX4_doubtsSoFar 28 = .ok (.lshl, 1) := by decide +kernel
theorem dX4_doubtsSoFar_29 : decode cX4_doubtsSoFar 29 = .ok (.lconst 1, 1) := by decide +kernel
theorem dX4_doubtsSoFar_30 : decode cX4_doubtsSoFar 30 = .ok (.lsub, 1) := by decide +kernel
theorem dX4_doubtsSoFar_31 : decode cX4_doubtsSoFar 31 = .ok (.land, 1) := by decide +kernel
theorem dX4_doubtsSoFar_32 : decode cX4_doubtsSoFar 32 = .ok (.invokestatic 85, 3) := by decide +kernel
theorem dX4_doubtsSoFar_35 : decode cX4_doubtsSoFar 35 = .ok (.ireturn, 1) := by decide +kernel
theorem dX4_secondsSinceMark_0 : decode cX4_secondsSinceMark 0 = .ok (.aload_n 0, 1) := by decide +kernel
theorem dX4_secondsSinceMark_1 : decode cX4_secondsSinceMark 1 = .ok (.getfield 19, 3) := by decide +kernel
theorem dX4_secondsSinceMark_4 : decode cX4_secondsSinceMark 4 = .ok (.iconst (-1), 1) := by decide +kernel
theorem dX4_secondsSinceMark_5 : decode cX4_secondsSinceMark 5 = .ok (.if_icmp .ne 7, 3) := by decide +kernel
theorem dX4_secondsSinceMark_8 : decode cX4_secondsSinceMark 8 = .ok (.iconst 0, 1) := by decide +kernel
theorem dX4_secondsSinceMark_9 : decode cX4_secondsSinceMark 9 = .ok (.goto 17, 3) := by decide +kernel
theorem dX4_secondsSinceMark_12 : decode cX4_secondsSinceMark 12 = .ok (.iload_n 1, 1) := by decide +kernel
theorem dX4_secondsSinceMark_13 : decode cX4_secondsSinceMark 13 = .ok (.aload_n 0, 1) := by decide +kernel
theorem dX4_secondsSinceMark_14 : decode cX4_secondsSinceMark 14 = .ok (.getfield 19, 3) := by decide +kernel
theorem dX4_secondsSinceMark_17 : decode cX4_secondsSinceMark 17 = .ok (.isub, 1) := by decide +kernel
theorem dX4_secondsSinceMark_18 : decode cX4_secondsSinceMark 18 = .ok (.sipush 500, 3) := by decide +kernel
theorem dX4_secondsSinceMark_21 : decode cX4_secondsSinceMark 21 = .ok (.iadd, 1) := by decide +kernel
theorem dX4_secondsSinceMark_22 : decode cX4_secondsSinceMark 22 = .ok (.sipush 1000, 3) := by decide +kernel
theorem dX4_secondsSinceMark_25 : decode cX4_secondsSinceMark 25 = .ok (.idiv, 1) := by decide +kernel
theorem dX4_secondsSinceMark_26 : decode cX4_secondsSinceMark 26 = .ok (.ireturn, 1) := by decide +kernel
theorem dX4_isToBeIgnored_0 : decode cX4_isToBeIgnored 0 = .ok (.iload_n 2, 1) := by decide +kernel
theorem dX4_isToBeIgnored_1 : decode cX4_isToBeIgnored 1 = .ok (.bipush 30, 2) := by decide +kernel
theorem dX4_isToBeIgnored_3 : decode cX4_isToBeIgnored 3 = .ok (.if_icmp .ge 5, 3) := by decide +kernel
theorem dX4_isToBeIgnored_6 : decode cX4_isToBeIgnored 6 = .ok (.iconst 1, 1) := by decide +kernel
theorem dX4_isToBeIgnored_7 : decode cX4_isToBeIgnored 7 = .ok (.ireturn, 1) := by decide +kernel
theorem dX4_isToBeIgnored_8 : decode cX4_isToBeIgnored 8 = .ok (.aload_n 0, 1) := by decide +kernel
theorem dX4_isToBeIgnored_9 : decode cX4_isToBeIgnored 9 = .ok (.iload_n 1, 1) := by decide +kernel
theorem dX4_isToBeIgnored_10 : decode cX4_isToBeIgnored 10 = .ok (.invokevirtual 95, 3) := by decide +kernel
theorem dX4_isToBeIgnored_13 : decode cX4_isToBeIgnored 13 = .ok (.istore_n 3, 1) := by decide +kernel
theorem dX4_isToBeIgnored_14 : decode cX4_isToBeIgnored 14 = .ok (.aload_n 0, 1) := by decide +kernel
theorem dX4_isToBeIgnored_15 : decode cX4_isToBeIgnored 15 = .ok (.getfield 19, 3) := by decide +kernel
theorem dX4_isToBeIgnored_18 : decode cX4_isToBeIgnored 18 = .ok (.iconst (-1), 1) := by decide +kernel
theorem dX4_isToBeIgnored_19 : decode cX4_isToBeIgnored 19 = .ok (.if_icmp .eq 9, 3) := by decide +kernel
theorem dX4_isToBeIgnored_22 : decode cX4_isToBeIgnored 22 = .ok (.iload_n 3, 1) := by decide +kernel
theorem dX4_isToBeIgnored_23 : decode cX4_isToBeIgnored 23 = .ok (.bipush 10, 2) := by decide +kernel
theorem dX4_isToBeIgnored_25 : decode cX4_isToBeIgnored 25 = .ok (.if_icmp .le 5, 3) := by decide +kernel
theorem dX4_isToBeIgnored_28 : decode cX4_isToBeIgnored 28 = .ok (.iconst 0, 1) := by decide +kernel
theorem dX4_isToBeIgnored_29 : decode cX4_isToBeIgnored 29 = .ok (.ireturn, 1) := by decide +kernel
theorem dX4_isToBeIgnored_30 : decode cX4_isToBeIgnored 30 = .ok (.iload_n 3, 1) := by decide +kernel
theorem dX4_isToBeIgnored_31 : decode cX4_isToBeIgnored 31 = .ok (.ifCond .eq 27, 3) := by decide +kernel
theorem dX4_isToBeIgnored_34 : decode cX4_isToBeIgnored 34 = .ok (.iload_n 1, 1) := by decide +kernel
theorem dX4_isToBeIgnored_35 : decode cX4_isToBeIgnored 35 = .ok (.aload_n 0, 1) := by decide +kernel
theorem dX4_isToBeIgnored_36 : decode cX4_isToBeIgnored 36 = .ok (.getfield 19, 3) := by decide +kernel
theorem dX4_isToBeIgnored_39 : decode cX4_isToBeIgnored 39 = .ok (.isub, 1) := by decide +kernel
theorem dX4_isToBeIgnored_40 : decode cX4_isToBeIgnored 40 = .ok (.sipush 1000, 3) := by decide +kernel
theorem dX4_isToBeIgnored_43 : decode cX4_isToBeIgnored 43 = .ok (.iload_n 3, 1) := by decide +kernel
theorem dX4_isToBeIgnored_44 : decode cX4_isToBeIgnored 44 = .ok (.imul, 1) := by decide +kernel
theorem dX4_isToBeIgnored_45 : decode cX4_isToBeIgnored 45 = .ok (.isub, 1) := by decide +kernel
theorem dX4_isToBeIgnored_46 : decode cX4_isToBeIgnored 46 = .ok (.invokestatic 118, 3) := by decide +kernel
theorem dX4_isToBeIgnored_49 : decode cX4_isToBeIgnored 49 = .ok (.aload_n 0, 1) := by decide +kernel
theorem dX4_isToBeIgnored_50 : decode cX4_isToBeIgnored 50 = .ok (.getfield 9, 3) := by decide +kernel
theorem dX4_isToBeIgnored_53 : decode cX4_isToBeIgnored 53 = .ok (.iconst 0, 1) := by decide +kernel
theorem dX4_isToBeIgnored_54 : decode cX4_isToBeIgnored 54 = .ok (.iaload, 1) := by decide +kernel
theorem dX4_isToBeIgnored_55 : decode cX4_isToBeIgnored 55 = .ok (.if_icmp .le 7, 3) := by decide +kernel
theorem dX4_isToBeIgnored_58 : decode cX4_isToBeIgnored 58 = .ok (.iconst 1, 1) := by decide +kernel
theorem dX4_isToBeIgnored_59 : decode cX4_isToBeIgnored 59 = .ok (.goto 4, 3) := by decide +kernel
theorem dX4_isToBeIgnored_62 : decode cX4_isToBeIgnored 62 = .ok (.iconst 0, 1) := by decide +kernel
theorem dX4_isToBeIgnored_63 : decode cX4_isToBeIgnored 63 = .ok (.ireturn, 1) := by decide +kernel
theorem dX4_loseStep_0 : decode cX4_loseStep 0 = .ok (.aload_n 0, 1) := by decide +kernel
theorem dX4_loseStep_1 : decode cX4_loseStep 1 = .ok (.iconst (-1), 1) := by decide +kernel
theorem dX4_loseStep_2 : decode cX4_loseStep 2 = .ok (.putfield 22, 3) := by decide +kernel
theorem dX4_loseStep_5 : decode cX4_loseStep 5 = .ok (.aload_n 0, 1) := by decide +kernel
theorem dX4_loseStep_6 : decode cX4_loseStep 6 = .ok (.iconst 0, 1) := by decide +kernel
theorem dX4_loseStep_7 : decode cX4_loseStep 7 = .ok (.putfield 70, 3) := by decide +kernel
theorem dX4_loseStep_10 : decode cX4_loseStep 10 = .ok (.aload_n 0, 1) := by decide +kernel
theorem dX4_loseStep_11 : decode cX4_loseStep 11 = .ok (.iconst (-1), 1) := by decide +kernel
theorem dX4_loseStep_12 : decode cX4_loseStep 12 = .ok (.putfield 38, 3) := by decide +kernel
theorem dX4_loseStep_15 : decode cX4_loseStep 15 = .ok (.aload_n 0, 1) := by decide +kernel
theorem dX4_loseStep_16 : decode cX4_loseStep 16 = .ok (.iconst 0, 1) := by decide +kernel
theorem dX4_loseStep_17 : decode cX4_loseStep 17 = .ok (.putfield 73, 3) := by decide +kernel
theorem dX4_loseStep_20 : decode cX4_loseStep 20 = .ok (.return_, 1) := by decide +kernel
theorem dX4_doubtSeconds_0 : decode cX4_doubtSeconds 0 = .ok (.iload_n 1, 1) := by decide +kernel
theorem dX4_doubtSeconds_1 : decode cX4_doubtSeconds 1 = .ok (.istore_n 3, 1) := by decide +kernel
theorem dX4_doubtSeconds_2 : decode cX4_doubtSeconds 2 = .ok (.iload_n 3, 1) := by decide +kernel
theorem dX4_doubtSeconds_3 : decode cX4_doubtSeconds 3 = .ok (.iload_n 2, 1) := by decide +kernel
theorem dX4_doubtSeconds_4 : decode cX4_doubtSeconds 4 = .ok (.if_icmp .gt 27, 3) := by decide +kernel
theorem dX4_doubtSeconds_7 : decode cX4_doubtSeconds 7 = .ok (.iload_n 3, 1) := by decide +kernel
theorem dX4_doubtSeconds_8 : decode cX4_doubtSeconds 8 = .ok (.bipush 58, 2) := by decide +kernel
theorem dX4_doubtSeconds_10 : decode cX4_doubtSeconds 10 = .ok (.if_icmp .gt 21, 3) := by decide +kernel
theorem dX4_doubtSeconds_13 : decode cX4_doubtSeconds 13 = .ok (.aload_n 0, 1) := by decide +kernel
theorem dX4_doubtSeconds_14 : decode cX4_doubtSeconds 14 = .ok (.dup, 1) := by decide +kernel
theorem dX4_doubtSeconds_15 : decode cX4_doubtSeconds 15 = .ok (.getfield 67, 3) := by decide +kernel
theorem dX4_doubtSeconds_18 : decode cX4_doubtSeconds 18 = .ok (.lconst 1, 1) := by decide +kernel
theorem dX4_doubtSeconds_19 : decode cX4_doubtSeconds 19 = .ok (.iload_n 3, 1) := by decide +kernel
theorem dX4_doubtSeconds_20 : decode cX4_doubtSeconds 20 = .ok (.lshl, 1) := by decide +kernel
theorem dX4_doubtSeconds_21 : decode cX4_doubtSeconds 21 = .ok (.lor, 1) := by decide +kernel
theorem dX4_doubtSeconds_22 : decode cX4_doubtSeconds 22 = .ok (.putfield 67, 3) := by decide +kernel
theorem dX4_doubtSeconds_25 : decode cX4_doubtSeconds 25 = .ok (.iinc 3 1, 3) := by decide +kernel
theorem dX4_doubtSeconds_28 : decode cX4_doubtSeconds 28 = .ok (.goto (-26), 3) := by decide +kernel
theorem dX4_doubtSeconds_31 : decode cX4_doubtSeconds 31 = .ok (.return_, 1) := by decide +kernel
theorem dX4_putBit_0 : decode cX4_putBit 0 = .ok (.iload_n 1, 1) := by decide +kernel
theorem dX4_putBit_1 : decode cX4_putBit 1 = .ok (.bipush 58, 2) := by decide +kernel
theorem dX4_putBit_3 : decode cX4_putBit 3 = .ok (.if_icmp .le 4, 3) := by decide +kernel
theorem dX4_putBit_6 : decode cX4_putBit 6 = .ok (.return_, 1) := by decide +kernel
theorem dX4_putBit_7 : decode cX4_putBit 7 = .ok (.iload_n 2, 1) := by decide +kernel
theorem dX4_putBit_8 : decode cX4_putBit 8 = .ok (.sipush 160, 3) := by decide +kernel
theorem dX4_putBit_11 : decode cX4_putBit 11 = .ok (.if_icmp .lt 25, 3) := by decide +kernel
theorem dX4_putBit_14 : decode cX4_putBit 14 = .ok (.iload_n 2, 1) := by decide +kernel
theorem dX4_putBit_15 : decode cX4_putBit 15 = .ok (.sipush 240, 3) := by decide +kernel
theorem dX4_putBit_18 : decode cX4_putBit 18 = .ok (.if_icmp .gt 18, 3) := by decide +kernel
theorem dX4_putBit_21 : decode cX4_putBit 21 = .ok (.aload_n 0, 1) := by decide +kernel
theorem dX4_putBit_22 : decode cX4_putBit 22 = .ok (.dup, 1) := by decide +kernel
theorem dX4_putBit_23 : decode cX4_putBit 23 = .ok (.getfield 63, 3) := by decide +kernel
theorem dX4_putBit_26 : decode cX4_putBit 26 = .ok (.lconst 1, 1) := by decide +kernel
theorem dX4_putBit_27 : decode cX4_putBit 27 = .ok (.iload_n 1, 1) := by decide +kernel
theorem dX4_putBit_28 : decode cX4_putBit 28 = .ok (.lshl, 1) := by decide +kernel
theorem dX4_putBit_29 : decode cX4_putBit 29 = .ok (.lor, 1) := by decide +kernel
theorem dX4_putBit_30 : decode cX4_putBit 30 = .ok (.putfield 63, 3) := by decide +kernel
theorem dX4_putBit_33 : decode cX4_putBit 33 = .ok (.goto 28, 3) := by decide +kernel
theorem dX4_putBit_36 : decode cX4_putBit 36 = .ok (.iload_n 2, 1) := by decide +kernel
theorem dX4_putBit_37 : decode cX4_putBit 37 = .ok (.bipush 60, 2) := by decide +kernel
theorem dX4_putBit_39 : decode cX4_putBit 39 = .ok (.if_icmp .lt 10, 3) := by decide +kernel
theorem dX4_putBit_42 : decode cX4_putBit 42 = .ok (.iload_n 2, 1) := by decide +kernel
theorem dX4_putBit_43 : decode cX4_putBit 43 = .ok (.sipush 140, 3) := by decide +kernel
theorem dX4_putBit_46 : decode cX4_putBit 46 = .ok (.if_icmp .le 15, 3) := by decide +kernel
theorem dX4_putBit_49 : decode cX4_putBit 49 = .ok (.aload_n 0, 1) := by decide +kernel
theorem dX4_putBit_50 : decode cX4_putBit 50 = .ok (.dup, 1) := by decide +kernel
theorem dX4_putBit_51 : decode cX4_putBit 51 = .ok (.getfield 67, 3) := by decide +kernel
theorem dX4_putBit_54 : decode cX4_putBit 54 = .ok (.lconst 1, 1) := by decide +kernel
theorem dX4_putBit_55 : decode cX4_putBit 55 = .ok (.iload_n 1, 1) := by decide +kernel
theorem dX4_putBit_56 : decode cX4_putBit 56 = .ok (.lshl, 1) := by decide +kernel
theorem dX4_putBit_57 : decode cX4_putBit 57 = .ok (.lor, 1) := by decide +kernel
theorem dX4_putBit_58 : decode cX4_putBit 58 = .ok (.putfield 67, 3) := by decide +kernel
theorem dX4_putBit_61 : decode cX4_putBit 61 = .ok (.return_, 1) := by decide +kernel
theorem dX4_beginMinute_0 : decode cX4_beginMinute 0 = .ok (.aload_n 0, 1) := by decide +kernel
theorem dX4_beginMinute_1 : decode cX4_beginMinute 1 = .ok (.lconst 0, 1) := by decide +kernel
theorem dX4_beginMinute_2 : decode cX4_beginMinute 2 = .ok (.putfield 63, 3) := by decide +kernel
theorem dX4_beginMinute_5 : decode cX4_beginMinute 5 = .ok (.aload_n 0, 1) := by decide +kernel
theorem dX4_beginMinute_6 : decode cX4_beginMinute 6 = .ok (.lconst 0, 1) := by decide +kernel
theorem dX4_beginMinute_7 : decode cX4_beginMinute 7 = .ok (.putfield 67, 3) := by decide +kernel
theorem dX4_beginMinute_10 : decode cX4_beginMinute 10 = .ok (.aload_n 0, 1) := by decide +kernel
theorem dX4_beginMinute_11 : decode cX4_beginMinute 11 = .ok (.bipush 60, 2) := by decide +kernel
theorem dX4_beginMinute_13 : decode cX4_beginMinute 13 = .ok (.putfield 25, 3) := by decide +kernel
theorem dX4_beginMinute_16 : decode cX4_beginMinute 16 = .ok (.aload_n 0, 1) := by decide +kernel
theorem dX4_beginMinute_17 : decode cX4_beginMinute 17 = .ok (.iconst 0, 1) := by decide +kernel
theorem dX4_beginMinute_18 : decode cX4_beginMinute 18 = .ok (.iload_n 1, 1) := by decide +kernel
theorem dX4_beginMinute_19 : decode cX4_beginMinute 19 = .ok (.iconst 1, 1) := by decide +kernel
theorem dX4_beginMinute_20 : decode cX4_beginMinute 20 = .ok (.isub, 1) := by decide +kernel
theorem dX4_beginMinute_21 : decode cX4_beginMinute 21 = .ok (.invokevirtual 106, 3) := by decide +kernel
theorem dX4_beginMinute_24 : decode cX4_beginMinute 24 = .ok (.aload_n 0, 1) := by decide +kernel
theorem dX4_beginMinute_25 : decode cX4_beginMinute 25 = .ok (.iload_n 1, 1) := by decide +kernel
theorem dX4_beginMinute_26 : decode cX4_beginMinute 26 = .ok (.putfield 22, 3) := by decide +kernel
theorem dX4_beginMinute_29 : decode cX4_beginMinute 29 = .ok (.aload_n 0, 1) := by decide +kernel
theorem dX4_beginMinute_30 : decode cX4_beginMinute 30 = .ok (.iload_n 1, 1) := by decide +kernel
theorem dX4_beginMinute_31 : decode cX4_beginMinute 31 = .ok (.iload_n 2, 1) := by decide +kernel
theorem dX4_beginMinute_32 : decode cX4_beginMinute 32 = .ok (.invokevirtual 109, 3) := by decide +kernel
theorem dX4_beginMinute_35 : decode cX4_beginMinute 35 = .ok (.return_, 1) := by decide +kernel
theorem dX4_keepFrame_0 : decode cX4_keepFrame 0 = .ok (.aload_n 0, 1) := by decide +kernel
theorem dX4_keepFrame_1 : decode cX4_keepFrame 1 = .ok (.aload_n 0, 1) := by decide +kernel
theorem dX4_keepFrame_2 : decode cX4_keepFrame 2 = .ok (.getfield 22, 3) := by decide +kernel
theorem dX4_keepFrame_5 : decode cX4_keepFrame 5 = .ok (.iconst 1, 1) := by decide +kernel
theorem dX4_keepFrame_6 : decode cX4_keepFrame 6 = .ok (.iadd, 1) := by decide +kernel
theorem dX4_keepFrame_7 : decode cX4_keepFrame 7 = .ok (.bipush 58, 2) := by decide +kernel
theorem dX4_keepFrame_9 : decode cX4_keepFrame 9 = .ok (.invokevirtual 106, 3) := by decide +kernel
theorem dX4_keepFrame_12 : decode cX4_keepFrame 12 = .ok (.aload_n 0, 1) := by decide +kernel
theorem dX4_keepFrame_13 : decode cX4_keepFrame 13 = .ok (.getfield 28, 3) := by decide +kernel
theorem dX4_keepFrame_16 : decode cX4_keepFrame 16 = .ok (.iconst 0, 1) := by decide +kernel
theorem dX4_keepFrame_17 : decode cX4_keepFrame 17 = .ok (.aload_n 0, 1) := by decide +kernel
theorem dX4_keepFrame_18 : decode cX4_keepFrame 18 = .ok (.getfield 28, 3) := by decide +kernel
theorem dX4_keepFrame_21 : decode cX4_keepFrame 21 = .ok (.iconst 1, 1) := by decide +kernel
theorem dX4_keepFrame_22 : decode cX4_keepFrame 22 = .ok (.bipush 7, 2) := by decide +kernel
theorem dX4_keepFrame_24 : decode cX4_keepFrame 24 = .ok (.invokestatic 54, 3) := by decide +kernel
theorem dX4_keepFrame_27 : decode cX4_keepFrame 27 = .ok (.aload_n 0, 1) := by decide +kernel
theorem dX4_keepFrame_28 : decode cX4_keepFrame 28 = .ok (.getfield 32, 3) := by decide +kernel
theorem dX4_keepFrame_31 : decode cX4_keepFrame 31 = .ok (.iconst 0, 1) := by decide +kernel
theorem dX4_keepFrame_32 : decode cX4_keepFrame 32 = .ok (.aload_n 0, 1) := by decide +kernel
theorem dX4_keepFrame_33 : decode cX4_keepFrame 33 = .ok (.getfield 32, 3) := by decide +kernel
theorem dX4_keepFrame_36 : decode cX4_keepFrame 36 = .ok (.iconst 1, 1) := by decide +kernel
theorem dX4_keepFrame_37 : decode cX4_keepFrame 37 = .ok (.bipush 7, 2) := by decide +kernel
theorem dX4_keepFrame_39 : decode cX4_keepFrame 39 = .ok (.invokestatic 54, 3) := by decide +kernel
theorem dX4_keepFrame_42 : decode cX4_keepFrame 42 = .ok (.aload_n 0, 1) := by decide +kernel
theorem dX4_keepFrame_43 : decode cX4_keepFrame 43 = .ok (.getfield 35, 3) := by decide +kernel
theorem dX4_keepFrame_46 : decode cX4_keepFrame 46 = .ok (.iconst 0, 1) := by decide +kernel
theorem dX4_keepFrame_47 : decode cX4_keepFrame 47 = .ok (.aload_n 0, 1) := by decide +kernel
theorem dX4_keepFrame_48 : decode cX4_keepFrame 48 = .ok (.getfield 35, 3) := by decide +kernel
theorem dX4_keepFrame_51 : decode cX4_keepFrame 51 = .ok (.iconst 1, 1) := by decide +kernel
theorem dX4_keepFrame_52 : decode cX4_keepFrame 52 = .ok (.bipush 7, 2) := by decide +kernel
theorem dX4_keepFrame_54 : decode cX4_keepFrame 54 = .ok (.invokestatic 54, 3) := by decide +kernel
theorem dX4_keepFrame_57 : decode cX4_keepFrame 57 = .ok (.aload_n 0, 1) := by decide +kernel
theorem dX4_keepFrame_58 : decode cX4_keepFrame 58 = .ok (.getfield 28, 3) := by decide +kernel
theorem dX4_keepFrame_61 : decode cX4_keepFrame 61 = .ok (.iconst 0, 1) := by decide +kernel
theorem dX4_keepFrame_62 : decode cX4_keepFrame 62 = .ok (.aload_n 0, 1) := by decide +kernel
theorem dX4_keepFrame_63 : decode cX4_keepFrame 63 = .ok (.getfield 63, 3) := by decide +kernel
theorem dX4_keepFrame_66 : decode cX4_keepFrame 66 = .ok (.lastore, 1) := by decide +kernel
theorem dX4_keepFrame_67 : decode cX4_keepFrame 67 = .ok (.aload_n 0, 1) := by decide +kernel
theorem dX4_keepFrame_68 : decode cX4_keepFrame 68 = .ok (.getfield 32, 3) := by decide +kernel
theorem dX4_keepFrame_71 : decode cX4_keepFrame 71 = .ok (.iconst 0, 1) := by decide +kernel
theorem dX4_keepFrame_72 : decode cX4_keepFrame 72 = .ok (.aload_n 0, 1) := by decide +kernel
theorem dX4_keepFrame_73 : decode cX4_keepFrame 73 = .ok (.getfield 67, 3) := by decide +kernel
theorem dX4_keepFrame_76 : decode cX4_keepFrame 76 = .ok (.lastore, 1) := by decide +kernel
theorem dX4_keepFrame_77 : decode cX4_keepFrame 77 = .ok (.aload_n 0, 1) := by decide +kernel
theorem dX4_keepFrame_78 : decode cX4_keepFrame 78 = .ok (.getfield 35, 3) := by decide +kernel
theorem dX4_keepFrame_81 : decode cX4_keepFrame 81 = .ok (.iconst 0, 1) := by decide +kernel
theorem dX4_keepFrame_82 : decode cX4_keepFrame 82 = .ok (.aload_n 0, 1) := by decide +kernel
theorem dX4_keepFrame_83 : decode cX4_keepFrame 83 = .ok (.getfield 63, 3) := by decide +kernel
theorem dX4_keepFrame_86 : decode cX4_keepFrame 86 = .ok (.aload_n 0, 1) := by decide +kernel
theorem dX4_keepFrame_87 : decode cX4_keepFrame 87 = .ok (.getfield 67, 3) := by decide +kernel
theorem dX4_keepFrame_90 : decode cX4_keepFrame 90 = .ok (.invokestatic 121, 3) := by decide +kernel
theorem dX4_keepFrame_93 : decode cX4_keepFrame 93 = .ok (.iastore, 1) := by decide +kernel
theorem dX4_keepFrame_94 : decode cX4_keepFrame 94 = .ok (.aload_n 0, 1) := by decide +kernel
theorem dX4_keepFrame_95 : decode cX4_keepFrame 95 = .ok (.aload_n 0, 1) := by decide +kernel
theorem dX4_keepFrame_96 : decode cX4_keepFrame 96 = .ok (.getfield 70, 3) := by decide +kernel
theorem dX4_keepFrame_99 : decode cX4_keepFrame 99 = .ok (.iconst 1, 1) := by decide +kernel
theorem dX4_keepFrame_100 : decode cX4_keepFrame 100 = .ok (.iadd, 1) := by decide +kernel
theorem dX4_keepFrame_101 : decode cX4_keepFrame 101 = .ok (.aload_n 0, 1) := by decide +kernel
theorem dX4_keepFrame_102 : decode cX4_keepFrame 102 = .ok (.getfield 9, 3) := by decide +kernel
theorem dX4_keepFrame_105 : decode cX4_keepFrame 105 = .ok (.iconst 2, 1) := by decide +kernel
theorem dX4_keepFrame_106 : decode cX4_keepFrame 106 = .ok (.iaload, 1) := by decide +kernel
theorem dX4_keepFrame_107 : decode cX4_keepFrame 107 = .ok (.invokestatic 79, 3) := by decide +kernel
theorem dX4_keepFrame_110 : decode cX4_keepFrame 110 = .ok (.putfield 70, 3) := by decide +kernel
theorem dX4_keepFrame_113 : decode cX4_keepFrame 113 = .ok (.return_, 1) := by decide +kernel
theorem dX4_minuteToldBy_0 : decode cX4_minuteToldBy 0 = .ok (.aload_n 0, 1) := by decide +kernel
theorem dX4_minuteToldBy_1 : decode cX4_minuteToldBy 1 = .ok (.getfield 32, 3) := by decide +kernel
theorem dX4_minuteToldBy_4 : decode cX4_minuteToldBy 4 = .ok (.iload_n 1, 1) := by decide +kernel
theorem dX4_minuteToldBy_5 : decode cX4_minuteToldBy 5 = .ok (.laload, 1) := by decide +kernel
theorem dX4_minuteToldBy_6 : decode cX4_minuteToldBy 6 = .ok (.ldc2_w 140, 3) := by decide +kernel
theorem dX4_minuteToldBy_9 : decode cX4_minuteToldBy 9 = .ok (.land, 1) := by decide +kernel
theorem dX4_minuteToldBy_10 : decode cX4_minuteToldBy 10 = .ok (.invokestatic 85, 3) := by decide +kernel
theorem dX4_minuteToldBy_13 : decode cX4_minuteToldBy 13 = .ok (.aload_n 0, 1) := by decide +kernel
theorem dX4_minuteToldBy_14 : decode cX4_minuteToldBy 14 = .ok (.getfield 9, 3) := by decide +kernel
theorem dX4_minuteToldBy_17 : decode cX4_minuteToldBy 17 = .ok (.iconst 3, 1) := by decide +kernel
theorem dX4_minuteToldBy_18 : decode cX4_minuteToldBy 18 = .ok (.iaload, 1) := by decide +kernel
theorem dX4_minuteToldBy_19 : decode cX4_minuteToldBy 19 = .ok (.if_icmp .le 7, 3) := by decide +kernel
theorem dX4_minuteToldBy_22 : decode cX4_minuteToldBy 22 = .ok (.iconst (-1), 1) := by decide +kernel
theorem dX4_minuteToldBy_23 : decode cX4_minuteToldBy 23 = .ok (.goto 9, 3) := by decide +kernel
theorem dX4_minuteToldBy_26 : decode cX4_minuteToldBy 26 = .ok (.aload_n 0, 1) := by decide +kernel
theorem dX4_minuteToldBy_27 : decode cX4_minuteToldBy 27 = .ok (.getfield 35, 3) := by decide +kernel
theorem dX4_minuteToldBy_30 : decode cX4_minuteToldBy 30 = .ok (.iload_n 1, 1) := by decide +kernel
theorem dX4_minuteToldBy_31 : decode cX4_minuteToldBy 31 = .ok (.iaload, 1) := by decide +kernel
theorem dX4_minuteToldBy_32 : decode cX4_minuteToldBy 32 = .ok (.ireturn, 1) := by decide +kernel
theorem dX4_voteOf_0 : decode cX4_voteOf 0 = .ok (.aload_n 0, 1) := by decide +kernel
theorem dX4_voteOf_1 : decode cX4_voteOf 1 = .ok (.iload_n 1, 1) := by decide +kernel
theorem dX4_voteOf_2 : decode cX4_voteOf 2 = .ok (.invokevirtual 137, 3) := by decide +kernel
theorem dX4_voteOf_5 : decode cX4_voteOf 5 = .ok (.istore_n 2, 1) := by decide +kernel
theorem dX4_voteOf_6 : decode cX4_voteOf 6 = .ok (.iload_n 2, 1) := by decide +kernel
theorem dX4_voteOf_7 : decode cX4_voteOf 7 = .ok (.iconst (-1), 1) := by decide +kernel
theorem dX4_voteOf_8 : decode cX4_voteOf 8 = .ok (.if_icmp .ne 7, 3) := by decide +kernel
theorem dX4_voteOf_11 : decode cX4_voteOf 11 = .ok (.iconst (-1), 1) := by decide +kernel
theorem dX4_voteOf_12 : decode cX4_voteOf 12 = .ok (.goto 6, 3) := by decide +kernel
theorem dX4_voteOf_15 : decode cX4_voteOf 15 = .ok (.iload_n 2, 1) := by decide +kernel
theorem dX4_voteOf_16 : decode cX4_voteOf 16 = .ok (.iload_n 1, 1) := by decide +kernel
theorem dX4_voteOf_17 : decode cX4_voteOf 17 = .ok (.iadd, 1) := by decide +kernel
theorem dX4_voteOf_18 : decode cX4_voteOf 18 = .ok (.ireturn, 1) := by decide +kernel
theorem dX4_castVotes_0 : decode cX4_castVotes 0 = .ok (.aload_n 0, 1) := by decide +kernel
theorem dX4_castVotes_1 : decode cX4_castVotes 1 = .ok (.getfield 50, 3) := by decide +kernel
theorem dX4_castVotes_4 : decode cX4_castVotes 4 = .ok (.invokevirtual 127, 3) := by decide +kernel
theorem dX4_castVotes_7 : decode cX4_castVotes 7 = .ok (.iconst 0, 1) := by decide +kernel
theorem dX4_castVotes_8 : decode cX4_castVotes 8 = .ok (.istore_n 1, 1) := by decide +kernel
theorem dX4_castVotes_9 : decode cX4_castVotes 9 = .ok (.iload_n 1, 1) := by decide +kernel
theorem dX4_castVotes_10 : decode cX4_castVotes 10 = .ok (.aload_n 0, 1) := by decide +kernel
theorem dX4_castVotes_11 : decode cX4_castVotes 11 = .ok (.getfield 70, 3) := by decide +kernel
theorem dX4_castVotes_14 : decode cX4_castVotes 14 = .ok (.if_icmp .ge 21, 3) := by decide +kernel
theorem dX4_castVotes_17 : decode cX4_castVotes 17 = .ok (.aload_n 0, 1) := by decide +kernel
theorem dX4_castVotes_18 : decode cX4_castVotes 18 = .ok (.getfield 50, 3) := by decide +kernel
theorem dX4_castVotes_21 : decode cX4_castVotes 21 = .ok (.aload_n 0, 1) := by decide +kernel
theorem dX4_castVotes_22 : decode cX4_castVotes 22 = .ok (.iload_n 1, 1) := by decide +kernel
theorem dX4_castVotes_23 : decode cX4_castVotes 23 = .ok (.invokevirtual 130, 3) := by decide +kernel
theorem dX4_castVotes_26 : decode cX4_castVotes 26 = .ok (.invokevirtual 133, 3) := by decide +kernel
theorem dX4_castVotes_29 : decode cX4_castVotes 29 = .ok (.iinc 1 1, 3) := by decide +kernel
theorem dX4_castVotes_32 : decode cX4_castVotes 32 = .ok (.goto (-23), 3) := by decide +kernel
theorem dX4_castVotes_35 : decode cX4_castVotes 35 = .ok (.return_, 1) := by decide +kernel
theorem dX4_keepFix_0 : decode cX4_keepFix 0 = .ok (.aload_n 0, 1) := by decide +kernel
theorem dX4_keepFix_1 : decode cX4_keepFix 1 = .ok (.getfield 41, 3) := by decide +kernel
theorem dX4_keepFix_4 : decode cX4_keepFix 4 = .ok (.iconst 0, 1) := by decide +kernel
theorem dX4_keepFix_5 : decode cX4_keepFix 5 = .ok (.aload_n 0, 1) := by decide +kernel
theorem dX4_keepFix_6 : decode cX4_keepFix 6 = .ok (.getfield 41, 3) := by decide +kernel
theorem dX4_keepFix_9 : decode cX4_keepFix 9 = .ok (.iconst 1, 1) := by decide +kernel
theorem dX4_keepFix_10 : decode cX4_keepFix 10 = .ok (.bipush 7, 2) := by decide +kernel
theorem dX4_keepFix_12 : decode cX4_keepFix 12 = .ok (.invokestatic 54, 3) := by decide +kernel
theorem dX4_keepFix_15 : decode cX4_keepFix 15 = .ok (.aload_n 0, 1) := by decide +kernel
theorem dX4_keepFix_16 : decode cX4_keepFix 16 = .ok (.getfield 44, 3) := by decide +kernel
theorem dX4_keepFix_19 : decode cX4_keepFix 19 = .ok (.iconst 0, 1) := by decide +kernel
theorem dX4_keepFix_20 : decode cX4_keepFix 20 = .ok (.aload_n 0, 1) := by decide +kernel
theorem dX4_keepFix_21 : decode cX4_keepFix 21 = .ok (.getfield 44, 3) := by decide +kernel
theorem dX4_keepFix_24 : decode cX4_keepFix 24 = .ok (.iconst 1, 1) := by decide +kernel
theorem dX4_keepFix_25 : decode cX4_keepFix 25 = .ok (.bipush 7, 2) := by decide +kernel
theorem dX4_keepFix_27 : decode cX4_keepFix 27 = .ok (.invokestatic 54, 3) := by decide +kernel
theorem dX4_keepFix_30 : decode cX4_keepFix 30 = .ok (.aload_n 0, 1) := by decide +kernel
theorem dX4_keepFix_31 : decode cX4_keepFix 31 = .ok (.getfield 41, 3) := by decide +kernel
theorem dX4_keepFix_34 : decode cX4_keepFix 34 = .ok (.iconst 0, 1) := by decide +kernel
theorem dX4_keepFix_35 : decode cX4_keepFix 35 = .ok (.iload_n 1, 1) := by decide +kernel
theorem dX4_keepFix_36 : decode cX4_keepFix 36 = .ok (.iastore, 1) := by decide +kernel
theorem dX4_keepFix_37 : decode cX4_keepFix 37 = .ok (.aload_n 0, 1) := by decide +kernel
theorem dX4_keepFix_38 : decode cX4_keepFix 38 = .ok (.getfield 44, 3) := by decide +kernel
theorem dX4_keepFix_41 : decode cX4_keepFix 41 = .ok (.iconst 0, 1) := by decide +kernel
theorem dX4_keepFix_42 : decode cX4_keepFix 42 = .ok (.iload_n 2, 1) := by decide +kernel
theorem dX4_keepFix_43 : decode cX4_keepFix 43 = .ok (.iastore, 1) := by decide +kernel
theorem dX4_keepFix_44 : decode cX4_keepFix 44 = .ok (.aload_n 0, 1) := by decide +kernel
theorem dX4_keepFix_45 : decode cX4_keepFix 45 = .ok (.aload_n 0, 1) := by decide +kernel
theorem dX4_keepFix_46 : decode cX4_keepFix 46 = .ok (.getfield 76, 3) := by decide +kernel
theorem dX4_keepFix_49 : decode cX4_keepFix 49 = .ok (.iconst 1, 1) := by decide +kernel
theorem dX4_keepFix_50 : decode cX4_keepFix 50 = .ok (.iadd, 1) := by decide +kernel
theorem dX4_keepFix_51 : decode cX4_keepFix 51 = .ok (.bipush 8, 2) := by decide +kernel
theorem dX4_keepFix_53 : decode cX4_keepFix 53 = .ok (.invokestatic 79, 3) := by decide +kernel
theorem dX4_keepFix_56 : decode cX4_keepFix 56 = .ok (.putfield 76, 3) := by decide +kernel
theorem dX4_keepFix_59 : decode cX4_keepFix 59 = .ok (.return_, 1) := by decide +kernel
theorem dX4_countVotes_0 : decode cX4_countVotes 0 = .ok (.iconst 0, 1) := by decide +kernel
theorem dX4_countVotes_1 : decode cX4_countVotes 1 = .ok (.istore_n 1, 1) := by decide +kernel
theorem dX4_countVotes_2 : decode cX4_countVotes 2 = .ok (.aload_n 0, 1) := by decide +kernel
theorem dX4_countVotes_3 : decode cX4_countVotes 3 = .ok (.invokevirtual 142, 3) := by decide +kernel
theorem dX4_countVotes_6 : decode cX4_countVotes 6 = .ok (.aload_n 0, 1) := by decide +kernel
theorem dX4_countVotes_7 : decode cX4_countVotes 7 = .ok (.aload_n 0, 1) := by decide +kernel
theorem dX4_countVotes_8 : decode cX4_countVotes 8 = .ok (.getfield 50, 3) := by decide +kernel
theorem dX4_countVotes_11 : decode cX4_countVotes 11 = .ok (.aload_n 0, 1) := by decide +kernel
theorem dX4_countVotes_12 : decode cX4_countVotes 12 = .ok (.getfield 9, 3) := by decide +kernel
theorem dX4_countVotes_15 : decode cX4_countVotes 15 = .ok (.iconst 1, 1) := by decide +kernel
theorem dX4_countVotes_16 : decode cX4_countVotes 16 = .ok (.iaload, 1) := by decide +kernel
theorem dX4_countVotes_17 : decode cX4_countVotes 17 = .ok (.invokevirtual 145, 3) := by decide +kernel
theorem dX4_countVotes_20 : decode cX4_countVotes 20 = .ok (.putfield 38, 3) := by decide +kernel
theorem dX4_countVotes_23 : decode cX4_countVotes 23 = .ok (.aload_n 0, 1) := by decide +kernel
theorem dX4_countVotes_24 : decode cX4_countVotes 24 = .ok (.getfield 38, 3) := by decide +kernel
theorem dX4_countVotes_27 : decode cX4_countVotes 27 = .ok (.iconst (-1), 1) := by decide +kernel
theorem dX4_countVotes_28 : decode cX4_countVotes 28 = .ok (.if_icmp .ne 9, 3) := by decide +kernel
theorem dX4_countVotes_31 : decode cX4_countVotes 31 = .ok (.aload_n 0, 1) := by decide +kernel
theorem dX4_countVotes_32 : decode cX4_countVotes 32 = .ok (.iconst 0, 1) := by decide +kernel
theorem dX4_countVotes_33 : decode cX4_countVotes 33 = .ok (.putfield 73, 3) := by decide +kernel
theorem dX4_countVotes_36 : decode cX4_countVotes 36 = .ok (.return_, 1) := by decide +kernel
theorem dX4_countVotes_37 : decode cX4_countVotes 37 = .ok (.aload_n 0, 1) := by decide +kernel
theorem dX4_countVotes_38 : decode cX4_countVotes 38 = .ok (.aload_n 0, 1) := by decide +kernel
theorem dX4_countVotes_39 : decode cX4_countVotes 39 = .ok (.getfield 50, 3) := by decide +kernel
theorem dX4_countVotes_42 : decode cX4_countVotes 42 = .ok (.aload_n 0, 1) := by decide +kernel
theorem dX4_countVotes_43 : decode cX4_countVotes 43 = .ok (.getfield 38, 3) := by decide +kernel
theorem dX4_countVotes_46 : decode cX4_countVotes 46 = .ok (.invokevirtual 148, 3) := by decide +kernel
theorem dX4_countVotes_49 : decode cX4_countVotes 49 = .ok (.putfield 73, 3) := by decide +kernel
theorem dX4_countVotes_52 : decode cX4_countVotes 52 = .ok (.iconst 0, 1) := by decide +kernel
theorem dX4_countVotes_53 : decode cX4_countVotes 53 = .ok (.istore_n 2, 1) := by decide +kernel
theorem dX4_countVotes_54 : decode cX4_countVotes 54 = .ok (.iload_n 2, 1) := by decide +kernel
theorem dX4_countVotes_55 : decode cX4_countVotes 55 = .ok (.aload_n 0, 1) := by decide +kernel
theorem dX4_countVotes_56 : decode cX4_countVotes 56 = .ok (.getfield 70, 3) := by decide +kernel
theorem dX4_countVotes_59 : decode cX4_countVotes 59 = .ok (.if_icmp .ge 40, 3) := by decide +kernel
theorem dX4_countVotes_62 : decode cX4_countVotes 62 = .ok (.aload_n 0, 1) := by decide +kernel
theorem dX4_countVotes_63 : decode cX4_countVotes 63 = .ok (.iload_n 2, 1) := by decide +kernel
theorem dX4_countVotes_64 : decode cX4_countVotes 64 = .ok (.invokevirtual 130, 3) := by decide +kernel
theorem dX4_countVotes_67 : decode cX4_countVotes 67 = .ok (.aload_n 0, 1) := by decide +kernel
theorem dX4_countVotes_68 : decode cX4_countVotes 68 = .ok (.getfield 38, 3) := by decide +kernel
theorem dX4_countVotes_71 : decode cX4_countVotes 71 = .ok (.if_icmp .ne 22, 3) := by decide +kernel
theorem dX4_countVotes_74 : decode cX4_countVotes 74 = .ok (.aload_n 0, 1) := by decide +kernel
theorem dX4_countVotes_75 : decode cX4_countVotes 75 = .ok (.getfield 28, 3) := by decide +kernel
theorem dX4_countVotes_78 : decode cX4_countVotes 78 = .ok (.iload_n 2, 1) := by decide +kernel
theorem dX4_countVotes_79 : decode cX4_countVotes 79 = .ok (.laload, 1) := by decide +kernel
theorem dX4_countVotes_80 : decode cX4_countVotes 80 = .ok (.bipush 19, 2) := by decide +kernel
theorem dX4_countVotes_82 : decode cX4_countVotes 82 = .ok (.lushr, 1) := by decide +kernel
theorem dX4_countVotes_83 : decode cX4_countVotes 83 = .ok (.lconst 1, 1) := by decide +kernel
theorem dX4_countVotes_84 : decode cX4_countVotes 84 = .ok (.land, 1) := by decide +kernel
theorem dX4_countVotes_85 : decode cX4_countVotes 85 = .ok (.lconst 0, 1) := by decide +kernel
theorem dX4_countVotes_86 : decode cX4_countVotes 86 = .ok (.lcmp, 1) := by decide +kernel
theorem dX4_countVotes_87 : decode cX4_countVotes 87 = .ok (.ifCond .eq 6, 3) := by decide +kernel
theorem dX4_countVotes_90 : decode cX4_countVotes 90 = .ok (.iinc 1 1, 3) := by decide +kernel
theorem dX4_countVotes_93 : decode cX4_countVotes 93 = .ok (.iinc 2 1, 3) := by decide +kernel
theorem dX4_countVotes_96 : decode cX4_countVotes 96 = .ok (.goto (-42), 3) := by decide +kernel
theorem dX4_countVotes_99 : decode cX4_countVotes 99 = .ok (.aload_n 0, 1) := by decide +kernel
theorem dX4_countVotes_100 : decode cX4_countVotes 100 = .ok (.getfield 38, 3) := by decide +kernel
theorem dX4_countVotes_103 : decode cX4_countVotes 103 = .ok (.iconst 1, 1) := by decide +kernel
theorem dX4_countVotes_104 : decode cX4_countVotes 104 = .ok (.iadd, 1) := by decide +kernel
theorem dX4_countVotes_105 : decode cX4_countVotes 105 = .ok (.bipush 60, 2) := by decide +kernel
theorem dX4_countVotes_107 : decode cX4_countVotes 107 = .ok (.irem, 1) := by decide +kernel
theorem dX4_countVotes_108 : decode cX4_countVotes 108 = .ok (.bipush 59, 2) := by decide +kernel
theorem dX4_countVotes_110 : decode cX4_countVotes 110 = .ok (.if_icmp .ne 19, 3) := by decide +kernel
theorem dX4_countVotes_113 : decode cX4_countVotes 113 = .ok (.iconst 2, 1) := by decide +kernel
theorem dX4_countVotes_114 : decode cX4_countVotes 114 = .ok (.iload_n 1, 1) := by decide +kernel
theorem dX4_countVotes_115 : decode cX4_countVotes 115 = .ok (.imul, 1) := by decide +kernel
theorem dX4_countVotes_116 : decode cX4_countVotes 116 = .ok (.aload_n 0, 1) := by decide +kernel
theorem dX4_countVotes_117 : decode cX4_countVotes 117 = .ok (.getfield 73, 3) := by decide +kernel
theorem dX4_countVotes_120 : decode cX4_countVotes 120 = .ok (.if_icmp .lt 9, 3) := by decide +kernel
theorem dX4_countVotes_123 : decode cX4_countVotes 123 = .ok (.aload_n 0, 1) := by decide +kernel
theorem dX4_countVotes_124 : decode cX4_countVotes 124 = .ok (.bipush 61, 2) := by decide +kernel
theorem dX4_countVotes_126 : decode cX4_countVotes 126 = .ok (.putfield 25, 3) := by decide +kernel
theorem dX4_countVotes_129 : decode cX4_countVotes 129 = .ok (.aload_n 0, 1) := by decide +kernel
theorem dX4_countVotes_130 : decode cX4_countVotes 130 = .ok (.aload_n 0, 1) := by decide +kernel
theorem dX4_countVotes_131 : decode cX4_countVotes 131 = .ok (.getfield 38, 3) := by decide +kernel
theorem dX4_countVotes_134 : decode cX4_countVotes 134 = .ok (.iconst 1, 1) := by decide +kernel
theorem dX4_countVotes_135 : decode cX4_countVotes 135 = .ok (.iadd, 1) := by decide +kernel
theorem dX4_countVotes_136 : decode cX4_countVotes 136 = .ok (.aload_n 0, 1) := by decide +kernel
theorem dX4_countVotes_137 : decode cX4_countVotes 137 = .ok (.getfield 19, 3) := by decide +kernel
theorem dX4_countVotes_140 : decode cX4_countVotes 140 = .ok (.sipush 1000, 3) := by decide +kernel
theorem dX4_countVotes_143 : decode cX4_countVotes 143 = .ok (.aload_n 0, 1) := by decide +kernel
theorem dX4_countVotes_144 : decode cX4_countVotes 144 = .ok (.getfield 22, 3) := by decide +kernel
theorem dX4_countVotes_147 : decode cX4_countVotes 147 = .ok (.imul, 1) := by decide +kernel
theorem dX4_countVotes_148 : decode cX4_countVotes 148 = .ok (.isub, 1) := by decide +kernel
theorem dX4_countVotes_149 : decode cX4_countVotes 149 = .ok (.invokevirtual 151, 3) := by decide +kernel
theorem dX4_countVotes_152 : decode cX4_countVotes 152 = .ok (.return_, 1) := by decide +kernel
theorem dX4_takePulse_0 : decode cX4_takePulse 0 = .ok (.aload_n 0, 1) := by decide +kernel
theorem dX4_takePulse_1 : decode cX4_takePulse 1 = .ok (.iload_n 1, 1) := by decide +kernel
theorem dX4_takePulse_2 : decode cX4_takePulse 2 = .ok (.putfield 15, 3) := by decide +kernel
theorem dX4_takePulse_5 : decode cX4_takePulse 5 = .ok (.aload_n 0, 1) := by decide +kernel
theorem dX4_takePulse_6 : decode cX4_takePulse 6 = .ok (.iload_n 1, 1) := by decide +kernel
theorem dX4_takePulse_7 : decode cX4_takePulse 7 = .ok (.iload_n 2, 1) := by decide +kernel
theorem dX4_takePulse_8 : decode cX4_takePulse 8 = .ok (.invokevirtual 91, 3) := by decide +kernel
theorem dX4_takePulse_11 : decode cX4_takePulse 11 = .ok (.ifCond .eq 15, 3) := by decide +kernel
theorem dX4_takePulse_14 : decode cX4_takePulse 14 = .ok (.aload_n 0, 1) := by decide +kernel
theorem dX4_takePulse_15 : decode cX4_takePulse 15 = .ok (.dup, 1) := by decide +kernel
theorem dX4_takePulse_16 : decode cX4_takePulse 16 = .ok (.getfield 60, 3) := by decide +kernel
theorem dX4_takePulse_19 : decode cX4_takePulse 19 = .ok (.iconst 1, 1) := by decide +kernel
theorem dX4_takePulse_20 : decode cX4_takePulse 20 = .ok (.iadd, 1) := by decide +kernel
theorem dX4_takePulse_21 : decode cX4_takePulse 21 = .ok (.putfield 60, 3) := by decide +kernel
theorem dX4_takePulse_24 : decode cX4_takePulse 24 = .ok (.iconst 0, 1) := by decide +kernel
theorem dX4_takePulse_25 : decode cX4_takePulse 25 = .ok (.ireturn, 1) := by decide +kernel
theorem dX4_takePulse_26 : decode cX4_takePulse 26 = .ok (.aload_n 0, 1) := by decide +kernel
theorem dX4_takePulse_27 : decode cX4_takePulse 27 = .ok (.iload_n 1, 1) := by decide +kernel
theorem dX4_takePulse_28 : decode cX4_takePulse 28 = .ok (.invokevirtual 95, 3) := by decide +kernel
theorem dX4_takePulse_31 : decode cX4_takePulse 31 = .ok (.istore_n 3, 1) := by decide +kernel
theorem dX4_takePulse_32 : decode cX4_takePulse 32 = .ok (.aload_n 0, 1) := by decide +kernel
theorem dX4_takePulse_33 : decode cX4_takePulse 33 = .ok (.iload_n 1, 1) := by decide +kernel
theorem dX4_takePulse_34 : decode cX4_takePulse 34 = .ok (.putfield 19, 3) := by decide +kernel
theorem dX4_takePulse_37 : decode cX4_takePulse 37 = .ok (.iload_n 3, 1) := by decide +kernel
theorem dX4_takePulse_38 : decode cX4_takePulse 38 = .ok (.bipush 10, 2) := by decide +kernel
theorem dX4_takePulse_40 : decode cX4_takePulse 40 = .ok (.if_icmp .le 9, 3) := by decide +kernel
theorem dX4_takePulse_43 : decode cX4_takePulse 43 = .ok (.aload_n 0, 1) := by decide +kernel
theorem dX4_takePulse_44 : decode cX4_takePulse 44 = .ok (.invokevirtual 99, 3) := by decide +kernel
theorem dX4_takePulse_47 : decode cX4_takePulse 47 = .ok (.iconst 4, 1) := by decide +kernel
theorem dX4_takePulse_48 : decode cX4_takePulse 48 = .ok (.ireturn, 1) := by decide +kernel
theorem dX4_takePulse_49 : decode cX4_takePulse 49 = .ok (.aload_n 0, 1) := by decide +kernel
theorem dX4_takePulse_50 : decode cX4_takePulse 50 = .ok (.getfield 22, 3) := by decide +kernel
theorem dX4_takePulse_53 : decode cX4_takePulse 53 = .ok (.iconst (-1), 1) := by decide +kernel
theorem dX4_takePulse_54 : decode cX4_takePulse 54 = .ok (.if_icmp .ne 18, 3) := by decide +kernel
theorem dX4_takePulse_57 : decode cX4_takePulse 57 = .ok (.iload_n 3, 1) := by decide +kernel
theorem dX4_takePulse_58 : decode cX4_takePulse 58 = .ok (.iconst 2, 1) := by decide +kernel
theorem dX4_takePulse_59 : decode cX4_takePulse 59 = .ok (.if_icmp .eq 5, 3) := by decide +kernel
theorem dX4_takePulse_62 : decode cX4_takePulse 62 = .ok (.iconst 1, 1) := by decide +kernel
theorem dX4_takePulse_63 : decode cX4_takePulse 63 = .ok (.ireturn, 1) := by decide +kernel
theorem dX4_takePulse_64 : decode cX4_takePulse 64 = .ok (.aload_n 0, 1) := by decide +kernel
theorem dX4_takePulse_65 : decode cX4_takePulse 65 = .ok (.iconst 0, 1) := by decide +kernel
theorem dX4_takePulse_66 : decode cX4_takePulse 66 = .ok (.iload_n 2, 1) := by decide +kernel
theorem dX4_takePulse_67 : decode cX4_takePulse 67 = .ok (.invokevirtual 102, 3) := by decide +kernel
theorem dX4_takePulse_70 : decode cX4_takePulse 70 = .ok (.iconst 3, 1) := by decide +kernel
theorem dX4_takePulse_71 : decode cX4_takePulse 71 = .ok (.ireturn, 1) := by decide +kernel
theorem dX4_takePulse_72 : decode cX4_takePulse 72 = .ok (.aload_n 0, 1) := by decide +kernel
theorem dX4_takePulse_73 : decode cX4_takePulse 73 = .ok (.getfield 22, 3) := by decide +kernel
theorem dX4_takePulse_76 : decode cX4_takePulse 76 = .ok (.iload_n 3, 1) := by decide +kernel
theorem dX4_takePulse_77 : decode cX4_takePulse 77 = .ok (.iadd, 1) := by decide +kernel
theorem dX4_takePulse_78 : decode cX4_takePulse 78 = .ok (.istore 4, 2) := by decide +kernel
theorem dX4_takePulse_80 : decode cX4_takePulse 80 = .ok (.iload 4, 2) := by decide +kernel
theorem dX4_takePulse_82 : decode cX4_takePulse 82 = .ok (.aload_n 0, 1) := by decide +kernel
theorem dX4_takePulse_83 : decode cX4_takePulse 83 = .ok (.getfield 25, 3) := by decide +kernel
theorem dX4_takePulse_86 : decode cX4_takePulse 86 = .ok (.iconst 1, 1) := by decide +kernel
theorem dX4_takePulse_87 : decode cX4_takePulse 87 = .ok (.isub, 1) := by decide +kernel
theorem dX4_takePulse_88 : decode cX4_takePulse 88 = .ok (.if_icmp .ne 9, 3) := by decide +kernel
theorem dX4_takePulse_91 : decode cX4_takePulse 91 = .ok (.aload_n 0, 1) := by decide +kernel
theorem dX4_takePulse_92 : decode cX4_takePulse 92 = .ok (.invokevirtual 99, 3) := by decide +kernel
theorem dX4_takePulse_95 : decode cX4_takePulse 95 = .ok (.iconst 4, 1) := by decide +kernel
theorem dX4_takePulse_96 : decode cX4_takePulse 96 = .ok (.ireturn, 1) := by decide +kernel
theorem dX4_takePulse_97 : decode cX4_takePulse 97 = .ok (.iload 4, 2) := by decide +kernel
theorem dX4_takePulse_99 : decode cX4_takePulse 99 = .ok (.aload_n 0, 1) := by decide +kernel
theorem dX4_takePulse_100 : decode cX4_takePulse 100 = .ok (.getfield 25, 3) := by decide +kernel
theorem dX4_takePulse_103 : decode cX4_takePulse 103 = .ok (.if_icmp .ge 41, 3) := by decide +kernel
theorem dX4_takePulse_106 : decode cX4_takePulse 106 = .ok (.aload_n 0, 1) := by decide +kernel
theorem dX4_takePulse_107 : decode cX4_takePulse 107 = .ok (.aload_n 0, 1) := by decide +kernel
theorem dX4_takePulse_108 : decode cX4_takePulse 108 = .ok (.getfield 22, 3) := by decide +kernel
theorem dX4_takePulse_111 : decode cX4_takePulse 111 = .ok (.iconst 1, 1) := by decide +kernel
theorem dX4_takePulse_112 : decode cX4_takePulse 112 = .ok (.iadd, 1) := by decide +kernel
theorem dX4_takePulse_113 : decode cX4_takePulse 113 = .ok (.iload 4, 2) := by decide +kernel
theorem dX4_takePulse_115 : decode cX4_takePulse 115 = .ok (.iconst 1, 1) := by decide +kernel
theorem dX4_takePulse_116 : decode cX4_takePulse 116 = .ok (.isub, 1) := by decide +kernel
theorem dX4_takePulse_117 : decode cX4_takePulse 117 = .ok (.invokevirtual 106, 3) := by decide +kernel
theorem dX4_takePulse_120 : decode cX4_takePulse 120 = .ok (.aload_n 0, 1) := by decide +kernel
theorem dX4_takePulse_121 : decode cX4_takePulse 121 = .ok (.iload 4, 2) := by decide +kernel
theorem dX4_takePulse_123 : decode cX4_takePulse 123 = .ok (.putfield 22, 3) := by decide +kernel
theorem dX4_takePulse_126 : decode cX4_takePulse 126 = .ok (.aload_n 0, 1) := by decide +kernel
theorem dX4_takePulse_127 : decode cX4_takePulse 127 = .ok (.iload 4, 2) := by decide +kernel
theorem dX4_takePulse_129 : decode cX4_takePulse 129 = .ok (.iload_n 2, 1) := by decide +kernel
theorem dX4_takePulse_130 : decode cX4_takePulse 130 = .ok (.invokevirtual 109, 3) := by decide +kernel
theorem dX4_takePulse_133 : decode cX4_takePulse 133 = .ok (.iload_n 3, 1) := by decide +kernel
theorem dX4_takePulse_134 : decode cX4_takePulse 134 = .ok (.iconst 1, 1) := by decide +kernel
theorem dX4_takePulse_135 : decode cX4_takePulse 135 = .ok (.if_icmp .le 7, 3) := by decide +kernel
theorem dX4_takePulse_138 : decode cX4_takePulse 138 = .ok (.iconst 2, 1) := by decide +kernel
theorem dX4_takePulse_139 : decode cX4_takePulse 139 = .ok (.goto 4, 3) := by decide +kernel
theorem dX4_takePulse_142 : decode cX4_takePulse 142 = .ok (.iconst 1, 1) := by decide +kernel
theorem dX4_takePulse_143 : decode cX4_takePulse 143 = .ok (.ireturn, 1) := by decide +kernel
theorem dX4_takePulse_144 : decode cX4_takePulse 144 = .ok (.iload 4, 2) := by decide +kernel
theorem dX4_takePulse_146 : decode cX4_takePulse 146 = .ok (.aload_n 0, 1) := by decide +kernel
theorem dX4_takePulse_147 : decode cX4_takePulse 147 = .ok (.getfield 25, 3) := by decide +kernel
theorem dX4_takePulse_150 : decode cX4_takePulse 150 = .ok (.isub, 1) := by decide +kernel
theorem dX4_takePulse_151 : decode cX4_takePulse 151 = .ok (.istore 5, 2) := by decide +kernel
theorem dX4_takePulse_153 : decode cX4_takePulse 153 = .ok (.aload_n 0, 1) := by decide +kernel
theorem dX4_takePulse_154 : decode cX4_takePulse 154 = .ok (.invokevirtual 112, 3) := by decide +kernel
theorem dX4_takePulse_157 : decode cX4_takePulse 157 = .ok (.aload_n 0, 1) := by decide +kernel
theorem dX4_takePulse_158 : decode cX4_takePulse 158 = .ok (.iload 5, 2) := by decide +kernel
theorem dX4_takePulse_160 : decode cX4_takePulse 160 = .ok (.iload_n 2, 1) := by decide +kernel
theorem dX4_takePulse_161 : decode cX4_takePulse 161 = .ok (.invokevirtual 102, 3) := by decide +kernel
theorem dX4_takePulse_164 : decode cX4_takePulse 164 = .ok (.aload_n 0, 1) := by decide +kernel
theorem dX4_takePulse_165 : decode cX4_takePulse 165 = .ok (.invokevirtual 115, 3) := by decide +kernel
theorem dX4_takePulse_168 : decode cX4_takePulse 168 = .ok (.iconst 3, 1) := by decide +kernel
theorem dX4_takePulse_169 : decode cX4_takePulse 169 = .ok (.ireturn, 1) := by decide +kernel
theorem dX4_hearMinute_0 : decode cX4_hearMinute 0 = .ok (.iload_n 1, 1) := by decide +kernel
theorem dX4_hearMinute_1 : decode cX4_hearMinute 1 = .ok (.iload_n 2, 1) := by decide +kernel
theorem dX4_hearMinute_2 : decode cX4_hearMinute 2 = .ok (.invokestatic 160, 3) := by decide +kernel
theorem dX4_hearMinute_5 : decode cX4_hearMinute 5 = .ok (.lstore 5, 2) := by decide +kernel
theorem dX4_hearMinute_7 : decode cX4_hearMinute 7 = .ok (.aload_n 0, 1) := by decide +kernel
theorem dX4_hearMinute_8 : decode cX4_hearMinute 8 = .ok (.invokevirtual 154, 3) := by decide +kernel
theorem dX4_hearMinute_11 : decode cX4_hearMinute 11 = .ok (.istore 7, 2) := by decide +kernel
theorem dX4_hearMinute_13 : decode cX4_hearMinute 13 = .ok (.iconst 0, 1) := by decide +kernel
theorem dX4_hearMinute_14 : decode cX4_hearMinute 14 = .ok (.istore 8, 2) := by decide +kernel
theorem dX4_hearMinute_16 : decode cX4_hearMinute 16 = .ok (.iconst 0, 1) := by decide +kernel
theorem dX4_hearMinute_17 : decode cX4_hearMinute 17 = .ok (.istore 9, 2) := by decide +kernel
theorem dX4_hearMinute_19 : decode cX4_hearMinute 19 = .ok (.iload 9, 2) := by decide +kernel
theorem dX4_hearMinute_21 : decode cX4_hearMinute 21 = .ok (.bipush 58, 2) := by decide +kernel
theorem dX4_hearMinute_23 : decode cX4_hearMinute 23 = .ok (.if_icmp .gt 88, 3) := by decide +kernel
theorem dX4_hearMinute_26 : decode cX4_hearMinute 26 = .ok (.iload 7, 2) := by decide +kernel
theorem dX4_hearMinute_28 : decode cX4_hearMinute 28 = .ok (.sipush 1000, 3) := by decide +kernel
theorem dX4_hearMinute_31 : decode cX4_hearMinute 31 = .ok (.iload 9, 2) := by decide +kernel
theorem dX4_hearMinute_33 : decode cX4_hearMinute 33 = .ok (.imul, 1) := by decide +kernel
theorem dX4_hearMinute_34 : decode cX4_hearMinute 34 = .ok (.iadd, 1) := by decide +kernel
theorem dX4_hearMinute_35 : decode cX4_hearMinute 35 = .ok (.istore 10, 2) := by decide +kernel
theorem dX4_hearMinute_37 : decode cX4_hearMinute 37 = .ok (.lload 5, 2) := by decide +kernel
theorem dX4_hearMinute_39 : decode cX4_hearMinute 39 = .ok (.iload 9, 2) := by decide +kernel
theorem dX4_hearMinute_41 : decode cX4_hearMinute 41 = .ok (.lushr, 1) := by decide +kernel
theorem dX4_hearMinute_42 : decode cX4_hearMinute 42 = .ok (.lconst 1, 1) := by decide +kernel
theorem dX4_hearMinute_43 : decode cX4_hearMinute 43 = .ok (.land, 1) := by decide +kernel
theorem dX4_hearMinute_44 : decode cX4_hearMinute 44 = .ok (.lconst 0, 1) := by decide +kernel
theorem dX4_hearMinute_45 : decode cX4_hearMinute 45 = .ok (.lcmp, 1) := by decide +kernel
theorem dX4_hearMinute_46 : decode cX4_hearMinute 46 = .ok (.ifCond .eq 9, 3) := by decide +kernel
theorem dX4_hearMinute_49 : decode cX4_hearMinute 49 = .ok (.sipush 200, 3) := by decide +kernel
theorem dX4_hearMinute_52 : decode cX4_hearMinute 52 = .ok (.goto 5, 3) := by decide +kernel
theorem dX4_hearMinute_55 : decode cX4_hearMinute 55 = .ok (.bipush 100, 2) := by decide +kernel
theorem dX4_hearMinute_57 : decode cX4_hearMinute 57 = .ok (.istore 11, 2) := by decide +kernel
theorem dX4_hearMinute_59 : decode cX4_hearMinute 59 = .ok (.lload_n 3, 1) := by decide +kernel
theorem dX4_hearMinute_60 : decode cX4_hearMinute 60 = .ok (.iload 9, 2) := by decide +kernel
theorem dX4_hearMinute_62 : decode cX4_hearMinute 62 = .ok (.lushr, 1) := by decide +kernel
theorem dX4_hearMinute_63 : decode cX4_hearMinute 63 = .ok (.lconst 1, 1) := by decide +kernel
theorem dX4_hearMinute_64 : decode cX4_hearMinute 64 = .ok (.land, 1) := by decide +kernel
theorem dX4_hearMinute_65 : decode cX4_hearMinute 65 = .ok (.lconst 0, 1) := by decide +kernel
theorem dX4_hearMinute_66 : decode cX4_hearMinute 66 = .ok (.lcmp, 1) := by decide +kernel
theorem dX4_hearMinute_67 : decode cX4_hearMinute 67 = .ok (.ifCond .ne 16, 3) := by decide +kernel
theorem dX4_hearMinute_70 : decode cX4_hearMinute 70 = .ok (.iload 10, 2) := by decide +kernel
theorem dX4_hearMinute_72 : decode cX4_hearMinute 72 = .ok (.aload_n 0, 1) := by decide +kernel
theorem dX4_hearMinute_73 : decode cX4_hearMinute 73 = .ok (.getfield 15, 3) := by decide +kernel
theorem dX4_hearMinute_76 : decode cX4_hearMinute 76 = .ok (.if_icmp .le 7, 3) := by decide +kernel
theorem dX4_hearMinute_79 : decode cX4_hearMinute 79 = .ok (.iconst 1, 1) := by decide +kernel
theorem dX4_hearMinute_80 : decode cX4_hearMinute 80 = .ok (.goto 4, 3) := by decide +kernel
theorem dX4_hearMinute_83 : decode cX4_hearMinute 83 = .ok (.iconst 0, 1) := by decide +kernel
theorem dX4_hearMinute_84 : decode cX4_hearMinute 84 = .ok (.istore 12, 2) := by decide +kernel
theorem dX4_hearMinute_86 : decode cX4_hearMinute 86 = .ok (.iload 12, 2) := by decide +kernel
theorem dX4_hearMinute_88 : decode cX4_hearMinute 88 = .ok (.ifCond .eq 17, 3) := by decide +kernel
theorem dX4_hearMinute_91 : decode cX4_hearMinute 91 = .ok (.aload_n 0, 1) := by decide +kernel
theorem dX4_hearMinute_92 : decode cX4_hearMinute 92 = .ok (.iload 10, 2) := by decide +kernel
theorem dX4_hearMinute_94 : decode cX4_hearMinute 94 = .ok (.iload 11, 2) := by decide +kernel
theorem dX4_hearMinute_96 : decode cX4_hearMinute 96 = .ok (.invokevirtual 164, 3) := by decide +kernel
theorem dX4_hearMinute_99 : decode cX4_hearMinute 99 = .ok (.ifCond .eq 6, 3) := by decide +kernel
theorem dX4_hearMinute_102 : decode cX4_hearMinute 102 = .ok (.iinc 8 1, 3) := by decide +kernel
theorem dX4_hearMinute_105 : decode cX4_hearMinute 105 = .ok (.iinc 9 1, 3) := by decide +kernel
theorem dX4_hearMinute_108 : decode cX4_hearMinute 108 = .ok (.goto (-89), 3) := by decide +kernel
theorem dX4_hearMinute_111 : decode cX4_hearMinute 111 = .ok (.iload 8, 2) := by decide +kernel
theorem dX4_hearMinute_113 : decode cX4_hearMinute 113 = .ok (.ireturn, 1) := by decide +kernel
theorem dX4_blockWinner_0 : decode cX4_blockWinner 0 = .ok (.aload_n 0, 1) := by decide +kernel
theorem dX4_blockWinner_1 : decode cX4_blockWinner 1 = .ok (.getfield 50, 3) := by decide +kernel
theorem dX4_blockWinner_4 : decode cX4_blockWinner 4 = .ok (.invokevirtual 127, 3) := by decide +kernel
theorem dX4_blockWinner_7 : decode cX4_blockWinner 7 = .ok (.iconst 0, 1) := by decide +kernel
theorem dX4_blockWinner_8 : decode cX4_blockWinner 8 = .ok (.istore_n 3, 1) := by decide +kernel
theorem dX4_blockWinner_9 : decode cX4_blockWinner 9 = .ok (.iload_n 3, 1) := by decide +kernel
theorem dX4_blockWinner_10 : decode cX4_blockWinner 10 = .ok (.aload_n 0, 1) := by decide +kernel
theorem dX4_blockWinner_11 : decode cX4_blockWinner 11 = .ok (.getfield 70, 3) := by decide +kernel
theorem dX4_blockWinner_14 : decode cX4_blockWinner 14 = .ok (.if_icmp .ge 37, 3) := by decide +kernel
theorem dX4_blockWinner_17 : decode cX4_blockWinner 17 = .ok (.iload_n 3, 1) := by decide +kernel
theorem dX4_blockWinner_18 : decode cX4_blockWinner 18 = .ok (.iload_n 2, 1) := by decide +kernel
theorem dX4_blockWinner_19 : decode cX4_blockWinner 19 = .ok (.if_icmp .gt 32, 3) := by decide +kernel
theorem dX4_blockWinner_22 : decode cX4_blockWinner 22 = .ok (.aload_n 0, 1) := by decide +kernel
theorem dX4_blockWinner_23 : decode cX4_blockWinner 23 = .ok (.getfield 50, 3) := by decide +kernel
theorem dX4_blockWinner_26 : decode cX4_blockWinner 26 = .ok (.aload_n 0, 1) := by decide +kernel
theorem dX4_blockWinner_27 : decode cX4_blockWinner 27 = .ok (.getfield 28, 3) := by decide +kernel
theorem dX4_blockWinner_30 : decode cX4_blockWinner 30 = .ok (.iload_n 3, 1) := by decide +kernel
theorem dX4_blockWinner_31 : decode cX4_blockWinner 31 = .ok (.laload, 1) := by decide +kernel
theorem dX4_blockWinner_32 : decode cX4_blockWinner 32 = .ok (.aload_n 0, 1) := by decide +kernel
theorem dX4_blockWinner_33 : decode cX4_blockWinner 33 = .ok (.getfield 32, 3) := by decide +kernel
theorem dX4_blockWinner_36 : decode cX4_blockWinner 36 = .ok (.iload_n 3, 1) := by decide +kernel
theorem dX4_blockWinner_37 : decode cX4_blockWinner 37 = .ok (.laload, 1) := by decide +kernel
theorem dX4_blockWinner_38 : decode cX4_blockWinner 38 = .ok (.iload_n 1, 1) := by decide +kernel
theorem dX4_blockWinner_39 : decode cX4_blockWinner 39 = .ok (.invokestatic 167, 3) := by decide +kernel
theorem dX4_blockWinner_42 : decode cX4_blockWinner 42 = .ok (.invokevirtual 133, 3) := by decide +kernel
theorem dX4_blockWinner_45 : decode cX4_blockWinner 45 = .ok (.iinc 3 1, 3) := by decide +kernel
theorem dX4_blockWinner_48 : decode cX4_blockWinner 48 = .ok (.goto (-39), 3) := by decide +kernel
theorem dX4_blockWinner_51 : decode cX4_blockWinner 51 = .ok (.aload_n 0, 1) := by decide +kernel
theorem dX4_blockWinner_52 : decode cX4_blockWinner 52 = .ok (.getfield 50, 3) := by decide +kernel
theorem dX4_blockWinner_55 : decode cX4_blockWinner 55 = .ok (.aload_n 0, 1) := by decide +kernel
theorem dX4_blockWinner_56 : decode cX4_blockWinner 56 = .ok (.getfield 9, 3) := by decide +kernel
theorem dX4_blockWinner_59 : decode cX4_blockWinner 59 = .ok (.iconst 1, 1) := by decide +kernel
theorem dX4_blockWinner_60 : decode cX4_blockWinner 60 = .ok (.iaload, 1) := by decide +kernel
theorem dX4_blockWinner_61 : decode cX4_blockWinner 61 = .ok (.invokevirtual 145, 3) := by decide +kernel
theorem dX4_blockWinner_64 : decode cX4_blockWinner 64 = .ok (.ireturn, 1) := by decide +kernel
theorem dX4_assembledMinute_0 : decode cX4_assembledMinute 0 = .ok (.aload_n 0, 1) := by decide +kernel
theorem dX4_assembledMinute_1 : decode cX4_assembledMinute 1 = .ok (.getfield 50, 3) := by decide +kernel
theorem dX4_assembledMinute_4 : decode cX4_assembledMinute 4 = .ok (.invokevirtual 127, 3) := by decide +kernel
theorem dX4_assembledMinute_7 : decode cX4_assembledMinute 7 = .ok (.iconst 0, 1) := by decide +kernel
theorem dX4_assembledMinute_8 : decode cX4_assembledMinute 8 = .ok (.istore_n 1, 1) := by decide +kernel
theorem dX4_assembledMinute_9 : decode cX4_assembledMinute 9 = .ok (.iload_n 1, 1) := by decide +kernel
theorem dX4_assembledMinute_10 : decode cX4_assembledMinute 10 = .ok (.aload_n 0, 1) := by decide +kernel
theorem dX4_assembledMinute_11 : decode cX4_assembledMinute 11 = .ok (.getfield 70, 3) := by decide +kernel
theorem dX4_assembledMinute_14 : decode cX4_assembledMinute 14 = .ok (.if_icmp .ge 48, 3) := by decide +kernel
theorem dX4_assembledMinute_17 : decode cX4_assembledMinute 17 = .ok (.aload_n 0, 1) := by decide +kernel
theorem dX4_assembledMinute_18 : decode cX4_assembledMinute 18 = .ok (.getfield 28, 3) := by decide +kernel
theorem dX4_assembledMinute_21 : decode cX4_assembledMinute 21 = .ok (.iload_n 1, 1) := by decide +kernel
theorem dX4_assembledMinute_22 : decode cX4_assembledMinute 22 = .ok (.laload, 1) := by decide +kernel
theorem dX4_assembledMinute_23 : decode cX4_assembledMinute 23 = .ok (.aload_n 0, 1) := by decide +kernel
theorem dX4_assembledMinute_24 : decode cX4_assembledMinute 24 = .ok (.getfield 32, 3) := by decide +kernel
theorem dX4_assembledMinute_27 : decode cX4_assembledMinute 27 = .ok (.iload_n 1, 1) := by decide +kernel
theorem dX4_assembledMinute_28 : decode cX4_assembledMinute 28 = .ok (.laload, 1) := by decide +kernel
theorem dX4_assembledMinute_29 : decode cX4_assembledMinute 29 = .ok (.iconst 0, 1) := by decide +kernel
theorem dX4_assembledMinute_30 : decode cX4_assembledMinute 30 = .ok (.invokestatic 167, 3) := by decide +kernel
theorem dX4_assembledMinute_33 : decode cX4_assembledMinute 33 = .ok (.istore_n 2, 1) := by decide +kernel
theorem dX4_assembledMinute_34 : decode cX4_assembledMinute 34 = .ok (.aload_n 0, 1) := by decide +kernel
theorem dX4_assembledMinute_35 : decode cX4_assembledMinute 35 = .ok (.getfield 50, 3) := by decide +kernel
theorem dX4_assembledMinute_38 : decode cX4_assembledMinute 38 = .ok (.iload_n 2, 1) := by decide +kernel
theorem dX4_assembledMinute_39 : decode cX4_assembledMinute 39 = .ok (.iconst (-1), 1) := by decide +kernel
theorem dX4_assembledMinute_40 : decode cX4_assembledMinute 40 = .ok (.if_icmp .ne 7, 3) := by decide +kernel
theorem dX4_assembledMinute_43 : decode cX4_assembledMinute 43 = .ok (.iconst (-1), 1) := by decide +kernel
theorem dX4_assembledMinute_44 : decode cX4_assembledMinute 44 = .ok (.goto 9, 3) := by decide +kernel
theorem dX4_assembledMinute_47 : decode cX4_assembledMinute 47 = .ok (.iload_n 2, 1) := by decide +kernel
theorem dX4_assembledMinute_48 : decode cX4_assembledMinute 48 = .ok (.iload_n 1, 1) := by decide +kernel
theorem dX4_assembledMinute_49 : decode cX4_assembledMinute 49 = .ok (.iadd, 1) := by decide +kernel
theorem dX4_assembledMinute_50 : decode cX4_assembledMinute 50 = .ok (.bipush 60, 2) := by decide +kernel
theorem dX4_assembledMinute_52 : decode cX4_assembledMinute 52 = .ok (.irem, 1) := by decide +kernel
theorem dX4_assembledMinute_53 : decode cX4_assembledMinute 53 = .ok (.invokevirtual 133, 3) := by decide +kernel
theorem dX4_assembledMinute_56 : decode cX4_assembledMinute 56 = .ok (.iinc 1 1, 3) := by decide +kernel
theorem dX4_assembledMinute_59 : decode cX4_assembledMinute 59 = .ok (.goto (-50), 3) := by decide +kernel
theorem dX4_assembledMinute_62 : decode cX4_assembledMinute 62 = .ok (.aload_n 0, 1) := by decide +kernel
theorem dX4_assembledMinute_63 : decode cX4_assembledMinute 63 = .ok (.getfield 50, 3) := by decide +kernel
theorem dX4_assembledMinute_66 : decode cX4_assembledMinute 66 = .ok (.aload_n 0, 1) := by decide +kernel
theorem dX4_assembledMinute_67 : decode cX4_assembledMinute 67 = .ok (.getfield 9, 3) := by decide +kernel
theorem dX4_assembledMinute_70 : decode cX4_assembledMinute 70 = .ok (.iconst 1, 1) := by decide +kernel
theorem dX4_assembledMinute_71 : decode cX4_assembledMinute 71 = .ok (.iaload, 1) := by decide +kernel
theorem dX4_assembledMinute_72 : decode cX4_assembledMinute 72 = .ok (.invokevirtual 145, 3) := by decide +kernel
theorem dX4_assembledMinute_75 : decode cX4_assembledMinute 75 = .ok (.istore_n 1, 1) := by decide +kernel
theorem dX4_assembledMinute_76 : decode cX4_assembledMinute 76 = .ok (.iload_n 1, 1) := by decide +kernel
theorem dX4_assembledMinute_77 : decode cX4_assembledMinute 77 = .ok (.iconst (-1), 1) := by decide +kernel
theorem dX4_assembledMinute_78 : decode cX4_assembledMinute 78 = .ok (.if_icmp .ne 5, 3) := by decide +kernel
theorem dX4_assembledMinute_81 : decode cX4_assembledMinute 81 = .ok (.iconst (-1), 1) := by decide +kernel
theorem dX4_assembledMinute_82 : decode cX4_assembledMinute 82 = .ok (.ireturn, 1) := by decide +kernel
theorem dX4_assembledMinute_83 : decode cX4_assembledMinute 83 = .ok (.aload_n 0, 1) := by decide +kernel
theorem dX4_assembledMinute_84 : decode cX4_assembledMinute 84 = .ok (.iconst 1, 1) := by decide +kernel
theorem dX4_assembledMinute_85 : decode cX4_assembledMinute 85 = .ok (.iload_n 1, 1) := by decide +kernel
theorem dX4_assembledMinute_86 : decode cX4_assembledMinute 86 = .ok (.invokevirtual 171, 3) := by decide +kernel
theorem dX4_assembledMinute_89 : decode cX4_assembledMinute 89 = .ok (.istore_n 2, 1) := by decide +kernel
theorem dX4_assembledMinute_90 : decode cX4_assembledMinute 90 = .ok (.aload_n 0, 1) := by decide +kernel
theorem dX4_assembledMinute_91 : decode cX4_assembledMinute 91 = .ok (.iconst 2, 1) := by decide +kernel
theorem dX4_assembledMinute_92 : decode cX4_assembledMinute 92 = .ok (.iload_n 1, 1) := by decide +kernel
theorem dX4_assembledMinute_93 : decode cX4_assembledMinute 93 = .ok (.invokevirtual 171, 3) := by decide +kernel
theorem dX4_assembledMinute_96 : decode cX4_assembledMinute 96 = .ok (.istore_n 3, 1) := by decide +kernel
theorem dX4_assembledMinute_97 : decode cX4_assembledMinute 97 = .ok (.iload_n 2, 1) := by decide +kernel
theorem dX4_assembledMinute_98 : decode cX4_assembledMinute 98 = .ok (.iconst (-1), 1) := by decide +kernel
theorem dX4_assembledMinute_99 : decode cX4_assembledMinute 99 = .ok (.if_icmp .eq 8, 3) := by decide +kernel
theorem dX4_assembledMinute_102 : decode cX4_assembledMinute 102 = .ok (.iload_n 3, 1) := by decide +kernel
theorem dX4_assembledMinute_103 : decode cX4_assembledMinute 103 = .ok (.iconst (-1), 1) := by decide +kernel
theorem dX4_assembledMinute_104 : decode cX4_assembledMinute 104 = .ok (.if_icmp .ne 7, 3) := by decide +kernel
theorem dX4_assembledMinute_107 : decode cX4_assembledMinute 107 = .ok (.iconst (-1), 1) := by decide +kernel
theorem dX4_assembledMinute_108 : decode cX4_assembledMinute 108 = .ok (.goto 9, 3) := by decide +kernel
theorem dX4_assembledMinute_111 : decode cX4_assembledMinute 111 = .ok (.iload_n 3, 1) := by decide +kernel
theorem dX4_assembledMinute_112 : decode cX4_assembledMinute 112 = .ok (.iload_n 2, 1) := by decide +kernel
theorem dX4_assembledMinute_113 : decode cX4_assembledMinute 113 = .ok (.iload_n 1, 1) := by decide +kernel
theorem dX4_assembledMinute_114 : decode cX4_assembledMinute 114 = .ok (.invokestatic 174, 3) := by decide +kernel
theorem dX4_assembledMinute_117 : decode cX4_assembledMinute 117 = .ok (.ireturn, 1) := by decide +kernel
theorem dX4_mostDoubtsOfABit_0 : decode cX4_mostDoubtsOfABit 0 = .ok (.iconst 0, 1) := by decide +kernel
theorem dX4_mostDoubtsOfABit_1 : decode cX4_mostDoubtsOfABit 1 = .ok (.istore_n 1, 1) := by decide +kernel
theorem dX4_mostDoubtsOfABit_2 : decode cX4_mostDoubtsOfABit 2 = .ok (.iconst 0, 1) := by decide +kernel
theorem dX4_mostDoubtsOfABit_3 : decode cX4_mostDoubtsOfABit 3 = .ok (.istore_n 2, 1) := by decide +kernel
theorem dX4_mostDoubtsOfABit_4 : decode cX4_mostDoubtsOfABit 4 = .ok (.iload_n 2, 1) := by decide +kernel
theorem dX4_mostDoubtsOfABit_5 : decode cX4_mostDoubtsOfABit 5 = .ok (.bipush 58, 2) := by decide +kernel
theorem dX4_mostDoubtsOfABit_7 : decode cX4_mostDoubtsOfABit 7 = .ok (.if_icmp .gt 54, 3) := by decide +kernel
theorem dX4_mostDoubtsOfABit_10 : decode cX4_mostDoubtsOfABit 10 = .ok (.iconst 0, 1) := by decide +kernel
theorem dX4_mostDoubtsOfABit_11 : decode cX4_mostDoubtsOfABit 11 = .ok (.istore_n 3, 1) := by decide +kernel
theorem dX4_mostDoubtsOfABit_12 : decode cX4_mostDoubtsOfABit 12 = .ok (.iconst 0, 1) := by decide +kernel
theorem dX4_mostDoubtsOfABit_13 : decode cX4_mostDoubtsOfABit 13 = .ok (.istore 4, 2) := by decide +kernel
theorem dX4_mostDoubtsOfABit_15 : decode cX4_mostDoubtsOfABit 15 = .ok (.iload 4, 2) := by decide +kernel
theorem dX4_mostDoubtsOfABit_17 : decode cX4_mostDoubtsOfABit 17 = .ok (.aload_n 0, 1) := by decide +kernel
theorem dX4_mostDoubtsOfABit_18 : decode cX4_mostDoubtsOfABit 18 = .ok (.getfield 70, 3) := by decide +kernel
theorem dX4_mostDoubtsOfABit_21 : decode cX4_mostDoubtsOfABit 21 = .ok (.if_icmp .ge 28, 3) := by decide +kernel
theorem dX4_mostDoubtsOfABit_24 : decode cX4_mostDoubtsOfABit 24 = .ok (.iload_n 3, 1) := by decide +kernel
theorem dX4_mostDoubtsOfABit_25 : decode cX4_mostDoubtsOfABit 25 = .ok (.aload_n 0, 1) := by decide +kernel
theorem dX4_mostDoubtsOfABit_26 : decode cX4_mostDoubtsOfABit 26 = .ok (.getfield 32, 3) := by decide +kernel
theorem dX4_mostDoubtsOfABit_29 : decode cX4_mostDoubtsOfABit 29 = .ok (.iload 4, 2) := by decide +kernel
theorem dX4_mostDoubtsOfABit_31 : decode cX4_mostDoubtsOfABit 31 = .ok (.laload, 1) := by decide +kernel
theorem dX4_mostDoubtsOfABit_32 : decode cX4_mostDoubtsOfABit 32 = .ok (.ldc2_w 140, 3) := by decide +kernel
theorem dX4_mostDoubtsOfABit_35 : decode cX4_mostDoubtsOfABit 35 = .ok (.land, 1) := by decide +kernel
theorem dX4_mostDoubtsOfABit_36 : decode cX4_mostDoubtsOfABit 36 = .ok (.iload_n 2, 1) := by decide +kernel
theorem dX4_mostDoubtsOfABit_37 : decode cX4_mostDoubtsOfABit 37 = .ok (.lushr, 1) := by decide +kernel
theorem dX4_mostDoubtsOfABit_38 : decode cX4_mostDoubtsOfABit 38 = .ok (.lconst 1, 1) := by decide +kernel
theorem dX4_mostDoubtsOfABit_39 : decode cX4_mostDoubtsOfABit 39 = .ok (.land, 1) := by decide +kernel
theorem dX4_mostDoubtsOfABit_40 : decode cX4_mostDoubtsOfABit 40 = .ok (.l2i, 1) := by decide +kernel
theorem dX4_mostDoubtsOfABit_41 : decode cX4_mostDoubtsOfABit 41 = .ok (.iadd, 1) := by decide +kernel
theorem dX4_mostDoubtsOfABit_42 : decode cX4_mostDoubtsOfABit 42 = .ok (.istore_n 3, 1) := by decide +kernel
theorem dX4_mostDoubtsOfABit_43 : decode cX4_mostDoubtsOfABit 43 = .ok (.iinc 4 1, 3) := by decide +kernel
theorem dX4_mostDoubtsOfABit_46 : decode cX4_mostDoubtsOfABit 46 = .ok (.goto (-31), 3) := by decide +kernel
theorem dX4_mostDoubtsOfABit_49 : decode cX4_mostDoubtsOfABit 49 = .ok (.iload_n 1, 1) := by decide +kernel
theorem dX4_mostDoubtsOfABit_50 : decode cX4_mostDoubtsOfABit 50 = .ok (.iload_n 3, 1) := by decide +kernel
theorem dX4_mostDoubtsOfABit_51 : decode cX4_mostDoubtsOfABit 51 = .ok (.invokestatic 180, 3) := by decide +kernel
theorem dX4_mostDoubtsOfABit_54 : decode cX4_mostDoubtsOfABit 54 = .ok (.istore_n 1, 1) := by decide +kernel
theorem dX4_mostDoubtsOfABit_55 : decode cX4_mostDoubtsOfABit 55 = .ok (.iinc 2 1, 3) := by decide +kernel
theorem dX4_mostDoubtsOfABit_58 : decode cX4_mostDoubtsOfABit 58 = .ok (.goto (-54), 3) := by decide +kernel
theorem dX4_mostDoubtsOfABit_61 : decode cX4_mostDoubtsOfABit 61 = .ok (.iload_n 1, 1) := by decide +kernel
theorem dX4_mostDoubtsOfABit_62 : decode cX4_mostDoubtsOfABit 62 = .ok (.ireturn, 1) := by decide +kernel
theorem dX4_minutesSinceFix_0 : decode cX4_minutesSinceFix 0 = .ok (.ldc2_w 183, 3) := by decide +kernel
theorem dX4_minutesSinceFix_3 : decode cX4_minutesSinceFix 3 = .ok (.aload_n 0, 1) := by decide +kernel
theorem dX4_minutesSinceFix_4 : decode cX4_minutesSinceFix 4 = .ok (.getfield 41, 3) := by decide +kernel
theorem dX4_minutesSinceFix_7 : decode cX4_minutesSinceFix 7 = .ok (.iconst 0, 1) := by decide +kernel
theorem dX4_minutesSinceFix_8 : decode cX4_minutesSinceFix 8 = .ok (.iaload, 1) := by decide +kernel
theorem dX4_minutesSinceFix_9 : decode cX4_minutesSinceFix 9 = .ok (.aload_n 0, 1) := by decide +kernel
theorem dX4_minutesSinceFix_10 : decode cX4_minutesSinceFix 10 = .ok (.getfield 41, 3) := by decide +kernel
theorem dX4_minutesSinceFix_13 : decode cX4_minutesSinceFix 13 = .ok (.iload_n 1, 1) := by decide +kernel
theorem dX4_minutesSinceFix_14 : decode cX4_minutesSinceFix 14 = .ok (.iaload, 1) := by decide +kernel
theorem dX4_minutesSinceFix_15 : decode cX4_minutesSinceFix 15 = .ok (.isub, 1) := by decide +kernel
theorem dX4_minutesSinceFix_16 : decode cX4_minutesSinceFix 16 = .ok (.i2l, 1) := by decide +kernel
theorem dX4_minutesSinceFix_17 : decode cX4_minutesSinceFix 17 = .ok (.lmul, 1) := by decide +kernel
theorem dX4_minutesSinceFix_18 : decode cX4_minutesSinceFix 18 = .ok (.lreturn, 1) := by decide +kernel
theorem dX4_timeSinceFix_0 : decode cX4_timeSinceFix 0 = .ok (.aload_n 0, 1) := by decide +kernel
theorem dX4_timeSinceFix_1 : decode cX4_timeSinceFix 1 = .ok (.getfield 44, 3) := by decide +kernel
theorem dX4_timeSinceFix_4 : decode cX4_timeSinceFix 4 = .ok (.iconst 0, 1) := by decide +kernel
theorem dX4_timeSinceFix_5 : decode cX4_timeSinceFix 5 = .ok (.iaload, 1) := by decide +kernel
theorem dX4_timeSinceFix_6 : decode cX4_timeSinceFix 6 = .ok (.i2l, 1) := by decide +kernel
theorem dX4_timeSinceFix_7 : decode cX4_timeSinceFix 7 = .ok (.aload_n 0, 1) := by decide +kernel
theorem dX4_timeSinceFix_8 : decode cX4_timeSinceFix 8 = .ok (.getfield 44, 3) := by decide +kernel
theorem dX4_timeSinceFix_11 : decode cX4_timeSinceFix 11 = .ok (.iload_n 1, 1) := by decide +kernel
theorem dX4_timeSinceFix_12 : decode cX4_timeSinceFix 12 = .ok (.iaload, 1) := by decide +kernel
theorem dX4_timeSinceFix_13 : decode cX4_timeSinceFix 13 = .ok (.i2l, 1) := by decide +kernel
theorem dX4_timeSinceFix_14 : decode cX4_timeSinceFix 14 = .ok (.lsub, 1) := by decide +kernel
theorem dX4_timeSinceFix_15 : decode cX4_timeSinceFix 15 = .ok (.lreturn, 1) := by decide +kernel
theorem dX4_driftEstimate_0 : decode cX4_driftEstimate 0 = .ok (.aload_n 0, 1) := by decide +kernel
theorem dX4_driftEstimate_1 : decode cX4_driftEstimate 1 = .ok (.iconst 1, 1) := by decide +kernel
theorem dX4_driftEstimate_2 : decode cX4_driftEstimate 2 = .ok (.invokevirtual 185, 3) := by decide +kernel
theorem dX4_driftEstimate_5 : decode cX4_driftEstimate 5 = .ok (.lstore_n 1, 1) := by decide +kernel
theorem dX4_driftEstimate_6 : decode cX4_driftEstimate 6 = .ok (.lload_n 1, 1) := by decide +kernel
theorem dX4_driftEstimate_7 : decode cX4_driftEstimate 7 = .ok (.lconst 0, 1) := by decide +kernel
theorem dX4_driftEstimate_8 : decode cX4_driftEstimate 8 = .ok (.lcmp, 1) := by decide +kernel
theorem dX4_driftEstimate_9 : decode cX4_driftEstimate 9 = .ok (.ifCond .ne 7, 3) := by decide +kernel
theorem dX4_driftEstimate_12 : decode cX4_driftEstimate 12 = .ok (.lconst 0, 1) := by decide +kernel
theorem dX4_driftEstimate_13 : decode cX4_driftEstimate 13 = .ok (.goto 16, 3) := by decide +kernel
theorem dX4_driftEstimate_16 : decode cX4_driftEstimate 16 = .ok (.aload_n 0, 1) := by decide +kernel
theorem dX4_driftEstimate_17 : decode cX4_driftEstimate 17 = .ok (.iconst 1, 1) := by decide +kernel
theorem dX4_driftEstimate_18 : decode cX4_driftEstimate 18 = .ok (.invokevirtual 189, 3) := by decide +kernel
theorem dX4_driftEstimate_21 : decode cX4_driftEstimate 21 = .ok (.lload_n 1, 1) := by decide +kernel
theorem dX4_driftEstimate_22 : decode cX4_driftEstimate 22 = .ok (.lsub, 1) := by decide +kernel
theorem dX4_driftEstimate_23 : decode cX4_driftEstimate 23 = .ok (.ldc2_w 192, 3) := by decide +kernel
theorem dX4_driftEstimate_26 : decode cX4_driftEstimate 26 = .ok (.lmul, 1) := by decide +kernel
theorem dX4_driftEstimate_27 : decode cX4_driftEstimate 27 = .ok (.lload_n 1, 1) := by decide +kernel
theorem dX4_driftEstimate_28 : decode cX4_driftEstimate 28 = .ok (.ldiv, 1) := by decide +kernel
theorem dX4_driftEstimate_29 : decode cX4_driftEstimate 29 = .ok (.lreturn, 1) := by decide +kernel
def f_X0_open (N : Nat) (u0 : Ob) : Option Ob := some (oi u0 1 (0 : Int32))
def f_X0_cast (N : Nat) (x1 : Int32) (u0 : Ob) : Option Ob := (if x1 = (-1 : Int32) then some u0 else (if (8 : Int32) ≤ (u0.1 1) then some u0 else (if (u0.1 1) < 0 ∨ 8 ≤ (u0.1 1).toNatClampNeg then none else some (oi (oa u0 0 (upd (u0.2.2.1 0) (u0.1 1).toNatClampNeg x1)) 1 ((u0.1 1) + (1 : Int32))))))
def l_X0_votesFor_4 (N : Nat) (x1 : Int32) (u0 : Ob) : Nat → Int32 → Int32 → Option Int32
  | 0, _, _ => none
  | n + 1, x2, x3 => (if (u0.1 1) ≤ x3 then some x2 else (if x3 < 0 ∨ 8 ≤ x3.toNatClampNeg then none else (if ((u0.2.2.1 0) x3.toNatClampNeg) = x1 then l_X0_votesFor_4 N x1 u0 n (x2 + (1 : Int32)) (x3 + (1 : Int32)) else l_X0_votesFor_4 N x1 u0 n x2 (x3 + (1 : Int32)))))
def f_X0_votesFor (N : Nat) (x1 : Int32) (u0 : Ob) : Option Int32 := l_X0_votesFor_4 N x1 u0 N (0 : Int32) (0 : Int32)
def l_X0_leader_6 (N : Nat) (u0 : Ob) : Nat → Int32 → Int32 → Int32 → Option Int32
  | 0, _, _, _ => none
  | n + 1, x1, x2, x3 => (if (u0.1 1) ≤ x3 then some x1 else (if x3 < 0 ∨ 8 ≤ x3.toNatClampNeg then none else ((f_X0_votesFor N ((u0.2.2.1 0) x3.toNatClampNeg) u0).bind fun q3 => (if x2 < q3 then l_X0_leader_6 N u0 n ((u0.2.2.1 0) x3.toNatClampNeg) q3 (x3 + (1 : Int32)) else (if q3 = x2 then (if x1 ≤ ((u0.2.2.1 0) x3.toNatClampNeg) then l_X0_leader_6 N u0 n x1 x2 (x3 + (1 : Int32)) else l_X0_leader_6 N u0 n ((u0.2.2.1 0) x3.toNatClampNeg) q3 (x3 + (1 : Int32))) else l_X0_leader_6 N u0 n x1 x2 (x3 + (1 : Int32)))))))
def f_X0_leader (N : Nat) (u0 : Ob) : Option Int32 := l_X0_leader_6 N u0 N (-1 : Int32) (0 : Int32) (0 : Int32)
def l_X0_winner_21 (N : Nat) (x1 : Int32) (u0 : Ob) : Nat → Int32 → Int32 → Int32 → Option Int32
  | 0, _, _, _ => none
  | n + 1, x2, x3, x4 => (if (u0.1 1) ≤ x4 then some x2 else (if x4 < 0 ∨ 8 ≤ x4.toNatClampNeg then none else (if ((u0.2.2.1 0) x4.toNatClampNeg) = x2 then l_X0_winner_21 N x1 u0 n x2 x3 (x4 + (1 : Int32)) else (if x4 < 0 ∨ 8 ≤ x4.toNatClampNeg then none else ((f_X0_votesFor N ((u0.2.2.1 0) x4.toNatClampNeg) u0).bind fun q10 => (if q10 = x3 then some (-1 : Int32) else l_X0_winner_21 N x1 u0 n x2 x3 (x4 + (1 : Int32))))))))
def f_X0_winner (N : Nat) (x1 : Int32) (u0 : Ob) : Option Int32 := ((f_X0_leader N u0).bind fun q1 => ((f_X0_votesFor N q1 u0).bind fun q3 => (if x1 ≤ q3 then l_X0_winner_21 N x1 u0 N q1 q3 (0 : Int32) else some (-1 : Int32))))
def f_X4_hearingStart (N : Nat) (u0 : Ob) : Option Int32 := (if (u0.1 2) = (-1 : Int32) then some (0 : Int32) else (if (u0.1 4) = (-1 : Int32) then some ((u0.1 2) + (2000 : Int32)) else some ((u0.1 2) + ((1000 : Int32) * ((u0.1 5) - (u0.1 4))))))
def f_X4_canHear (N : Nat) (u0 : Ob) : Option Bool := ((f_X4_hearingStart N u0).bind fun q1 => (if (2000000000 : Int32) < (q1 + (58000 : Int32)) then some false else some true))
def f_X4_copyFrom (N : Nat) (u0 : Ob) (u1 : Ob) : Option (Ob × Ob) := some ((oi (oa (oa (oi (oi (oi (oa (oj (oj (ol (ol (oi (oi (oi (oi (oi (oa u0 0 (va_cpy (u1.2.2.1 0) (u0.2.2.1 0) (0 : Int32).toNatClampNeg (0 : Int32).toNatClampNeg (5 : Int32).toNatClampNeg)) 1 (u1.1 1)) 2 (u1.1 2)) 3 (u1.1 3)) 4 (u1.1 4)) 5 (u1.1 5)) 6 (u1.2.1 6)) 7 (u1.2.1 7)) 8 (va_cpy (u1.2.2.2 8) (u0.2.2.2 8) (0 : Int32).toNatClampNeg (0 : Int32).toNatClampNeg (8 : Int32).toNatClampNeg)) 9 (va_cpy (u1.2.2.2 9) (u0.2.2.2 9) (0 : Int32).toNatClampNeg (0 : Int32).toNatClampNeg (8 : Int32).toNatClampNeg)) 10 (va_cpy (u1.2.2.1 10) (u0.2.2.1 10) (0 : Int32).toNatClampNeg (0 : Int32).toNatClampNeg (8 : Int32).toNatClampNeg)) 11 (u1.1 11)) 12 (u1.1 12)) 13 (u1.1 13)) 14 (va_cpy (u1.2.2.1 14) (u0.2.2.1 14) (0 : Int32).toNatClampNeg (0 : Int32).toNatClampNeg (8 : Int32).toNatClampNeg)) 15 (va_cpy (u1.2.2.1 15) (u0.2.2.1 15) (0 : Int32).toNatClampNeg (0 : Int32).toNatClampNeg (8 : Int32).toNatClampNeg)) 16 (u1.1 16)), u1)
def f_X4_change (N : Nat) (x1 : Int32) (x2 : Int32) (u0 : Ob) : Option Ob := (if x1 < 0 ∨ 5 ≤ x1.toNatClampNeg then none else (if (u0.1 11) ≤ ((upd (u0.2.2.1 0) x1.toNatClampNeg x2) (2 : Int32).toNatClampNeg) then some (oa u0 0 (upd (u0.2.2.1 0) x1.toNatClampNeg x2)) else some (oi (oa u0 0 (upd (u0.2.2.1 0) x1.toNatClampNeg x2)) 11 ((upd (u0.2.2.1 0) x1.toNatClampNeg x2) (2 : Int32).toNatClampNeg))))
def f_X4_hasFrame (N : Nat) (x1 : Int32) (u0 : Ob) : Option Bool := (if x1 < (0 : Int32) then some false else (if (u0.1 11) ≤ x1 then some false else (if (8 : Int32) ≤ x1 then some false else some true)))
def f_X4_doubtsSoFar (N : Nat) (u0 : Ob) : Option Int32 := (if (u0.1 4) = (-1 : Int32) then some (0 : Int32) else ((f_J13_bitCount_95d88 N ((u0.2.1 7) &&& ((jshl (1 : Int64) ((if (58 : Int32) < (u0.1 4) then (58 : Int32) else (u0.1 4)) + (1 : Int32))) - (1 : Int64)))).bind fun q2 => some q2))
def f_X4_secondsSinceMark (N : Nat) (x1 : Int32) (u0 : Ob) : Option Int32 := (if (u0.1 2) = (-1 : Int32) then some (0 : Int32) else some (((x1 - (u0.1 2)) + (500 : Int32)) / (1000 : Int32)))
def f_X4_isToBeIgnored (N : Nat) (x1 : Int32) (x2 : Int32) (u0 : Ob) : Option Bool := (if (30 : Int32) ≤ x2 then ((f_X4_secondsSinceMark N x1 u0).bind fun q2 => (if (u0.1 2) = (-1 : Int32) then some false else (if q2 ≤ (10 : Int32) then (if q2 = (0 : Int32) then some true else (if (if (0 : Int32) ≤ ((x1 - (u0.1 2)) - ((1000 : Int32) * q2)) then ((x1 - (u0.1 2)) - ((1000 : Int32) * q2)) else 0 - ((x1 - (u0.1 2)) - ((1000 : Int32) * q2))) ≤ ((u0.2.2.1 0) (0 : Int32).toNatClampNeg) then some false else some true)) else some false))) else some true)
def f_X4_loseStep (N : Nat) (u0 : Ob) : Option Ob := some (oi (oi (oi (oi u0 4 (-1 : Int32)) 11 (0 : Int32)) 12 (-1 : Int32)) 13 (0 : Int32))
def l_X4_doubtSeconds_2 (N : Nat) (x1 : Int32) (x2 : Int32) : Nat → Int32 → Ob → Option Ob
  | 0, _, _ => none
  | n + 1, x3, u0 => (if x2 < x3 then some u0 else (if (58 : Int32) < x3 then some u0 else l_X4_doubtSeconds_2 N x1 x2 n (x3 + (1 : Int32)) (ol u0 7 ((u0.2.1 7) ||| (jshl (1 : Int64) x3)))))
def f_X4_doubtSeconds (N : Nat) (x1 : Int32) (x2 : Int32) (u0 : Ob) : Option Ob := l_X4_doubtSeconds_2 N x1 x2 N x1 u0
def f_X4_putBit (N : Nat) (x1 : Int32) (x2 : Int32) (u0 : Ob) : Option Ob := (if x1 ≤ (58 : Int32) then (if x2 < (160 : Int32) then (if x2 < (60 : Int32) then some (ol u0 7 ((u0.2.1 7) ||| (jshl (1 : Int64) x1))) else (if x2 ≤ (140 : Int32) then some u0 else some (ol u0 7 ((u0.2.1 7) ||| (jshl (1 : Int64) x1))))) else (if (240 : Int32) < x2 then (if x2 < (60 : Int32) then some (ol u0 7 ((u0.2.1 7) ||| (jshl (1 : Int64) x1))) else (if x2 ≤ (140 : Int32) then some u0 else some (ol u0 7 ((u0.2.1 7) ||| (jshl (1 : Int64) x1))))) else some (ol u0 6 ((u0.2.1 6) ||| (jshl (1 : Int64) x1))))) else some u0)
def f_X4_beginMinute (N : Nat) (x1 : Int32) (x2 : Int32) (u0 : Ob) : Option Ob := ((f_X4_doubtSeconds N (0 : Int32) (x1 - (1 : Int32)) (oi (ol (ol u0 6 (0 : Int64)) 7 (0 : Int64)) 5 (60 : Int32))).bind fun q1 => ((f_X4_putBit N x1 x2 (oi q1 4 x1)).bind fun q3 => some q3))
def f_X4_keepFrame (N : Nat) (u0 : Ob) : Option Ob := ((f_X4_doubtSeconds N ((u0.1 4) + (1 : Int32)) (58 : Int32) u0).bind fun q1 => ((f_X2_minuteOf N (q1.2.1 6) (q1.2.1 7)).bind fun q3 => some (oi (oa (oj (oj (oa (oj (oj q1 8 (va_cpy (q1.2.2.2 8) (q1.2.2.2 8) (0 : Int32).toNatClampNeg (1 : Int32).toNatClampNeg (7 : Int32).toNatClampNeg)) 9 (va_cpy (q1.2.2.2 9) (q1.2.2.2 9) (0 : Int32).toNatClampNeg (1 : Int32).toNatClampNeg (7 : Int32).toNatClampNeg)) 10 (va_cpy (q1.2.2.1 10) (q1.2.2.1 10) (0 : Int32).toNatClampNeg (1 : Int32).toNatClampNeg (7 : Int32).toNatClampNeg)) 8 (vp_updL (va_cpy (q1.2.2.2 8) (q1.2.2.2 8) (0 : Int32).toNatClampNeg (1 : Int32).toNatClampNeg (7 : Int32).toNatClampNeg) (0 : Int32).toNatClampNeg (q1.2.1 6))) 9 (vp_updL (va_cpy (q1.2.2.2 9) (q1.2.2.2 9) (0 : Int32).toNatClampNeg (1 : Int32).toNatClampNeg (7 : Int32).toNatClampNeg) (0 : Int32).toNatClampNeg (q1.2.1 7))) 10 (upd (va_cpy (q1.2.2.1 10) (q1.2.2.1 10) (0 : Int32).toNatClampNeg (1 : Int32).toNatClampNeg (7 : Int32).toNatClampNeg) (0 : Int32).toNatClampNeg q3)) 11 (if ((q1.2.2.1 0) (2 : Int32).toNatClampNeg) < ((q1.1 11) + (1 : Int32)) then ((q1.2.2.1 0) (2 : Int32).toNatClampNeg) else ((q1.1 11) + (1 : Int32))))))
def f_X4_minuteToldBy (N : Nat) (x1 : Int32) (u0 : Ob) : Option Int32 := (if x1 < 0 ∨ 8 ≤ x1.toNatClampNeg then none else ((f_J13_bitCount_95d88 N (((u0.2.2.2 9) x1.toNatClampNeg) &&& (576460752302899201 : Int64))).bind fun q2 => (if q2 ≤ ((u0.2.2.1 0) (3 : Int32).toNatClampNeg) then (if x1 < 0 ∨ 8 ≤ x1.toNatClampNeg then none else some ((u0.2.2.1 10) x1.toNatClampNeg)) else some (-1 : Int32))))
def f_X4_voteOf (N : Nat) (x1 : Int32) (u0 : Ob) : Option Int32 := ((f_X4_minuteToldBy N x1 u0).bind fun q1 => (if q1 = (-1 : Int32) then some (-1 : Int32) else some (q1 + x1)))
def l_X4_castVotes_9 (N : Nat) : Nat → Int32 → Ob → Ob → Option (Ob × Ob)
  | 0, _, _, _ => none
  | n + 1, x1, u0, u1 => (if (u0.1 11) ≤ x1 then some (u0, u1) else ((f_X4_voteOf N x1 u0).bind fun q4 => ((f_X0_cast N q4 u1).bind fun q6 => l_X4_castVotes_9 N n (x1 + (1 : Int32)) u0 q6)))
def f_X4_castVotes (N : Nat) (u0 : Ob) (u1 : Ob) : Option (Ob × Ob) := ((f_X0_open N u1).bind fun q1 => l_X4_castVotes_9 N N (0 : Int32) u0 q1)
def f_X4_keepFix (N : Nat) (x1 : Int32) (x2 : Int32) (u0 : Ob) : Option Ob := some (oi (oa (oa (oa (oa u0 14 (va_cpy (u0.2.2.1 14) (u0.2.2.1 14) (0 : Int32).toNatClampNeg (1 : Int32).toNatClampNeg (7 : Int32).toNatClampNeg)) 15 (va_cpy (u0.2.2.1 15) (u0.2.2.1 15) (0 : Int32).toNatClampNeg (1 : Int32).toNatClampNeg (7 : Int32).toNatClampNeg)) 14 (upd (va_cpy (u0.2.2.1 14) (u0.2.2.1 14) (0 : Int32).toNatClampNeg (1 : Int32).toNatClampNeg (7 : Int32).toNatClampNeg) (0 : Int32).toNatClampNeg x1)) 15 (upd (va_cpy (u0.2.2.1 15) (u0.2.2.1 15) (0 : Int32).toNatClampNeg (1 : Int32).toNatClampNeg (7 : Int32).toNatClampNeg) (0 : Int32).toNatClampNeg x2)) 16 (if (8 : Int32) < ((u0.1 16) + (1 : Int32)) then (8 : Int32) else ((u0.1 16) + (1 : Int32))))
def l_X4_countVotes_54 (N : Nat) : Nat → Int32 → Int32 → Ob → Ob → Option (Ob × Ob)
  | 0, _, _, _, _ => none
  | n + 1, x1, x2, u0, u1 => (if (u0.1 11) ≤ x2 then (if (((u0.1 12) + (1 : Int32)) - ((u0.1 12) + (1 : Int32)) / (60 : Int32) * (60 : Int32)) = (59 : Int32) then (if ((2 : Int32) * x1) < (u0.1 13) then ((f_X4_keepFix N ((u0.1 12) + (1 : Int32)) ((u0.1 2) - ((1000 : Int32) * (u0.1 4))) u0).bind fun q13 => some (q13, u1)) else ((f_X4_keepFix N ((u0.1 12) + (1 : Int32)) ((u0.1 2) - ((1000 : Int32) * (u0.1 4))) (oi u0 5 (61 : Int32))).bind fun q15 => some (q15, u1))) else ((f_X4_keepFix N ((u0.1 12) + (1 : Int32)) ((u0.1 2) - ((1000 : Int32) * (u0.1 4))) u0).bind fun q10 => some (q10, u1))) else ((f_X4_voteOf N x2 u0).bind fun q17 => (if q17 = (u0.1 12) then (if x2 < 0 ∨ 8 ≤ x2.toNatClampNeg then none else (if ((jushr ((u0.2.2.2 8) x2.toNatClampNeg) (19 : Int32)) &&& (1 : Int64)) = (0 : Int64) then l_X4_countVotes_54 N n x1 (x2 + (1 : Int32)) u0 u1 else l_X4_countVotes_54 N n (x1 + (1 : Int32)) (x2 + (1 : Int32)) u0 u1)) else l_X4_countVotes_54 N n x1 (x2 + (1 : Int32)) u0 u1)))
def f_X4_countVotes (N : Nat) (u0 : Ob) (u1 : Ob) : Option (Ob × Ob) := ((f_X4_castVotes N u0 u1).bind fun q1 => ((f_X0_winner N ((q1.1.2.2.1 0) (1 : Int32).toNatClampNeg) q1.2).bind fun q3 => (if q3 = (-1 : Int32) then some ((oi (oi q1.1 12 q3) 13 (0 : Int32)), q1.2) else ((f_X0_votesFor N q3 q1.2).bind fun q6 => l_X4_countVotes_54 N N (0 : Int32) (0 : Int32) (oi (oi q1.1 12 q3) 13 q6) q1.2))))
def f_X4_takePulse (N : Nat) (x1 : Int32) (x2 : Int32) (u0 : Ob) (u1 : Ob) : Option (Int32 × Ob × Ob) := ((f_X4_isToBeIgnored N x1 x2 (oi u0 1 x1)).bind fun q1 => (if q1 = true then some ((0 : Int32), ((oi (oi u0 1 x1) 3 ((u0.1 3) + (1 : Int32))), u1)) else ((f_X4_secondsSinceMark N x1 (oi u0 1 x1)).bind fun q4 => (if q4 ≤ (10 : Int32) then (if (u0.1 4) = (-1 : Int32) then (if q4 = (2 : Int32) then ((f_X4_beginMinute N (0 : Int32) x2 (oi (oi u0 1 x1) 2 x1)).bind fun q24 => some ((3 : Int32), (q24, u1))) else some ((1 : Int32), ((oi (oi u0 1 x1) 2 x1), u1))) else (if ((u0.1 4) + q4) = ((u0.1 5) - (1 : Int32)) then ((f_X4_loseStep N (oi (oi u0 1 x1) 2 x1)).bind fun q21 => some ((4 : Int32), (q21, u1))) else (if (u0.1 5) ≤ ((u0.1 4) + q4) then ((f_X4_keepFrame N (oi (oi u0 1 x1) 2 x1)).bind fun q10 => ((f_X4_beginMinute N (((u0.1 4) + q4) - (u0.1 5)) x2 q10).bind fun q12 => ((f_X4_countVotes N q12 u1).bind fun q14 => some ((3 : Int32), (q14.1, q14.2))))) else ((f_X4_doubtSeconds N ((u0.1 4) + (1 : Int32)) (((u0.1 4) + q4) - (1 : Int32)) (oi (oi u0 1 x1) 2 x1)).bind fun q16 => ((f_X4_putBit N ((u0.1 4) + q4) x2 (oi q16 4 ((u0.1 4) + q4))).bind fun q18 => (if q4 ≤ (1 : Int32) then some ((1 : Int32), (q18, u1)) else some ((2 : Int32), (q18, u1)))))))) else ((f_X4_loseStep N (oi (oi u0 1 x1) 2 x1)).bind fun q26 => some ((4 : Int32), (q26, u1)))))))
def l_X4_hearMinute_19 (N : Nat) (x1 : Int32) (x2 : Bool) (x3 : Int64) : Nat → Int64 → Int32 → Int32 → Int32 → Ob → Ob → Option (Int32 × Ob × Ob)
  | 0, _, _, _, _, _, _ => none
  | n + 1, x5, x7, x8, x9, u0, u1 => (if (58 : Int32) < x9 then some (x8, (u0, u1)) else (if ((jushr x5 x9) &&& (1 : Int64)) = (0 : Int64) then (if ((jushr x3 x9) &&& (1 : Int64)) = (0 : Int64) then (if (x7 + ((1000 : Int32) * x9)) ≤ (u0.1 1) then l_X4_hearMinute_19 N x1 x2 x3 n x5 x7 x8 (x9 + (1 : Int32)) u0 u1 else ((f_X4_takePulse N (x7 + ((1000 : Int32) * x9)) (100 : Int32) u0 u1).bind fun q12 => (if q12.1 = (0 : Int32) then l_X4_hearMinute_19 N x1 x2 x3 n x5 x7 x8 (x9 + (1 : Int32)) q12.2.1 q12.2.2 else l_X4_hearMinute_19 N x1 x2 x3 n x5 x7 (x8 + (1 : Int32)) (x9 + (1 : Int32)) q12.2.1 q12.2.2))) else l_X4_hearMinute_19 N x1 x2 x3 n x5 x7 x8 (x9 + (1 : Int32)) u0 u1) else (if ((jushr x3 x9) &&& (1 : Int64)) = (0 : Int64) then (if (x7 + ((1000 : Int32) * x9)) ≤ (u0.1 1) then l_X4_hearMinute_19 N x1 x2 x3 n x5 x7 x8 (x9 + (1 : Int32)) u0 u1 else ((f_X4_takePulse N (x7 + ((1000 : Int32) * x9)) (200 : Int32) u0 u1).bind fun q20 => (if q20.1 = (0 : Int32) then l_X4_hearMinute_19 N x1 x2 x3 n x5 x7 x8 (x9 + (1 : Int32)) q20.2.1 q20.2.2 else l_X4_hearMinute_19 N x1 x2 x3 n x5 x7 (x8 + (1 : Int32)) (x9 + (1 : Int32)) q20.2.1 q20.2.2))) else l_X4_hearMinute_19 N x1 x2 x3 n x5 x7 x8 (x9 + (1 : Int32)) u0 u1)))
def f_X4_hearMinute (N : Nat) (x1 : Int32) (x2 : Bool) (x3 : Int64) (u0 : Ob) (u1 : Ob) : Option (Int32 × Ob × Ob) := ((f_X2_encode N x1 x2).bind fun q1 => ((f_X4_hearingStart N u0).bind fun q3 => l_X4_hearMinute_19 N x1 x2 x3 N q1 q3 (0 : Int32) (0 : Int32) u0 u1))
def l_X4_blockWinner_9 (N : Nat) (x1 : Int32) (x2 : Int32) : Nat → Int32 → Ob → Ob → Option (Int32 × Ob × Ob)
  | 0, _, _, _ => none
  | n + 1, x3, u0, u1 => (if (u0.1 11) ≤ x3 then ((f_X0_winner N ((u0.2.2.1 0) (1 : Int32).toNatClampNeg) u1).bind fun q4 => some (q4, (u0, u1))) else (if x2 < x3 then ((f_X0_winner N ((u0.2.2.1 0) (1 : Int32).toNatClampNeg) u1).bind fun q7 => some (q7, (u0, u1))) else (if x3 < 0 ∨ 8 ≤ x3.toNatClampNeg then none else (if x3 < 0 ∨ 8 ≤ x3.toNatClampNeg then none else ((f_X2_blockValue N ((u0.2.2.2 8) x3.toNatClampNeg) ((u0.2.2.2 9) x3.toNatClampNeg) x1).bind fun q11 => ((f_X0_cast N q11 u1).bind fun q13 => l_X4_blockWinner_9 N x1 x2 n (x3 + (1 : Int32)) u0 q13))))))
def f_X4_blockWinner (N : Nat) (x1 : Int32) (x2 : Int32) (u0 : Ob) (u1 : Ob) : Option (Int32 × Ob × Ob) := ((f_X0_open N u1).bind fun q1 => l_X4_blockWinner_9 N x1 x2 N (0 : Int32) u0 q1)
def l_X4_assembledMinute_9 (N : Nat) : Nat → Int32 → Ob → Ob → Option (Int32 × Ob × Ob)
  | 0, _, _, _ => none
  | n + 1, x1, u0, u1 => (if (u0.1 11) ≤ x1 then ((f_X0_winner N ((u0.2.2.1 0) (1 : Int32).toNatClampNeg) u1).bind fun q4 => (if q4 = (-1 : Int32) then some ((-1 : Int32), (u0, u1)) else ((f_X4_blockWinner N (1 : Int32) q4 u0 u1).bind fun q7 => ((f_X4_blockWinner N (2 : Int32) q4 q7.2.1 q7.2.2).bind fun q9 => (if q7.1 = (-1 : Int32) then some ((-1 : Int32), (q9.2.1, q9.2.2)) else (if q9.1 = (-1 : Int32) then some ((-1 : Int32), (q9.2.1, q9.2.2)) else ((f_X1_minuteNumber N q9.1 q7.1 q4).bind fun q13 => some (q13, (q9.2.1, q9.2.2))))))))) else (if x1 < 0 ∨ 8 ≤ x1.toNatClampNeg then none else (if x1 < 0 ∨ 8 ≤ x1.toNatClampNeg then none else ((f_X2_blockValue N ((u0.2.2.2 8) x1.toNatClampNeg) ((u0.2.2.2 9) x1.toNatClampNeg) (0 : Int32)).bind fun q17 => (if q17 = (-1 : Int32) then ((f_X0_cast N (-1 : Int32) u1).bind fun q22 => l_X4_assembledMinute_9 N n (x1 + (1 : Int32)) u0 q22) else ((f_X0_cast N ((q17 + x1) - (q17 + x1) / (60 : Int32) * (60 : Int32)) u1).bind fun q20 => l_X4_assembledMinute_9 N n (x1 + (1 : Int32)) u0 q20))))))
def f_X4_assembledMinute (N : Nat) (u0 : Ob) (u1 : Ob) : Option (Int32 × Ob × Ob) := ((f_X0_open N u1).bind fun q1 => l_X4_assembledMinute_9 N N (0 : Int32) u0 q1)
def l_X4_mostDoubtsOfABit_15 (N : Nat) (u0 : Ob) : Nat → Int32 → Int32 → Int32 → Int32 → Option (Int32 × Int32 × Int32 × Int32)
  | 0, _, _, _, _ => none
  | n + 1, x1, x2, x3, x4 => (if (u0.1 11) ≤ x4 then some (x1, x2, x3, x4) else (if x4 < 0 ∨ 8 ≤ x4.toNatClampNeg then none else l_X4_mostDoubtsOfABit_15 N u0 n x1 x2 (x3 + ((jushr (((u0.2.2.2 9) x4.toNatClampNeg) &&& (576460752302899201 : Int64)) x2) &&& (1 : Int64)).toInt32) (x4 + (1 : Int32))))
def l_X4_mostDoubtsOfABit_4 (N : Nat) (u0 : Ob) : Nat → Int32 → Int32 → Option Int32
  | 0, _, _ => none
  | n + 1, x1, x2 => (if (58 : Int32) < x2 then some x1 else ((l_X4_mostDoubtsOfABit_15 N u0 N x1 x2 (0 : Int32) (0 : Int32)).bind fun w4 => l_X4_mostDoubtsOfABit_4 N u0 n (if w4.1 < w4.2.2.1 then w4.2.2.1 else w4.1) (w4.2.1 + (1 : Int32))))
def f_X4_mostDoubtsOfABit (N : Nat) (u0 : Ob) : Option Int32 := l_X4_mostDoubtsOfABit_4 N u0 N (0 : Int32) (0 : Int32)
def f_X4_minutesSinceFix (N : Nat) (x1 : Int32) (u0 : Ob) : Option Int64 := (if x1 < 0 ∨ 8 ≤ x1.toNatClampNeg then none else some ((60000 : Int64) * (((u0.2.2.1 14) (0 : Int32).toNatClampNeg) - ((u0.2.2.1 14) x1.toNatClampNeg)).toInt64))
def f_X4_timeSinceFix (N : Nat) (x1 : Int32) (u0 : Ob) : Option Int64 := (if x1 < 0 ∨ 8 ≤ x1.toNatClampNeg then none else some (((u0.2.2.1 15) (0 : Int32).toNatClampNeg).toInt64 - ((u0.2.2.1 15) x1.toNatClampNeg).toInt64))
def f_X4_driftEstimate (N : Nat) (u0 : Ob) : Option Int64 := ((f_X4_timeSinceFix N (1 : Int32) u0).bind fun q1 => (if q1 = (0 : Int64) then some (0 : Int64) else ((f_X4_minutesSinceFix N (1 : Int32) u0).bind fun q4 => (if q1 = 0 then none else some (((q4 - q1) * (1000000 : Int64)) / q1)))))
theorem kc_X0_open : Cond.instanceMethod yX0_open ∈ lw_g ∧ Cond.selects yX0_open.cls yX0_open yX0_open ∈ lw_g ∧ Cond.initialized yX0_open.cls ∈ lw_g ∧ Cond.code yX0_open cX0_open 1 none ∈ lw_g ∧ yX0_open.cls ≠ "java/lang/invoke/MethodHandle" ∧ yX0_open.cls ≠ "java/lang/invoke/VarHandle" ∧ (parseMethodDescriptor yX0_open.desc).map (fun d => d.parameters.length) = some 0 := ⟨kq1_226, kq1_227, kq1_3, kq1_228, by decide +kernel, by decide +kernel, by decide +kernel⟩
theorem kc_X0_cast : Cond.instanceMethod yX0_cast ∈ lw_g ∧ Cond.selects yX0_cast.cls yX0_cast yX0_cast ∈ lw_g ∧ Cond.initialized yX0_cast.cls ∈ lw_g ∧ Cond.code yX0_cast cX0_cast 2 none ∈ lw_g ∧ yX0_cast.cls ≠ "java/lang/invoke/MethodHandle" ∧ yX0_cast.cls ≠ "java/lang/invoke/VarHandle" ∧ (parseMethodDescriptor yX0_cast.desc).map (fun d => d.parameters.length) = some 1 := ⟨kq2_5, kq2_6, kq1_3, kq2_7, by decide +kernel, by decide +kernel, by decide +kernel⟩
theorem kc_X0_votesFor : Cond.instanceMethod yX0_votesFor ∈ lw_g ∧ Cond.selects yX0_votesFor.cls yX0_votesFor yX0_votesFor ∈ lw_g ∧ Cond.initialized yX0_votesFor.cls ∈ lw_g ∧ Cond.code yX0_votesFor cX0_votesFor 4 (some .int) ∈ lw_g ∧ yX0_votesFor.cls ≠ "java/lang/invoke/MethodHandle" ∧ yX0_votesFor.cls ≠ "java/lang/invoke/VarHandle" ∧ (parseMethodDescriptor yX0_votesFor.desc).map (fun d => d.parameters.length) = some 1 := ⟨kq2_9, kq2_10, kq1_3, kq2_11, by decide +kernel, by decide +kernel, by decide +kernel⟩
theorem kc_X0_leader : Cond.instanceMethod yX0_leader ∈ lw_g ∧ Cond.selects yX0_leader.cls yX0_leader yX0_leader ∈ lw_g ∧ Cond.initialized yX0_leader.cls ∈ lw_g ∧ Cond.code yX0_leader cX0_leader 6 (some .int) ∈ lw_g ∧ yX0_leader.cls ≠ "java/lang/invoke/MethodHandle" ∧ yX0_leader.cls ≠ "java/lang/invoke/VarHandle" ∧ (parseMethodDescriptor yX0_leader.desc).map (fun d => d.parameters.length) = some 0 := ⟨kq2_62, kq2_63, kq1_3, kq2_64, by decide +kernel, by decide +kernel, by decide +kernel⟩
theorem kc_X0_winner : Cond.instanceMethod yX0_winner ∈ lw_g ∧ Cond.selects yX0_winner.cls yX0_winner yX0_winner ∈ lw_g ∧ Cond.initialized yX0_winner.cls ∈ lw_g ∧ Cond.code yX0_winner cX0_winner 5 (some .int) ∈ lw_g ∧ yX0_winner.cls ≠ "java/lang/invoke/MethodHandle" ∧ yX0_winner.cls ≠ "java/lang/invoke/VarHandle" ∧ (parseMethodDescriptor yX0_winner.desc).map (fun d => d.parameters.length) = some 1 := ⟨kq2_58, kq2_59, kq1_3, kq2_60, by decide +kernel, by decide +kernel, by decide +kernel⟩
theorem kc_X4_hearingStart : Cond.instanceMethod yX4_hearingStart ∈ lw_g ∧ Cond.selects yX4_hearingStart.cls yX4_hearingStart yX4_hearingStart ∈ lw_g ∧ Cond.initialized yX4_hearingStart.cls ∈ lw_g ∧ Cond.code yX4_hearingStart cX4_hearingStart 1 (some .int) ∈ lw_g ∧ yX4_hearingStart.cls ≠ "java/lang/invoke/MethodHandle" ∧ yX4_hearingStart.cls ≠ "java/lang/invoke/VarHandle" ∧ (parseMethodDescriptor yX4_hearingStart.desc).map (fun d => d.parameters.length) = some 0 := ⟨kq3_78, kqp_11, kq1_2, kq3_79, by decide +kernel, by decide +kernel, by decide +kernel⟩
theorem kc_X4_canHear : Cond.instanceMethod yX4_canHear ∈ lw_g ∧ Cond.selects yX4_canHear.cls yX4_canHear yX4_canHear ∈ lw_g ∧ Cond.initialized yX4_canHear.cls ∈ lw_g ∧ Cond.code yX4_canHear cX4_canHear 1 (some .boolean) ∈ lw_g ∧ yX4_canHear.cls ≠ "java/lang/invoke/MethodHandle" ∧ yX4_canHear.cls ≠ "java/lang/invoke/VarHandle" ∧ (parseMethodDescriptor yX4_canHear.desc).map (fun d => d.parameters.length) = some 0 := ⟨kq3_73, kq3_74, kq1_2, kq3_75, by decide +kernel, by decide +kernel, by decide +kernel⟩
theorem kc_X4_copyFrom : Cond.instanceMethod yX4_copyFrom ∈ lw_g ∧ Cond.selects yX4_copyFrom.cls yX4_copyFrom yX4_copyFrom ∈ lw_g ∧ Cond.initialized yX4_copyFrom.cls ∈ lw_g ∧ Cond.code yX4_copyFrom cX4_copyFrom 2 none ∈ lw_g ∧ yX4_copyFrom.cls ≠ "java/lang/invoke/MethodHandle" ∧ yX4_copyFrom.cls ≠ "java/lang/invoke/VarHandle" ∧ (parseMethodDescriptor yX4_copyFrom.desc).map (fun d => d.parameters.length) = some 1 := ⟨kq2_93, kq2_94, kq1_2, kq2_95, by decide +kernel, by decide +kernel, by decide +kernel⟩
theorem kc_X4_change : Cond.instanceMethod yX4_change ∈ lw_g ∧ Cond.selects yX4_change.cls yX4_change yX4_change ∈ lw_g ∧ Cond.initialized yX4_change.cls ∈ lw_g ∧ Cond.code yX4_change cX4_change 3 none ∈ lw_g ∧ yX4_change.cls ≠ "java/lang/invoke/MethodHandle" ∧ yX4_change.cls ≠ "java/lang/invoke/VarHandle" ∧ (parseMethodDescriptor yX4_change.desc).map (fun d => d.parameters.length) = some 2 := ⟨kq3_182, kq3_183, kq1_2, kq3_184, by decide +kernel, by decide +kernel, by decide +kernel⟩
theorem kc_X4_hasFrame : Cond.instanceMethod yX4_hasFrame ∈ lw_g ∧ Cond.selects yX4_hasFrame.cls yX4_hasFrame yX4_hasFrame ∈ lw_g ∧ Cond.initialized yX4_hasFrame.cls ∈ lw_g ∧ Cond.code yX4_hasFrame cX4_hasFrame 2 (some .boolean) ∈ lw_g ∧ yX4_hasFrame.cls ≠ "java/lang/invoke/MethodHandle" ∧ yX4_hasFrame.cls ≠ "java/lang/invoke/VarHandle" ∧ (parseMethodDescriptor yX4_hasFrame.desc).map (fun d => d.parameters.length) = some 1 := ⟨kq4_48, kq4_49, kq1_2, kq4_50, by decide +kernel, by decide +kernel, by decide +kernel⟩
theorem kc_X4_doubtsSoFar : Cond.instanceMethod yX4_doubtsSoFar ∈ lw_g ∧ Cond.selects yX4_doubtsSoFar.cls yX4_doubtsSoFar yX4_doubtsSoFar ∈ lw_g ∧ Cond.initialized yX4_doubtsSoFar.cls ∈ lw_g ∧ Cond.code yX4_doubtsSoFar cX4_doubtsSoFar 2 (some .int) ∈ lw_g ∧ yX4_doubtsSoFar.cls ≠ "java/lang/invoke/MethodHandle" ∧ yX4_doubtsSoFar.cls ≠ "java/lang/invoke/VarHandle" ∧ (parseMethodDescriptor yX4_doubtsSoFar.desc).map (fun d => d.parameters.length) = some 0 := ⟨kq3_193, kq3_194, kq1_2, kq3_195, by decide +kernel, by decide +kernel, by decide +kernel⟩
theorem kc_X4_secondsSinceMark : Cond.instanceMethod yX4_secondsSinceMark ∈ lw_g ∧ Cond.selects yX4_secondsSinceMark.cls yX4_secondsSinceMark yX4_secondsSinceMark ∈ lw_g ∧ Cond.initialized yX4_secondsSinceMark.cls ∈ lw_g ∧ Cond.code yX4_secondsSinceMark cX4_secondsSinceMark 2 (some .int) ∈ lw_g ∧ yX4_secondsSinceMark.cls ≠ "java/lang/invoke/MethodHandle" ∧ yX4_secondsSinceMark.cls ≠ "java/lang/invoke/VarHandle" ∧ (parseMethodDescriptor yX4_secondsSinceMark.desc).map (fun d => d.parameters.length) = some 1 := ⟨kq3_111, kqp_16, kq1_2, kq3_112, by decide +kernel, by decide +kernel, by decide +kernel⟩
theorem kc_X4_isToBeIgnored : Cond.instanceMethod yX4_isToBeIgnored ∈ lw_g ∧ Cond.selects yX4_isToBeIgnored.cls yX4_isToBeIgnored yX4_isToBeIgnored ∈ lw_g ∧ Cond.initialized yX4_isToBeIgnored.cls ∈ lw_g ∧ Cond.code yX4_isToBeIgnored cX4_isToBeIgnored 4 (some .boolean) ∈ lw_g ∧ yX4_isToBeIgnored.cls ≠ "java/lang/invoke/MethodHandle" ∧ yX4_isToBeIgnored.cls ≠ "java/lang/invoke/VarHandle" ∧ (parseMethodDescriptor yX4_isToBeIgnored.desc).map (fun d => d.parameters.length) = some 2 := ⟨kq3_107, kqp_15, kq1_2, kq3_108, by decide +kernel, by decide +kernel, by decide +kernel⟩
theorem kc_X4_loseStep : Cond.instanceMethod yX4_loseStep ∈ lw_g ∧ Cond.selects yX4_loseStep.cls yX4_loseStep yX4_loseStep ∈ lw_g ∧ Cond.initialized yX4_loseStep.cls ∈ lw_g ∧ Cond.code yX4_loseStep cX4_loseStep 1 none ∈ lw_g ∧ yX4_loseStep.cls ≠ "java/lang/invoke/MethodHandle" ∧ yX4_loseStep.cls ≠ "java/lang/invoke/VarHandle" ∧ (parseMethodDescriptor yX4_loseStep.desc).map (fun d => d.parameters.length) = some 0 := ⟨kq2_100, kq2_101, kq1_2, kq2_102, by decide +kernel, by decide +kernel, by decide +kernel⟩
theorem kc_X4_doubtSeconds : Cond.instanceMethod yX4_doubtSeconds ∈ lw_g ∧ Cond.selects yX4_doubtSeconds.cls yX4_doubtSeconds yX4_doubtSeconds ∈ lw_g ∧ Cond.initialized yX4_doubtSeconds.cls ∈ lw_g ∧ Cond.code yX4_doubtSeconds cX4_doubtSeconds 4 none ∈ lw_g ∧ yX4_doubtSeconds.cls ≠ "java/lang/invoke/MethodHandle" ∧ yX4_doubtSeconds.cls ≠ "java/lang/invoke/VarHandle" ∧ (parseMethodDescriptor yX4_doubtSeconds.desc).map (fun d => d.parameters.length) = some 2 := ⟨kq3_123, kqp_18, kq1_2, kq3_124, by decide +kernel, by decide +kernel, by decide +kernel⟩
theorem kc_X4_putBit : Cond.instanceMethod yX4_putBit ∈ lw_g ∧ Cond.selects yX4_putBit.cls yX4_putBit yX4_putBit ∈ lw_g ∧ Cond.initialized yX4_putBit.cls ∈ lw_g ∧ Cond.code yX4_putBit cX4_putBit 3 none ∈ lw_g ∧ yX4_putBit.cls ≠ "java/lang/invoke/MethodHandle" ∧ yX4_putBit.cls ≠ "java/lang/invoke/VarHandle" ∧ (parseMethodDescriptor yX4_putBit.desc).map (fun d => d.parameters.length) = some 2 := ⟨kq3_127, kqp_19, kq1_2, kq3_128, by decide +kernel, by decide +kernel, by decide +kernel⟩
theorem kc_X4_beginMinute : Cond.instanceMethod yX4_beginMinute ∈ lw_g ∧ Cond.selects yX4_beginMinute.cls yX4_beginMinute yX4_beginMinute ∈ lw_g ∧ Cond.initialized yX4_beginMinute.cls ∈ lw_g ∧ Cond.code yX4_beginMinute cX4_beginMinute 3 none ∈ lw_g ∧ yX4_beginMinute.cls ≠ "java/lang/invoke/MethodHandle" ∧ yX4_beginMinute.cls ≠ "java/lang/invoke/VarHandle" ∧ (parseMethodDescriptor yX4_beginMinute.desc).map (fun d => d.parameters.length) = some 2 := ⟨kq3_119, kqp_17, kq1_2, kq3_120, by decide +kernel, by decide +kernel, by decide +kernel⟩
theorem kc_X4_keepFrame : Cond.instanceMethod yX4_keepFrame ∈ lw_g ∧ Cond.selects yX4_keepFrame.cls yX4_keepFrame yX4_keepFrame ∈ lw_g ∧ Cond.initialized yX4_keepFrame.cls ∈ lw_g ∧ Cond.code yX4_keepFrame cX4_keepFrame 1 none ∈ lw_g ∧ yX4_keepFrame.cls ≠ "java/lang/invoke/MethodHandle" ∧ yX4_keepFrame.cls ≠ "java/lang/invoke/VarHandle" ∧ (parseMethodDescriptor yX4_keepFrame.desc).map (fun d => d.parameters.length) = some 0 := ⟨kq3_131, kqp_20, kq1_2, kq3_132, by decide +kernel, by decide +kernel, by decide +kernel⟩
theorem kc_X4_minuteToldBy : Cond.instanceMethod yX4_minuteToldBy ∈ lw_g ∧ Cond.selects yX4_minuteToldBy.cls yX4_minuteToldBy yX4_minuteToldBy ∈ lw_g ∧ Cond.initialized yX4_minuteToldBy.cls ∈ lw_g ∧ Cond.code yX4_minuteToldBy cX4_minuteToldBy 2 (some .int) ∈ lw_g ∧ yX4_minuteToldBy.cls ≠ "java/lang/invoke/MethodHandle" ∧ yX4_minuteToldBy.cls ≠ "java/lang/invoke/VarHandle" ∧ (parseMethodDescriptor yX4_minuteToldBy.desc).map (fun d => d.parameters.length) = some 1 := ⟨kq1_234, kq1_235, kq1_2, kq1_236, by decide +kernel, by decide +kernel, by decide +kernel⟩
theorem kc_X4_voteOf : Cond.instanceMethod yX4_voteOf ∈ lw_g ∧ Cond.selects yX4_voteOf.cls yX4_voteOf yX4_voteOf ∈ lw_g ∧ Cond.initialized yX4_voteOf.cls ∈ lw_g ∧ Cond.code yX4_voteOf cX4_voteOf 3 (some .int) ∈ lw_g ∧ yX4_voteOf.cls ≠ "java/lang/invoke/MethodHandle" ∧ yX4_voteOf.cls ≠ "java/lang/invoke/VarHandle" ∧ (parseMethodDescriptor yX4_voteOf.desc).map (fun d => d.parameters.length) = some 1 := ⟨kq1_231, kqp_0, kq1_2, kq1_232, by decide +kernel, by decide +kernel, by decide +kernel⟩
theorem kc_X4_castVotes : Cond.instanceMethod yX4_castVotes ∈ lw_g ∧ Cond.selects yX4_castVotes.cls yX4_castVotes yX4_castVotes ∈ lw_g ∧ Cond.initialized yX4_castVotes.cls ∈ lw_g ∧ Cond.code yX4_castVotes cX4_castVotes 2 none ∈ lw_g ∧ yX4_castVotes.cls ≠ "java/lang/invoke/MethodHandle" ∧ yX4_castVotes.cls ≠ "java/lang/invoke/VarHandle" ∧ (parseMethodDescriptor yX4_castVotes.desc).map (fun d => d.parameters.length) = some 0 := ⟨kq1_222, kq1_223, kq1_2, kq1_224, by decide +kernel, by decide +kernel, by decide +kernel⟩
theorem kc_X4_keepFix : Cond.instanceMethod yX4_keepFix ∈ lw_g ∧ Cond.selects yX4_keepFix.cls yX4_keepFix yX4_keepFix ∈ lw_g ∧ Cond.initialized yX4_keepFix.cls ∈ lw_g ∧ Cond.code yX4_keepFix cX4_keepFix 3 none ∈ lw_g ∧ yX4_keepFix.cls ≠ "java/lang/invoke/MethodHandle" ∧ yX4_keepFix.cls ≠ "java/lang/invoke/VarHandle" ∧ (parseMethodDescriptor yX4_keepFix.desc).map (fun d => d.parameters.length) = some 2 := ⟨kq3_154, kqp_22, kq1_2, kq3_155, by decide +kernel, by decide +kernel, by decide +kernel⟩
theorem kc_X4_countVotes : Cond.instanceMethod yX4_countVotes ∈ lw_g ∧ Cond.selects yX4_countVotes.cls yX4_countVotes yX4_countVotes ∈ lw_g ∧ Cond.initialized yX4_countVotes.cls ∈ lw_g ∧ Cond.code yX4_countVotes cX4_countVotes 3 none ∈ lw_g ∧ yX4_countVotes.cls ≠ "java/lang/invoke/MethodHandle" ∧ yX4_countVotes.cls ≠ "java/lang/invoke/VarHandle" ∧ (parseMethodDescriptor yX4_countVotes.desc).map (fun d => d.parameters.length) = some 0 := ⟨kq3_148, kqp_21, kq1_2, kq3_149, by decide +kernel, by decide +kernel, by decide +kernel⟩
theorem kc_X4_takePulse : Cond.instanceMethod yX4_takePulse ∈ lw_g ∧ Cond.selects yX4_takePulse.cls yX4_takePulse yX4_takePulse ∈ lw_g ∧ Cond.initialized yX4_takePulse.cls ∈ lw_g ∧ Cond.code yX4_takePulse cX4_takePulse 6 (some .int) ∈ lw_g ∧ yX4_takePulse.cls ≠ "java/lang/invoke/MethodHandle" ∧ yX4_takePulse.cls ≠ "java/lang/invoke/VarHandle" ∧ (parseMethodDescriptor yX4_takePulse.desc).map (fun d => d.parameters.length) = some 2 := ⟨kq3_102, kq3_103, kq1_2, kq3_104, by decide +kernel, by decide +kernel, by decide +kernel⟩
theorem kc_X4_hearMinute : Cond.instanceMethod yX4_hearMinute ∈ lw_g ∧ Cond.selects yX4_hearMinute.cls yX4_hearMinute yX4_hearMinute ∈ lw_g ∧ Cond.initialized yX4_hearMinute.cls ∈ lw_g ∧ Cond.code yX4_hearMinute cX4_hearMinute 13 (some .int) ∈ lw_g ∧ yX4_hearMinute.cls ≠ "java/lang/invoke/MethodHandle" ∧ yX4_hearMinute.cls ≠ "java/lang/invoke/VarHandle" ∧ (parseMethodDescriptor yX4_hearMinute.desc).map (fun d => d.parameters.length) = some 3 := ⟨kq3_157, kq3_158, kq1_2, kq3_159, by decide +kernel, by decide +kernel, by decide +kernel⟩
theorem kc_X4_blockWinner : Cond.instanceMethod yX4_blockWinner ∈ lw_g ∧ Cond.selects yX4_blockWinner.cls yX4_blockWinner yX4_blockWinner ∈ lw_g ∧ Cond.initialized yX4_blockWinner.cls ∈ lw_g ∧ Cond.code yX4_blockWinner cX4_blockWinner 4 (some .int) ∈ lw_g ∧ yX4_blockWinner.cls ≠ "java/lang/invoke/MethodHandle" ∧ yX4_blockWinner.cls ≠ "java/lang/invoke/VarHandle" ∧ (parseMethodDescriptor yX4_blockWinner.desc).map (fun d => d.parameters.length) = some 2 := ⟨kq2_68, kqp_1, kq1_2, kq2_69, by decide +kernel, by decide +kernel, by decide +kernel⟩
theorem kc_X4_assembledMinute : Cond.instanceMethod yX4_assembledMinute ∈ lw_g ∧ Cond.selects yX4_assembledMinute.cls yX4_assembledMinute yX4_assembledMinute ∈ lw_g ∧ Cond.initialized yX4_assembledMinute.cls ∈ lw_g ∧ Cond.code yX4_assembledMinute cX4_assembledMinute 4 (some .int) ∈ lw_g ∧ yX4_assembledMinute.cls ≠ "java/lang/invoke/MethodHandle" ∧ yX4_assembledMinute.cls ≠ "java/lang/invoke/VarHandle" ∧ (parseMethodDescriptor yX4_assembledMinute.desc).map (fun d => d.parameters.length) = some 0 := ⟨kq2_17, kq2_18, kq1_2, kq2_19, by decide +kernel, by decide +kernel, by decide +kernel⟩
theorem kc_X4_mostDoubtsOfABit : Cond.instanceMethod yX4_mostDoubtsOfABit ∈ lw_g ∧ Cond.selects yX4_mostDoubtsOfABit.cls yX4_mostDoubtsOfABit yX4_mostDoubtsOfABit ∈ lw_g ∧ Cond.initialized yX4_mostDoubtsOfABit.cls ∈ lw_g ∧ Cond.code yX4_mostDoubtsOfABit cX4_mostDoubtsOfABit 5 (some .int) ∈ lw_g ∧ yX4_mostDoubtsOfABit.cls ≠ "java/lang/invoke/MethodHandle" ∧ yX4_mostDoubtsOfABit.cls ≠ "java/lang/invoke/VarHandle" ∧ (parseMethodDescriptor yX4_mostDoubtsOfABit.desc).map (fun d => d.parameters.length) = some 0 := ⟨kq2_78, kq2_79, kq1_2, kq2_80, by decide +kernel, by decide +kernel, by decide +kernel⟩
theorem kc_X4_minutesSinceFix : Cond.instanceMethod yX4_minutesSinceFix ∈ lw_g ∧ Cond.selects yX4_minutesSinceFix.cls yX4_minutesSinceFix yX4_minutesSinceFix ∈ lw_g ∧ Cond.initialized yX4_minutesSinceFix.cls ∈ lw_g ∧ Cond.code yX4_minutesSinceFix cX4_minutesSinceFix 2 (some .long) ∈ lw_g ∧ yX4_minutesSinceFix.cls ≠ "java/lang/invoke/MethodHandle" ∧ yX4_minutesSinceFix.cls ≠ "java/lang/invoke/VarHandle" ∧ (parseMethodDescriptor yX4_minutesSinceFix.desc).map (fun d => d.parameters.length) = some 1 := ⟨kq4_136, kq4_137, kq1_2, kq4_138, by decide +kernel, by decide +kernel, by decide +kernel⟩
theorem kc_X4_timeSinceFix : Cond.instanceMethod yX4_timeSinceFix ∈ lw_g ∧ Cond.selects yX4_timeSinceFix.cls yX4_timeSinceFix yX4_timeSinceFix ∈ lw_g ∧ Cond.initialized yX4_timeSinceFix.cls ∈ lw_g ∧ Cond.code yX4_timeSinceFix cX4_timeSinceFix 2 (some .long) ∈ lw_g ∧ yX4_timeSinceFix.cls ≠ "java/lang/invoke/MethodHandle" ∧ yX4_timeSinceFix.cls ≠ "java/lang/invoke/VarHandle" ∧ (parseMethodDescriptor yX4_timeSinceFix.desc).map (fun d => d.parameters.length) = some 1 := ⟨kq4_141, kq4_142, kq1_2, kq4_143, by decide +kernel, by decide +kernel, by decide +kernel⟩
theorem kc_X4_driftEstimate : Cond.instanceMethod yX4_driftEstimate ∈ lw_g ∧ Cond.selects yX4_driftEstimate.cls yX4_driftEstimate yX4_driftEstimate ∈ lw_g ∧ Cond.initialized yX4_driftEstimate.cls ∈ lw_g ∧ Cond.code yX4_driftEstimate cX4_driftEstimate 3 (some .long) ∈ lw_g ∧ yX4_driftEstimate.cls ≠ "java/lang/invoke/MethodHandle" ∧ yX4_driftEstimate.cls ≠ "java/lang/invoke/VarHandle" ∧ (parseMethodDescriptor yX4_driftEstimate.desc).map (fun d => d.parameters.length) = some 0 := ⟨kq4_155, kq4_156, kq1_2, kq4_157, by decide +kernel, by decide +kernel, by decide +kernel⟩
set_option maxRecDepth 100000 in
set_option maxHeartbeats 4000000 in
theorem c_X0_open {l : Launch} {G : Gp} {sz N : Nat} {h0 : Nat} {a0 : Nat → Nat} {u0 : Ob} {q : Ob} (hf : f_X0_open N u0 = some q) : Met l yX0_open (Cond.code yX0_open cX0_open 1 none :: lw_g) ({ frames := 0, cells := 0, slots := 0, locals := 0 } : Room) (va_Pc [.ref h0] (pw G (wX0 G h0 a0 u0) sz)) (va_Qv (fun v : Ob => q = v) (bw G (fun v : Ob => (wX0 G h0 a0 v)) (va_A (wX0 G h0 a0 u0) sz)) (va_A (wX0 G h0 a0 u0) sz)) 0 0 (va_A (wX0 G h0 a0 u0) sz) := by
  refine mt (Qc := (fun A => va_Qv (fun v : Ob => q = v) (bw G (fun v : Ob => (wX0 G h0 a0 v)) A) A)) (by decide) (Nat.le_of_ble_eq_true rfl) ?_
  intro p e s m below meth c A ls hx hb hr hlk hml hts hown hA hP hK hD hE hS hl
  have hown : s.vm.findClass RX0 = some m.cls := hown
  have hg : ∀ w ∈ lw_g, w.before ([.ref h0] : List Value).toArray s = true := fun w h => hts w (List.mem_cons_of_mem _ h)
  have hC : CallFix p m c cX0_open 1 s ([.ref h0] : List Value).toArray (Cond.code yX0_open cX0_open 1 none :: lw_g) RX0 := ⟨hx, hb, hml, hown, hts⟩
  have hl : lv_has ls 1 [(0, .ref h0)] := hl
  rw [f_X0_open] at hf
  refine lv_aload_n hx hb dX0_open_0 rfl (lv_at hl 0 rfl) ?_
  refine lv_iconst (v := (0 : Int32)) hx hb dX0_open_1 (by decide) ?_
  refine va_put (D := gD G) (ci := 0) (v := .int (0 : Int32)) (ty := .int) (C := RX0) (T := TX0) (N := 2) hx hb hg kl_X0 tyX0 tyX0_ok nmX0 hown hK hP hD hS 0 rfl rfl 1 (by decide) (hg _ kq1_43) (fun _ h9 => h9) rfl (by decide +kernel) rfl rfl (Nat.le_of_ble_eq_true rfl) dX0_open_2 (fun H locs hP hD hS => ?_)
  have hP : va_P (gD G) vwCl (wX0 G h0 a0 (oi u0 1 (0 : Int32))) H := hP
  have hD : va_D A (wX0 G h0 a0 (oi u0 1 (0 : Int32))) := hD
  have hf := Option.some.inj hf
  subst hf
  exact e_v (wf := (fun v : Ob => (wX0 G h0 a0 v))) hx hb hr hlk (oi u0 1 (0 : Int32)) rfl hP hK hD hS dX0_open_5
set_option maxRecDepth 100000 in
set_option maxHeartbeats 4000000 in
theorem c_X0_cast {l : Launch} {G : Gp} {sz N : Nat} {x1 : Int32} {h0 : Nat} {a0 : Nat → Nat} {u0 : Ob} {q : Ob} (hf : f_X0_cast N x1 u0 = some q) : Met l yX0_cast (Cond.code yX0_cast cX0_cast 2 none :: lw_g) ({ frames := 0, cells := 0, slots := 0, locals := 0 } : Room) (va_Pc [.ref h0, .int x1] (pw G (wX0 G h0 a0 u0) sz)) (va_Qv (fun v : Ob => q = v) (bw G (fun v : Ob => (wX0 G h0 a0 v)) (va_A (wX0 G h0 a0 u0) sz)) (va_A (wX0 G h0 a0 u0) sz)) 0 0 (va_A (wX0 G h0 a0 u0) sz) := by
  refine mt (Qc := (fun A => va_Qv (fun v : Ob => q = v) (bw G (fun v : Ob => (wX0 G h0 a0 v)) A) A)) (by decide) (Nat.le_of_ble_eq_true rfl) ?_
  intro p e s m below meth c A ls hx hb hr hlk hml hts hown hA hP hK hD hE hS hl
  have hown : s.vm.findClass RX0 = some m.cls := hown
  have hg : ∀ w ∈ lw_g, w.before ([.ref h0, .int x1] : List Value).toArray s = true := fun w h => hts w (List.mem_cons_of_mem _ h)
  have hC : CallFix p m c cX0_cast 2 s ([.ref h0, .int x1] : List Value).toArray (Cond.code yX0_cast cX0_cast 2 none :: lw_g) RX0 := ⟨hx, hb, hml, hown, hts⟩
  have hl : lv_has ls 2 [(0, .ref h0), (1, .int x1)] := hl
  rw [f_X0_cast] at hf
  refine lv_iload_n hx hb dX0_cast_0 rfl (lv_at hl 1 rfl) ?_
  refine lv_iconst (v := (-1 : Int32)) hx hb dX0_cast_1 (by decide) ?_
  refine lv_icmp_eq (tgt := 34) hx hb dX0_cast_2 (by decide) (fun c1 => ?_) (fun c1 => ?_)
  · have hf := tp hf c1
    have hf := Option.some.inj hf
    subst hf
    exact e_v (wf := (fun v : Ob => (wX0 G h0 a0 v))) hx hb hr hlk u0 rfl hP hK hD hS dX0_cast_34
  · have hf := tn hf c1
    refine lv_aload_n hx hb dX0_cast_5 rfl (lv_at hl 0 rfl) ?_
    refine va_get (D := gD G) (ci := 0) (v := .int (u0.1 1)) (C := RX0) (T := TX0) (N := 2) hx hb hg kl_X0 hown hK hP 0 rfl rfl 1 (by decide) (hg _ kq1_43) (fun _ h9 => h9) rfl dX0_cast_6 ?_
    refine lv_bipush (v := (8 : Int32)) hx hb dX0_cast_9 (by decide) ?_
    refine lv_icmp_ge (tgt := 34) hx hb dX0_cast_11 (by decide) (fun c2 => ?_) (fun c2 => ?_)
    · have hf := tp hf c2
      have hf := Option.some.inj hf
      subst hf
      exact e_v (wf := (fun v : Ob => (wX0 G h0 a0 v))) hx hb hr hlk u0 rfl hP hK hD hS dX0_cast_34
    · have hf := tn hf c2
      refine lv_aload_n hx hb dX0_cast_14 rfl (lv_at hl 0 rfl) ?_
      refine va_get (D := gD G) (ci := 0) (v := .ref (a0 0)) (C := RX0) (T := TX0) (N := 2) hx hb hg kl_X0 hown hK hP 0 rfl rfl 0 (by decide) (hg _ kq1_42) (fun _ h9 => h9) rfl dX0_cast_15 ?_
      refine lv_aload_n hx hb dX0_cast_18 rfl (lv_at hl 0 rfl) ?_
      refine va_get (D := gD G) (ci := 0) (v := .int (u0.1 1)) (C := RX0) (T := TX0) (N := 2) hx hb hg kl_X0 hown hK hP 0 rfl rfl 1 (by decide) (hg _ kq1_43) (fun _ h9 => h9) rfl dX0_cast_19 ?_
      refine lv_iload_n hx hb dX0_cast_22 rfl (lv_at hl 1 rfl) ?_
      obtain ⟨b3, hf⟩ := tno hf
      refine va_iast (f := (u0.2.2.1 0)) hx hb hK hP hD hS 1 1 rfl rfl b3 dX0_cast_23 (fun H locs hP hD hS => ?_)
      have hP : va_P (gD G) vwCl (wX0 G h0 a0 (oa u0 0 (upd (u0.2.2.1 0) (u0.1 1).toNatClampNeg x1))) H := hP
      have hD : va_D A (wX0 G h0 a0 (oa u0 0 (upd (u0.2.2.1 0) (u0.1 1).toNatClampNeg x1))) := hD
      refine lv_aload_n hx hb dX0_cast_24 rfl (lv_at hl 0 rfl) ?_
      refine lv_dup hx hb dX0_cast_25 rfl ?_
      refine va_get (D := gD G) (ci := 0) (v := .int (u0.1 1)) (C := RX0) (T := TX0) (N := 2) hx hb hg kl_X0 hown hK hP 0 rfl rfl 1 (by decide) (hg _ kq1_43) (fun _ h9 => h9) rfl dX0_cast_26 ?_
      refine lv_iconst (v := (1 : Int32)) hx hb dX0_cast_29 (by decide) ?_
      refine lv_iadd hx hb dX0_cast_30 ?_
      refine va_put (D := gD G) (ci := 0) (v := .int ((u0.1 1) + (1 : Int32))) (ty := .int) (C := RX0) (T := TX0) (N := 2) hx hb hg kl_X0 tyX0 tyX0_ok nmX0 hown hK hP hD hS 0 rfl rfl 1 (by decide) (hg _ kq1_43) (fun _ h9 => h9) rfl (by decide +kernel) rfl rfl (Nat.le_of_ble_eq_true rfl) dX0_cast_31 (fun H locs hP hD hS => ?_)
      have hP : va_P (gD G) vwCl (wX0 G h0 a0 (oi (oa u0 0 (upd (u0.2.2.1 0) (u0.1 1).toNatClampNeg x1)) 1 ((u0.1 1) + (1 : Int32)))) H := hP
      have hD : va_D A (wX0 G h0 a0 (oi (oa u0 0 (upd (u0.2.2.1 0) (u0.1 1).toNatClampNeg x1)) 1 ((u0.1 1) + (1 : Int32)))) := hD
      have hf := Option.some.inj hf
      subst hf
      exact e_v (wf := (fun v : Ob => (wX0 G h0 a0 v))) hx hb hr hlk (oi (oa u0 0 (upd (u0.2.2.1 0) (u0.1 1).toNatClampNeg x1)) 1 ((u0.1 1) + (1 : Int32))) rfl hP hK hD hS dX0_cast_34
set_option maxRecDepth 100000 in
set_option maxHeartbeats 4000000 in
theorem c_X0_votesFor {l : Launch} {G : Gp} {sz N : Nat} {x1 : Int32} {h0 : Nat} {a0 : Nat → Nat} {u0 : Ob} {q : Int32} (hf : f_X0_votesFor N x1 u0 = some q) : Met l yX0_votesFor (Cond.code yX0_votesFor cX0_votesFor 4 (some .int) :: lw_g) ({ frames := 0, cells := 0, slots := 0, locals := 0 } : Room) (va_Pc [.ref h0, .int x1] (pw G (wX0 G h0 a0 u0) sz)) (va_Qi (fun (r : Int32) (v : Ob) => q = r ∧ u0 = v) (bw G (fun v : Ob => (wX0 G h0 a0 v)) (va_A (wX0 G h0 a0 u0) sz)) (va_A (wX0 G h0 a0 u0) sz)) 0 0 (va_A (wX0 G h0 a0 u0) sz) := by
  refine mt (Qc := (fun A => va_Qi (fun (r : Int32) (v : Ob) => q = r ∧ u0 = v) (bw G (fun v : Ob => (wX0 G h0 a0 v)) A) A)) (by decide) (Nat.le_of_ble_eq_true rfl) ?_
  intro p e s m below meth c A ls hx hb hr hlk hml hts hown hA hP hK hD hE hS hl
  have hown : s.vm.findClass RX0 = some m.cls := hown
  have hg : ∀ w ∈ lw_g, w.before ([.ref h0, .int x1] : List Value).toArray s = true := fun w h => hts w (List.mem_cons_of_mem _ h)
  have hC : CallFix p m c cX0_votesFor 4 s ([.ref h0, .int x1] : List Value).toArray (Cond.code yX0_votesFor cX0_votesFor 4 (some .int) :: lw_g) RX0 := ⟨hx, hb, hml, hown, hts⟩
  have hl : lv_has ls 4 [(0, .ref h0), (1, .int x1)] := hl
  have lp_4 : ∀ (n : Nat) (x2 : Int32) (x3 : Int32), l_X0_votesFor_4 N x1 u0 n x2 x3 = some q → ∀ (H : Heap) (locs : List Loc) (ls : Array Slot), va_P (gD G) vwCl (wX0 G h0 a0 u0) H → va_D A (wX0 G h0 a0 u0) → va_S A s.heap H locs → lv_has ls 4 [(0, .ref h0), (1, .int x1), (2, .int x2), (3, .int x3)] → W p l e ({ frames := 0, cells := 0, slots := 0, locals := 0 } : Room) s m ([.ref h0, .int x1] : List Value).toArray below meth c H locs 0 0 (MQ below (va_Qi (fun (r : Int32) (v : Ob) => q = r ∧ u0 = v) (bw G (fun v : Ob => (wX0 G h0 a0 v)) A) A) ([.ref h0, .int x1] : List Value).toArray s 0 0 A) (F0 m 4 ls []) := by
    intro n
    induction n with
    | zero => intro x2 x3 hf; rw [l_X0_votesFor_4] at hf; cases hf
    | succ n ih =>
      intro x2 x3 hf H locs ls hP hD hS hl
      rw [l_X0_votesFor_4] at hf
      refine lv_iload_n hx hb dX0_votesFor_4 rfl (lv_at hl 3 rfl) ?_
      refine lv_aload_n hx hb dX0_votesFor_5 rfl (lv_at hl 0 rfl) ?_
      refine va_get (D := gD G) (ci := 0) (v := .int (u0.1 1)) (C := RX0) (T := TX0) (N := 2) hx hb hg kl_X0 hown hK hP 0 rfl rfl 1 (by decide) (hg _ kq1_43) (fun _ h9 => h9) rfl dX0_votesFor_6 ?_
      refine lv_icmp_ge (tgt := 31) hx hb dX0_votesFor_9 (by decide) (fun c1 => ?_) (fun c1 => ?_)
      · have hf := tp hf c1
        refine lv_iload_n hx hb dX0_votesFor_31 rfl (lv_at hl 2 rfl) ?_
        have hf := Option.some.inj hf
        subst hf
        exact e_i (wf := (fun v : Ob => (wX0 G h0 a0 v))) hx hb hr hlk u0 ⟨rfl, rfl⟩ hP hK hD hS dX0_votesFor_32
      · have hf := tn hf c1
        refine lv_aload_n hx hb dX0_votesFor_12 rfl (lv_at hl 0 rfl) ?_
        refine va_get (D := gD G) (ci := 0) (v := .ref (a0 0)) (C := RX0) (T := TX0) (N := 2) hx hb hg kl_X0 hown hK hP 0 rfl rfl 0 (by decide) (hg _ kq1_42) (fun _ h9 => h9) rfl dX0_votesFor_13 ?_
        refine lv_iload_n hx hb dX0_votesFor_16 rfl (lv_at hl 3 rfl) ?_
        obtain ⟨b2, hf⟩ := tno hf
        refine va_iald (f := (u0.2.2.1 0)) hx hb hK hP 1 1 rfl rfl b2 dX0_votesFor_17 ?_
        refine lv_iload_n hx hb dX0_votesFor_18 rfl (lv_at hl 1 rfl) ?_
        refine lv_icmp_ne (tgt := 25) hx hb dX0_votesFor_19 (by decide) (fun c3 => ?_) (fun c3 => ?_)
        · have hf := tn hf c3
          refine lv_iinc (v := (x3 + (1 : Int32))) (lv' := [(3, .int (x3 + (1 : Int32))), (0, .ref h0), (1, .int x1), (2, .int x2)]) hx hb dX0_votesFor_25 hl (k := 3) rfl rfl (by decide) rfl (fun ls hl => ?_)
          refine lv_goto (tgt := 4) hx hb dX0_votesFor_28 (by decide) ?_
          exact ih _ _ hf _ _ _ hP hD hS (lv_sub hl [1, 2, 3, 0] rfl)
        · have hf := tp hf c3
          refine lv_iinc (v := (x2 + (1 : Int32))) (lv' := [(2, .int (x2 + (1 : Int32))), (0, .ref h0), (1, .int x1), (3, .int x3)]) hx hb dX0_votesFor_22 hl (k := 2) rfl rfl (by decide) rfl (fun ls hl => ?_)
          refine lv_iinc (v := (x3 + (1 : Int32))) (lv' := [(3, .int (x3 + (1 : Int32))), (2, .int (x2 + (1 : Int32))), (0, .ref h0), (1, .int x1)]) hx hb dX0_votesFor_25 hl (k := 3) rfl rfl (by decide) rfl (fun ls hl => ?_)
          refine lv_goto (tgt := 4) hx hb dX0_votesFor_28 (by decide) ?_
          exact ih _ _ hf _ _ _ hP hD hS (lv_sub hl [2, 3, 1, 0] rfl)
  rw [f_X0_votesFor] at hf
  refine lv_iconst (v := (0 : Int32)) hx hb dX0_votesFor_0 (by decide) ?_
  refine lv_istore_n (lv' := [(2, .int (0 : Int32)), (0, .ref h0), (1, .int x1)]) hx hb dX0_votesFor_1 rfl hl (by decide) rfl (fun ls hl => ?_)
  refine lv_iconst (v := (0 : Int32)) hx hb dX0_votesFor_2 (by decide) ?_
  refine lv_istore_n (lv' := [(3, .int (0 : Int32)), (2, .int (0 : Int32)), (0, .ref h0), (1, .int x1)]) hx hb dX0_votesFor_3 rfl hl (by decide) rfl (fun ls hl => ?_)
  exact lp_4 N _ _ hf _ _ _ hP hD hS (lv_sub hl [2, 3, 1, 0] rfl)
set_option maxRecDepth 100000 in
set_option maxHeartbeats 4000000 in
theorem c_X0_leader {l : Launch} {G : Gp} {sz N : Nat} {h0 : Nat} {a0 : Nat → Nat} {u0 : Ob} {q : Int32} (hf : f_X0_leader N u0 = some q) : Met l yX0_leader (Cond.code yX0_leader cX0_leader 6 (some .int) :: lw_g) ({ frames := 1, cells := 0, slots := 0, locals := 23 } : Room) (va_Pc [.ref h0] (pw G (wX0 G h0 a0 u0) sz)) (va_Qi (fun (r : Int32) (v : Ob) => q = r ∧ u0 = v) (bw G (fun v : Ob => (wX0 G h0 a0 v)) (va_A (wX0 G h0 a0 u0) sz)) (va_A (wX0 G h0 a0 u0) sz)) 0 0 (va_A (wX0 G h0 a0 u0) sz) := by
  refine mt (Qc := (fun A => va_Qi (fun (r : Int32) (v : Ob) => q = r ∧ u0 = v) (bw G (fun v : Ob => (wX0 G h0 a0 v)) A) A)) (by decide) (Nat.le_of_ble_eq_true rfl) ?_
  intro p e s m below meth c A ls hx hb hr hlk hml hts hown hA hP hK hD hE hS hl
  have hown : s.vm.findClass RX0 = some m.cls := hown
  have hg : ∀ w ∈ lw_g, w.before ([.ref h0] : List Value).toArray s = true := fun w h => hts w (List.mem_cons_of_mem _ h)
  have hC : CallFix p m c cX0_leader 6 s ([.ref h0] : List Value).toArray (Cond.code yX0_leader cX0_leader 6 (some .int) :: lw_g) RX0 := ⟨hx, hb, hml, hown, hts⟩
  have hl : lv_has ls 6 [(0, .ref h0)] := hl
  have lp_6 : ∀ (n : Nat) (x1 : Int32) (x2 : Int32) (x3 : Int32), l_X0_leader_6 N u0 n x1 x2 x3 = some q → ∀ (H : Heap) (locs : List Loc) (ls : Array Slot), va_P (gD G) vwCl (wX0 G h0 a0 u0) H → va_D A (wX0 G h0 a0 u0) → va_S A s.heap H locs → lv_has ls 6 [(0, .ref h0), (1, .int x1), (2, .int x2), (3, .int x3)] → W p l e ({ frames := 1, cells := 0, slots := 0, locals := 23 } : Room) s m ([.ref h0] : List Value).toArray below meth c H locs 0 0 (MQ below (va_Qi (fun (r : Int32) (v : Ob) => q = r ∧ u0 = v) (bw G (fun v : Ob => (wX0 G h0 a0 v)) A) A) ([.ref h0] : List Value).toArray s 0 0 A) (F0 m 6 ls []) := by
    intro n
    induction n with
    | zero => intro x1 x2 x3 hf; rw [l_X0_leader_6] at hf; cases hf
    | succ n ih =>
      intro x1 x2 x3 hf H locs ls hP hD hS hl
      rw [l_X0_leader_6] at hf
      refine lv_iload_n hx hb dX0_leader_6 rfl (lv_at hl 3 rfl) ?_
      refine lv_aload_n hx hb dX0_leader_7 rfl (lv_at hl 0 rfl) ?_
      refine va_get (D := gD G) (ci := 0) (v := .int (u0.1 1)) (C := RX0) (T := TX0) (N := 2) hx hb hg kl_X0 hown hK hP 0 rfl rfl 1 (by decide) (hg _ kq1_43) (fun _ h9 => h9) rfl dX0_leader_8 ?_
      refine lv_icmp_ge (tgt := 60) hx hb dX0_leader_11 (by decide) (fun c1 => ?_) (fun c1 => ?_)
      · have hf := tp hf c1
        refine lv_iload_n hx hb dX0_leader_60 rfl (lv_at hl 1 rfl) ?_
        have hf := Option.some.inj hf
        subst hf
        exact e_i (wf := (fun v : Ob => (wX0 G h0 a0 v))) hx hb hr hlk u0 ⟨rfl, rfl⟩ hP hK hD hS dX0_leader_61
      · have hf := tn hf c1
        refine lv_aload_n hx hb dX0_leader_14 rfl (lv_at hl 0 rfl) ?_
        refine va_get (D := gD G) (ci := 0) (v := .ref (a0 0)) (C := RX0) (T := TX0) (N := 2) hx hb hg kl_X0 hown hK hP 0 rfl rfl 0 (by decide) (hg _ kq1_42) (fun _ h9 => h9) rfl dX0_leader_15 ?_
        refine lv_iload_n hx hb dX0_leader_18 rfl (lv_at hl 3 rfl) ?_
        obtain ⟨b2, hf⟩ := tno hf
        refine va_iald (f := (u0.2.2.1 0)) hx hb hK hP 1 1 rfl rfl b2 dX0_leader_19 ?_
        refine lv_istore (lv' := [(4, .int ((u0.2.2.1 0) x3.toNatClampNeg)), (0, .ref h0), (1, .int x1), (2, .int x2), (3, .int x3)]) hx hb dX0_leader_20 hl (by decide) rfl (fun ls hl => ?_)
        refine lv_aload_n hx hb dX0_leader_22 rfl (lv_at hl 1 rfl) ?_
        refine lv_iload hx hb dX0_leader_23 (lv_at hl 0 rfl) ?_
        obtain ⟨q3, e4, hf⟩ := tbd hf
        refine kVi1 (As := [.int ((u0.2.2.1 0) x3.toNatClampNeg)]) (rest := []) hC (c_X0_votesFor (G := G) e4) kq2_65 kc_X0_votesFor (by decide) 0 (ci := 0) rfl rfl hP hK hD hE hS hA hl.1 (Nat.le_of_ble_eq_true rfl) ⟨Nat.zero_le _, Nat.zero_le _⟩ dX0_leader_25 (fun r9 u9 H locs hw hP hD hS => ?_)
        obtain ⟨rfl, rfl⟩ := hw
        have hP : va_P (gD G) vwCl (wX0 G h0 a0 u0) H := hP
        have hD : va_D A (wX0 G h0 a0 u0) := hD
        refine lv_istore (lv' := [(5, .int q3), (4, .int ((u0.2.2.1 0) x3.toNatClampNeg)), (0, .ref h0), (1, .int x1), (2, .int x2), (3, .int x3)]) hx hb dX0_leader_28 hl (by decide) rfl (fun ls hl => ?_)
        refine lv_iload hx hb dX0_leader_30 (lv_at hl 0 rfl) ?_
        refine lv_iload_n hx hb dX0_leader_32 rfl (lv_at hl 4 rfl) ?_
        refine lv_icmp_gt (tgt := 48) hx hb dX0_leader_33 (by decide) (fun c5 => ?_) (fun c5 => ?_)
        · have hf := tp hf c5
          refine lv_iload hx hb dX0_leader_48 (lv_at hl 1 rfl) ?_
          refine lv_istore_n (lv' := [(1, .int ((u0.2.2.1 0) x3.toNatClampNeg)), (5, .int q3), (4, .int ((u0.2.2.1 0) x3.toNatClampNeg)), (0, .ref h0), (2, .int x2), (3, .int x3)]) hx hb dX0_leader_50 rfl hl (by decide) rfl (fun ls hl => ?_)
          refine lv_iload hx hb dX0_leader_51 (lv_at hl 1 rfl) ?_
          refine lv_istore_n (lv' := [(2, .int q3), (1, .int ((u0.2.2.1 0) x3.toNatClampNeg)), (5, .int q3), (4, .int ((u0.2.2.1 0) x3.toNatClampNeg)), (0, .ref h0), (3, .int x3)]) hx hb dX0_leader_53 rfl hl (by decide) rfl (fun ls hl => ?_)
          refine lv_iinc (v := (x3 + (1 : Int32))) (lv' := [(3, .int (x3 + (1 : Int32))), (2, .int q3), (1, .int ((u0.2.2.1 0) x3.toNatClampNeg)), (5, .int q3), (4, .int ((u0.2.2.1 0) x3.toNatClampNeg)), (0, .ref h0)]) hx hb dX0_leader_54 hl (k := 5) rfl rfl (by decide) rfl (fun ls hl => ?_)
          refine lv_goto (tgt := 6) hx hb dX0_leader_57 (by decide) ?_
          exact ih _ _ _ hf _ _ _ hP hD hS (lv_sub hl [5, 2, 1, 0] rfl)
        · have hf := tn hf c5
          refine lv_iload hx hb dX0_leader_36 (lv_at hl 0 rfl) ?_
          refine lv_iload_n hx hb dX0_leader_38 rfl (lv_at hl 4 rfl) ?_
          refine lv_icmp_ne (tgt := 54) hx hb dX0_leader_39 (by decide) (fun c6 => ?_) (fun c6 => ?_)
          · have hf := tn hf c6
            refine lv_iinc (v := (x3 + (1 : Int32))) (lv' := [(3, .int (x3 + (1 : Int32))), (5, .int q3), (4, .int ((u0.2.2.1 0) x3.toNatClampNeg)), (0, .ref h0), (1, .int x1), (2, .int x2)]) hx hb dX0_leader_54 hl (k := 5) rfl rfl (by decide) rfl (fun ls hl => ?_)
            refine lv_goto (tgt := 6) hx hb dX0_leader_57 (by decide) ?_
            exact ih _ _ _ hf _ _ _ hP hD hS (lv_sub hl [3, 4, 5, 0] rfl)
          · have hf := tp hf c6
            refine lv_iload hx hb dX0_leader_42 (lv_at hl 1 rfl) ?_
            refine lv_iload_n hx hb dX0_leader_44 rfl (lv_at hl 3 rfl) ?_
            refine lv_icmp_ge (tgt := 54) hx hb dX0_leader_45 (by decide) (fun c7 => ?_) (fun c7 => ?_)
            · have hf := tp hf c7
              refine lv_iinc (v := (x3 + (1 : Int32))) (lv' := [(3, .int (x3 + (1 : Int32))), (5, .int q3), (4, .int ((u0.2.2.1 0) x3.toNatClampNeg)), (0, .ref h0), (1, .int x1), (2, .int x2)]) hx hb dX0_leader_54 hl (k := 5) rfl rfl (by decide) rfl (fun ls hl => ?_)
              refine lv_goto (tgt := 6) hx hb dX0_leader_57 (by decide) ?_
              exact ih _ _ _ hf _ _ _ hP hD hS (lv_sub hl [3, 4, 5, 0] rfl)
            · have hf := tn hf c7
              refine lv_iload hx hb dX0_leader_48 (lv_at hl 1 rfl) ?_
              refine lv_istore_n (lv' := [(1, .int ((u0.2.2.1 0) x3.toNatClampNeg)), (5, .int q3), (4, .int ((u0.2.2.1 0) x3.toNatClampNeg)), (0, .ref h0), (2, .int x2), (3, .int x3)]) hx hb dX0_leader_50 rfl hl (by decide) rfl (fun ls hl => ?_)
              refine lv_iload hx hb dX0_leader_51 (lv_at hl 1 rfl) ?_
              refine lv_istore_n (lv' := [(2, .int q3), (1, .int ((u0.2.2.1 0) x3.toNatClampNeg)), (5, .int q3), (4, .int ((u0.2.2.1 0) x3.toNatClampNeg)), (0, .ref h0), (3, .int x3)]) hx hb dX0_leader_53 rfl hl (by decide) rfl (fun ls hl => ?_)
              refine lv_iinc (v := (x3 + (1 : Int32))) (lv' := [(3, .int (x3 + (1 : Int32))), (2, .int q3), (1, .int ((u0.2.2.1 0) x3.toNatClampNeg)), (5, .int q3), (4, .int ((u0.2.2.1 0) x3.toNatClampNeg)), (0, .ref h0)]) hx hb dX0_leader_54 hl (k := 5) rfl rfl (by decide) rfl (fun ls hl => ?_)
              refine lv_goto (tgt := 6) hx hb dX0_leader_57 (by decide) ?_
              exact ih _ _ _ hf _ _ _ hP hD hS (lv_sub hl [5, 2, 1, 0] rfl)
  rw [f_X0_leader] at hf
  refine lv_iconst (v := (-1 : Int32)) hx hb dX0_leader_0 (by decide) ?_
  refine lv_istore_n (lv' := [(1, .int (-1 : Int32)), (0, .ref h0)]) hx hb dX0_leader_1 rfl hl (by decide) rfl (fun ls hl => ?_)
  refine lv_iconst (v := (0 : Int32)) hx hb dX0_leader_2 (by decide) ?_
  refine lv_istore_n (lv' := [(2, .int (0 : Int32)), (1, .int (-1 : Int32)), (0, .ref h0)]) hx hb dX0_leader_3 rfl hl (by decide) rfl (fun ls hl => ?_)
  refine lv_iconst (v := (0 : Int32)) hx hb dX0_leader_4 (by decide) ?_
  refine lv_istore_n (lv' := [(3, .int (0 : Int32)), (2, .int (0 : Int32)), (1, .int (-1 : Int32)), (0, .ref h0)]) hx hb dX0_leader_5 rfl hl (by decide) rfl (fun ls hl => ?_)
  exact lp_6 N _ _ _ hf _ _ _ hP hD hS (lv_sub hl [3, 2, 1, 0] rfl)
set_option maxRecDepth 100000 in
set_option maxHeartbeats 4000000 in
theorem c_X0_winner {l : Launch} {G : Gp} {sz N : Nat} {x1 : Int32} {h0 : Nat} {a0 : Nat → Nat} {u0 : Ob} {q : Int32} (hf : f_X0_winner N x1 u0 = some q) : Met l yX0_winner (Cond.code yX0_winner cX0_winner 5 (some .int) :: lw_g) ({ frames := 2, cells := 0, slots := 0, locals := 48 } : Room) (va_Pc [.ref h0, .int x1] (pw G (wX0 G h0 a0 u0) sz)) (va_Qi (fun (r : Int32) (v : Ob) => q = r ∧ u0 = v) (bw G (fun v : Ob => (wX0 G h0 a0 v)) (va_A (wX0 G h0 a0 u0) sz)) (va_A (wX0 G h0 a0 u0) sz)) 0 0 (va_A (wX0 G h0 a0 u0) sz) := by
  refine mt (Qc := (fun A => va_Qi (fun (r : Int32) (v : Ob) => q = r ∧ u0 = v) (bw G (fun v : Ob => (wX0 G h0 a0 v)) A) A)) (by decide) (Nat.le_of_ble_eq_true rfl) ?_
  intro p e s m below meth c A ls hx hb hr hlk hml hts hown hA hP hK hD hE hS hl
  have hown : s.vm.findClass RX0 = some m.cls := hown
  have hg : ∀ w ∈ lw_g, w.before ([.ref h0, .int x1] : List Value).toArray s = true := fun w h => hts w (List.mem_cons_of_mem _ h)
  have hC : CallFix p m c cX0_winner 5 s ([.ref h0, .int x1] : List Value).toArray (Cond.code yX0_winner cX0_winner 5 (some .int) :: lw_g) RX0 := ⟨hx, hb, hml, hown, hts⟩
  have hl : lv_has ls 5 [(0, .ref h0), (1, .int x1)] := hl
  have lp_21 : ∀ (n : Nat) (x2 : Int32) (x3 : Int32) (x4 : Int32), l_X0_winner_21 N x1 u0 n x2 x3 x4 = some q → ∀ (H : Heap) (locs : List Loc) (ls : Array Slot), va_P (gD G) vwCl (wX0 G h0 a0 u0) H → va_D A (wX0 G h0 a0 u0) → va_S A s.heap H locs → lv_has ls 5 [(0, .ref h0), (1, .int x1), (2, .int x2), (3, .int x3), (4, .int x4)] → W p l e ({ frames := 2, cells := 0, slots := 0, locals := 48 } : Room) s m ([.ref h0, .int x1] : List Value).toArray below meth c H locs 0 0 (MQ below (va_Qi (fun (r : Int32) (v : Ob) => q = r ∧ u0 = v) (bw G (fun v : Ob => (wX0 G h0 a0 v)) A) A) ([.ref h0, .int x1] : List Value).toArray s 0 0 A) (F0 m 21 ls []) := by
    intro n
    induction n with
    | zero => intro x2 x3 x4 hf; rw [l_X0_winner_21] at hf; cases hf
    | succ n ih =>
      intro x2 x3 x4 hf H locs ls hP hD hS hl
      rw [l_X0_winner_21] at hf
      refine lv_iload hx hb dX0_winner_21 (lv_at hl 4 rfl) ?_
      refine lv_aload_n hx hb dX0_winner_23 rfl (lv_at hl 0 rfl) ?_
      refine va_get (D := gD G) (ci := 0) (v := .int (u0.1 1)) (C := RX0) (T := TX0) (N := 2) hx hb hg kl_X0 hown hK hP 0 rfl rfl 1 (by decide) (hg _ kq1_43) (fun _ h9 => h9) rfl dX0_winner_24 ?_
      refine lv_icmp_ge (tgt := 64) hx hb dX0_winner_27 (by decide) (fun c6 => ?_) (fun c6 => ?_)
      · have hf := tp hf c6
        refine lv_iload_n hx hb dX0_winner_64 rfl (lv_at hl 2 rfl) ?_
        have hf := Option.some.inj hf
        subst hf
        exact e_i (wf := (fun v : Ob => (wX0 G h0 a0 v))) hx hb hr hlk u0 ⟨rfl, rfl⟩ hP hK hD hS dX0_winner_65
      · have hf := tn hf c6
        refine lv_aload_n hx hb dX0_winner_30 rfl (lv_at hl 0 rfl) ?_
        refine va_get (D := gD G) (ci := 0) (v := .ref (a0 0)) (C := RX0) (T := TX0) (N := 2) hx hb hg kl_X0 hown hK hP 0 rfl rfl 0 (by decide) (hg _ kq1_42) (fun _ h9 => h9) rfl dX0_winner_31 ?_
        refine lv_iload hx hb dX0_winner_34 (lv_at hl 4 rfl) ?_
        obtain ⟨b7, hf⟩ := tno hf
        refine va_iald (f := (u0.2.2.1 0)) hx hb hK hP 1 1 rfl rfl b7 dX0_winner_36 ?_
        refine lv_iload_n hx hb dX0_winner_37 rfl (lv_at hl 2 rfl) ?_
        refine lv_icmp_eq (tgt := 58) hx hb dX0_winner_38 (by decide) (fun c8 => ?_) (fun c8 => ?_)
        · have hf := tp hf c8
          refine lv_iinc (v := (x4 + (1 : Int32))) (lv' := [(4, .int (x4 + (1 : Int32))), (0, .ref h0), (1, .int x1), (2, .int x2), (3, .int x3)]) hx hb dX0_winner_58 hl (k := 4) rfl rfl (by decide) rfl (fun ls hl => ?_)
          refine lv_goto (tgt := 21) hx hb dX0_winner_61 (by decide) ?_
          exact ih _ _ _ hf _ _ _ hP hD hS (lv_sub hl [1, 2, 3, 4, 0] rfl)
        · have hf := tn hf c8
          refine lv_aload_n hx hb dX0_winner_41 rfl (lv_at hl 0 rfl) ?_
          refine lv_aload_n hx hb dX0_winner_42 rfl (lv_at hl 0 rfl) ?_
          refine va_get (D := gD G) (ci := 0) (v := .ref (a0 0)) (C := RX0) (T := TX0) (N := 2) hx hb hg kl_X0 hown hK hP 0 rfl rfl 0 (by decide) (hg _ kq1_42) (fun _ h9 => h9) rfl dX0_winner_43 ?_
          refine lv_iload hx hb dX0_winner_46 (lv_at hl 4 rfl) ?_
          obtain ⟨b9, hf⟩ := tno hf
          refine va_iald (f := (u0.2.2.1 0)) hx hb hK hP 1 1 rfl rfl b9 dX0_winner_48 ?_
          obtain ⟨q10, e11, hf⟩ := tbd hf
          refine kVi1 (As := [.int ((u0.2.2.1 0) x4.toNatClampNeg)]) (rest := []) hC (c_X0_votesFor (G := G) e11) kq2_65 kc_X0_votesFor (by decide) 0 (ci := 0) rfl rfl hP hK hD hE hS hA hl.1 (Nat.le_of_ble_eq_true rfl) ⟨Nat.zero_le _, Nat.zero_le _⟩ dX0_winner_49 (fun r9 u9 H locs hw hP hD hS => ?_)
          obtain ⟨rfl, rfl⟩ := hw
          have hP : va_P (gD G) vwCl (wX0 G h0 a0 u0) H := hP
          have hD : va_D A (wX0 G h0 a0 u0) := hD
          refine lv_iload_n hx hb dX0_winner_52 rfl (lv_at hl 3 rfl) ?_
          refine lv_icmp_ne (tgt := 58) hx hb dX0_winner_53 (by decide) (fun c12 => ?_) (fun c12 => ?_)
          · have hf := tn hf c12
            refine lv_iinc (v := (x4 + (1 : Int32))) (lv' := [(4, .int (x4 + (1 : Int32))), (0, .ref h0), (1, .int x1), (2, .int x2), (3, .int x3)]) hx hb dX0_winner_58 hl (k := 4) rfl rfl (by decide) rfl (fun ls hl => ?_)
            refine lv_goto (tgt := 21) hx hb dX0_winner_61 (by decide) ?_
            exact ih _ _ _ hf _ _ _ hP hD hS (lv_sub hl [1, 2, 3, 4, 0] rfl)
          · have hf := tp hf c12
            refine lv_iconst (v := (-1 : Int32)) hx hb dX0_winner_56 (by decide) ?_
            have hf := Option.some.inj hf
            subst hf
            exact e_i (wf := (fun v : Ob => (wX0 G h0 a0 v))) hx hb hr hlk u0 ⟨rfl, rfl⟩ hP hK hD hS dX0_winner_57
  rw [f_X0_winner] at hf
  refine lv_aload_n hx hb dX0_winner_0 rfl (lv_at hl 0 rfl) ?_
  obtain ⟨q1, e2, hf⟩ := tbd hf
  refine kVi1 (As := []) (rest := []) hC (c_X0_leader (G := G) e2) kq2_61 kc_X0_leader (by decide) 0 (ci := 0) rfl rfl hP hK hD hE hS hA hl.1 (Nat.le_of_ble_eq_true rfl) ⟨Nat.zero_le _, Nat.zero_le _⟩ dX0_winner_1 (fun r9 u9 H locs hw hP hD hS => ?_)
  obtain ⟨rfl, rfl⟩ := hw
  have hP : va_P (gD G) vwCl (wX0 G h0 a0 u0) H := hP
  have hD : va_D A (wX0 G h0 a0 u0) := hD
  refine lv_istore_n (lv' := [(2, .int q1), (0, .ref h0), (1, .int x1)]) hx hb dX0_winner_4 rfl hl (by decide) rfl (fun ls hl => ?_)
  refine lv_aload_n hx hb dX0_winner_5 rfl (lv_at hl 1 rfl) ?_
  refine lv_iload_n hx hb dX0_winner_6 rfl (lv_at hl 0 rfl) ?_
  obtain ⟨q3, e4, hf⟩ := tbd hf
  refine kVi1 (As := [.int q1]) (rest := []) hC (c_X0_votesFor (G := G) e4) kq2_65 kc_X0_votesFor (by decide) 0 (ci := 0) rfl rfl hP hK hD hE hS hA hl.1 (Nat.le_of_ble_eq_true rfl) ⟨Nat.zero_le _, Nat.zero_le _⟩ dX0_winner_7 (fun r9 u9 H locs hw hP hD hS => ?_)
  obtain ⟨rfl, rfl⟩ := hw
  have hP : va_P (gD G) vwCl (wX0 G h0 a0 u0) H := hP
  have hD : va_D A (wX0 G h0 a0 u0) := hD
  refine lv_istore_n (lv' := [(3, .int q3), (2, .int q1), (0, .ref h0), (1, .int x1)]) hx hb dX0_winner_10 rfl hl (by decide) rfl (fun ls hl => ?_)
  refine lv_iload_n hx hb dX0_winner_11 rfl (lv_at hl 0 rfl) ?_
  refine lv_iload_n hx hb dX0_winner_12 rfl (lv_at hl 3 rfl) ?_
  refine lv_icmp_ge (tgt := 18) hx hb dX0_winner_13 (by decide) (fun c5 => ?_) (fun c5 => ?_)
  · have hf := tp hf c5
    refine lv_iconst (v := (0 : Int32)) hx hb dX0_winner_18 (by decide) ?_
    refine lv_istore (lv' := [(4, .int (0 : Int32)), (3, .int q3), (2, .int q1), (0, .ref h0), (1, .int x1)]) hx hb dX0_winner_19 hl (by decide) rfl (fun ls hl => ?_)
    exact lp_21 N _ _ _ hf _ _ _ hP hD hS (lv_sub hl [3, 4, 2, 1, 0] rfl)
  · have hf := tn hf c5
    refine lv_iconst (v := (-1 : Int32)) hx hb dX0_winner_16 (by decide) ?_
    have hf := Option.some.inj hf
    subst hf
    exact e_i (wf := (fun v : Ob => (wX0 G h0 a0 v))) hx hb hr hlk u0 ⟨rfl, rfl⟩ hP hK hD hS dX0_winner_17
set_option maxRecDepth 100000 in
set_option maxHeartbeats 4000000 in
theorem c_X4_hearingStart {l : Launch} {G : Gp} {sz N : Nat} {h0 : Nat} {a0 : Nat → Nat} {u0 : Ob} {q : Int32} (hf : f_X4_hearingStart N u0 = some q) : Met l yX4_hearingStart (Cond.code yX4_hearingStart cX4_hearingStart 1 (some .int) :: lw_g) ({ frames := 0, cells := 0, slots := 0, locals := 0 } : Room) (va_Pc [.ref h0] (pw G (wX4 G h0 a0 u0) sz)) (va_Qi (fun (r : Int32) (v : Ob) => q = r ∧ u0 = v) (bw G (fun v : Ob => (wX4 G h0 a0 v)) (va_A (wX4 G h0 a0 u0) sz)) (va_A (wX4 G h0 a0 u0) sz)) 0 0 (va_A (wX4 G h0 a0 u0) sz) := by
  refine mt (Qc := (fun A => va_Qi (fun (r : Int32) (v : Ob) => q = r ∧ u0 = v) (bw G (fun v : Ob => (wX4 G h0 a0 v)) A) A)) (by decide) (Nat.le_of_ble_eq_true rfl) ?_
  intro p e s m below meth c A ls hx hb hr hlk hml hts hown hA hP hK hD hE hS hl
  have hown : s.vm.findClass RX4 = some m.cls := hown
  have hg : ∀ w ∈ lw_g, w.before ([.ref h0] : List Value).toArray s = true := fun w h => hts w (List.mem_cons_of_mem _ h)
  have hC : CallFix p m c cX4_hearingStart 1 s ([.ref h0] : List Value).toArray (Cond.code yX4_hearingStart cX4_hearingStart 1 (some .int) :: lw_g) RX4 := ⟨hx, hb, hml, hown, hts⟩
  have hl : lv_has ls 1 [(0, .ref h0)] := hl
  rw [f_X4_hearingStart] at hf
  refine lv_aload_n hx hb dX4_hearingStart_0 rfl (lv_at hl 0 rfl) ?_
  refine va_get (D := gD G) (ci := 2) (v := .int (u0.1 2)) (C := RX4) (T := TX4) (N := 18) hx hb hg kl_X4 hown hK hP 0 rfl rfl 2 (by decide) (hg _ kq1_57) (fun _ h9 => h9) rfl dX4_hearingStart_1 ?_
  refine lv_iconst (v := (-1 : Int32)) hx hb dX4_hearingStart_4 (by decide) ?_
  refine lv_icmp_ne (tgt := 10) hx hb dX4_hearingStart_5 (by decide) (fun c1 => ?_) (fun c1 => ?_)
  · have hf := tn hf c1
    refine lv_aload_n hx hb dX4_hearingStart_10 rfl (lv_at hl 0 rfl) ?_
    refine va_get (D := gD G) (ci := 2) (v := .int (u0.1 4)) (C := RX4) (T := TX4) (N := 18) hx hb hg kl_X4 hown hK hP 0 rfl rfl 4 (by decide) (hg _ kq1_61) (fun _ h9 => h9) rfl dX4_hearingStart_11 ?_
    refine lv_iconst (v := (-1 : Int32)) hx hb dX4_hearingStart_14 (by decide) ?_
    refine lv_icmp_ne (tgt := 29) hx hb dX4_hearingStart_15 (by decide) (fun c2 => ?_) (fun c2 => ?_)
    · have hf := tn hf c2
      refine lv_aload_n hx hb dX4_hearingStart_29 rfl (lv_at hl 0 rfl) ?_
      refine va_get (D := gD G) (ci := 2) (v := .int (u0.1 2)) (C := RX4) (T := TX4) (N := 18) hx hb hg kl_X4 hown hK hP 0 rfl rfl 2 (by decide) (hg _ kq1_57) (fun _ h9 => h9) rfl dX4_hearingStart_30 ?_
      refine lv_sipush (v := (1000 : Int32)) hx hb dX4_hearingStart_33 (by decide) ?_
      refine lv_aload_n hx hb dX4_hearingStart_36 rfl (lv_at hl 0 rfl) ?_
      refine va_get (D := gD G) (ci := 2) (v := .int (u0.1 5)) (C := RX4) (T := TX4) (N := 18) hx hb hg kl_X4 hown hK hP 0 rfl rfl 5 (by decide) (hg _ kq1_63) (fun _ h9 => h9) rfl dX4_hearingStart_37 ?_
      refine lv_aload_n hx hb dX4_hearingStart_40 rfl (lv_at hl 0 rfl) ?_
      refine va_get (D := gD G) (ci := 2) (v := .int (u0.1 4)) (C := RX4) (T := TX4) (N := 18) hx hb hg kl_X4 hown hK hP 0 rfl rfl 4 (by decide) (hg _ kq1_61) (fun _ h9 => h9) rfl dX4_hearingStart_41 ?_
      refine lv_isub hx hb dX4_hearingStart_44 ?_
      refine lv_imul hx hb dX4_hearingStart_45 ?_
      refine lv_iadd hx hb dX4_hearingStart_46 ?_
      have hf := Option.some.inj hf
      subst hf
      exact e_i (wf := (fun v : Ob => (wX4 G h0 a0 v))) hx hb hr hlk u0 ⟨rfl, rfl⟩ hP hK hD hS dX4_hearingStart_47
    · have hf := tp hf c2
      refine lv_aload_n hx hb dX4_hearingStart_18 rfl (lv_at hl 0 rfl) ?_
      refine va_get (D := gD G) (ci := 2) (v := .int (u0.1 2)) (C := RX4) (T := TX4) (N := 18) hx hb hg kl_X4 hown hK hP 0 rfl rfl 2 (by decide) (hg _ kq1_57) (fun _ h9 => h9) rfl dX4_hearingStart_19 ?_
      refine lv_sipush (v := (2000 : Int32)) hx hb dX4_hearingStart_22 (by decide) ?_
      refine lv_iadd hx hb dX4_hearingStart_25 ?_
      refine lv_goto (tgt := 47) hx hb dX4_hearingStart_26 (by decide) ?_
      have hf := Option.some.inj hf
      subst hf
      exact e_i (wf := (fun v : Ob => (wX4 G h0 a0 v))) hx hb hr hlk u0 ⟨rfl, rfl⟩ hP hK hD hS dX4_hearingStart_47
  · have hf := tp hf c1
    refine lv_iconst (v := (0 : Int32)) hx hb dX4_hearingStart_8 (by decide) ?_
    have hf := Option.some.inj hf
    subst hf
    exact e_i (wf := (fun v : Ob => (wX4 G h0 a0 v))) hx hb hr hlk u0 ⟨rfl, rfl⟩ hP hK hD hS dX4_hearingStart_9
set_option maxRecDepth 100000 in
set_option maxHeartbeats 4000000 in
theorem c_X4_canHear {l : Launch} {G : Gp} {sz N : Nat} {h0 : Nat} {a0 : Nat → Nat} {u0 : Ob} {q : Bool} (hf : f_X4_canHear N u0 = some q) : Met l yX4_canHear (Cond.code yX4_canHear cX4_canHear 1 (some .boolean) :: lw_g) ({ frames := 1, cells := 0, slots := 0, locals := 20 } : Room) (va_Pc [.ref h0] (pw G (wX4 G h0 a0 u0) sz)) (va_Qi (fun (r : Int32) (v : Ob) => bI q = r ∧ u0 = v) (bw G (fun v : Ob => (wX4 G h0 a0 v)) (va_A (wX4 G h0 a0 u0) sz)) (va_A (wX4 G h0 a0 u0) sz)) 0 0 (va_A (wX4 G h0 a0 u0) sz) := by
  refine mt (Qc := (fun A => va_Qi (fun (r : Int32) (v : Ob) => bI q = r ∧ u0 = v) (bw G (fun v : Ob => (wX4 G h0 a0 v)) A) A)) (by decide) (Nat.le_of_ble_eq_true rfl) ?_
  intro p e s m below meth c A ls hx hb hr hlk hml hts hown hA hP hK hD hE hS hl
  have hown : s.vm.findClass RX4 = some m.cls := hown
  have hg : ∀ w ∈ lw_g, w.before ([.ref h0] : List Value).toArray s = true := fun w h => hts w (List.mem_cons_of_mem _ h)
  have hC : CallFix p m c cX4_canHear 1 s ([.ref h0] : List Value).toArray (Cond.code yX4_canHear cX4_canHear 1 (some .boolean) :: lw_g) RX4 := ⟨hx, hb, hml, hown, hts⟩
  have hl : lv_has ls 1 [(0, .ref h0)] := hl
  rw [f_X4_canHear] at hf
  refine lv_aload_n hx hb dX4_canHear_0 rfl (lv_at hl 0 rfl) ?_
  obtain ⟨q1, e2, hf⟩ := tbd hf
  refine kVi1 (As := []) (rest := []) hC (c_X4_hearingStart (G := G) e2) kq3_76 kc_X4_hearingStart (by decide) 0 (ci := 2) rfl rfl hP hK hD hE hS hA hl.1 (Nat.le_of_ble_eq_true rfl) ⟨Nat.zero_le _, Nat.zero_le _⟩ dX4_canHear_1 (fun r9 u9 H locs hw hP hD hS => ?_)
  obtain ⟨rfl, rfl⟩ := hw
  have hP : va_P (gD G) vwCl (wX4 G h0 a0 u0) H := hP
  have hD : va_D A (wX4 G h0 a0 u0) := hD
  refine lv_ldc hx hb hown (hg _ kq3_80) dX4_canHear_4 ?_
  refine lv_iadd hx hb dX4_canHear_6 ?_
  refine lv_ldc hx hb hown (hg _ kq3_81) dX4_canHear_7 ?_
  refine lv_icmp_gt (tgt := 16) hx hb dX4_canHear_9 (by decide) (fun c3 => ?_) (fun c3 => ?_)
  · have hf := tp hf c3
    refine lv_iconst (v := (0 : Int32)) hx hb dX4_canHear_16 (by decide) ?_
    have hf := Option.some.inj hf
    subst hf
    exact e_z (wf := (fun v : Ob => (wX4 G h0 a0 v))) hx hb hr hlk u0 rfl ⟨rfl, rfl⟩ hP hK hD hS dX4_canHear_17
  · have hf := tn hf c3
    refine lv_iconst (v := (1 : Int32)) hx hb dX4_canHear_12 (by decide) ?_
    refine lv_goto (tgt := 17) hx hb dX4_canHear_13 (by decide) ?_
    have hf := Option.some.inj hf
    subst hf
    exact e_z (wf := (fun v : Ob => (wX4 G h0 a0 v))) hx hb hr hlk u0 rfl ⟨rfl, rfl⟩ hP hK hD hS dX4_canHear_17
set_option maxRecDepth 100000 in
set_option maxHeartbeats 4000000 in
theorem c_X4_copyFrom {l : Launch} {G : Gp} {sz N : Nat} {h0 : Nat} {a0 : Nat → Nat} {u0 : Ob} {h1 : Nat} {a1 : Nat → Nat} {u1 : Ob} {q : Ob × Ob} (hf : f_X4_copyFrom N u0 u1 = some q) : Met l yX4_copyFrom (Cond.code yX4_copyFrom cX4_copyFrom 2 none :: lw_g) ({ frames := 1, cells := 0, slots := 0, locals := 18 } : Room) (va_Pc [.ref h0, .ref h1] (pw G (wX4 G h0 a0 u0 ++ wX4 G h1 a1 u1) sz)) (va_Qv (fun v : Ob × Ob => q = v) (bw G (fun v : Ob × Ob => (wX4 G h0 a0 v.1 ++ wX4 G h1 a1 v.2)) (va_A (wX4 G h0 a0 u0 ++ wX4 G h1 a1 u1) sz)) (va_A (wX4 G h0 a0 u0 ++ wX4 G h1 a1 u1) sz)) 0 0 (va_A (wX4 G h0 a0 u0 ++ wX4 G h1 a1 u1) sz) := by
  refine mt (Qc := (fun A => va_Qv (fun v : Ob × Ob => q = v) (bw G (fun v : Ob × Ob => (wX4 G h0 a0 v.1 ++ wX4 G h1 a1 v.2)) A) A)) (by decide) (Nat.le_of_ble_eq_true rfl) ?_
  intro p e s m below meth c A ls hx hb hr hlk hml hts hown hA hP hK hD hE hS hl
  have hown : s.vm.findClass RX4 = some m.cls := hown
  have hg : ∀ w ∈ lw_g, w.before ([.ref h0, .ref h1] : List Value).toArray s = true := fun w h => hts w (List.mem_cons_of_mem _ h)
  have hC : CallFix p m c cX4_copyFrom 2 s ([.ref h0, .ref h1] : List Value).toArray (Cond.code yX4_copyFrom cX4_copyFrom 2 none :: lw_g) RX4 := ⟨hx, hb, hml, hown, hts⟩
  have hl : lv_has ls 2 [(0, .ref h0), (1, .ref h1)] := hl
  rw [f_X4_copyFrom] at hf
  refine lv_aload_n hx hb dX4_copyFrom_0 rfl (lv_at hl 1 rfl) ?_
  refine va_get (D := gD G) (ci := 2) (v := .ref (a1 0)) (C := RX4) (T := TX4) (N := 18) hx hb hg kl_X4 hown hK hP 7 rfl rfl 0 (by decide) (hg _ kq1_52) (fun _ h9 => h9) rfl dX4_copyFrom_1 ?_
  refine lv_iconst (v := (0 : Int32)) hx hb dX4_copyFrom_4 (by decide) ?_
  refine lv_aload_n hx hb dX4_copyFrom_5 rfl (lv_at hl 0 rfl) ?_
  refine va_get (D := gD G) (ci := 2) (v := .ref (a0 0)) (C := RX4) (T := TX4) (N := 18) hx hb hg kl_X4 hown hK hP 0 rfl rfl 0 (by decide) (hg _ kq1_52) (fun _ h9 => h9) rfl dX4_copyFrom_6 ?_
  refine lv_iconst (v := (0 : Int32)) hx hb dX4_copyFrom_9 (by decide) ?_
  refine lv_iconst (v := (5 : Int32)) hx hb dX4_copyFrom_10 (by decide) ?_
  refine va_copyi (f := (u1.2.2.1 0)) (g := (u0.2.2.1 0)) hx hb (hml.trans hl.1.symm) hown (hg _ kq2_96) (hg _ kq2_98) (hg _ kq2_97) (hg _ kq1_11) hK hP hD hS 8 1 1 1 rfl rfl rfl rfl rfl (by decide) (by decide) (by decide) (by decide) (by decide) (fun _ _ => rfl) (Nat.le_of_ble_eq_true rfl) (Nat.le_of_ble_eq_true rfl) dX4_copyFrom_11 (fun H locs hP hD hS => ?_)
  have hP : va_P (gD G) vwCl (wX4 G h0 a0 (oa u0 0 (va_cpy (u1.2.2.1 0) (u0.2.2.1 0) (0 : Int32).toNatClampNeg (0 : Int32).toNatClampNeg (5 : Int32).toNatClampNeg)) ++ wX4 G h1 a1 u1) H := hP
  have hD : va_D A (wX4 G h0 a0 (oa u0 0 (va_cpy (u1.2.2.1 0) (u0.2.2.1 0) (0 : Int32).toNatClampNeg (0 : Int32).toNatClampNeg (5 : Int32).toNatClampNeg)) ++ wX4 G h1 a1 u1) := hD
  refine lv_aload_n hx hb dX4_copyFrom_14 rfl (lv_at hl 0 rfl) ?_
  refine lv_aload_n hx hb dX4_copyFrom_15 rfl (lv_at hl 1 rfl) ?_
  refine va_get (D := gD G) (ci := 2) (v := .int (u1.1 1)) (C := RX4) (T := TX4) (N := 18) hx hb hg kl_X4 hown hK hP 7 rfl rfl 1 (by decide) (hg _ kq1_54) (fun _ h9 => h9) rfl dX4_copyFrom_16 ?_
  refine va_put (D := gD G) (ci := 2) (v := .int (u1.1 1)) (ty := .int) (C := RX4) (T := TX4) (N := 18) hx hb hg kl_X4 tyX4 tyX4_ok nmX4 hown hK hP hD hS 0 rfl rfl 1 (by decide) (hg _ kq1_54) (fun _ h9 => h9) rfl (by decide +kernel) rfl rfl (Nat.le_of_ble_eq_true rfl) dX4_copyFrom_19 (fun H locs hP hD hS => ?_)
  have hP : va_P (gD G) vwCl (wX4 G h0 a0 (oi (oa u0 0 (va_cpy (u1.2.2.1 0) (u0.2.2.1 0) (0 : Int32).toNatClampNeg (0 : Int32).toNatClampNeg (5 : Int32).toNatClampNeg)) 1 (u1.1 1)) ++ wX4 G h1 a1 u1) H := hP
  have hD : va_D A (wX4 G h0 a0 (oi (oa u0 0 (va_cpy (u1.2.2.1 0) (u0.2.2.1 0) (0 : Int32).toNatClampNeg (0 : Int32).toNatClampNeg (5 : Int32).toNatClampNeg)) 1 (u1.1 1)) ++ wX4 G h1 a1 u1) := hD
  refine lv_aload_n hx hb dX4_copyFrom_22 rfl (lv_at hl 0 rfl) ?_
  refine lv_aload_n hx hb dX4_copyFrom_23 rfl (lv_at hl 1 rfl) ?_
  refine va_get (D := gD G) (ci := 2) (v := .int (u1.1 2)) (C := RX4) (T := TX4) (N := 18) hx hb hg kl_X4 hown hK hP 7 rfl rfl 2 (by decide) (hg _ kq1_57) (fun _ h9 => h9) rfl dX4_copyFrom_24 ?_
  refine va_put (D := gD G) (ci := 2) (v := .int (u1.1 2)) (ty := .int) (C := RX4) (T := TX4) (N := 18) hx hb hg kl_X4 tyX4 tyX4_ok nmX4 hown hK hP hD hS 0 rfl rfl 2 (by decide) (hg _ kq1_57) (fun _ h9 => h9) rfl (by decide +kernel) rfl rfl (Nat.le_of_ble_eq_true rfl) dX4_copyFrom_27 (fun H locs hP hD hS => ?_)
  have hP : va_P (gD G) vwCl (wX4 G h0 a0 (oi (oi (oa u0 0 (va_cpy (u1.2.2.1 0) (u0.2.2.1 0) (0 : Int32).toNatClampNeg (0 : Int32).toNatClampNeg (5 : Int32).toNatClampNeg)) 1 (u1.1 1)) 2 (u1.1 2)) ++ wX4 G h1 a1 u1) H := hP
  have hD : va_D A (wX4 G h0 a0 (oi (oi (oa u0 0 (va_cpy (u1.2.2.1 0) (u0.2.2.1 0) (0 : Int32).toNatClampNeg (0 : Int32).toNatClampNeg (5 : Int32).toNatClampNeg)) 1 (u1.1 1)) 2 (u1.1 2)) ++ wX4 G h1 a1 u1) := hD
  refine lv_aload_n hx hb dX4_copyFrom_30 rfl (lv_at hl 0 rfl) ?_
  refine lv_aload_n hx hb dX4_copyFrom_31 rfl (lv_at hl 1 rfl) ?_
  refine va_get (D := gD G) (ci := 2) (v := .int (u1.1 3)) (C := RX4) (T := TX4) (N := 18) hx hb hg kl_X4 hown hK hP 7 rfl rfl 3 (by decide) (hg _ kq1_59) (fun _ h9 => h9) rfl dX4_copyFrom_32 ?_
  refine va_put (D := gD G) (ci := 2) (v := .int (u1.1 3)) (ty := .int) (C := RX4) (T := TX4) (N := 18) hx hb hg kl_X4 tyX4 tyX4_ok nmX4 hown hK hP hD hS 0 rfl rfl 3 (by decide) (hg _ kq1_59) (fun _ h9 => h9) rfl (by decide +kernel) rfl rfl (Nat.le_of_ble_eq_true rfl) dX4_copyFrom_35 (fun H locs hP hD hS => ?_)
  have hP : va_P (gD G) vwCl (wX4 G h0 a0 (oi (oi (oi (oa u0 0 (va_cpy (u1.2.2.1 0) (u0.2.2.1 0) (0 : Int32).toNatClampNeg (0 : Int32).toNatClampNeg (5 : Int32).toNatClampNeg)) 1 (u1.1 1)) 2 (u1.1 2)) 3 (u1.1 3)) ++ wX4 G h1 a1 u1) H := hP
  have hD : va_D A (wX4 G h0 a0 (oi (oi (oi (oa u0 0 (va_cpy (u1.2.2.1 0) (u0.2.2.1 0) (0 : Int32).toNatClampNeg (0 : Int32).toNatClampNeg (5 : Int32).toNatClampNeg)) 1 (u1.1 1)) 2 (u1.1 2)) 3 (u1.1 3)) ++ wX4 G h1 a1 u1) := hD
  refine lv_aload_n hx hb dX4_copyFrom_38 rfl (lv_at hl 0 rfl) ?_
  refine lv_aload_n hx hb dX4_copyFrom_39 rfl (lv_at hl 1 rfl) ?_
  refine va_get (D := gD G) (ci := 2) (v := .int (u1.1 4)) (C := RX4) (T := TX4) (N := 18) hx hb hg kl_X4 hown hK hP 7 rfl rfl 4 (by decide) (hg _ kq1_61) (fun _ h9 => h9) rfl dX4_copyFrom_40 ?_
  refine va_put (D := gD G) (ci := 2) (v := .int (u1.1 4)) (ty := .int) (C := RX4) (T := TX4) (N := 18) hx hb hg kl_X4 tyX4 tyX4_ok nmX4 hown hK hP hD hS 0 rfl rfl 4 (by decide) (hg _ kq1_61) (fun _ h9 => h9) rfl (by decide +kernel) rfl rfl (Nat.le_of_ble_eq_true rfl) dX4_copyFrom_43 (fun H locs hP hD hS => ?_)
  have hP : va_P (gD G) vwCl (wX4 G h0 a0 (oi (oi (oi (oi (oa u0 0 (va_cpy (u1.2.2.1 0) (u0.2.2.1 0) (0 : Int32).toNatClampNeg (0 : Int32).toNatClampNeg (5 : Int32).toNatClampNeg)) 1 (u1.1 1)) 2 (u1.1 2)) 3 (u1.1 3)) 4 (u1.1 4)) ++ wX4 G h1 a1 u1) H := hP
  have hD : va_D A (wX4 G h0 a0 (oi (oi (oi (oi (oa u0 0 (va_cpy (u1.2.2.1 0) (u0.2.2.1 0) (0 : Int32).toNatClampNeg (0 : Int32).toNatClampNeg (5 : Int32).toNatClampNeg)) 1 (u1.1 1)) 2 (u1.1 2)) 3 (u1.1 3)) 4 (u1.1 4)) ++ wX4 G h1 a1 u1) := hD
  refine lv_aload_n hx hb dX4_copyFrom_46 rfl (lv_at hl 0 rfl) ?_
  refine lv_aload_n hx hb dX4_copyFrom_47 rfl (lv_at hl 1 rfl) ?_
  refine va_get (D := gD G) (ci := 2) (v := .int (u1.1 5)) (C := RX4) (T := TX4) (N := 18) hx hb hg kl_X4 hown hK hP 7 rfl rfl 5 (by decide) (hg _ kq1_63) (fun _ h9 => h9) rfl dX4_copyFrom_48 ?_
  refine va_put (D := gD G) (ci := 2) (v := .int (u1.1 5)) (ty := .int) (C := RX4) (T := TX4) (N := 18) hx hb hg kl_X4 tyX4 tyX4_ok nmX4 hown hK hP hD hS 0 rfl rfl 5 (by decide) (hg _ kq1_63) (fun _ h9 => h9) rfl (by decide +kernel) rfl rfl (Nat.le_of_ble_eq_true rfl) dX4_copyFrom_51 (fun H locs hP hD hS => ?_)
  have hP : va_P (gD G) vwCl (wX4 G h0 a0 (oi (oi (oi (oi (oi (oa u0 0 (va_cpy (u1.2.2.1 0) (u0.2.2.1 0) (0 : Int32).toNatClampNeg (0 : Int32).toNatClampNeg (5 : Int32).toNatClampNeg)) 1 (u1.1 1)) 2 (u1.1 2)) 3 (u1.1 3)) 4 (u1.1 4)) 5 (u1.1 5)) ++ wX4 G h1 a1 u1) H := hP
  have hD : va_D A (wX4 G h0 a0 (oi (oi (oi (oi (oi (oa u0 0 (va_cpy (u1.2.2.1 0) (u0.2.2.1 0) (0 : Int32).toNatClampNeg (0 : Int32).toNatClampNeg (5 : Int32).toNatClampNeg)) 1 (u1.1 1)) 2 (u1.1 2)) 3 (u1.1 3)) 4 (u1.1 4)) 5 (u1.1 5)) ++ wX4 G h1 a1 u1) := hD
  refine lv_aload_n hx hb dX4_copyFrom_54 rfl (lv_at hl 0 rfl) ?_
  refine lv_aload_n hx hb dX4_copyFrom_55 rfl (lv_at hl 1 rfl) ?_
  refine va_get (D := gD G) (ci := 2) (v := .long (u1.2.1 6)) (C := RX4) (T := TX4) (N := 18) hx hb hg kl_X4 hown hK hP 7 rfl rfl 6 (by decide) (hg _ kq1_65) (fun _ h9 => h9) rfl dX4_copyFrom_56 ?_
  refine va_put (D := gD G) (ci := 2) (v := .long (u1.2.1 6)) (ty := .long) (C := RX4) (T := TX4) (N := 18) hx hb hg kl_X4 tyX4 tyX4_ok nmX4 hown hK hP hD hS 0 rfl rfl 6 (by decide) (hg _ kq1_65) (fun _ h9 => h9) rfl (by decide +kernel) rfl rfl (Nat.le_of_ble_eq_true rfl) dX4_copyFrom_59 (fun H locs hP hD hS => ?_)
  have hP : va_P (gD G) vwCl (wX4 G h0 a0 (ol (oi (oi (oi (oi (oi (oa u0 0 (va_cpy (u1.2.2.1 0) (u0.2.2.1 0) (0 : Int32).toNatClampNeg (0 : Int32).toNatClampNeg (5 : Int32).toNatClampNeg)) 1 (u1.1 1)) 2 (u1.1 2)) 3 (u1.1 3)) 4 (u1.1 4)) 5 (u1.1 5)) 6 (u1.2.1 6)) ++ wX4 G h1 a1 u1) H := hP
  have hD : va_D A (wX4 G h0 a0 (ol (oi (oi (oi (oi (oi (oa u0 0 (va_cpy (u1.2.2.1 0) (u0.2.2.1 0) (0 : Int32).toNatClampNeg (0 : Int32).toNatClampNeg (5 : Int32).toNatClampNeg)) 1 (u1.1 1)) 2 (u1.1 2)) 3 (u1.1 3)) 4 (u1.1 4)) 5 (u1.1 5)) 6 (u1.2.1 6)) ++ wX4 G h1 a1 u1) := hD
  refine lv_aload_n hx hb dX4_copyFrom_62 rfl (lv_at hl 0 rfl) ?_
  refine lv_aload_n hx hb dX4_copyFrom_63 rfl (lv_at hl 1 rfl) ?_
  refine va_get (D := gD G) (ci := 2) (v := .long (u1.2.1 7)) (C := RX4) (T := TX4) (N := 18) hx hb hg kl_X4 hown hK hP 7 rfl rfl 7 (by decide) (hg _ kq1_67) (fun _ h9 => h9) rfl dX4_copyFrom_64 ?_
  refine va_put (D := gD G) (ci := 2) (v := .long (u1.2.1 7)) (ty := .long) (C := RX4) (T := TX4) (N := 18) hx hb hg kl_X4 tyX4 tyX4_ok nmX4 hown hK hP hD hS 0 rfl rfl 7 (by decide) (hg _ kq1_67) (fun _ h9 => h9) rfl (by decide +kernel) rfl rfl (Nat.le_of_ble_eq_true rfl) dX4_copyFrom_67 (fun H locs hP hD hS => ?_)
  have hP : va_P (gD G) vwCl (wX4 G h0 a0 (ol (ol (oi (oi (oi (oi (oi (oa u0 0 (va_cpy (u1.2.2.1 0) (u0.2.2.1 0) (0 : Int32).toNatClampNeg (0 : Int32).toNatClampNeg (5 : Int32).toNatClampNeg)) 1 (u1.1 1)) 2 (u1.1 2)) 3 (u1.1 3)) 4 (u1.1 4)) 5 (u1.1 5)) 6 (u1.2.1 6)) 7 (u1.2.1 7)) ++ wX4 G h1 a1 u1) H := hP
  have hD : va_D A (wX4 G h0 a0 (ol (ol (oi (oi (oi (oi (oi (oa u0 0 (va_cpy (u1.2.2.1 0) (u0.2.2.1 0) (0 : Int32).toNatClampNeg (0 : Int32).toNatClampNeg (5 : Int32).toNatClampNeg)) 1 (u1.1 1)) 2 (u1.1 2)) 3 (u1.1 3)) 4 (u1.1 4)) 5 (u1.1 5)) 6 (u1.2.1 6)) 7 (u1.2.1 7)) ++ wX4 G h1 a1 u1) := hD
  refine lv_aload_n hx hb dX4_copyFrom_70 rfl (lv_at hl 1 rfl) ?_
  refine va_get (D := gD G) (ci := 2) (v := .ref (a1 8)) (C := RX4) (T := TX4) (N := 18) hx hb hg kl_X4 hown hK hP 7 rfl rfl 8 (by decide) (hg _ kq1_69) (fun _ h9 => h9) rfl dX4_copyFrom_71 ?_
  refine lv_iconst (v := (0 : Int32)) hx hb dX4_copyFrom_74 (by decide) ?_
  refine lv_aload_n hx hb dX4_copyFrom_75 rfl (lv_at hl 0 rfl) ?_
  refine va_get (D := gD G) (ci := 2) (v := .ref (a0 8)) (C := RX4) (T := TX4) (N := 18) hx hb hg kl_X4 hown hK hP 0 rfl rfl 8 (by decide) (hg _ kq1_69) (fun _ h9 => h9) rfl dX4_copyFrom_76 ?_
  refine lv_iconst (v := (0 : Int32)) hx hb dX4_copyFrom_79 (by decide) ?_
  refine lv_bipush (v := (8 : Int32)) hx hb dX4_copyFrom_80 (by decide) ?_
  refine va_copyl (f := (u1.2.2.2 8)) (g := (u0.2.2.2 8)) hx hb (hml.trans hl.1.symm) hown (hg _ kq2_96) (hg _ kq2_98) (hg _ kq2_97) (hg _ kq1_11) hK hP hD hS 9 2 2 2 rfl rfl rfl rfl rfl (by decide) (by decide) (by decide) (by decide) (by decide) (fun _ _ => rfl) (Nat.le_of_ble_eq_true rfl) (Nat.le_of_ble_eq_true rfl) dX4_copyFrom_82 (fun H locs hP hD hS => ?_)
  have hP : va_P (gD G) vwCl (wX4 G h0 a0 (oj (ol (ol (oi (oi (oi (oi (oi (oa u0 0 (va_cpy (u1.2.2.1 0) (u0.2.2.1 0) (0 : Int32).toNatClampNeg (0 : Int32).toNatClampNeg (5 : Int32).toNatClampNeg)) 1 (u1.1 1)) 2 (u1.1 2)) 3 (u1.1 3)) 4 (u1.1 4)) 5 (u1.1 5)) 6 (u1.2.1 6)) 7 (u1.2.1 7)) 8 (va_cpy (u1.2.2.2 8) (u0.2.2.2 8) (0 : Int32).toNatClampNeg (0 : Int32).toNatClampNeg (8 : Int32).toNatClampNeg)) ++ wX4 G h1 a1 u1) H := hP
  have hD : va_D A (wX4 G h0 a0 (oj (ol (ol (oi (oi (oi (oi (oi (oa u0 0 (va_cpy (u1.2.2.1 0) (u0.2.2.1 0) (0 : Int32).toNatClampNeg (0 : Int32).toNatClampNeg (5 : Int32).toNatClampNeg)) 1 (u1.1 1)) 2 (u1.1 2)) 3 (u1.1 3)) 4 (u1.1 4)) 5 (u1.1 5)) 6 (u1.2.1 6)) 7 (u1.2.1 7)) 8 (va_cpy (u1.2.2.2 8) (u0.2.2.2 8) (0 : Int32).toNatClampNeg (0 : Int32).toNatClampNeg (8 : Int32).toNatClampNeg)) ++ wX4 G h1 a1 u1) := hD
  refine lv_aload_n hx hb dX4_copyFrom_85 rfl (lv_at hl 1 rfl) ?_
  refine va_get (D := gD G) (ci := 2) (v := .ref (a1 9)) (C := RX4) (T := TX4) (N := 18) hx hb hg kl_X4 hown hK hP 7 rfl rfl 9 (by decide) (hg _ kq1_71) (fun _ h9 => h9) rfl dX4_copyFrom_86 ?_
  refine lv_iconst (v := (0 : Int32)) hx hb dX4_copyFrom_89 (by decide) ?_
  refine lv_aload_n hx hb dX4_copyFrom_90 rfl (lv_at hl 0 rfl) ?_
  refine va_get (D := gD G) (ci := 2) (v := .ref (a0 9)) (C := RX4) (T := TX4) (N := 18) hx hb hg kl_X4 hown hK hP 0 rfl rfl 9 (by decide) (hg _ kq1_71) (fun _ h9 => h9) rfl dX4_copyFrom_91 ?_
  refine lv_iconst (v := (0 : Int32)) hx hb dX4_copyFrom_94 (by decide) ?_
  refine lv_bipush (v := (8 : Int32)) hx hb dX4_copyFrom_95 (by decide) ?_
  refine va_copyl (f := (u1.2.2.2 9)) (g := (u0.2.2.2 9)) hx hb (hml.trans hl.1.symm) hown (hg _ kq2_96) (hg _ kq2_98) (hg _ kq2_97) (hg _ kq1_11) hK hP hD hS 10 3 2 2 rfl rfl rfl rfl rfl (by decide) (by decide) (by decide) (by decide) (by decide) (fun _ _ => rfl) (Nat.le_of_ble_eq_true rfl) (Nat.le_of_ble_eq_true rfl) dX4_copyFrom_97 (fun H locs hP hD hS => ?_)
  have hP : va_P (gD G) vwCl (wX4 G h0 a0 (oj (oj (ol (ol (oi (oi (oi (oi (oi (oa u0 0 (va_cpy (u1.2.2.1 0) (u0.2.2.1 0) (0 : Int32).toNatClampNeg (0 : Int32).toNatClampNeg (5 : Int32).toNatClampNeg)) 1 (u1.1 1)) 2 (u1.1 2)) 3 (u1.1 3)) 4 (u1.1 4)) 5 (u1.1 5)) 6 (u1.2.1 6)) 7 (u1.2.1 7)) 8 (va_cpy (u1.2.2.2 8) (u0.2.2.2 8) (0 : Int32).toNatClampNeg (0 : Int32).toNatClampNeg (8 : Int32).toNatClampNeg)) 9 (va_cpy (u1.2.2.2 9) (u0.2.2.2 9) (0 : Int32).toNatClampNeg (0 : Int32).toNatClampNeg (8 : Int32).toNatClampNeg)) ++ wX4 G h1 a1 u1) H := hP
  have hD : va_D A (wX4 G h0 a0 (oj (oj (ol (ol (oi (oi (oi (oi (oi (oa u0 0 (va_cpy (u1.2.2.1 0) (u0.2.2.1 0) (0 : Int32).toNatClampNeg (0 : Int32).toNatClampNeg (5 : Int32).toNatClampNeg)) 1 (u1.1 1)) 2 (u1.1 2)) 3 (u1.1 3)) 4 (u1.1 4)) 5 (u1.1 5)) 6 (u1.2.1 6)) 7 (u1.2.1 7)) 8 (va_cpy (u1.2.2.2 8) (u0.2.2.2 8) (0 : Int32).toNatClampNeg (0 : Int32).toNatClampNeg (8 : Int32).toNatClampNeg)) 9 (va_cpy (u1.2.2.2 9) (u0.2.2.2 9) (0 : Int32).toNatClampNeg (0 : Int32).toNatClampNeg (8 : Int32).toNatClampNeg)) ++ wX4 G h1 a1 u1) := hD
  refine lv_aload_n hx hb dX4_copyFrom_100 rfl (lv_at hl 1 rfl) ?_
  refine va_get (D := gD G) (ci := 2) (v := .ref (a1 10)) (C := RX4) (T := TX4) (N := 18) hx hb hg kl_X4 hown hK hP 7 rfl rfl 10 (by decide) (hg _ kq1_73) (fun _ h9 => h9) rfl dX4_copyFrom_101 ?_
  refine lv_iconst (v := (0 : Int32)) hx hb dX4_copyFrom_104 (by decide) ?_
  refine lv_aload_n hx hb dX4_copyFrom_105 rfl (lv_at hl 0 rfl) ?_
  refine va_get (D := gD G) (ci := 2) (v := .ref (a0 10)) (C := RX4) (T := TX4) (N := 18) hx hb hg kl_X4 hown hK hP 0 rfl rfl 10 (by decide) (hg _ kq1_73) (fun _ h9 => h9) rfl dX4_copyFrom_106 ?_
  refine lv_iconst (v := (0 : Int32)) hx hb dX4_copyFrom_109 (by decide) ?_
  refine lv_bipush (v := (8 : Int32)) hx hb dX4_copyFrom_110 (by decide) ?_
  refine va_copyi (f := (u1.2.2.1 10)) (g := (u0.2.2.1 10)) hx hb (hml.trans hl.1.symm) hown (hg _ kq2_96) (hg _ kq2_98) (hg _ kq2_97) (hg _ kq1_11) hK hP hD hS 11 4 1 1 rfl rfl rfl rfl rfl (by decide) (by decide) (by decide) (by decide) (by decide) (fun _ _ => rfl) (Nat.le_of_ble_eq_true rfl) (Nat.le_of_ble_eq_true rfl) dX4_copyFrom_112 (fun H locs hP hD hS => ?_)
  have hP : va_P (gD G) vwCl (wX4 G h0 a0 (oa (oj (oj (ol (ol (oi (oi (oi (oi (oi (oa u0 0 (va_cpy (u1.2.2.1 0) (u0.2.2.1 0) (0 : Int32).toNatClampNeg (0 : Int32).toNatClampNeg (5 : Int32).toNatClampNeg)) 1 (u1.1 1)) 2 (u1.1 2)) 3 (u1.1 3)) 4 (u1.1 4)) 5 (u1.1 5)) 6 (u1.2.1 6)) 7 (u1.2.1 7)) 8 (va_cpy (u1.2.2.2 8) (u0.2.2.2 8) (0 : Int32).toNatClampNeg (0 : Int32).toNatClampNeg (8 : Int32).toNatClampNeg)) 9 (va_cpy (u1.2.2.2 9) (u0.2.2.2 9) (0 : Int32).toNatClampNeg (0 : Int32).toNatClampNeg (8 : Int32).toNatClampNeg)) 10 (va_cpy (u1.2.2.1 10) (u0.2.2.1 10) (0 : Int32).toNatClampNeg (0 : Int32).toNatClampNeg (8 : Int32).toNatClampNeg)) ++ wX4 G h1 a1 u1) H := hP
  have hD : va_D A (wX4 G h0 a0 (oa (oj (oj (ol (ol (oi (oi (oi (oi (oi (oa u0 0 (va_cpy (u1.2.2.1 0) (u0.2.2.1 0) (0 : Int32).toNatClampNeg (0 : Int32).toNatClampNeg (5 : Int32).toNatClampNeg)) 1 (u1.1 1)) 2 (u1.1 2)) 3 (u1.1 3)) 4 (u1.1 4)) 5 (u1.1 5)) 6 (u1.2.1 6)) 7 (u1.2.1 7)) 8 (va_cpy (u1.2.2.2 8) (u0.2.2.2 8) (0 : Int32).toNatClampNeg (0 : Int32).toNatClampNeg (8 : Int32).toNatClampNeg)) 9 (va_cpy (u1.2.2.2 9) (u0.2.2.2 9) (0 : Int32).toNatClampNeg (0 : Int32).toNatClampNeg (8 : Int32).toNatClampNeg)) 10 (va_cpy (u1.2.2.1 10) (u0.2.2.1 10) (0 : Int32).toNatClampNeg (0 : Int32).toNatClampNeg (8 : Int32).toNatClampNeg)) ++ wX4 G h1 a1 u1) := hD
  refine lv_aload_n hx hb dX4_copyFrom_115 rfl (lv_at hl 0 rfl) ?_
  refine lv_aload_n hx hb dX4_copyFrom_116 rfl (lv_at hl 1 rfl) ?_
  refine va_get (D := gD G) (ci := 2) (v := .int (u1.1 11)) (C := RX4) (T := TX4) (N := 18) hx hb hg kl_X4 hown hK hP 7 rfl rfl 11 (by decide) (hg _ kq1_74) (fun _ h9 => h9) rfl dX4_copyFrom_117 ?_
  refine va_put (D := gD G) (ci := 2) (v := .int (u1.1 11)) (ty := .int) (C := RX4) (T := TX4) (N := 18) hx hb hg kl_X4 tyX4 tyX4_ok nmX4 hown hK hP hD hS 0 rfl rfl 11 (by decide) (hg _ kq1_74) (fun _ h9 => h9) rfl (by decide +kernel) rfl rfl (Nat.le_of_ble_eq_true rfl) dX4_copyFrom_120 (fun H locs hP hD hS => ?_)
  have hP : va_P (gD G) vwCl (wX4 G h0 a0 (oi (oa (oj (oj (ol (ol (oi (oi (oi (oi (oi (oa u0 0 (va_cpy (u1.2.2.1 0) (u0.2.2.1 0) (0 : Int32).toNatClampNeg (0 : Int32).toNatClampNeg (5 : Int32).toNatClampNeg)) 1 (u1.1 1)) 2 (u1.1 2)) 3 (u1.1 3)) 4 (u1.1 4)) 5 (u1.1 5)) 6 (u1.2.1 6)) 7 (u1.2.1 7)) 8 (va_cpy (u1.2.2.2 8) (u0.2.2.2 8) (0 : Int32).toNatClampNeg (0 : Int32).toNatClampNeg (8 : Int32).toNatClampNeg)) 9 (va_cpy (u1.2.2.2 9) (u0.2.2.2 9) (0 : Int32).toNatClampNeg (0 : Int32).toNatClampNeg (8 : Int32).toNatClampNeg)) 10 (va_cpy (u1.2.2.1 10) (u0.2.2.1 10) (0 : Int32).toNatClampNeg (0 : Int32).toNatClampNeg (8 : Int32).toNatClampNeg)) 11 (u1.1 11)) ++ wX4 G h1 a1 u1) H := hP
  have hD : va_D A (wX4 G h0 a0 (oi (oa (oj (oj (ol (ol (oi (oi (oi (oi (oi (oa u0 0 (va_cpy (u1.2.2.1 0) (u0.2.2.1 0) (0 : Int32).toNatClampNeg (0 : Int32).toNatClampNeg (5 : Int32).toNatClampNeg)) 1 (u1.1 1)) 2 (u1.1 2)) 3 (u1.1 3)) 4 (u1.1 4)) 5 (u1.1 5)) 6 (u1.2.1 6)) 7 (u1.2.1 7)) 8 (va_cpy (u1.2.2.2 8) (u0.2.2.2 8) (0 : Int32).toNatClampNeg (0 : Int32).toNatClampNeg (8 : Int32).toNatClampNeg)) 9 (va_cpy (u1.2.2.2 9) (u0.2.2.2 9) (0 : Int32).toNatClampNeg (0 : Int32).toNatClampNeg (8 : Int32).toNatClampNeg)) 10 (va_cpy (u1.2.2.1 10) (u0.2.2.1 10) (0 : Int32).toNatClampNeg (0 : Int32).toNatClampNeg (8 : Int32).toNatClampNeg)) 11 (u1.1 11)) ++ wX4 G h1 a1 u1) := hD
  refine lv_aload_n hx hb dX4_copyFrom_123 rfl (lv_at hl 0 rfl) ?_
  refine lv_aload_n hx hb dX4_copyFrom_124 rfl (lv_at hl 1 rfl) ?_
  refine va_get (D := gD G) (ci := 2) (v := .int (u1.1 12)) (C := RX4) (T := TX4) (N := 18) hx hb hg kl_X4 hown hK hP 7 rfl rfl 12 (by decide) (hg _ kq1_76) (fun _ h9 => h9) rfl dX4_copyFrom_125 ?_
  refine va_put (D := gD G) (ci := 2) (v := .int (u1.1 12)) (ty := .int) (C := RX4) (T := TX4) (N := 18) hx hb hg kl_X4 tyX4 tyX4_ok nmX4 hown hK hP hD hS 0 rfl rfl 12 (by decide) (hg _ kq1_76) (fun _ h9 => h9) rfl (by decide +kernel) rfl rfl (Nat.le_of_ble_eq_true rfl) dX4_copyFrom_128 (fun H locs hP hD hS => ?_)
  have hP : va_P (gD G) vwCl (wX4 G h0 a0 (oi (oi (oa (oj (oj (ol (ol (oi (oi (oi (oi (oi (oa u0 0 (va_cpy (u1.2.2.1 0) (u0.2.2.1 0) (0 : Int32).toNatClampNeg (0 : Int32).toNatClampNeg (5 : Int32).toNatClampNeg)) 1 (u1.1 1)) 2 (u1.1 2)) 3 (u1.1 3)) 4 (u1.1 4)) 5 (u1.1 5)) 6 (u1.2.1 6)) 7 (u1.2.1 7)) 8 (va_cpy (u1.2.2.2 8) (u0.2.2.2 8) (0 : Int32).toNatClampNeg (0 : Int32).toNatClampNeg (8 : Int32).toNatClampNeg)) 9 (va_cpy (u1.2.2.2 9) (u0.2.2.2 9) (0 : Int32).toNatClampNeg (0 : Int32).toNatClampNeg (8 : Int32).toNatClampNeg)) 10 (va_cpy (u1.2.2.1 10) (u0.2.2.1 10) (0 : Int32).toNatClampNeg (0 : Int32).toNatClampNeg (8 : Int32).toNatClampNeg)) 11 (u1.1 11)) 12 (u1.1 12)) ++ wX4 G h1 a1 u1) H := hP
  have hD : va_D A (wX4 G h0 a0 (oi (oi (oa (oj (oj (ol (ol (oi (oi (oi (oi (oi (oa u0 0 (va_cpy (u1.2.2.1 0) (u0.2.2.1 0) (0 : Int32).toNatClampNeg (0 : Int32).toNatClampNeg (5 : Int32).toNatClampNeg)) 1 (u1.1 1)) 2 (u1.1 2)) 3 (u1.1 3)) 4 (u1.1 4)) 5 (u1.1 5)) 6 (u1.2.1 6)) 7 (u1.2.1 7)) 8 (va_cpy (u1.2.2.2 8) (u0.2.2.2 8) (0 : Int32).toNatClampNeg (0 : Int32).toNatClampNeg (8 : Int32).toNatClampNeg)) 9 (va_cpy (u1.2.2.2 9) (u0.2.2.2 9) (0 : Int32).toNatClampNeg (0 : Int32).toNatClampNeg (8 : Int32).toNatClampNeg)) 10 (va_cpy (u1.2.2.1 10) (u0.2.2.1 10) (0 : Int32).toNatClampNeg (0 : Int32).toNatClampNeg (8 : Int32).toNatClampNeg)) 11 (u1.1 11)) 12 (u1.1 12)) ++ wX4 G h1 a1 u1) := hD
  refine lv_aload_n hx hb dX4_copyFrom_131 rfl (lv_at hl 0 rfl) ?_
  refine lv_aload_n hx hb dX4_copyFrom_132 rfl (lv_at hl 1 rfl) ?_
  refine va_get (D := gD G) (ci := 2) (v := .int (u1.1 13)) (C := RX4) (T := TX4) (N := 18) hx hb hg kl_X4 hown hK hP 7 rfl rfl 13 (by decide) (hg _ kq1_78) (fun _ h9 => h9) rfl dX4_copyFrom_133 ?_
  refine va_put (D := gD G) (ci := 2) (v := .int (u1.1 13)) (ty := .int) (C := RX4) (T := TX4) (N := 18) hx hb hg kl_X4 tyX4 tyX4_ok nmX4 hown hK hP hD hS 0 rfl rfl 13 (by decide) (hg _ kq1_78) (fun _ h9 => h9) rfl (by decide +kernel) rfl rfl (Nat.le_of_ble_eq_true rfl) dX4_copyFrom_136 (fun H locs hP hD hS => ?_)
  have hP : va_P (gD G) vwCl (wX4 G h0 a0 (oi (oi (oi (oa (oj (oj (ol (ol (oi (oi (oi (oi (oi (oa u0 0 (va_cpy (u1.2.2.1 0) (u0.2.2.1 0) (0 : Int32).toNatClampNeg (0 : Int32).toNatClampNeg (5 : Int32).toNatClampNeg)) 1 (u1.1 1)) 2 (u1.1 2)) 3 (u1.1 3)) 4 (u1.1 4)) 5 (u1.1 5)) 6 (u1.2.1 6)) 7 (u1.2.1 7)) 8 (va_cpy (u1.2.2.2 8) (u0.2.2.2 8) (0 : Int32).toNatClampNeg (0 : Int32).toNatClampNeg (8 : Int32).toNatClampNeg)) 9 (va_cpy (u1.2.2.2 9) (u0.2.2.2 9) (0 : Int32).toNatClampNeg (0 : Int32).toNatClampNeg (8 : Int32).toNatClampNeg)) 10 (va_cpy (u1.2.2.1 10) (u0.2.2.1 10) (0 : Int32).toNatClampNeg (0 : Int32).toNatClampNeg (8 : Int32).toNatClampNeg)) 11 (u1.1 11)) 12 (u1.1 12)) 13 (u1.1 13)) ++ wX4 G h1 a1 u1) H := hP
  have hD : va_D A (wX4 G h0 a0 (oi (oi (oi (oa (oj (oj (ol (ol (oi (oi (oi (oi (oi (oa u0 0 (va_cpy (u1.2.2.1 0) (u0.2.2.1 0) (0 : Int32).toNatClampNeg (0 : Int32).toNatClampNeg (5 : Int32).toNatClampNeg)) 1 (u1.1 1)) 2 (u1.1 2)) 3 (u1.1 3)) 4 (u1.1 4)) 5 (u1.1 5)) 6 (u1.2.1 6)) 7 (u1.2.1 7)) 8 (va_cpy (u1.2.2.2 8) (u0.2.2.2 8) (0 : Int32).toNatClampNeg (0 : Int32).toNatClampNeg (8 : Int32).toNatClampNeg)) 9 (va_cpy (u1.2.2.2 9) (u0.2.2.2 9) (0 : Int32).toNatClampNeg (0 : Int32).toNatClampNeg (8 : Int32).toNatClampNeg)) 10 (va_cpy (u1.2.2.1 10) (u0.2.2.1 10) (0 : Int32).toNatClampNeg (0 : Int32).toNatClampNeg (8 : Int32).toNatClampNeg)) 11 (u1.1 11)) 12 (u1.1 12)) 13 (u1.1 13)) ++ wX4 G h1 a1 u1) := hD
  refine lv_aload_n hx hb dX4_copyFrom_139 rfl (lv_at hl 1 rfl) ?_
  refine va_get (D := gD G) (ci := 2) (v := .ref (a1 14)) (C := RX4) (T := TX4) (N := 18) hx hb hg kl_X4 hown hK hP 7 rfl rfl 14 (by decide) (hg _ kq1_80) (fun _ h9 => h9) rfl dX4_copyFrom_140 ?_
  refine lv_iconst (v := (0 : Int32)) hx hb dX4_copyFrom_143 (by decide) ?_
  refine lv_aload_n hx hb dX4_copyFrom_144 rfl (lv_at hl 0 rfl) ?_
  refine va_get (D := gD G) (ci := 2) (v := .ref (a0 14)) (C := RX4) (T := TX4) (N := 18) hx hb hg kl_X4 hown hK hP 0 rfl rfl 14 (by decide) (hg _ kq1_80) (fun _ h9 => h9) rfl dX4_copyFrom_145 ?_
  refine lv_iconst (v := (0 : Int32)) hx hb dX4_copyFrom_148 (by decide) ?_
  refine lv_bipush (v := (8 : Int32)) hx hb dX4_copyFrom_149 (by decide) ?_
  refine va_copyi (f := (u1.2.2.1 14)) (g := (u0.2.2.1 14)) hx hb (hml.trans hl.1.symm) hown (hg _ kq2_96) (hg _ kq2_98) (hg _ kq2_97) (hg _ kq1_11) hK hP hD hS 12 5 1 1 rfl rfl rfl rfl rfl (by decide) (by decide) (by decide) (by decide) (by decide) (fun _ _ => rfl) (Nat.le_of_ble_eq_true rfl) (Nat.le_of_ble_eq_true rfl) dX4_copyFrom_151 (fun H locs hP hD hS => ?_)
  have hP : va_P (gD G) vwCl (wX4 G h0 a0 (oa (oi (oi (oi (oa (oj (oj (ol (ol (oi (oi (oi (oi (oi (oa u0 0 (va_cpy (u1.2.2.1 0) (u0.2.2.1 0) (0 : Int32).toNatClampNeg (0 : Int32).toNatClampNeg (5 : Int32).toNatClampNeg)) 1 (u1.1 1)) 2 (u1.1 2)) 3 (u1.1 3)) 4 (u1.1 4)) 5 (u1.1 5)) 6 (u1.2.1 6)) 7 (u1.2.1 7)) 8 (va_cpy (u1.2.2.2 8) (u0.2.2.2 8) (0 : Int32).toNatClampNeg (0 : Int32).toNatClampNeg (8 : Int32).toNatClampNeg)) 9 (va_cpy (u1.2.2.2 9) (u0.2.2.2 9) (0 : Int32).toNatClampNeg (0 : Int32).toNatClampNeg (8 : Int32).toNatClampNeg)) 10 (va_cpy (u1.2.2.1 10) (u0.2.2.1 10) (0 : Int32).toNatClampNeg (0 : Int32).toNatClampNeg (8 : Int32).toNatClampNeg)) 11 (u1.1 11)) 12 (u1.1 12)) 13 (u1.1 13)) 14 (va_cpy (u1.2.2.1 14) (u0.2.2.1 14) (0 : Int32).toNatClampNeg (0 : Int32).toNatClampNeg (8 : Int32).toNatClampNeg)) ++ wX4 G h1 a1 u1) H := hP
  have hD : va_D A (wX4 G h0 a0 (oa (oi (oi (oi (oa (oj (oj (ol (ol (oi (oi (oi (oi (oi (oa u0 0 (va_cpy (u1.2.2.1 0) (u0.2.2.1 0) (0 : Int32).toNatClampNeg (0 : Int32).toNatClampNeg (5 : Int32).toNatClampNeg)) 1 (u1.1 1)) 2 (u1.1 2)) 3 (u1.1 3)) 4 (u1.1 4)) 5 (u1.1 5)) 6 (u1.2.1 6)) 7 (u1.2.1 7)) 8 (va_cpy (u1.2.2.2 8) (u0.2.2.2 8) (0 : Int32).toNatClampNeg (0 : Int32).toNatClampNeg (8 : Int32).toNatClampNeg)) 9 (va_cpy (u1.2.2.2 9) (u0.2.2.2 9) (0 : Int32).toNatClampNeg (0 : Int32).toNatClampNeg (8 : Int32).toNatClampNeg)) 10 (va_cpy (u1.2.2.1 10) (u0.2.2.1 10) (0 : Int32).toNatClampNeg (0 : Int32).toNatClampNeg (8 : Int32).toNatClampNeg)) 11 (u1.1 11)) 12 (u1.1 12)) 13 (u1.1 13)) 14 (va_cpy (u1.2.2.1 14) (u0.2.2.1 14) (0 : Int32).toNatClampNeg (0 : Int32).toNatClampNeg (8 : Int32).toNatClampNeg)) ++ wX4 G h1 a1 u1) := hD
  refine lv_aload_n hx hb dX4_copyFrom_154 rfl (lv_at hl 1 rfl) ?_
  refine va_get (D := gD G) (ci := 2) (v := .ref (a1 15)) (C := RX4) (T := TX4) (N := 18) hx hb hg kl_X4 hown hK hP 7 rfl rfl 15 (by decide) (hg _ kq1_82) (fun _ h9 => h9) rfl dX4_copyFrom_155 ?_
  refine lv_iconst (v := (0 : Int32)) hx hb dX4_copyFrom_158 (by decide) ?_
  refine lv_aload_n hx hb dX4_copyFrom_159 rfl (lv_at hl 0 rfl) ?_
  refine va_get (D := gD G) (ci := 2) (v := .ref (a0 15)) (C := RX4) (T := TX4) (N := 18) hx hb hg kl_X4 hown hK hP 0 rfl rfl 15 (by decide) (hg _ kq1_82) (fun _ h9 => h9) rfl dX4_copyFrom_160 ?_
  refine lv_iconst (v := (0 : Int32)) hx hb dX4_copyFrom_163 (by decide) ?_
  refine lv_bipush (v := (8 : Int32)) hx hb dX4_copyFrom_164 (by decide) ?_
  refine va_copyi (f := (u1.2.2.1 15)) (g := (u0.2.2.1 15)) hx hb (hml.trans hl.1.symm) hown (hg _ kq2_96) (hg _ kq2_98) (hg _ kq2_97) (hg _ kq1_11) hK hP hD hS 13 6 1 1 rfl rfl rfl rfl rfl (by decide) (by decide) (by decide) (by decide) (by decide) (fun _ _ => rfl) (Nat.le_of_ble_eq_true rfl) (Nat.le_of_ble_eq_true rfl) dX4_copyFrom_166 (fun H locs hP hD hS => ?_)
  have hP : va_P (gD G) vwCl (wX4 G h0 a0 (oa (oa (oi (oi (oi (oa (oj (oj (ol (ol (oi (oi (oi (oi (oi (oa u0 0 (va_cpy (u1.2.2.1 0) (u0.2.2.1 0) (0 : Int32).toNatClampNeg (0 : Int32).toNatClampNeg (5 : Int32).toNatClampNeg)) 1 (u1.1 1)) 2 (u1.1 2)) 3 (u1.1 3)) 4 (u1.1 4)) 5 (u1.1 5)) 6 (u1.2.1 6)) 7 (u1.2.1 7)) 8 (va_cpy (u1.2.2.2 8) (u0.2.2.2 8) (0 : Int32).toNatClampNeg (0 : Int32).toNatClampNeg (8 : Int32).toNatClampNeg)) 9 (va_cpy (u1.2.2.2 9) (u0.2.2.2 9) (0 : Int32).toNatClampNeg (0 : Int32).toNatClampNeg (8 : Int32).toNatClampNeg)) 10 (va_cpy (u1.2.2.1 10) (u0.2.2.1 10) (0 : Int32).toNatClampNeg (0 : Int32).toNatClampNeg (8 : Int32).toNatClampNeg)) 11 (u1.1 11)) 12 (u1.1 12)) 13 (u1.1 13)) 14 (va_cpy (u1.2.2.1 14) (u0.2.2.1 14) (0 : Int32).toNatClampNeg (0 : Int32).toNatClampNeg (8 : Int32).toNatClampNeg)) 15 (va_cpy (u1.2.2.1 15) (u0.2.2.1 15) (0 : Int32).toNatClampNeg (0 : Int32).toNatClampNeg (8 : Int32).toNatClampNeg)) ++ wX4 G h1 a1 u1) H := hP
  have hD : va_D A (wX4 G h0 a0 (oa (oa (oi (oi (oi (oa (oj (oj (ol (ol (oi (oi (oi (oi (oi (oa u0 0 (va_cpy (u1.2.2.1 0) (u0.2.2.1 0) (0 : Int32).toNatClampNeg (0 : Int32).toNatClampNeg (5 : Int32).toNatClampNeg)) 1 (u1.1 1)) 2 (u1.1 2)) 3 (u1.1 3)) 4 (u1.1 4)) 5 (u1.1 5)) 6 (u1.2.1 6)) 7 (u1.2.1 7)) 8 (va_cpy (u1.2.2.2 8) (u0.2.2.2 8) (0 : Int32).toNatClampNeg (0 : Int32).toNatClampNeg (8 : Int32).toNatClampNeg)) 9 (va_cpy (u1.2.2.2 9) (u0.2.2.2 9) (0 : Int32).toNatClampNeg (0 : Int32).toNatClampNeg (8 : Int32).toNatClampNeg)) 10 (va_cpy (u1.2.2.1 10) (u0.2.2.1 10) (0 : Int32).toNatClampNeg (0 : Int32).toNatClampNeg (8 : Int32).toNatClampNeg)) 11 (u1.1 11)) 12 (u1.1 12)) 13 (u1.1 13)) 14 (va_cpy (u1.2.2.1 14) (u0.2.2.1 14) (0 : Int32).toNatClampNeg (0 : Int32).toNatClampNeg (8 : Int32).toNatClampNeg)) 15 (va_cpy (u1.2.2.1 15) (u0.2.2.1 15) (0 : Int32).toNatClampNeg (0 : Int32).toNatClampNeg (8 : Int32).toNatClampNeg)) ++ wX4 G h1 a1 u1) := hD
  refine lv_aload_n hx hb dX4_copyFrom_169 rfl (lv_at hl 0 rfl) ?_
  refine lv_aload_n hx hb dX4_copyFrom_170 rfl (lv_at hl 1 rfl) ?_
  refine va_get (D := gD G) (ci := 2) (v := .int (u1.1 16)) (C := RX4) (T := TX4) (N := 18) hx hb hg kl_X4 hown hK hP 7 rfl rfl 16 (by decide) (hg _ kq1_84) (fun _ h9 => h9) rfl dX4_copyFrom_171 ?_
  refine va_put (D := gD G) (ci := 2) (v := .int (u1.1 16)) (ty := .int) (C := RX4) (T := TX4) (N := 18) hx hb hg kl_X4 tyX4 tyX4_ok nmX4 hown hK hP hD hS 0 rfl rfl 16 (by decide) (hg _ kq1_84) (fun _ h9 => h9) rfl (by decide +kernel) rfl rfl (Nat.le_of_ble_eq_true rfl) dX4_copyFrom_174 (fun H locs hP hD hS => ?_)
  have hP : va_P (gD G) vwCl (wX4 G h0 a0 (oi (oa (oa (oi (oi (oi (oa (oj (oj (ol (ol (oi (oi (oi (oi (oi (oa u0 0 (va_cpy (u1.2.2.1 0) (u0.2.2.1 0) (0 : Int32).toNatClampNeg (0 : Int32).toNatClampNeg (5 : Int32).toNatClampNeg)) 1 (u1.1 1)) 2 (u1.1 2)) 3 (u1.1 3)) 4 (u1.1 4)) 5 (u1.1 5)) 6 (u1.2.1 6)) 7 (u1.2.1 7)) 8 (va_cpy (u1.2.2.2 8) (u0.2.2.2 8) (0 : Int32).toNatClampNeg (0 : Int32).toNatClampNeg (8 : Int32).toNatClampNeg)) 9 (va_cpy (u1.2.2.2 9) (u0.2.2.2 9) (0 : Int32).toNatClampNeg (0 : Int32).toNatClampNeg (8 : Int32).toNatClampNeg)) 10 (va_cpy (u1.2.2.1 10) (u0.2.2.1 10) (0 : Int32).toNatClampNeg (0 : Int32).toNatClampNeg (8 : Int32).toNatClampNeg)) 11 (u1.1 11)) 12 (u1.1 12)) 13 (u1.1 13)) 14 (va_cpy (u1.2.2.1 14) (u0.2.2.1 14) (0 : Int32).toNatClampNeg (0 : Int32).toNatClampNeg (8 : Int32).toNatClampNeg)) 15 (va_cpy (u1.2.2.1 15) (u0.2.2.1 15) (0 : Int32).toNatClampNeg (0 : Int32).toNatClampNeg (8 : Int32).toNatClampNeg)) 16 (u1.1 16)) ++ wX4 G h1 a1 u1) H := hP
  have hD : va_D A (wX4 G h0 a0 (oi (oa (oa (oi (oi (oi (oa (oj (oj (ol (ol (oi (oi (oi (oi (oi (oa u0 0 (va_cpy (u1.2.2.1 0) (u0.2.2.1 0) (0 : Int32).toNatClampNeg (0 : Int32).toNatClampNeg (5 : Int32).toNatClampNeg)) 1 (u1.1 1)) 2 (u1.1 2)) 3 (u1.1 3)) 4 (u1.1 4)) 5 (u1.1 5)) 6 (u1.2.1 6)) 7 (u1.2.1 7)) 8 (va_cpy (u1.2.2.2 8) (u0.2.2.2 8) (0 : Int32).toNatClampNeg (0 : Int32).toNatClampNeg (8 : Int32).toNatClampNeg)) 9 (va_cpy (u1.2.2.2 9) (u0.2.2.2 9) (0 : Int32).toNatClampNeg (0 : Int32).toNatClampNeg (8 : Int32).toNatClampNeg)) 10 (va_cpy (u1.2.2.1 10) (u0.2.2.1 10) (0 : Int32).toNatClampNeg (0 : Int32).toNatClampNeg (8 : Int32).toNatClampNeg)) 11 (u1.1 11)) 12 (u1.1 12)) 13 (u1.1 13)) 14 (va_cpy (u1.2.2.1 14) (u0.2.2.1 14) (0 : Int32).toNatClampNeg (0 : Int32).toNatClampNeg (8 : Int32).toNatClampNeg)) 15 (va_cpy (u1.2.2.1 15) (u0.2.2.1 15) (0 : Int32).toNatClampNeg (0 : Int32).toNatClampNeg (8 : Int32).toNatClampNeg)) 16 (u1.1 16)) ++ wX4 G h1 a1 u1) := hD
  have hf := Option.some.inj hf
  subst hf
  exact e_v (wf := (fun v : Ob × Ob => (wX4 G h0 a0 v.1 ++ wX4 G h1 a1 v.2))) hx hb hr hlk ((oi (oa (oa (oi (oi (oi (oa (oj (oj (ol (ol (oi (oi (oi (oi (oi (oa u0 0 (va_cpy (u1.2.2.1 0) (u0.2.2.1 0) (0 : Int32).toNatClampNeg (0 : Int32).toNatClampNeg (5 : Int32).toNatClampNeg)) 1 (u1.1 1)) 2 (u1.1 2)) 3 (u1.1 3)) 4 (u1.1 4)) 5 (u1.1 5)) 6 (u1.2.1 6)) 7 (u1.2.1 7)) 8 (va_cpy (u1.2.2.2 8) (u0.2.2.2 8) (0 : Int32).toNatClampNeg (0 : Int32).toNatClampNeg (8 : Int32).toNatClampNeg)) 9 (va_cpy (u1.2.2.2 9) (u0.2.2.2 9) (0 : Int32).toNatClampNeg (0 : Int32).toNatClampNeg (8 : Int32).toNatClampNeg)) 10 (va_cpy (u1.2.2.1 10) (u0.2.2.1 10) (0 : Int32).toNatClampNeg (0 : Int32).toNatClampNeg (8 : Int32).toNatClampNeg)) 11 (u1.1 11)) 12 (u1.1 12)) 13 (u1.1 13)) 14 (va_cpy (u1.2.2.1 14) (u0.2.2.1 14) (0 : Int32).toNatClampNeg (0 : Int32).toNatClampNeg (8 : Int32).toNatClampNeg)) 15 (va_cpy (u1.2.2.1 15) (u0.2.2.1 15) (0 : Int32).toNatClampNeg (0 : Int32).toNatClampNeg (8 : Int32).toNatClampNeg)) 16 (u1.1 16)), u1) rfl hP hK hD hS dX4_copyFrom_177
set_option maxRecDepth 100000 in
set_option maxHeartbeats 4000000 in
theorem c_X4_change {l : Launch} {G : Gp} {sz N : Nat} {x1 : Int32} {x2 : Int32} {h0 : Nat} {a0 : Nat → Nat} {u0 : Ob} {q : Ob} (hf : f_X4_change N x1 x2 u0 = some q) : Met l yX4_change (Cond.code yX4_change cX4_change 3 none :: lw_g) ({ frames := 0, cells := 0, slots := 0, locals := 0 } : Room) (va_Pc [.ref h0, .int x1, .int x2] (pw G (wX4 G h0 a0 u0) sz)) (va_Qv (fun v : Ob => q = v) (bw G (fun v : Ob => (wX4 G h0 a0 v)) (va_A (wX4 G h0 a0 u0) sz)) (va_A (wX4 G h0 a0 u0) sz)) 0 0 (va_A (wX4 G h0 a0 u0) sz) := by
  refine mt (Qc := (fun A => va_Qv (fun v : Ob => q = v) (bw G (fun v : Ob => (wX4 G h0 a0 v)) A) A)) (by decide) (Nat.le_of_ble_eq_true rfl) ?_
  intro p e s m below meth c A ls hx hb hr hlk hml hts hown hA hP hK hD hE hS hl
  have hown : s.vm.findClass RX4 = some m.cls := hown
  have hg : ∀ w ∈ lw_g, w.before ([.ref h0, .int x1, .int x2] : List Value).toArray s = true := fun w h => hts w (List.mem_cons_of_mem _ h)
  have hC : CallFix p m c cX4_change 3 s ([.ref h0, .int x1, .int x2] : List Value).toArray (Cond.code yX4_change cX4_change 3 none :: lw_g) RX4 := ⟨hx, hb, hml, hown, hts⟩
  have hl : lv_has ls 3 [(0, .ref h0), (1, .int x1), (2, .int x2)] := hl
  rw [f_X4_change] at hf
  refine lv_aload_n hx hb dX4_change_0 rfl (lv_at hl 0 rfl) ?_
  refine va_get (D := gD G) (ci := 2) (v := .ref (a0 0)) (C := RX4) (T := TX4) (N := 18) hx hb hg kl_X4 hown hK hP 0 rfl rfl 0 (by decide) (hg _ kq1_52) (fun _ h9 => h9) rfl dX4_change_1 ?_
  refine lv_iload_n hx hb dX4_change_4 rfl (lv_at hl 1 rfl) ?_
  refine lv_iload_n hx hb dX4_change_5 rfl (lv_at hl 2 rfl) ?_
  obtain ⟨b1, hf⟩ := tno hf
  refine va_iast (f := (u0.2.2.1 0)) hx hb hK hP hD hS 1 1 rfl rfl b1 dX4_change_6 (fun H locs hP hD hS => ?_)
  have hP : va_P (gD G) vwCl (wX4 G h0 a0 (oa u0 0 (upd (u0.2.2.1 0) x1.toNatClampNeg x2))) H := hP
  have hD : va_D A (wX4 G h0 a0 (oa u0 0 (upd (u0.2.2.1 0) x1.toNatClampNeg x2))) := hD
  refine lv_aload_n hx hb dX4_change_7 rfl (lv_at hl 0 rfl) ?_
  refine va_get (D := gD G) (ci := 2) (v := .int (u0.1 11)) (C := RX4) (T := TX4) (N := 18) hx hb hg kl_X4 hown hK hP 0 rfl rfl 11 (by decide) (hg _ kq1_74) (fun _ h9 => h9) rfl dX4_change_8 ?_
  refine lv_aload_n hx hb dX4_change_11 rfl (lv_at hl 0 rfl) ?_
  refine va_get (D := gD G) (ci := 2) (v := .ref (a0 0)) (C := RX4) (T := TX4) (N := 18) hx hb hg kl_X4 hown hK hP 0 rfl rfl 0 (by decide) (hg _ kq1_52) (fun _ h9 => h9) rfl dX4_change_12 ?_
  refine lv_iconst (v := (2 : Int32)) hx hb dX4_change_15 (by decide) ?_
  refine va_iald (f := (upd (u0.2.2.1 0) x1.toNatClampNeg x2)) hx hb hK hP 1 1 rfl rfl (vin (by decide)) dX4_change_16 ?_
  refine lv_icmp_le (tgt := 30) hx hb dX4_change_17 (by decide) (fun c2 => ?_) (fun c2 => ?_)
  · have hf := tp hf c2
    have hf := Option.some.inj hf
    subst hf
    exact e_v (wf := (fun v : Ob => (wX4 G h0 a0 v))) hx hb hr hlk (oa u0 0 (upd (u0.2.2.1 0) x1.toNatClampNeg x2)) rfl hP hK hD hS dX4_change_30
  · have hf := tn hf c2
    refine lv_aload_n hx hb dX4_change_20 rfl (lv_at hl 0 rfl) ?_
    refine lv_aload_n hx hb dX4_change_21 rfl (lv_at hl 0 rfl) ?_
    refine va_get (D := gD G) (ci := 2) (v := .ref (a0 0)) (C := RX4) (T := TX4) (N := 18) hx hb hg kl_X4 hown hK hP 0 rfl rfl 0 (by decide) (hg _ kq1_52) (fun _ h9 => h9) rfl dX4_change_22 ?_
    refine lv_iconst (v := (2 : Int32)) hx hb dX4_change_25 (by decide) ?_
    refine va_iald (f := (upd (u0.2.2.1 0) x1.toNatClampNeg x2)) hx hb hK hP 1 1 rfl rfl (vin (by decide)) dX4_change_26 ?_
    refine va_put (D := gD G) (ci := 2) (v := .int ((upd (u0.2.2.1 0) x1.toNatClampNeg x2) (2 : Int32).toNatClampNeg)) (ty := .int) (C := RX4) (T := TX4) (N := 18) hx hb hg kl_X4 tyX4 tyX4_ok nmX4 hown hK hP hD hS 0 rfl rfl 11 (by decide) (hg _ kq1_74) (fun _ h9 => h9) rfl (by decide +kernel) rfl rfl (Nat.le_of_ble_eq_true rfl) dX4_change_27 (fun H locs hP hD hS => ?_)
    have hP : va_P (gD G) vwCl (wX4 G h0 a0 (oi (oa u0 0 (upd (u0.2.2.1 0) x1.toNatClampNeg x2)) 11 ((upd (u0.2.2.1 0) x1.toNatClampNeg x2) (2 : Int32).toNatClampNeg))) H := hP
    have hD : va_D A (wX4 G h0 a0 (oi (oa u0 0 (upd (u0.2.2.1 0) x1.toNatClampNeg x2)) 11 ((upd (u0.2.2.1 0) x1.toNatClampNeg x2) (2 : Int32).toNatClampNeg))) := hD
    have hf := Option.some.inj hf
    subst hf
    exact e_v (wf := (fun v : Ob => (wX4 G h0 a0 v))) hx hb hr hlk (oi (oa u0 0 (upd (u0.2.2.1 0) x1.toNatClampNeg x2)) 11 ((upd (u0.2.2.1 0) x1.toNatClampNeg x2) (2 : Int32).toNatClampNeg)) rfl hP hK hD hS dX4_change_30
set_option maxRecDepth 100000 in
set_option maxHeartbeats 4000000 in
theorem c_X4_hasFrame {l : Launch} {G : Gp} {sz N : Nat} {x1 : Int32} {h0 : Nat} {a0 : Nat → Nat} {u0 : Ob} {q : Bool} (hf : f_X4_hasFrame N x1 u0 = some q) : Met l yX4_hasFrame (Cond.code yX4_hasFrame cX4_hasFrame 2 (some .boolean) :: lw_g) ({ frames := 0, cells := 0, slots := 0, locals := 0 } : Room) (va_Pc [.ref h0, .int x1] (pw G (wX4 G h0 a0 u0) sz)) (va_Qi (fun (r : Int32) (v : Ob) => bI q = r ∧ u0 = v) (bw G (fun v : Ob => (wX4 G h0 a0 v)) (va_A (wX4 G h0 a0 u0) sz)) (va_A (wX4 G h0 a0 u0) sz)) 0 0 (va_A (wX4 G h0 a0 u0) sz) := by
  refine mt (Qc := (fun A => va_Qi (fun (r : Int32) (v : Ob) => bI q = r ∧ u0 = v) (bw G (fun v : Ob => (wX4 G h0 a0 v)) A) A)) (by decide) (Nat.le_of_ble_eq_true rfl) ?_
  intro p e s m below meth c A ls hx hb hr hlk hml hts hown hA hP hK hD hE hS hl
  have hown : s.vm.findClass RX4 = some m.cls := hown
  have hg : ∀ w ∈ lw_g, w.before ([.ref h0, .int x1] : List Value).toArray s = true := fun w h => hts w (List.mem_cons_of_mem _ h)
  have hC : CallFix p m c cX4_hasFrame 2 s ([.ref h0, .int x1] : List Value).toArray (Cond.code yX4_hasFrame cX4_hasFrame 2 (some .boolean) :: lw_g) RX4 := ⟨hx, hb, hml, hown, hts⟩
  have hl : lv_has ls 2 [(0, .ref h0), (1, .int x1)] := hl
  rw [f_X4_hasFrame] at hf
  refine lv_iload_n hx hb dX4_hasFrame_0 rfl (lv_at hl 1 rfl) ?_
  refine lv_if_lt (tgt := 22) hx hb dX4_hasFrame_1 (by decide) (fun c1 => ?_) (fun c1 => ?_)
  · have hf := tp hf c1
    refine lv_iconst (v := (0 : Int32)) hx hb dX4_hasFrame_22 (by decide) ?_
    have hf := Option.some.inj hf
    subst hf
    exact e_z (wf := (fun v : Ob => (wX4 G h0 a0 v))) hx hb hr hlk u0 rfl ⟨rfl, rfl⟩ hP hK hD hS dX4_hasFrame_23
  · have hf := tn hf c1
    refine lv_iload_n hx hb dX4_hasFrame_4 rfl (lv_at hl 1 rfl) ?_
    refine lv_aload_n hx hb dX4_hasFrame_5 rfl (lv_at hl 0 rfl) ?_
    refine va_get (D := gD G) (ci := 2) (v := .int (u0.1 11)) (C := RX4) (T := TX4) (N := 18) hx hb hg kl_X4 hown hK hP 0 rfl rfl 11 (by decide) (hg _ kq1_74) (fun _ h9 => h9) rfl dX4_hasFrame_6 ?_
    refine lv_icmp_ge (tgt := 22) hx hb dX4_hasFrame_9 (by decide) (fun c2 => ?_) (fun c2 => ?_)
    · have hf := tp hf c2
      refine lv_iconst (v := (0 : Int32)) hx hb dX4_hasFrame_22 (by decide) ?_
      have hf := Option.some.inj hf
      subst hf
      exact e_z (wf := (fun v : Ob => (wX4 G h0 a0 v))) hx hb hr hlk u0 rfl ⟨rfl, rfl⟩ hP hK hD hS dX4_hasFrame_23
    · have hf := tn hf c2
      refine lv_iload_n hx hb dX4_hasFrame_12 rfl (lv_at hl 1 rfl) ?_
      refine lv_bipush (v := (8 : Int32)) hx hb dX4_hasFrame_13 (by decide) ?_
      refine lv_icmp_ge (tgt := 22) hx hb dX4_hasFrame_15 (by decide) (fun c3 => ?_) (fun c3 => ?_)
      · have hf := tp hf c3
        refine lv_iconst (v := (0 : Int32)) hx hb dX4_hasFrame_22 (by decide) ?_
        have hf := Option.some.inj hf
        subst hf
        exact e_z (wf := (fun v : Ob => (wX4 G h0 a0 v))) hx hb hr hlk u0 rfl ⟨rfl, rfl⟩ hP hK hD hS dX4_hasFrame_23
      · have hf := tn hf c3
        refine lv_iconst (v := (1 : Int32)) hx hb dX4_hasFrame_18 (by decide) ?_
        refine lv_goto (tgt := 23) hx hb dX4_hasFrame_19 (by decide) ?_
        have hf := Option.some.inj hf
        subst hf
        exact e_z (wf := (fun v : Ob => (wX4 G h0 a0 v))) hx hb hr hlk u0 rfl ⟨rfl, rfl⟩ hP hK hD hS dX4_hasFrame_23
set_option maxRecDepth 100000 in
set_option maxHeartbeats 4000000 in
theorem c_X4_doubtsSoFar {l : Launch} {G : Gp} {sz N : Nat} {h0 : Nat} {a0 : Nat → Nat} {u0 : Ob} {q : Int32} (hf : f_X4_doubtsSoFar N u0 = some q) : Met l yX4_doubtsSoFar (Cond.code yX4_doubtsSoFar cX4_doubtsSoFar 2 (some .int) :: lw_g) ({ frames := 1, cells := 0, slots := 0, locals := 21 } : Room) (va_Pc [.ref h0] (pw G (wX4 G h0 a0 u0) sz)) (va_Qi (fun (r : Int32) (v : Ob) => q = r ∧ u0 = v) (bw G (fun v : Ob => (wX4 G h0 a0 v)) (va_A (wX4 G h0 a0 u0) sz)) (va_A (wX4 G h0 a0 u0) sz)) 0 0 (va_A (wX4 G h0 a0 u0) sz) := by
  refine mt (Qc := (fun A => va_Qi (fun (r : Int32) (v : Ob) => q = r ∧ u0 = v) (bw G (fun v : Ob => (wX4 G h0 a0 v)) A) A)) (by decide) (Nat.le_of_ble_eq_true rfl) ?_
  intro p e s m below meth c A ls hx hb hr hlk hml hts hown hA hP hK hD hE hS hl
  have hown : s.vm.findClass RX4 = some m.cls := hown
  have hg : ∀ w ∈ lw_g, w.before ([.ref h0] : List Value).toArray s = true := fun w h => hts w (List.mem_cons_of_mem _ h)
  have hC : CallFix p m c cX4_doubtsSoFar 2 s ([.ref h0] : List Value).toArray (Cond.code yX4_doubtsSoFar cX4_doubtsSoFar 2 (some .int) :: lw_g) RX4 := ⟨hx, hb, hml, hown, hts⟩
  have hl : lv_has ls 2 [(0, .ref h0)] := hl
  rw [f_X4_doubtsSoFar] at hf
  refine lv_aload_n hx hb dX4_doubtsSoFar_0 rfl (lv_at hl 0 rfl) ?_
  refine va_get (D := gD G) (ci := 2) (v := .int (u0.1 4)) (C := RX4) (T := TX4) (N := 18) hx hb hg kl_X4 hown hK hP 0 rfl rfl 4 (by decide) (hg _ kq1_61) (fun _ h9 => h9) rfl dX4_doubtsSoFar_1 ?_
  refine lv_iconst (v := (-1 : Int32)) hx hb dX4_doubtsSoFar_4 (by decide) ?_
  refine lv_icmp_ne (tgt := 10) hx hb dX4_doubtsSoFar_5 (by decide) (fun c1 => ?_) (fun c1 => ?_)
  · have hf := tn hf c1
    refine lv_aload_n hx hb dX4_doubtsSoFar_10 rfl (lv_at hl 0 rfl) ?_
    refine va_get (D := gD G) (ci := 2) (v := .int (u0.1 4)) (C := RX4) (T := TX4) (N := 18) hx hb hg kl_X4 hown hK hP 0 rfl rfl 4 (by decide) (hg _ kq1_61) (fun _ h9 => h9) rfl dX4_doubtsSoFar_11 ?_
    refine lv_bipush (v := (58 : Int32)) hx hb dX4_doubtsSoFar_14 (by decide) ?_
    refine va_mmin hx hb (hml.trans hl.1.symm) hown (hg _ kq3_145) (hg _ kq2_212) (hg _ kq1_12) (hg _ kq2_213) (Nat.le_of_ble_eq_true rfl) (Nat.le_of_ble_eq_true rfl) (Nat.zero_le _) (Nat.zero_le _) (x := (u0.1 4)) (y := (58 : Int32)) dX4_doubtsSoFar_16 ?_
    refine lv_istore_n (lv' := [(1, .int (if (58 : Int32) < (u0.1 4) then (58 : Int32) else (u0.1 4))), (0, .ref h0)]) hx hb dX4_doubtsSoFar_19 rfl hl (by decide) rfl (fun ls hl => ?_)
    refine lv_aload_n hx hb dX4_doubtsSoFar_20 rfl (lv_at hl 1 rfl) ?_
    refine va_get (D := gD G) (ci := 2) (v := .long (u0.2.1 7)) (C := RX4) (T := TX4) (N := 18) hx hb hg kl_X4 hown hK hP 0 rfl rfl 7 (by decide) (hg _ kq1_67) (fun _ h9 => h9) rfl dX4_doubtsSoFar_21 ?_
    refine lv_lconst (v := (1 : Int64)) hx hb dX4_doubtsSoFar_24 (by decide) ?_
    refine lv_iload_n hx hb dX4_doubtsSoFar_25 rfl (lv_at hl 0 rfl) ?_
    refine lv_iconst (v := (1 : Int32)) hx hb dX4_doubtsSoFar_26 (by decide) ?_
    refine lv_iadd hx hb dX4_doubtsSoFar_27 ?_
    refine lv_lshl (v := (jshl (1 : Int64) ((if (58 : Int32) < (u0.1 4) then (58 : Int32) else (u0.1 4)) + (1 : Int32)))) hx hb dX4_doubtsSoFar_28 rfl ?_
    refine lv_lconst (v := (1 : Int64)) hx hb dX4_doubtsSoFar_29 (by decide) ?_
    refine lv_lsub hx hb dX4_doubtsSoFar_30 ?_
    refine lv_land hx hb dX4_doubtsSoFar_31 ?_
    obtain ⟨q2, e3, hf⟩ := tbd hf
    refine kSi0 (As := [.long ((u0.2.1 7) &&& ((jshl (1 : Int64) ((if (58 : Int32) < (u0.1 4) then (58 : Int32) else (u0.1 4)) + (1 : Int32))) - (1 : Int64)))]) (rest := []) hC (c_J13_bitCount_95d88 (G := G) e3) kq1_238 kc_J13_bitCount_95d88 (by decide) hP hK hD hE hS hA hl.1 (Nat.le_of_ble_eq_true rfl) ⟨Nat.zero_le _, Nat.zero_le _⟩ dX4_doubtsSoFar_32 (fun r9 u9 H locs hw hP hD hS => ?_)
    obtain ⟨rfl, rfl⟩ := hw
    have hf := Option.some.inj hf
    subst hf
    exact e_i (wf := (fun v : Ob => (wX4 G h0 a0 v))) hx hb hr hlk u0 ⟨rfl, rfl⟩ hP hK hD hS dX4_doubtsSoFar_35
  · have hf := tp hf c1
    refine lv_iconst (v := (0 : Int32)) hx hb dX4_doubtsSoFar_8 (by decide) ?_
    have hf := Option.some.inj hf
    subst hf
    exact e_i (wf := (fun v : Ob => (wX4 G h0 a0 v))) hx hb hr hlk u0 ⟨rfl, rfl⟩ hP hK hD hS dX4_doubtsSoFar_9
set_option maxRecDepth 100000 in
set_option maxHeartbeats 4000000 in
theorem c_X4_secondsSinceMark {l : Launch} {G : Gp} {sz N : Nat} {x1 : Int32} {h0 : Nat} {a0 : Nat → Nat} {u0 : Ob} {q : Int32} (hf : f_X4_secondsSinceMark N x1 u0 = some q) : Met l yX4_secondsSinceMark (Cond.code yX4_secondsSinceMark cX4_secondsSinceMark 2 (some .int) :: lw_g) ({ frames := 0, cells := 0, slots := 0, locals := 0 } : Room) (va_Pc [.ref h0, .int x1] (pw G (wX4 G h0 a0 u0) sz)) (va_Qi (fun (r : Int32) (v : Ob) => q = r ∧ u0 = v) (bw G (fun v : Ob => (wX4 G h0 a0 v)) (va_A (wX4 G h0 a0 u0) sz)) (va_A (wX4 G h0 a0 u0) sz)) 0 0 (va_A (wX4 G h0 a0 u0) sz) := by
  refine mt (Qc := (fun A => va_Qi (fun (r : Int32) (v : Ob) => q = r ∧ u0 = v) (bw G (fun v : Ob => (wX4 G h0 a0 v)) A) A)) (by decide) (Nat.le_of_ble_eq_true rfl) ?_
  intro p e s m below meth c A ls hx hb hr hlk hml hts hown hA hP hK hD hE hS hl
  have hown : s.vm.findClass RX4 = some m.cls := hown
  have hg : ∀ w ∈ lw_g, w.before ([.ref h0, .int x1] : List Value).toArray s = true := fun w h => hts w (List.mem_cons_of_mem _ h)
  have hC : CallFix p m c cX4_secondsSinceMark 2 s ([.ref h0, .int x1] : List Value).toArray (Cond.code yX4_secondsSinceMark cX4_secondsSinceMark 2 (some .int) :: lw_g) RX4 := ⟨hx, hb, hml, hown, hts⟩
  have hl : lv_has ls 2 [(0, .ref h0), (1, .int x1)] := hl
  rw [f_X4_secondsSinceMark] at hf
  refine lv_aload_n hx hb dX4_secondsSinceMark_0 rfl (lv_at hl 0 rfl) ?_
  refine va_get (D := gD G) (ci := 2) (v := .int (u0.1 2)) (C := RX4) (T := TX4) (N := 18) hx hb hg kl_X4 hown hK hP 0 rfl rfl 2 (by decide) (hg _ kq1_57) (fun _ h9 => h9) rfl dX4_secondsSinceMark_1 ?_
  refine lv_iconst (v := (-1 : Int32)) hx hb dX4_secondsSinceMark_4 (by decide) ?_
  refine lv_icmp_ne (tgt := 12) hx hb dX4_secondsSinceMark_5 (by decide) (fun c1 => ?_) (fun c1 => ?_)
  · have hf := tn hf c1
    refine lv_iload_n hx hb dX4_secondsSinceMark_12 rfl (lv_at hl 1 rfl) ?_
    refine lv_aload_n hx hb dX4_secondsSinceMark_13 rfl (lv_at hl 0 rfl) ?_
    refine va_get (D := gD G) (ci := 2) (v := .int (u0.1 2)) (C := RX4) (T := TX4) (N := 18) hx hb hg kl_X4 hown hK hP 0 rfl rfl 2 (by decide) (hg _ kq1_57) (fun _ h9 => h9) rfl dX4_secondsSinceMark_14 ?_
    refine lv_isub hx hb dX4_secondsSinceMark_17 ?_
    refine lv_sipush (v := (500 : Int32)) hx hb dX4_secondsSinceMark_18 (by decide) ?_
    refine lv_iadd hx hb dX4_secondsSinceMark_21 ?_
    refine lv_sipush (v := (1000 : Int32)) hx hb dX4_secondsSinceMark_22 (by decide) ?_
    refine lv_idiv hx hb dX4_secondsSinceMark_25 (by decide) ?_
    have hf := Option.some.inj hf
    subst hf
    exact e_i (wf := (fun v : Ob => (wX4 G h0 a0 v))) hx hb hr hlk u0 ⟨rfl, rfl⟩ hP hK hD hS dX4_secondsSinceMark_26
  · have hf := tp hf c1
    refine lv_iconst (v := (0 : Int32)) hx hb dX4_secondsSinceMark_8 (by decide) ?_
    refine lv_goto (tgt := 26) hx hb dX4_secondsSinceMark_9 (by decide) ?_
    have hf := Option.some.inj hf
    subst hf
    exact e_i (wf := (fun v : Ob => (wX4 G h0 a0 v))) hx hb hr hlk u0 ⟨rfl, rfl⟩ hP hK hD hS dX4_secondsSinceMark_26
set_option maxRecDepth 100000 in
set_option maxHeartbeats 4000000 in
theorem c_X4_isToBeIgnored {l : Launch} {G : Gp} {sz N : Nat} {x1 : Int32} {x2 : Int32} {h0 : Nat} {a0 : Nat → Nat} {u0 : Ob} {q : Bool} (hf : f_X4_isToBeIgnored N x1 x2 u0 = some q) : Met l yX4_isToBeIgnored (Cond.code yX4_isToBeIgnored cX4_isToBeIgnored 4 (some .boolean) :: lw_g) ({ frames := 1, cells := 0, slots := 0, locals := 21 } : Room) (va_Pc [.ref h0, .int x1, .int x2] (pw G (wX4 G h0 a0 u0) sz)) (va_Qi (fun (r : Int32) (v : Ob) => bI q = r ∧ u0 = v) (bw G (fun v : Ob => (wX4 G h0 a0 v)) (va_A (wX4 G h0 a0 u0) sz)) (va_A (wX4 G h0 a0 u0) sz)) 0 0 (va_A (wX4 G h0 a0 u0) sz) := by
  refine mt (Qc := (fun A => va_Qi (fun (r : Int32) (v : Ob) => bI q = r ∧ u0 = v) (bw G (fun v : Ob => (wX4 G h0 a0 v)) A) A)) (by decide) (Nat.le_of_ble_eq_true rfl) ?_
  intro p e s m below meth c A ls hx hb hr hlk hml hts hown hA hP hK hD hE hS hl
  have hown : s.vm.findClass RX4 = some m.cls := hown
  have hg : ∀ w ∈ lw_g, w.before ([.ref h0, .int x1, .int x2] : List Value).toArray s = true := fun w h => hts w (List.mem_cons_of_mem _ h)
  have hC : CallFix p m c cX4_isToBeIgnored 4 s ([.ref h0, .int x1, .int x2] : List Value).toArray (Cond.code yX4_isToBeIgnored cX4_isToBeIgnored 4 (some .boolean) :: lw_g) RX4 := ⟨hx, hb, hml, hown, hts⟩
  have hl : lv_has ls 4 [(0, .ref h0), (1, .int x1), (2, .int x2)] := hl
  rw [f_X4_isToBeIgnored] at hf
  refine lv_iload_n hx hb dX4_isToBeIgnored_0 rfl (lv_at hl 2 rfl) ?_
  refine lv_bipush (v := (30 : Int32)) hx hb dX4_isToBeIgnored_1 (by decide) ?_
  refine lv_icmp_ge (tgt := 8) hx hb dX4_isToBeIgnored_3 (by decide) (fun c1 => ?_) (fun c1 => ?_)
  · have hf := tp hf c1
    refine lv_aload_n hx hb dX4_isToBeIgnored_8 rfl (lv_at hl 0 rfl) ?_
    refine lv_iload_n hx hb dX4_isToBeIgnored_9 rfl (lv_at hl 1 rfl) ?_
    obtain ⟨q2, e3, hf⟩ := tbd hf
    refine kVi1 (As := [.int x1]) (rest := []) hC (c_X4_secondsSinceMark (G := G) e3) kq3_109 kc_X4_secondsSinceMark (by decide) 0 (ci := 2) rfl rfl hP hK hD hE hS hA hl.1 (Nat.le_of_ble_eq_true rfl) ⟨Nat.zero_le _, Nat.zero_le _⟩ dX4_isToBeIgnored_10 (fun r9 u9 H locs hw hP hD hS => ?_)
    obtain ⟨rfl, rfl⟩ := hw
    have hP : va_P (gD G) vwCl (wX4 G h0 a0 u0) H := hP
    have hD : va_D A (wX4 G h0 a0 u0) := hD
    refine lv_istore_n (lv' := [(3, .int q2), (0, .ref h0), (1, .int x1), (2, .int x2)]) hx hb dX4_isToBeIgnored_13 rfl hl (by decide) rfl (fun ls hl => ?_)
    refine lv_aload_n hx hb dX4_isToBeIgnored_14 rfl (lv_at hl 1 rfl) ?_
    refine va_get (D := gD G) (ci := 2) (v := .int (u0.1 2)) (C := RX4) (T := TX4) (N := 18) hx hb hg kl_X4 hown hK hP 0 rfl rfl 2 (by decide) (hg _ kq1_57) (fun _ h9 => h9) rfl dX4_isToBeIgnored_15 ?_
    refine lv_iconst (v := (-1 : Int32)) hx hb dX4_isToBeIgnored_18 (by decide) ?_
    refine lv_icmp_eq (tgt := 28) hx hb dX4_isToBeIgnored_19 (by decide) (fun c4 => ?_) (fun c4 => ?_)
    · have hf := tp hf c4
      refine lv_iconst (v := (0 : Int32)) hx hb dX4_isToBeIgnored_28 (by decide) ?_
      have hf := Option.some.inj hf
      subst hf
      exact e_z (wf := (fun v : Ob => (wX4 G h0 a0 v))) hx hb hr hlk u0 rfl ⟨rfl, rfl⟩ hP hK hD hS dX4_isToBeIgnored_29
    · have hf := tn hf c4
      refine lv_iload_n hx hb dX4_isToBeIgnored_22 rfl (lv_at hl 0 rfl) ?_
      refine lv_bipush (v := (10 : Int32)) hx hb dX4_isToBeIgnored_23 (by decide) ?_
      refine lv_icmp_le (tgt := 30) hx hb dX4_isToBeIgnored_25 (by decide) (fun c5 => ?_) (fun c5 => ?_)
      · have hf := tp hf c5
        refine lv_iload_n hx hb dX4_isToBeIgnored_30 rfl (lv_at hl 0 rfl) ?_
        refine lv_if_eq (tgt := 58) hx hb dX4_isToBeIgnored_31 (by decide) (fun c6 => ?_) (fun c6 => ?_)
        · have hf := tp hf c6
          refine lv_iconst (v := (1 : Int32)) hx hb dX4_isToBeIgnored_58 (by decide) ?_
          refine lv_goto (tgt := 63) hx hb dX4_isToBeIgnored_59 (by decide) ?_
          have hf := Option.some.inj hf
          subst hf
          exact e_z (wf := (fun v : Ob => (wX4 G h0 a0 v))) hx hb hr hlk u0 rfl ⟨rfl, rfl⟩ hP hK hD hS dX4_isToBeIgnored_63
        · have hf := tn hf c6
          refine lv_iload_n hx hb dX4_isToBeIgnored_34 rfl (lv_at hl 2 rfl) ?_
          refine lv_aload_n hx hb dX4_isToBeIgnored_35 rfl (lv_at hl 1 rfl) ?_
          refine va_get (D := gD G) (ci := 2) (v := .int (u0.1 2)) (C := RX4) (T := TX4) (N := 18) hx hb hg kl_X4 hown hK hP 0 rfl rfl 2 (by decide) (hg _ kq1_57) (fun _ h9 => h9) rfl dX4_isToBeIgnored_36 ?_
          refine lv_isub hx hb dX4_isToBeIgnored_39 ?_
          refine lv_sipush (v := (1000 : Int32)) hx hb dX4_isToBeIgnored_40 (by decide) ?_
          refine lv_iload_n hx hb dX4_isToBeIgnored_43 rfl (lv_at hl 0 rfl) ?_
          refine lv_imul hx hb dX4_isToBeIgnored_44 ?_
          refine lv_isub hx hb dX4_isToBeIgnored_45 ?_
          refine va_mabs hx hb (hml.trans hl.1.symm) hown (hg _ kq3_113) (hg _ kq3_114) (hg _ kq1_12) (hg _ kq3_115) (Nat.le_of_ble_eq_true rfl) (Nat.le_of_ble_eq_true rfl) (Nat.zero_le _) (Nat.zero_le _) (x := ((x1 - (u0.1 2)) - ((1000 : Int32) * q2))) dX4_isToBeIgnored_46 ?_
          refine lv_aload_n hx hb dX4_isToBeIgnored_49 rfl (lv_at hl 1 rfl) ?_
          refine va_get (D := gD G) (ci := 2) (v := .ref (a0 0)) (C := RX4) (T := TX4) (N := 18) hx hb hg kl_X4 hown hK hP 0 rfl rfl 0 (by decide) (hg _ kq1_52) (fun _ h9 => h9) rfl dX4_isToBeIgnored_50 ?_
          refine lv_iconst (v := (0 : Int32)) hx hb dX4_isToBeIgnored_53 (by decide) ?_
          refine va_iald (f := (u0.2.2.1 0)) hx hb hK hP 1 1 rfl rfl (vin (by decide)) dX4_isToBeIgnored_54 ?_
          refine lv_icmp_le (tgt := 62) hx hb dX4_isToBeIgnored_55 (by decide) (fun c7 => ?_) (fun c7 => ?_)
          · have hf := tp hf c7
            refine lv_iconst (v := (0 : Int32)) hx hb dX4_isToBeIgnored_62 (by decide) ?_
            have hf := Option.some.inj hf
            subst hf
            exact e_z (wf := (fun v : Ob => (wX4 G h0 a0 v))) hx hb hr hlk u0 rfl ⟨rfl, rfl⟩ hP hK hD hS dX4_isToBeIgnored_63
          · have hf := tn hf c7
            refine lv_iconst (v := (1 : Int32)) hx hb dX4_isToBeIgnored_58 (by decide) ?_
            refine lv_goto (tgt := 63) hx hb dX4_isToBeIgnored_59 (by decide) ?_
            have hf := Option.some.inj hf
            subst hf
            exact e_z (wf := (fun v : Ob => (wX4 G h0 a0 v))) hx hb hr hlk u0 rfl ⟨rfl, rfl⟩ hP hK hD hS dX4_isToBeIgnored_63
      · have hf := tn hf c5
        refine lv_iconst (v := (0 : Int32)) hx hb dX4_isToBeIgnored_28 (by decide) ?_
        have hf := Option.some.inj hf
        subst hf
        exact e_z (wf := (fun v : Ob => (wX4 G h0 a0 v))) hx hb hr hlk u0 rfl ⟨rfl, rfl⟩ hP hK hD hS dX4_isToBeIgnored_29
  · have hf := tn hf c1
    refine lv_iconst (v := (1 : Int32)) hx hb dX4_isToBeIgnored_6 (by decide) ?_
    have hf := Option.some.inj hf
    subst hf
    exact e_z (wf := (fun v : Ob => (wX4 G h0 a0 v))) hx hb hr hlk u0 rfl ⟨rfl, rfl⟩ hP hK hD hS dX4_isToBeIgnored_7
set_option maxRecDepth 100000 in
set_option maxHeartbeats 4000000 in
theorem c_X4_loseStep {l : Launch} {G : Gp} {sz N : Nat} {h0 : Nat} {a0 : Nat → Nat} {u0 : Ob} {q : Ob} (hf : f_X4_loseStep N u0 = some q) : Met l yX4_loseStep (Cond.code yX4_loseStep cX4_loseStep 1 none :: lw_g) ({ frames := 0, cells := 0, slots := 0, locals := 0 } : Room) (va_Pc [.ref h0] (pw G (wX4 G h0 a0 u0) sz)) (va_Qv (fun v : Ob => q = v) (bw G (fun v : Ob => (wX4 G h0 a0 v)) (va_A (wX4 G h0 a0 u0) sz)) (va_A (wX4 G h0 a0 u0) sz)) 0 0 (va_A (wX4 G h0 a0 u0) sz) := by
  refine mt (Qc := (fun A => va_Qv (fun v : Ob => q = v) (bw G (fun v : Ob => (wX4 G h0 a0 v)) A) A)) (by decide) (Nat.le_of_ble_eq_true rfl) ?_
  intro p e s m below meth c A ls hx hb hr hlk hml hts hown hA hP hK hD hE hS hl
  have hown : s.vm.findClass RX4 = some m.cls := hown
  have hg : ∀ w ∈ lw_g, w.before ([.ref h0] : List Value).toArray s = true := fun w h => hts w (List.mem_cons_of_mem _ h)
  have hC : CallFix p m c cX4_loseStep 1 s ([.ref h0] : List Value).toArray (Cond.code yX4_loseStep cX4_loseStep 1 none :: lw_g) RX4 := ⟨hx, hb, hml, hown, hts⟩
  have hl : lv_has ls 1 [(0, .ref h0)] := hl
  rw [f_X4_loseStep] at hf
  refine lv_aload_n hx hb dX4_loseStep_0 rfl (lv_at hl 0 rfl) ?_
  refine lv_iconst (v := (-1 : Int32)) hx hb dX4_loseStep_1 (by decide) ?_
  refine va_put (D := gD G) (ci := 2) (v := .int (-1 : Int32)) (ty := .int) (C := RX4) (T := TX4) (N := 18) hx hb hg kl_X4 tyX4 tyX4_ok nmX4 hown hK hP hD hS 0 rfl rfl 4 (by decide) (hg _ kq1_61) (fun _ h9 => h9) rfl (by decide +kernel) rfl rfl (Nat.le_of_ble_eq_true rfl) dX4_loseStep_2 (fun H locs hP hD hS => ?_)
  have hP : va_P (gD G) vwCl (wX4 G h0 a0 (oi u0 4 (-1 : Int32))) H := hP
  have hD : va_D A (wX4 G h0 a0 (oi u0 4 (-1 : Int32))) := hD
  refine lv_aload_n hx hb dX4_loseStep_5 rfl (lv_at hl 0 rfl) ?_
  refine lv_iconst (v := (0 : Int32)) hx hb dX4_loseStep_6 (by decide) ?_
  refine va_put (D := gD G) (ci := 2) (v := .int (0 : Int32)) (ty := .int) (C := RX4) (T := TX4) (N := 18) hx hb hg kl_X4 tyX4 tyX4_ok nmX4 hown hK hP hD hS 0 rfl rfl 11 (by decide) (hg _ kq1_74) (fun _ h9 => h9) rfl (by decide +kernel) rfl rfl (Nat.le_of_ble_eq_true rfl) dX4_loseStep_7 (fun H locs hP hD hS => ?_)
  have hP : va_P (gD G) vwCl (wX4 G h0 a0 (oi (oi u0 4 (-1 : Int32)) 11 (0 : Int32))) H := hP
  have hD : va_D A (wX4 G h0 a0 (oi (oi u0 4 (-1 : Int32)) 11 (0 : Int32))) := hD
  refine lv_aload_n hx hb dX4_loseStep_10 rfl (lv_at hl 0 rfl) ?_
  refine lv_iconst (v := (-1 : Int32)) hx hb dX4_loseStep_11 (by decide) ?_
  refine va_put (D := gD G) (ci := 2) (v := .int (-1 : Int32)) (ty := .int) (C := RX4) (T := TX4) (N := 18) hx hb hg kl_X4 tyX4 tyX4_ok nmX4 hown hK hP hD hS 0 rfl rfl 12 (by decide) (hg _ kq1_76) (fun _ h9 => h9) rfl (by decide +kernel) rfl rfl (Nat.le_of_ble_eq_true rfl) dX4_loseStep_12 (fun H locs hP hD hS => ?_)
  have hP : va_P (gD G) vwCl (wX4 G h0 a0 (oi (oi (oi u0 4 (-1 : Int32)) 11 (0 : Int32)) 12 (-1 : Int32))) H := hP
  have hD : va_D A (wX4 G h0 a0 (oi (oi (oi u0 4 (-1 : Int32)) 11 (0 : Int32)) 12 (-1 : Int32))) := hD
  refine lv_aload_n hx hb dX4_loseStep_15 rfl (lv_at hl 0 rfl) ?_
  refine lv_iconst (v := (0 : Int32)) hx hb dX4_loseStep_16 (by decide) ?_
  refine va_put (D := gD G) (ci := 2) (v := .int (0 : Int32)) (ty := .int) (C := RX4) (T := TX4) (N := 18) hx hb hg kl_X4 tyX4 tyX4_ok nmX4 hown hK hP hD hS 0 rfl rfl 13 (by decide) (hg _ kq1_78) (fun _ h9 => h9) rfl (by decide +kernel) rfl rfl (Nat.le_of_ble_eq_true rfl) dX4_loseStep_17 (fun H locs hP hD hS => ?_)
  have hP : va_P (gD G) vwCl (wX4 G h0 a0 (oi (oi (oi (oi u0 4 (-1 : Int32)) 11 (0 : Int32)) 12 (-1 : Int32)) 13 (0 : Int32))) H := hP
  have hD : va_D A (wX4 G h0 a0 (oi (oi (oi (oi u0 4 (-1 : Int32)) 11 (0 : Int32)) 12 (-1 : Int32)) 13 (0 : Int32))) := hD
  have hf := Option.some.inj hf
  subst hf
  exact e_v (wf := (fun v : Ob => (wX4 G h0 a0 v))) hx hb hr hlk (oi (oi (oi (oi u0 4 (-1 : Int32)) 11 (0 : Int32)) 12 (-1 : Int32)) 13 (0 : Int32)) rfl hP hK hD hS dX4_loseStep_20
set_option maxRecDepth 100000 in
set_option maxHeartbeats 4000000 in
theorem c_X4_doubtSeconds {l : Launch} {G : Gp} {sz N : Nat} {x1 : Int32} {x2 : Int32} {h0 : Nat} {a0 : Nat → Nat} {u0 : Ob} {q : Ob} (hf : f_X4_doubtSeconds N x1 x2 u0 = some q) : Met l yX4_doubtSeconds (Cond.code yX4_doubtSeconds cX4_doubtSeconds 4 none :: lw_g) ({ frames := 0, cells := 0, slots := 0, locals := 0 } : Room) (va_Pc [.ref h0, .int x1, .int x2] (pw G (wX4 G h0 a0 u0) sz)) (va_Qv (fun v : Ob => q = v) (bw G (fun v : Ob => (wX4 G h0 a0 v)) (va_A (wX4 G h0 a0 u0) sz)) (va_A (wX4 G h0 a0 u0) sz)) 0 0 (va_A (wX4 G h0 a0 u0) sz) := by
  refine mt (Qc := (fun A => va_Qv (fun v : Ob => q = v) (bw G (fun v : Ob => (wX4 G h0 a0 v)) A) A)) (by decide) (Nat.le_of_ble_eq_true rfl) ?_
  intro p e s m below meth c A ls hx hb hr hlk hml hts hown hA hP hK hD hE hS hl
  have hown : s.vm.findClass RX4 = some m.cls := hown
  have hg : ∀ w ∈ lw_g, w.before ([.ref h0, .int x1, .int x2] : List Value).toArray s = true := fun w h => hts w (List.mem_cons_of_mem _ h)
  have hC : CallFix p m c cX4_doubtSeconds 4 s ([.ref h0, .int x1, .int x2] : List Value).toArray (Cond.code yX4_doubtSeconds cX4_doubtSeconds 4 none :: lw_g) RX4 := ⟨hx, hb, hml, hown, hts⟩
  have hl : lv_has ls 4 [(0, .ref h0), (1, .int x1), (2, .int x2)] := hl
  have lp_2 : ∀ (n : Nat) (x3 : Int32) (u0 : Ob), l_X4_doubtSeconds_2 N x1 x2 n x3 u0 = some q → ∀ (H : Heap) (locs : List Loc) (ls : Array Slot), va_P (gD G) vwCl (wX4 G h0 a0 u0) H → va_D A (wX4 G h0 a0 u0) → va_S A s.heap H locs → lv_has ls 4 [(0, .ref h0), (1, .int x1), (2, .int x2), (3, .int x3)] → W p l e ({ frames := 0, cells := 0, slots := 0, locals := 0 } : Room) s m ([.ref h0, .int x1, .int x2] : List Value).toArray below meth c H locs 0 0 (MQ below (va_Qv (fun v : Ob => q = v) (bw G (fun v : Ob => (wX4 G h0 a0 v)) A) A) ([.ref h0, .int x1, .int x2] : List Value).toArray s 0 0 A) (F0 m 2 ls []) := by
    intro n
    induction n with
    | zero => intro x3 u0 hf; rw [l_X4_doubtSeconds_2] at hf; cases hf
    | succ n ih =>
      intro x3 u0 hf H locs ls hP hD hS hl
      rw [l_X4_doubtSeconds_2] at hf
      refine lv_iload_n hx hb dX4_doubtSeconds_2 rfl (lv_at hl 3 rfl) ?_
      refine lv_iload_n hx hb dX4_doubtSeconds_3 rfl (lv_at hl 2 rfl) ?_
      refine lv_icmp_gt (tgt := 31) hx hb dX4_doubtSeconds_4 (by decide) (fun c1 => ?_) (fun c1 => ?_)
      · have hf := tp hf c1
        have hf := Option.some.inj hf
        subst hf
        exact e_v (wf := (fun v : Ob => (wX4 G h0 a0 v))) hx hb hr hlk u0 rfl hP hK hD hS dX4_doubtSeconds_31
      · have hf := tn hf c1
        refine lv_iload_n hx hb dX4_doubtSeconds_7 rfl (lv_at hl 3 rfl) ?_
        refine lv_bipush (v := (58 : Int32)) hx hb dX4_doubtSeconds_8 (by decide) ?_
        refine lv_icmp_gt (tgt := 31) hx hb dX4_doubtSeconds_10 (by decide) (fun c2 => ?_) (fun c2 => ?_)
        · have hf := tp hf c2
          have hf := Option.some.inj hf
          subst hf
          exact e_v (wf := (fun v : Ob => (wX4 G h0 a0 v))) hx hb hr hlk u0 rfl hP hK hD hS dX4_doubtSeconds_31
        · have hf := tn hf c2
          refine lv_aload_n hx hb dX4_doubtSeconds_13 rfl (lv_at hl 0 rfl) ?_
          refine lv_dup hx hb dX4_doubtSeconds_14 rfl ?_
          refine va_get (D := gD G) (ci := 2) (v := .long (u0.2.1 7)) (C := RX4) (T := TX4) (N := 18) hx hb hg kl_X4 hown hK hP 0 rfl rfl 7 (by decide) (hg _ kq1_67) (fun _ h9 => h9) rfl dX4_doubtSeconds_15 ?_
          refine lv_lconst (v := (1 : Int64)) hx hb dX4_doubtSeconds_18 (by decide) ?_
          refine lv_iload_n hx hb dX4_doubtSeconds_19 rfl (lv_at hl 3 rfl) ?_
          refine lv_lshl (v := (jshl (1 : Int64) x3)) hx hb dX4_doubtSeconds_20 rfl ?_
          refine lv_lor hx hb dX4_doubtSeconds_21 ?_
          refine va_put (D := gD G) (ci := 2) (v := .long ((u0.2.1 7) ||| (jshl (1 : Int64) x3))) (ty := .long) (C := RX4) (T := TX4) (N := 18) hx hb hg kl_X4 tyX4 tyX4_ok nmX4 hown hK hP hD hS 0 rfl rfl 7 (by decide) (hg _ kq1_67) (fun _ h9 => h9) rfl (by decide +kernel) rfl rfl (Nat.le_of_ble_eq_true rfl) dX4_doubtSeconds_22 (fun H locs hP hD hS => ?_)
          have hP : va_P (gD G) vwCl (wX4 G h0 a0 (ol u0 7 ((u0.2.1 7) ||| (jshl (1 : Int64) x3)))) H := hP
          have hD : va_D A (wX4 G h0 a0 (ol u0 7 ((u0.2.1 7) ||| (jshl (1 : Int64) x3)))) := hD
          refine lv_iinc (v := (x3 + (1 : Int32))) (lv' := [(3, .int (x3 + (1 : Int32))), (0, .ref h0), (1, .int x1), (2, .int x2)]) hx hb dX4_doubtSeconds_25 hl (k := 3) rfl rfl (by decide) rfl (fun ls hl => ?_)
          refine lv_goto (tgt := 2) hx hb dX4_doubtSeconds_28 (by decide) ?_
          exact ih _ _ hf _ _ _ hP hD hS (lv_sub hl [1, 2, 3, 0] rfl)
  rw [f_X4_doubtSeconds] at hf
  refine lv_iload_n hx hb dX4_doubtSeconds_0 rfl (lv_at hl 1 rfl) ?_
  refine lv_istore_n (lv' := [(3, .int x1), (0, .ref h0), (1, .int x1), (2, .int x2)]) hx hb dX4_doubtSeconds_1 rfl hl (by decide) rfl (fun ls hl => ?_)
  exact lp_2 N _ _ hf _ _ _ hP hD hS (lv_sub hl [1, 2, 3, 0] rfl)
set_option maxRecDepth 100000 in
set_option maxHeartbeats 4000000 in
theorem c_X4_putBit {l : Launch} {G : Gp} {sz N : Nat} {x1 : Int32} {x2 : Int32} {h0 : Nat} {a0 : Nat → Nat} {u0 : Ob} {q : Ob} (hf : f_X4_putBit N x1 x2 u0 = some q) : Met l yX4_putBit (Cond.code yX4_putBit cX4_putBit 3 none :: lw_g) ({ frames := 0, cells := 0, slots := 0, locals := 0 } : Room) (va_Pc [.ref h0, .int x1, .int x2] (pw G (wX4 G h0 a0 u0) sz)) (va_Qv (fun v : Ob => q = v) (bw G (fun v : Ob => (wX4 G h0 a0 v)) (va_A (wX4 G h0 a0 u0) sz)) (va_A (wX4 G h0 a0 u0) sz)) 0 0 (va_A (wX4 G h0 a0 u0) sz) := by
  refine mt (Qc := (fun A => va_Qv (fun v : Ob => q = v) (bw G (fun v : Ob => (wX4 G h0 a0 v)) A) A)) (by decide) (Nat.le_of_ble_eq_true rfl) ?_
  intro p e s m below meth c A ls hx hb hr hlk hml hts hown hA hP hK hD hE hS hl
  have hown : s.vm.findClass RX4 = some m.cls := hown
  have hg : ∀ w ∈ lw_g, w.before ([.ref h0, .int x1, .int x2] : List Value).toArray s = true := fun w h => hts w (List.mem_cons_of_mem _ h)
  have hC : CallFix p m c cX4_putBit 3 s ([.ref h0, .int x1, .int x2] : List Value).toArray (Cond.code yX4_putBit cX4_putBit 3 none :: lw_g) RX4 := ⟨hx, hb, hml, hown, hts⟩
  have hl : lv_has ls 3 [(0, .ref h0), (1, .int x1), (2, .int x2)] := hl
  rw [f_X4_putBit] at hf
  refine lv_iload_n hx hb dX4_putBit_0 rfl (lv_at hl 1 rfl) ?_
  refine lv_bipush (v := (58 : Int32)) hx hb dX4_putBit_1 (by decide) ?_
  refine lv_icmp_le (tgt := 7) hx hb dX4_putBit_3 (by decide) (fun c1 => ?_) (fun c1 => ?_)
  · have hf := tp hf c1
    refine lv_iload_n hx hb dX4_putBit_7 rfl (lv_at hl 2 rfl) ?_
    refine lv_sipush (v := (160 : Int32)) hx hb dX4_putBit_8 (by decide) ?_
    refine lv_icmp_lt (tgt := 36) hx hb dX4_putBit_11 (by decide) (fun c2 => ?_) (fun c2 => ?_)
    · have hf := tp hf c2
      refine lv_iload_n hx hb dX4_putBit_36 rfl (lv_at hl 2 rfl) ?_
      refine lv_bipush (v := (60 : Int32)) hx hb dX4_putBit_37 (by decide) ?_
      refine lv_icmp_lt (tgt := 49) hx hb dX4_putBit_39 (by decide) (fun c3 => ?_) (fun c3 => ?_)
      · have hf := tp hf c3
        refine lv_aload_n hx hb dX4_putBit_49 rfl (lv_at hl 0 rfl) ?_
        refine lv_dup hx hb dX4_putBit_50 rfl ?_
        refine va_get (D := gD G) (ci := 2) (v := .long (u0.2.1 7)) (C := RX4) (T := TX4) (N := 18) hx hb hg kl_X4 hown hK hP 0 rfl rfl 7 (by decide) (hg _ kq1_67) (fun _ h9 => h9) rfl dX4_putBit_51 ?_
        refine lv_lconst (v := (1 : Int64)) hx hb dX4_putBit_54 (by decide) ?_
        refine lv_iload_n hx hb dX4_putBit_55 rfl (lv_at hl 1 rfl) ?_
        refine lv_lshl (v := (jshl (1 : Int64) x1)) hx hb dX4_putBit_56 rfl ?_
        refine lv_lor hx hb dX4_putBit_57 ?_
        refine va_put (D := gD G) (ci := 2) (v := .long ((u0.2.1 7) ||| (jshl (1 : Int64) x1))) (ty := .long) (C := RX4) (T := TX4) (N := 18) hx hb hg kl_X4 tyX4 tyX4_ok nmX4 hown hK hP hD hS 0 rfl rfl 7 (by decide) (hg _ kq1_67) (fun _ h9 => h9) rfl (by decide +kernel) rfl rfl (Nat.le_of_ble_eq_true rfl) dX4_putBit_58 (fun H locs hP hD hS => ?_)
        have hP : va_P (gD G) vwCl (wX4 G h0 a0 (ol u0 7 ((u0.2.1 7) ||| (jshl (1 : Int64) x1)))) H := hP
        have hD : va_D A (wX4 G h0 a0 (ol u0 7 ((u0.2.1 7) ||| (jshl (1 : Int64) x1)))) := hD
        have hf := Option.some.inj hf
        subst hf
        exact e_v (wf := (fun v : Ob => (wX4 G h0 a0 v))) hx hb hr hlk (ol u0 7 ((u0.2.1 7) ||| (jshl (1 : Int64) x1))) rfl hP hK hD hS dX4_putBit_61
      · have hf := tn hf c3
        refine lv_iload_n hx hb dX4_putBit_42 rfl (lv_at hl 2 rfl) ?_
        refine lv_sipush (v := (140 : Int32)) hx hb dX4_putBit_43 (by decide) ?_
        refine lv_icmp_le (tgt := 61) hx hb dX4_putBit_46 (by decide) (fun c4 => ?_) (fun c4 => ?_)
        · have hf := tp hf c4
          have hf := Option.some.inj hf
          subst hf
          exact e_v (wf := (fun v : Ob => (wX4 G h0 a0 v))) hx hb hr hlk u0 rfl hP hK hD hS dX4_putBit_61
        · have hf := tn hf c4
          refine lv_aload_n hx hb dX4_putBit_49 rfl (lv_at hl 0 rfl) ?_
          refine lv_dup hx hb dX4_putBit_50 rfl ?_
          refine va_get (D := gD G) (ci := 2) (v := .long (u0.2.1 7)) (C := RX4) (T := TX4) (N := 18) hx hb hg kl_X4 hown hK hP 0 rfl rfl 7 (by decide) (hg _ kq1_67) (fun _ h9 => h9) rfl dX4_putBit_51 ?_
          refine lv_lconst (v := (1 : Int64)) hx hb dX4_putBit_54 (by decide) ?_
          refine lv_iload_n hx hb dX4_putBit_55 rfl (lv_at hl 1 rfl) ?_
          refine lv_lshl (v := (jshl (1 : Int64) x1)) hx hb dX4_putBit_56 rfl ?_
          refine lv_lor hx hb dX4_putBit_57 ?_
          refine va_put (D := gD G) (ci := 2) (v := .long ((u0.2.1 7) ||| (jshl (1 : Int64) x1))) (ty := .long) (C := RX4) (T := TX4) (N := 18) hx hb hg kl_X4 tyX4 tyX4_ok nmX4 hown hK hP hD hS 0 rfl rfl 7 (by decide) (hg _ kq1_67) (fun _ h9 => h9) rfl (by decide +kernel) rfl rfl (Nat.le_of_ble_eq_true rfl) dX4_putBit_58 (fun H locs hP hD hS => ?_)
          have hP : va_P (gD G) vwCl (wX4 G h0 a0 (ol u0 7 ((u0.2.1 7) ||| (jshl (1 : Int64) x1)))) H := hP
          have hD : va_D A (wX4 G h0 a0 (ol u0 7 ((u0.2.1 7) ||| (jshl (1 : Int64) x1)))) := hD
          have hf := Option.some.inj hf
          subst hf
          exact e_v (wf := (fun v : Ob => (wX4 G h0 a0 v))) hx hb hr hlk (ol u0 7 ((u0.2.1 7) ||| (jshl (1 : Int64) x1))) rfl hP hK hD hS dX4_putBit_61
    · have hf := tn hf c2
      refine lv_iload_n hx hb dX4_putBit_14 rfl (lv_at hl 2 rfl) ?_
      refine lv_sipush (v := (240 : Int32)) hx hb dX4_putBit_15 (by decide) ?_
      refine lv_icmp_gt (tgt := 36) hx hb dX4_putBit_18 (by decide) (fun c5 => ?_) (fun c5 => ?_)
      · have hf := tp hf c5
        refine lv_iload_n hx hb dX4_putBit_36 rfl (lv_at hl 2 rfl) ?_
        refine lv_bipush (v := (60 : Int32)) hx hb dX4_putBit_37 (by decide) ?_
        refine lv_icmp_lt (tgt := 49) hx hb dX4_putBit_39 (by decide) (fun c6 => ?_) (fun c6 => ?_)
        · have hf := tp hf c6
          refine lv_aload_n hx hb dX4_putBit_49 rfl (lv_at hl 0 rfl) ?_
          refine lv_dup hx hb dX4_putBit_50 rfl ?_
          refine va_get (D := gD G) (ci := 2) (v := .long (u0.2.1 7)) (C := RX4) (T := TX4) (N := 18) hx hb hg kl_X4 hown hK hP 0 rfl rfl 7 (by decide) (hg _ kq1_67) (fun _ h9 => h9) rfl dX4_putBit_51 ?_
          refine lv_lconst (v := (1 : Int64)) hx hb dX4_putBit_54 (by decide) ?_
          refine lv_iload_n hx hb dX4_putBit_55 rfl (lv_at hl 1 rfl) ?_
          refine lv_lshl (v := (jshl (1 : Int64) x1)) hx hb dX4_putBit_56 rfl ?_
          refine lv_lor hx hb dX4_putBit_57 ?_
          refine va_put (D := gD G) (ci := 2) (v := .long ((u0.2.1 7) ||| (jshl (1 : Int64) x1))) (ty := .long) (C := RX4) (T := TX4) (N := 18) hx hb hg kl_X4 tyX4 tyX4_ok nmX4 hown hK hP hD hS 0 rfl rfl 7 (by decide) (hg _ kq1_67) (fun _ h9 => h9) rfl (by decide +kernel) rfl rfl (Nat.le_of_ble_eq_true rfl) dX4_putBit_58 (fun H locs hP hD hS => ?_)
          have hP : va_P (gD G) vwCl (wX4 G h0 a0 (ol u0 7 ((u0.2.1 7) ||| (jshl (1 : Int64) x1)))) H := hP
          have hD : va_D A (wX4 G h0 a0 (ol u0 7 ((u0.2.1 7) ||| (jshl (1 : Int64) x1)))) := hD
          have hf := Option.some.inj hf
          subst hf
          exact e_v (wf := (fun v : Ob => (wX4 G h0 a0 v))) hx hb hr hlk (ol u0 7 ((u0.2.1 7) ||| (jshl (1 : Int64) x1))) rfl hP hK hD hS dX4_putBit_61
        · have hf := tn hf c6
          refine lv_iload_n hx hb dX4_putBit_42 rfl (lv_at hl 2 rfl) ?_
          refine lv_sipush (v := (140 : Int32)) hx hb dX4_putBit_43 (by decide) ?_
          refine lv_icmp_le (tgt := 61) hx hb dX4_putBit_46 (by decide) (fun c7 => ?_) (fun c7 => ?_)
          · have hf := tp hf c7
            have hf := Option.some.inj hf
            subst hf
            exact e_v (wf := (fun v : Ob => (wX4 G h0 a0 v))) hx hb hr hlk u0 rfl hP hK hD hS dX4_putBit_61
          · have hf := tn hf c7
            refine lv_aload_n hx hb dX4_putBit_49 rfl (lv_at hl 0 rfl) ?_
            refine lv_dup hx hb dX4_putBit_50 rfl ?_
            refine va_get (D := gD G) (ci := 2) (v := .long (u0.2.1 7)) (C := RX4) (T := TX4) (N := 18) hx hb hg kl_X4 hown hK hP 0 rfl rfl 7 (by decide) (hg _ kq1_67) (fun _ h9 => h9) rfl dX4_putBit_51 ?_
            refine lv_lconst (v := (1 : Int64)) hx hb dX4_putBit_54 (by decide) ?_
            refine lv_iload_n hx hb dX4_putBit_55 rfl (lv_at hl 1 rfl) ?_
            refine lv_lshl (v := (jshl (1 : Int64) x1)) hx hb dX4_putBit_56 rfl ?_
            refine lv_lor hx hb dX4_putBit_57 ?_
            refine va_put (D := gD G) (ci := 2) (v := .long ((u0.2.1 7) ||| (jshl (1 : Int64) x1))) (ty := .long) (C := RX4) (T := TX4) (N := 18) hx hb hg kl_X4 tyX4 tyX4_ok nmX4 hown hK hP hD hS 0 rfl rfl 7 (by decide) (hg _ kq1_67) (fun _ h9 => h9) rfl (by decide +kernel) rfl rfl (Nat.le_of_ble_eq_true rfl) dX4_putBit_58 (fun H locs hP hD hS => ?_)
            have hP : va_P (gD G) vwCl (wX4 G h0 a0 (ol u0 7 ((u0.2.1 7) ||| (jshl (1 : Int64) x1)))) H := hP
            have hD : va_D A (wX4 G h0 a0 (ol u0 7 ((u0.2.1 7) ||| (jshl (1 : Int64) x1)))) := hD
            have hf := Option.some.inj hf
            subst hf
            exact e_v (wf := (fun v : Ob => (wX4 G h0 a0 v))) hx hb hr hlk (ol u0 7 ((u0.2.1 7) ||| (jshl (1 : Int64) x1))) rfl hP hK hD hS dX4_putBit_61
      · have hf := tn hf c5
        refine lv_aload_n hx hb dX4_putBit_21 rfl (lv_at hl 0 rfl) ?_
        refine lv_dup hx hb dX4_putBit_22 rfl ?_
        refine va_get (D := gD G) (ci := 2) (v := .long (u0.2.1 6)) (C := RX4) (T := TX4) (N := 18) hx hb hg kl_X4 hown hK hP 0 rfl rfl 6 (by decide) (hg _ kq1_65) (fun _ h9 => h9) rfl dX4_putBit_23 ?_
        refine lv_lconst (v := (1 : Int64)) hx hb dX4_putBit_26 (by decide) ?_
        refine lv_iload_n hx hb dX4_putBit_27 rfl (lv_at hl 1 rfl) ?_
        refine lv_lshl (v := (jshl (1 : Int64) x1)) hx hb dX4_putBit_28 rfl ?_
        refine lv_lor hx hb dX4_putBit_29 ?_
        refine va_put (D := gD G) (ci := 2) (v := .long ((u0.2.1 6) ||| (jshl (1 : Int64) x1))) (ty := .long) (C := RX4) (T := TX4) (N := 18) hx hb hg kl_X4 tyX4 tyX4_ok nmX4 hown hK hP hD hS 0 rfl rfl 6 (by decide) (hg _ kq1_65) (fun _ h9 => h9) rfl (by decide +kernel) rfl rfl (Nat.le_of_ble_eq_true rfl) dX4_putBit_30 (fun H locs hP hD hS => ?_)
        have hP : va_P (gD G) vwCl (wX4 G h0 a0 (ol u0 6 ((u0.2.1 6) ||| (jshl (1 : Int64) x1)))) H := hP
        have hD : va_D A (wX4 G h0 a0 (ol u0 6 ((u0.2.1 6) ||| (jshl (1 : Int64) x1)))) := hD
        refine lv_goto (tgt := 61) hx hb dX4_putBit_33 (by decide) ?_
        have hf := Option.some.inj hf
        subst hf
        exact e_v (wf := (fun v : Ob => (wX4 G h0 a0 v))) hx hb hr hlk (ol u0 6 ((u0.2.1 6) ||| (jshl (1 : Int64) x1))) rfl hP hK hD hS dX4_putBit_61
  · have hf := tn hf c1
    have hf := Option.some.inj hf
    subst hf
    exact e_v (wf := (fun v : Ob => (wX4 G h0 a0 v))) hx hb hr hlk u0 rfl hP hK hD hS dX4_putBit_6
set_option maxRecDepth 100000 in
set_option maxHeartbeats 4000000 in
theorem c_X4_beginMinute {l : Launch} {G : Gp} {sz N : Nat} {x1 : Int32} {x2 : Int32} {h0 : Nat} {a0 : Nat → Nat} {u0 : Ob} {q : Ob} (hf : f_X4_beginMinute N x1 x2 u0 = some q) : Met l yX4_beginMinute (Cond.code yX4_beginMinute cX4_beginMinute 3 none :: lw_g) ({ frames := 1, cells := 0, slots := 0, locals := 23 } : Room) (va_Pc [.ref h0, .int x1, .int x2] (pw G (wX4 G h0 a0 u0) sz)) (va_Qv (fun v : Ob => q = v) (bw G (fun v : Ob => (wX4 G h0 a0 v)) (va_A (wX4 G h0 a0 u0) sz)) (va_A (wX4 G h0 a0 u0) sz)) 0 0 (va_A (wX4 G h0 a0 u0) sz) := by
  refine mt (Qc := (fun A => va_Qv (fun v : Ob => q = v) (bw G (fun v : Ob => (wX4 G h0 a0 v)) A) A)) (by decide) (Nat.le_of_ble_eq_true rfl) ?_
  intro p e s m below meth c A ls hx hb hr hlk hml hts hown hA hP hK hD hE hS hl
  have hown : s.vm.findClass RX4 = some m.cls := hown
  have hg : ∀ w ∈ lw_g, w.before ([.ref h0, .int x1, .int x2] : List Value).toArray s = true := fun w h => hts w (List.mem_cons_of_mem _ h)
  have hC : CallFix p m c cX4_beginMinute 3 s ([.ref h0, .int x1, .int x2] : List Value).toArray (Cond.code yX4_beginMinute cX4_beginMinute 3 none :: lw_g) RX4 := ⟨hx, hb, hml, hown, hts⟩
  have hl : lv_has ls 3 [(0, .ref h0), (1, .int x1), (2, .int x2)] := hl
  rw [f_X4_beginMinute] at hf
  refine lv_aload_n hx hb dX4_beginMinute_0 rfl (lv_at hl 0 rfl) ?_
  refine lv_lconst (v := (0 : Int64)) hx hb dX4_beginMinute_1 (by decide) ?_
  refine va_put (D := gD G) (ci := 2) (v := .long (0 : Int64)) (ty := .long) (C := RX4) (T := TX4) (N := 18) hx hb hg kl_X4 tyX4 tyX4_ok nmX4 hown hK hP hD hS 0 rfl rfl 6 (by decide) (hg _ kq1_65) (fun _ h9 => h9) rfl (by decide +kernel) rfl rfl (Nat.le_of_ble_eq_true rfl) dX4_beginMinute_2 (fun H locs hP hD hS => ?_)
  have hP : va_P (gD G) vwCl (wX4 G h0 a0 (ol u0 6 (0 : Int64))) H := hP
  have hD : va_D A (wX4 G h0 a0 (ol u0 6 (0 : Int64))) := hD
  refine lv_aload_n hx hb dX4_beginMinute_5 rfl (lv_at hl 0 rfl) ?_
  refine lv_lconst (v := (0 : Int64)) hx hb dX4_beginMinute_6 (by decide) ?_
  refine va_put (D := gD G) (ci := 2) (v := .long (0 : Int64)) (ty := .long) (C := RX4) (T := TX4) (N := 18) hx hb hg kl_X4 tyX4 tyX4_ok nmX4 hown hK hP hD hS 0 rfl rfl 7 (by decide) (hg _ kq1_67) (fun _ h9 => h9) rfl (by decide +kernel) rfl rfl (Nat.le_of_ble_eq_true rfl) dX4_beginMinute_7 (fun H locs hP hD hS => ?_)
  have hP : va_P (gD G) vwCl (wX4 G h0 a0 (ol (ol u0 6 (0 : Int64)) 7 (0 : Int64))) H := hP
  have hD : va_D A (wX4 G h0 a0 (ol (ol u0 6 (0 : Int64)) 7 (0 : Int64))) := hD
  refine lv_aload_n hx hb dX4_beginMinute_10 rfl (lv_at hl 0 rfl) ?_
  refine lv_bipush (v := (60 : Int32)) hx hb dX4_beginMinute_11 (by decide) ?_
  refine va_put (D := gD G) (ci := 2) (v := .int (60 : Int32)) (ty := .int) (C := RX4) (T := TX4) (N := 18) hx hb hg kl_X4 tyX4 tyX4_ok nmX4 hown hK hP hD hS 0 rfl rfl 5 (by decide) (hg _ kq1_63) (fun _ h9 => h9) rfl (by decide +kernel) rfl rfl (Nat.le_of_ble_eq_true rfl) dX4_beginMinute_13 (fun H locs hP hD hS => ?_)
  have hP : va_P (gD G) vwCl (wX4 G h0 a0 (oi (ol (ol u0 6 (0 : Int64)) 7 (0 : Int64)) 5 (60 : Int32))) H := hP
  have hD : va_D A (wX4 G h0 a0 (oi (ol (ol u0 6 (0 : Int64)) 7 (0 : Int64)) 5 (60 : Int32))) := hD
  refine lv_aload_n hx hb dX4_beginMinute_16 rfl (lv_at hl 0 rfl) ?_
  refine lv_iconst (v := (0 : Int32)) hx hb dX4_beginMinute_17 (by decide) ?_
  refine lv_iload_n hx hb dX4_beginMinute_18 rfl (lv_at hl 1 rfl) ?_
  refine lv_iconst (v := (1 : Int32)) hx hb dX4_beginMinute_19 (by decide) ?_
  refine lv_isub hx hb dX4_beginMinute_20 ?_
  obtain ⟨q1, e2, hf⟩ := tbd hf
  refine kVv1 (As := [.int (0 : Int32), .int (x1 - (1 : Int32))]) (rest := []) hC (c_X4_doubtSeconds (G := G) e2) kq3_121 kc_X4_doubtSeconds (by decide) 0 (ci := 2) rfl rfl hP hK hD hE hS hA hl.1 (Nat.le_of_ble_eq_true rfl) ⟨Nat.zero_le _, Nat.zero_le _⟩ dX4_beginMinute_21 (fun u9 H locs hw hP hD hS => ?_)
  obtain rfl := hw
  have hP : va_P (gD G) vwCl (wX4 G h0 a0 q1) H := hP
  have hD : va_D A (wX4 G h0 a0 q1) := hD
  refine lv_aload_n hx hb dX4_beginMinute_24 rfl (lv_at hl 0 rfl) ?_
  refine lv_iload_n hx hb dX4_beginMinute_25 rfl (lv_at hl 1 rfl) ?_
  refine va_put (D := gD G) (ci := 2) (v := .int x1) (ty := .int) (C := RX4) (T := TX4) (N := 18) hx hb hg kl_X4 tyX4 tyX4_ok nmX4 hown hK hP hD hS 0 rfl rfl 4 (by decide) (hg _ kq1_61) (fun _ h9 => h9) rfl (by decide +kernel) rfl rfl (Nat.le_of_ble_eq_true rfl) dX4_beginMinute_26 (fun H locs hP hD hS => ?_)
  have hP : va_P (gD G) vwCl (wX4 G h0 a0 (oi q1 4 x1)) H := hP
  have hD : va_D A (wX4 G h0 a0 (oi q1 4 x1)) := hD
  refine lv_aload_n hx hb dX4_beginMinute_29 rfl (lv_at hl 0 rfl) ?_
  refine lv_iload_n hx hb dX4_beginMinute_30 rfl (lv_at hl 1 rfl) ?_
  refine lv_iload_n hx hb dX4_beginMinute_31 rfl (lv_at hl 2 rfl) ?_
  obtain ⟨q3, e4, hf⟩ := tbd hf
  refine kVv1 (As := [.int x1, .int x2]) (rest := []) hC (c_X4_putBit (G := G) e4) kq3_125 kc_X4_putBit (by decide) 0 (ci := 2) rfl rfl hP hK hD hE hS hA hl.1 (Nat.le_of_ble_eq_true rfl) ⟨Nat.zero_le _, Nat.zero_le _⟩ dX4_beginMinute_32 (fun u9 H locs hw hP hD hS => ?_)
  obtain rfl := hw
  have hP : va_P (gD G) vwCl (wX4 G h0 a0 q3) H := hP
  have hD : va_D A (wX4 G h0 a0 q3) := hD
  have hf := Option.some.inj hf
  subst hf
  exact e_v (wf := (fun v : Ob => (wX4 G h0 a0 v))) hx hb hr hlk q3 rfl hP hK hD hS dX4_beginMinute_35
set_option maxRecDepth 100000 in
set_option maxHeartbeats 4000000 in
theorem c_X4_keepFrame {l : Launch} {G : Gp} {sz N : Nat} {h0 : Nat} {a0 : Nat → Nat} {u0 : Ob} {q : Ob} (hf : f_X4_keepFrame N u0 = some q) : Met l yX4_keepFrame (Cond.code yX4_keepFrame cX4_keepFrame 1 none :: lw_g) ({ frames := 4, cells := 0, slots := 0, locals := 102 } : Room) (va_Pc [.ref h0] (pw G (wX4 G h0 a0 u0) sz)) (va_Qv (fun v : Ob => q = v) (bw G (fun v : Ob => (wX4 G h0 a0 v)) (va_A (wX4 G h0 a0 u0) sz)) (va_A (wX4 G h0 a0 u0) sz)) 0 0 (va_A (wX4 G h0 a0 u0) sz) := by
  refine mt (Qc := (fun A => va_Qv (fun v : Ob => q = v) (bw G (fun v : Ob => (wX4 G h0 a0 v)) A) A)) (by decide) (Nat.le_of_ble_eq_true rfl) ?_
  intro p e s m below meth c A ls hx hb hr hlk hml hts hown hA hP hK hD hE hS hl
  have hown : s.vm.findClass RX4 = some m.cls := hown
  have hg : ∀ w ∈ lw_g, w.before ([.ref h0] : List Value).toArray s = true := fun w h => hts w (List.mem_cons_of_mem _ h)
  have hC : CallFix p m c cX4_keepFrame 1 s ([.ref h0] : List Value).toArray (Cond.code yX4_keepFrame cX4_keepFrame 1 none :: lw_g) RX4 := ⟨hx, hb, hml, hown, hts⟩
  have hl : lv_has ls 1 [(0, .ref h0)] := hl
  rw [f_X4_keepFrame] at hf
  refine lv_aload_n hx hb dX4_keepFrame_0 rfl (lv_at hl 0 rfl) ?_
  refine lv_aload_n hx hb dX4_keepFrame_1 rfl (lv_at hl 0 rfl) ?_
  refine va_get (D := gD G) (ci := 2) (v := .int (u0.1 4)) (C := RX4) (T := TX4) (N := 18) hx hb hg kl_X4 hown hK hP 0 rfl rfl 4 (by decide) (hg _ kq1_61) (fun _ h9 => h9) rfl dX4_keepFrame_2 ?_
  refine lv_iconst (v := (1 : Int32)) hx hb dX4_keepFrame_5 (by decide) ?_
  refine lv_iadd hx hb dX4_keepFrame_6 ?_
  refine lv_bipush (v := (58 : Int32)) hx hb dX4_keepFrame_7 (by decide) ?_
  obtain ⟨q1, e2, hf⟩ := tbd hf
  refine kVv1 (As := [.int ((u0.1 4) + (1 : Int32)), .int (58 : Int32)]) (rest := []) hC (c_X4_doubtSeconds (G := G) e2) kq3_121 kc_X4_doubtSeconds (by decide) 0 (ci := 2) rfl rfl hP hK hD hE hS hA hl.1 (Nat.le_of_ble_eq_true rfl) ⟨Nat.zero_le _, Nat.zero_le _⟩ dX4_keepFrame_9 (fun u9 H locs hw hP hD hS => ?_)
  obtain rfl := hw
  have hP : va_P (gD G) vwCl (wX4 G h0 a0 q1) H := hP
  have hD : va_D A (wX4 G h0 a0 q1) := hD
  refine lv_aload_n hx hb dX4_keepFrame_12 rfl (lv_at hl 0 rfl) ?_
  refine va_get (D := gD G) (ci := 2) (v := .ref (a0 8)) (C := RX4) (T := TX4) (N := 18) hx hb hg kl_X4 hown hK hP 0 rfl rfl 8 (by decide) (hg _ kq1_69) (fun _ h9 => h9) rfl dX4_keepFrame_13 ?_
  refine lv_iconst (v := (0 : Int32)) hx hb dX4_keepFrame_16 (by decide) ?_
  refine lv_aload_n hx hb dX4_keepFrame_17 rfl (lv_at hl 0 rfl) ?_
  refine va_get (D := gD G) (ci := 2) (v := .ref (a0 8)) (C := RX4) (T := TX4) (N := 18) hx hb hg kl_X4 hown hK hP 0 rfl rfl 8 (by decide) (hg _ kq1_69) (fun _ h9 => h9) rfl dX4_keepFrame_18 ?_
  refine lv_iconst (v := (1 : Int32)) hx hb dX4_keepFrame_21 (by decide) ?_
  refine lv_bipush (v := (7 : Int32)) hx hb dX4_keepFrame_22 (by decide) ?_
  refine va_copyl (f := (q1.2.2.2 8)) (g := (q1.2.2.2 8)) hx hb (hml.trans hl.1.symm) hown (hg _ kq2_96) (hg _ kq2_98) (hg _ kq2_97) (hg _ kq1_11) hK hP hD hS 2 2 2 2 rfl rfl rfl rfl rfl (by decide) (by decide) (by decide) (by decide) (by decide) (fun _ _ => rfl) (Nat.le_of_ble_eq_true rfl) (Nat.le_of_ble_eq_true rfl) dX4_keepFrame_24 (fun H locs hP hD hS => ?_)
  have hP : va_P (gD G) vwCl (wX4 G h0 a0 (oj q1 8 (va_cpy (q1.2.2.2 8) (q1.2.2.2 8) (0 : Int32).toNatClampNeg (1 : Int32).toNatClampNeg (7 : Int32).toNatClampNeg))) H := hP
  have hD : va_D A (wX4 G h0 a0 (oj q1 8 (va_cpy (q1.2.2.2 8) (q1.2.2.2 8) (0 : Int32).toNatClampNeg (1 : Int32).toNatClampNeg (7 : Int32).toNatClampNeg))) := hD
  refine lv_aload_n hx hb dX4_keepFrame_27 rfl (lv_at hl 0 rfl) ?_
  refine va_get (D := gD G) (ci := 2) (v := .ref (a0 9)) (C := RX4) (T := TX4) (N := 18) hx hb hg kl_X4 hown hK hP 0 rfl rfl 9 (by decide) (hg _ kq1_71) (fun _ h9 => h9) rfl dX4_keepFrame_28 ?_
  refine lv_iconst (v := (0 : Int32)) hx hb dX4_keepFrame_31 (by decide) ?_
  refine lv_aload_n hx hb dX4_keepFrame_32 rfl (lv_at hl 0 rfl) ?_
  refine va_get (D := gD G) (ci := 2) (v := .ref (a0 9)) (C := RX4) (T := TX4) (N := 18) hx hb hg kl_X4 hown hK hP 0 rfl rfl 9 (by decide) (hg _ kq1_71) (fun _ h9 => h9) rfl dX4_keepFrame_33 ?_
  refine lv_iconst (v := (1 : Int32)) hx hb dX4_keepFrame_36 (by decide) ?_
  refine lv_bipush (v := (7 : Int32)) hx hb dX4_keepFrame_37 (by decide) ?_
  refine va_copyl (f := (q1.2.2.2 9)) (g := (q1.2.2.2 9)) hx hb (hml.trans hl.1.symm) hown (hg _ kq2_96) (hg _ kq2_98) (hg _ kq2_97) (hg _ kq1_11) hK hP hD hS 3 3 2 2 rfl rfl rfl rfl rfl (by decide) (by decide) (by decide) (by decide) (by decide) (fun _ _ => rfl) (Nat.le_of_ble_eq_true rfl) (Nat.le_of_ble_eq_true rfl) dX4_keepFrame_39 (fun H locs hP hD hS => ?_)
  have hP : va_P (gD G) vwCl (wX4 G h0 a0 (oj (oj q1 8 (va_cpy (q1.2.2.2 8) (q1.2.2.2 8) (0 : Int32).toNatClampNeg (1 : Int32).toNatClampNeg (7 : Int32).toNatClampNeg)) 9 (va_cpy (q1.2.2.2 9) (q1.2.2.2 9) (0 : Int32).toNatClampNeg (1 : Int32).toNatClampNeg (7 : Int32).toNatClampNeg))) H := hP
  have hD : va_D A (wX4 G h0 a0 (oj (oj q1 8 (va_cpy (q1.2.2.2 8) (q1.2.2.2 8) (0 : Int32).toNatClampNeg (1 : Int32).toNatClampNeg (7 : Int32).toNatClampNeg)) 9 (va_cpy (q1.2.2.2 9) (q1.2.2.2 9) (0 : Int32).toNatClampNeg (1 : Int32).toNatClampNeg (7 : Int32).toNatClampNeg))) := hD
  refine lv_aload_n hx hb dX4_keepFrame_42 rfl (lv_at hl 0 rfl) ?_
  refine va_get (D := gD G) (ci := 2) (v := .ref (a0 10)) (C := RX4) (T := TX4) (N := 18) hx hb hg kl_X4 hown hK hP 0 rfl rfl 10 (by decide) (hg _ kq1_73) (fun _ h9 => h9) rfl dX4_keepFrame_43 ?_
  refine lv_iconst (v := (0 : Int32)) hx hb dX4_keepFrame_46 (by decide) ?_
  refine lv_aload_n hx hb dX4_keepFrame_47 rfl (lv_at hl 0 rfl) ?_
  refine va_get (D := gD G) (ci := 2) (v := .ref (a0 10)) (C := RX4) (T := TX4) (N := 18) hx hb hg kl_X4 hown hK hP 0 rfl rfl 10 (by decide) (hg _ kq1_73) (fun _ h9 => h9) rfl dX4_keepFrame_48 ?_
  refine lv_iconst (v := (1 : Int32)) hx hb dX4_keepFrame_51 (by decide) ?_
  refine lv_bipush (v := (7 : Int32)) hx hb dX4_keepFrame_52 (by decide) ?_
  refine va_copyi (f := (q1.2.2.1 10)) (g := (q1.2.2.1 10)) hx hb (hml.trans hl.1.symm) hown (hg _ kq2_96) (hg _ kq2_98) (hg _ kq2_97) (hg _ kq1_11) hK hP hD hS 4 4 1 1 rfl rfl rfl rfl rfl (by decide) (by decide) (by decide) (by decide) (by decide) (fun _ _ => rfl) (Nat.le_of_ble_eq_true rfl) (Nat.le_of_ble_eq_true rfl) dX4_keepFrame_54 (fun H locs hP hD hS => ?_)
  have hP : va_P (gD G) vwCl (wX4 G h0 a0 (oa (oj (oj q1 8 (va_cpy (q1.2.2.2 8) (q1.2.2.2 8) (0 : Int32).toNatClampNeg (1 : Int32).toNatClampNeg (7 : Int32).toNatClampNeg)) 9 (va_cpy (q1.2.2.2 9) (q1.2.2.2 9) (0 : Int32).toNatClampNeg (1 : Int32).toNatClampNeg (7 : Int32).toNatClampNeg)) 10 (va_cpy (q1.2.2.1 10) (q1.2.2.1 10) (0 : Int32).toNatClampNeg (1 : Int32).toNatClampNeg (7 : Int32).toNatClampNeg))) H := hP
  have hD : va_D A (wX4 G h0 a0 (oa (oj (oj q1 8 (va_cpy (q1.2.2.2 8) (q1.2.2.2 8) (0 : Int32).toNatClampNeg (1 : Int32).toNatClampNeg (7 : Int32).toNatClampNeg)) 9 (va_cpy (q1.2.2.2 9) (q1.2.2.2 9) (0 : Int32).toNatClampNeg (1 : Int32).toNatClampNeg (7 : Int32).toNatClampNeg)) 10 (va_cpy (q1.2.2.1 10) (q1.2.2.1 10) (0 : Int32).toNatClampNeg (1 : Int32).toNatClampNeg (7 : Int32).toNatClampNeg))) := hD
  refine lv_aload_n hx hb dX4_keepFrame_57 rfl (lv_at hl 0 rfl) ?_
  refine va_get (D := gD G) (ci := 2) (v := .ref (a0 8)) (C := RX4) (T := TX4) (N := 18) hx hb hg kl_X4 hown hK hP 0 rfl rfl 8 (by decide) (hg _ kq1_69) (fun _ h9 => h9) rfl dX4_keepFrame_58 ?_
  refine lv_iconst (v := (0 : Int32)) hx hb dX4_keepFrame_61 (by decide) ?_
  refine lv_aload_n hx hb dX4_keepFrame_62 rfl (lv_at hl 0 rfl) ?_
  refine va_get (D := gD G) (ci := 2) (v := .long (q1.2.1 6)) (C := RX4) (T := TX4) (N := 18) hx hb hg kl_X4 hown hK hP 0 rfl rfl 6 (by decide) (hg _ kq1_65) (fun _ h9 => h9) rfl dX4_keepFrame_63 ?_
  refine va_last (f := (va_cpy (q1.2.2.2 8) (q1.2.2.2 8) (0 : Int32).toNatClampNeg (1 : Int32).toNatClampNeg (7 : Int32).toNatClampNeg)) hx hb hK hP hD hS 2 2 rfl rfl (vin (by decide)) dX4_keepFrame_66 (fun H locs hP hD hS => ?_)
  have hP : va_P (gD G) vwCl (wX4 G h0 a0 (oj (oa (oj (oj q1 8 (va_cpy (q1.2.2.2 8) (q1.2.2.2 8) (0 : Int32).toNatClampNeg (1 : Int32).toNatClampNeg (7 : Int32).toNatClampNeg)) 9 (va_cpy (q1.2.2.2 9) (q1.2.2.2 9) (0 : Int32).toNatClampNeg (1 : Int32).toNatClampNeg (7 : Int32).toNatClampNeg)) 10 (va_cpy (q1.2.2.1 10) (q1.2.2.1 10) (0 : Int32).toNatClampNeg (1 : Int32).toNatClampNeg (7 : Int32).toNatClampNeg)) 8 (vp_updL (va_cpy (q1.2.2.2 8) (q1.2.2.2 8) (0 : Int32).toNatClampNeg (1 : Int32).toNatClampNeg (7 : Int32).toNatClampNeg) (0 : Int32).toNatClampNeg (q1.2.1 6)))) H := hP
  have hD : va_D A (wX4 G h0 a0 (oj (oa (oj (oj q1 8 (va_cpy (q1.2.2.2 8) (q1.2.2.2 8) (0 : Int32).toNatClampNeg (1 : Int32).toNatClampNeg (7 : Int32).toNatClampNeg)) 9 (va_cpy (q1.2.2.2 9) (q1.2.2.2 9) (0 : Int32).toNatClampNeg (1 : Int32).toNatClampNeg (7 : Int32).toNatClampNeg)) 10 (va_cpy (q1.2.2.1 10) (q1.2.2.1 10) (0 : Int32).toNatClampNeg (1 : Int32).toNatClampNeg (7 : Int32).toNatClampNeg)) 8 (vp_updL (va_cpy (q1.2.2.2 8) (q1.2.2.2 8) (0 : Int32).toNatClampNeg (1 : Int32).toNatClampNeg (7 : Int32).toNatClampNeg) (0 : Int32).toNatClampNeg (q1.2.1 6)))) := hD
  refine lv_aload_n hx hb dX4_keepFrame_67 rfl (lv_at hl 0 rfl) ?_
  refine va_get (D := gD G) (ci := 2) (v := .ref (a0 9)) (C := RX4) (T := TX4) (N := 18) hx hb hg kl_X4 hown hK hP 0 rfl rfl 9 (by decide) (hg _ kq1_71) (fun _ h9 => h9) rfl dX4_keepFrame_68 ?_
  refine lv_iconst (v := (0 : Int32)) hx hb dX4_keepFrame_71 (by decide) ?_
  refine lv_aload_n hx hb dX4_keepFrame_72 rfl (lv_at hl 0 rfl) ?_
  refine va_get (D := gD G) (ci := 2) (v := .long (q1.2.1 7)) (C := RX4) (T := TX4) (N := 18) hx hb hg kl_X4 hown hK hP 0 rfl rfl 7 (by decide) (hg _ kq1_67) (fun _ h9 => h9) rfl dX4_keepFrame_73 ?_
  refine va_last (f := (va_cpy (q1.2.2.2 9) (q1.2.2.2 9) (0 : Int32).toNatClampNeg (1 : Int32).toNatClampNeg (7 : Int32).toNatClampNeg)) hx hb hK hP hD hS 3 2 rfl rfl (vin (by decide)) dX4_keepFrame_76 (fun H locs hP hD hS => ?_)
  have hP : va_P (gD G) vwCl (wX4 G h0 a0 (oj (oj (oa (oj (oj q1 8 (va_cpy (q1.2.2.2 8) (q1.2.2.2 8) (0 : Int32).toNatClampNeg (1 : Int32).toNatClampNeg (7 : Int32).toNatClampNeg)) 9 (va_cpy (q1.2.2.2 9) (q1.2.2.2 9) (0 : Int32).toNatClampNeg (1 : Int32).toNatClampNeg (7 : Int32).toNatClampNeg)) 10 (va_cpy (q1.2.2.1 10) (q1.2.2.1 10) (0 : Int32).toNatClampNeg (1 : Int32).toNatClampNeg (7 : Int32).toNatClampNeg)) 8 (vp_updL (va_cpy (q1.2.2.2 8) (q1.2.2.2 8) (0 : Int32).toNatClampNeg (1 : Int32).toNatClampNeg (7 : Int32).toNatClampNeg) (0 : Int32).toNatClampNeg (q1.2.1 6))) 9 (vp_updL (va_cpy (q1.2.2.2 9) (q1.2.2.2 9) (0 : Int32).toNatClampNeg (1 : Int32).toNatClampNeg (7 : Int32).toNatClampNeg) (0 : Int32).toNatClampNeg (q1.2.1 7)))) H := hP
  have hD : va_D A (wX4 G h0 a0 (oj (oj (oa (oj (oj q1 8 (va_cpy (q1.2.2.2 8) (q1.2.2.2 8) (0 : Int32).toNatClampNeg (1 : Int32).toNatClampNeg (7 : Int32).toNatClampNeg)) 9 (va_cpy (q1.2.2.2 9) (q1.2.2.2 9) (0 : Int32).toNatClampNeg (1 : Int32).toNatClampNeg (7 : Int32).toNatClampNeg)) 10 (va_cpy (q1.2.2.1 10) (q1.2.2.1 10) (0 : Int32).toNatClampNeg (1 : Int32).toNatClampNeg (7 : Int32).toNatClampNeg)) 8 (vp_updL (va_cpy (q1.2.2.2 8) (q1.2.2.2 8) (0 : Int32).toNatClampNeg (1 : Int32).toNatClampNeg (7 : Int32).toNatClampNeg) (0 : Int32).toNatClampNeg (q1.2.1 6))) 9 (vp_updL (va_cpy (q1.2.2.2 9) (q1.2.2.2 9) (0 : Int32).toNatClampNeg (1 : Int32).toNatClampNeg (7 : Int32).toNatClampNeg) (0 : Int32).toNatClampNeg (q1.2.1 7)))) := hD
  refine lv_aload_n hx hb dX4_keepFrame_77 rfl (lv_at hl 0 rfl) ?_
  refine va_get (D := gD G) (ci := 2) (v := .ref (a0 10)) (C := RX4) (T := TX4) (N := 18) hx hb hg kl_X4 hown hK hP 0 rfl rfl 10 (by decide) (hg _ kq1_73) (fun _ h9 => h9) rfl dX4_keepFrame_78 ?_
  refine lv_iconst (v := (0 : Int32)) hx hb dX4_keepFrame_81 (by decide) ?_
  refine lv_aload_n hx hb dX4_keepFrame_82 rfl (lv_at hl 0 rfl) ?_
  refine va_get (D := gD G) (ci := 2) (v := .long (q1.2.1 6)) (C := RX4) (T := TX4) (N := 18) hx hb hg kl_X4 hown hK hP 0 rfl rfl 6 (by decide) (hg _ kq1_65) (fun _ h9 => h9) rfl dX4_keepFrame_83 ?_
  refine lv_aload_n hx hb dX4_keepFrame_86 rfl (lv_at hl 0 rfl) ?_
  refine va_get (D := gD G) (ci := 2) (v := .long (q1.2.1 7)) (C := RX4) (T := TX4) (N := 18) hx hb hg kl_X4 hown hK hP 0 rfl rfl 7 (by decide) (hg _ kq1_67) (fun _ h9 => h9) rfl dX4_keepFrame_87 ?_
  obtain ⟨q3, e4, hf⟩ := tbd hf
  refine kSi0 (As := [.long (q1.2.1 6), .long (q1.2.1 7)]) (rest := [.int (0 : Int32), .ref (a0 10)]) hC (c_X2_minuteOf (G := G) e4) kq3_133 kc_X2_minuteOf (by decide) hP hK hD hE hS hA hl.1 (Nat.le_of_ble_eq_true rfl) ⟨Nat.zero_le _, Nat.zero_le _⟩ dX4_keepFrame_90 (fun r9 u9 H locs hw hP hD hS => ?_)
  obtain ⟨rfl, rfl⟩ := hw
  refine va_iast (f := (va_cpy (q1.2.2.1 10) (q1.2.2.1 10) (0 : Int32).toNatClampNeg (1 : Int32).toNatClampNeg (7 : Int32).toNatClampNeg)) hx hb hK hP hD hS 4 1 rfl rfl (vin (by decide)) dX4_keepFrame_93 (fun H locs hP hD hS => ?_)
  have hP : va_P (gD G) vwCl (wX4 G h0 a0 (oa (oj (oj (oa (oj (oj q1 8 (va_cpy (q1.2.2.2 8) (q1.2.2.2 8) (0 : Int32).toNatClampNeg (1 : Int32).toNatClampNeg (7 : Int32).toNatClampNeg)) 9 (va_cpy (q1.2.2.2 9) (q1.2.2.2 9) (0 : Int32).toNatClampNeg (1 : Int32).toNatClampNeg (7 : Int32).toNatClampNeg)) 10 (va_cpy (q1.2.2.1 10) (q1.2.2.1 10) (0 : Int32).toNatClampNeg (1 : Int32).toNatClampNeg (7 : Int32).toNatClampNeg)) 8 (vp_updL (va_cpy (q1.2.2.2 8) (q1.2.2.2 8) (0 : Int32).toNatClampNeg (1 : Int32).toNatClampNeg (7 : Int32).toNatClampNeg) (0 : Int32).toNatClampNeg (q1.2.1 6))) 9 (vp_updL (va_cpy (q1.2.2.2 9) (q1.2.2.2 9) (0 : Int32).toNatClampNeg (1 : Int32).toNatClampNeg (7 : Int32).toNatClampNeg) (0 : Int32).toNatClampNeg (q1.2.1 7))) 10 (upd (va_cpy (q1.2.2.1 10) (q1.2.2.1 10) (0 : Int32).toNatClampNeg (1 : Int32).toNatClampNeg (7 : Int32).toNatClampNeg) (0 : Int32).toNatClampNeg q3))) H := hP
  have hD : va_D A (wX4 G h0 a0 (oa (oj (oj (oa (oj (oj q1 8 (va_cpy (q1.2.2.2 8) (q1.2.2.2 8) (0 : Int32).toNatClampNeg (1 : Int32).toNatClampNeg (7 : Int32).toNatClampNeg)) 9 (va_cpy (q1.2.2.2 9) (q1.2.2.2 9) (0 : Int32).toNatClampNeg (1 : Int32).toNatClampNeg (7 : Int32).toNatClampNeg)) 10 (va_cpy (q1.2.2.1 10) (q1.2.2.1 10) (0 : Int32).toNatClampNeg (1 : Int32).toNatClampNeg (7 : Int32).toNatClampNeg)) 8 (vp_updL (va_cpy (q1.2.2.2 8) (q1.2.2.2 8) (0 : Int32).toNatClampNeg (1 : Int32).toNatClampNeg (7 : Int32).toNatClampNeg) (0 : Int32).toNatClampNeg (q1.2.1 6))) 9 (vp_updL (va_cpy (q1.2.2.2 9) (q1.2.2.2 9) (0 : Int32).toNatClampNeg (1 : Int32).toNatClampNeg (7 : Int32).toNatClampNeg) (0 : Int32).toNatClampNeg (q1.2.1 7))) 10 (upd (va_cpy (q1.2.2.1 10) (q1.2.2.1 10) (0 : Int32).toNatClampNeg (1 : Int32).toNatClampNeg (7 : Int32).toNatClampNeg) (0 : Int32).toNatClampNeg q3))) := hD
  refine lv_aload_n hx hb dX4_keepFrame_94 rfl (lv_at hl 0 rfl) ?_
  refine lv_aload_n hx hb dX4_keepFrame_95 rfl (lv_at hl 0 rfl) ?_
  refine va_get (D := gD G) (ci := 2) (v := .int (q1.1 11)) (C := RX4) (T := TX4) (N := 18) hx hb hg kl_X4 hown hK hP 0 rfl rfl 11 (by decide) (hg _ kq1_74) (fun _ h9 => h9) rfl dX4_keepFrame_96 ?_
  refine lv_iconst (v := (1 : Int32)) hx hb dX4_keepFrame_99 (by decide) ?_
  refine lv_iadd hx hb dX4_keepFrame_100 ?_
  refine lv_aload_n hx hb dX4_keepFrame_101 rfl (lv_at hl 0 rfl) ?_
  refine va_get (D := gD G) (ci := 2) (v := .ref (a0 0)) (C := RX4) (T := TX4) (N := 18) hx hb hg kl_X4 hown hK hP 0 rfl rfl 0 (by decide) (hg _ kq1_52) (fun _ h9 => h9) rfl dX4_keepFrame_102 ?_
  refine lv_iconst (v := (2 : Int32)) hx hb dX4_keepFrame_105 (by decide) ?_
  refine va_iald (f := (q1.2.2.1 0)) hx hb hK hP 1 1 rfl rfl (vin (by decide)) dX4_keepFrame_106 ?_
  refine va_mmin hx hb (hml.trans hl.1.symm) hown (hg _ kq3_145) (hg _ kq2_212) (hg _ kq1_12) (hg _ kq2_213) (Nat.le_of_ble_eq_true rfl) (Nat.le_of_ble_eq_true rfl) (Nat.zero_le _) (Nat.zero_le _) (x := ((q1.1 11) + (1 : Int32))) (y := ((q1.2.2.1 0) (2 : Int32).toNatClampNeg)) dX4_keepFrame_107 ?_
  refine va_put (D := gD G) (ci := 2) (v := .int (if ((q1.2.2.1 0) (2 : Int32).toNatClampNeg) < ((q1.1 11) + (1 : Int32)) then ((q1.2.2.1 0) (2 : Int32).toNatClampNeg) else ((q1.1 11) + (1 : Int32)))) (ty := .int) (C := RX4) (T := TX4) (N := 18) hx hb hg kl_X4 tyX4 tyX4_ok nmX4 hown hK hP hD hS 0 rfl rfl 11 (by decide) (hg _ kq1_74) (fun _ h9 => h9) rfl (by decide +kernel) rfl rfl (Nat.le_of_ble_eq_true rfl) dX4_keepFrame_110 (fun H locs hP hD hS => ?_)
  have hP : va_P (gD G) vwCl (wX4 G h0 a0 (oi (oa (oj (oj (oa (oj (oj q1 8 (va_cpy (q1.2.2.2 8) (q1.2.2.2 8) (0 : Int32).toNatClampNeg (1 : Int32).toNatClampNeg (7 : Int32).toNatClampNeg)) 9 (va_cpy (q1.2.2.2 9) (q1.2.2.2 9) (0 : Int32).toNatClampNeg (1 : Int32).toNatClampNeg (7 : Int32).toNatClampNeg)) 10 (va_cpy (q1.2.2.1 10) (q1.2.2.1 10) (0 : Int32).toNatClampNeg (1 : Int32).toNatClampNeg (7 : Int32).toNatClampNeg)) 8 (vp_updL (va_cpy (q1.2.2.2 8) (q1.2.2.2 8) (0 : Int32).toNatClampNeg (1 : Int32).toNatClampNeg (7 : Int32).toNatClampNeg) (0 : Int32).toNatClampNeg (q1.2.1 6))) 9 (vp_updL (va_cpy (q1.2.2.2 9) (q1.2.2.2 9) (0 : Int32).toNatClampNeg (1 : Int32).toNatClampNeg (7 : Int32).toNatClampNeg) (0 : Int32).toNatClampNeg (q1.2.1 7))) 10 (upd (va_cpy (q1.2.2.1 10) (q1.2.2.1 10) (0 : Int32).toNatClampNeg (1 : Int32).toNatClampNeg (7 : Int32).toNatClampNeg) (0 : Int32).toNatClampNeg q3)) 11 (if ((q1.2.2.1 0) (2 : Int32).toNatClampNeg) < ((q1.1 11) + (1 : Int32)) then ((q1.2.2.1 0) (2 : Int32).toNatClampNeg) else ((q1.1 11) + (1 : Int32))))) H := hP
  have hD : va_D A (wX4 G h0 a0 (oi (oa (oj (oj (oa (oj (oj q1 8 (va_cpy (q1.2.2.2 8) (q1.2.2.2 8) (0 : Int32).toNatClampNeg (1 : Int32).toNatClampNeg (7 : Int32).toNatClampNeg)) 9 (va_cpy (q1.2.2.2 9) (q1.2.2.2 9) (0 : Int32).toNatClampNeg (1 : Int32).toNatClampNeg (7 : Int32).toNatClampNeg)) 10 (va_cpy (q1.2.2.1 10) (q1.2.2.1 10) (0 : Int32).toNatClampNeg (1 : Int32).toNatClampNeg (7 : Int32).toNatClampNeg)) 8 (vp_updL (va_cpy (q1.2.2.2 8) (q1.2.2.2 8) (0 : Int32).toNatClampNeg (1 : Int32).toNatClampNeg (7 : Int32).toNatClampNeg) (0 : Int32).toNatClampNeg (q1.2.1 6))) 9 (vp_updL (va_cpy (q1.2.2.2 9) (q1.2.2.2 9) (0 : Int32).toNatClampNeg (1 : Int32).toNatClampNeg (7 : Int32).toNatClampNeg) (0 : Int32).toNatClampNeg (q1.2.1 7))) 10 (upd (va_cpy (q1.2.2.1 10) (q1.2.2.1 10) (0 : Int32).toNatClampNeg (1 : Int32).toNatClampNeg (7 : Int32).toNatClampNeg) (0 : Int32).toNatClampNeg q3)) 11 (if ((q1.2.2.1 0) (2 : Int32).toNatClampNeg) < ((q1.1 11) + (1 : Int32)) then ((q1.2.2.1 0) (2 : Int32).toNatClampNeg) else ((q1.1 11) + (1 : Int32))))) := hD
  have hf := Option.some.inj hf
  subst hf
  exact e_v (wf := (fun v : Ob => (wX4 G h0 a0 v))) hx hb hr hlk (oi (oa (oj (oj (oa (oj (oj q1 8 (va_cpy (q1.2.2.2 8) (q1.2.2.2 8) (0 : Int32).toNatClampNeg (1 : Int32).toNatClampNeg (7 : Int32).toNatClampNeg)) 9 (va_cpy (q1.2.2.2 9) (q1.2.2.2 9) (0 : Int32).toNatClampNeg (1 : Int32).toNatClampNeg (7 : Int32).toNatClampNeg)) 10 (va_cpy (q1.2.2.1 10) (q1.2.2.1 10) (0 : Int32).toNatClampNeg (1 : Int32).toNatClampNeg (7 : Int32).toNatClampNeg)) 8 (vp_updL (va_cpy (q1.2.2.2 8) (q1.2.2.2 8) (0 : Int32).toNatClampNeg (1 : Int32).toNatClampNeg (7 : Int32).toNatClampNeg) (0 : Int32).toNatClampNeg (q1.2.1 6))) 9 (vp_updL (va_cpy (q1.2.2.2 9) (q1.2.2.2 9) (0 : Int32).toNatClampNeg (1 : Int32).toNatClampNeg (7 : Int32).toNatClampNeg) (0 : Int32).toNatClampNeg (q1.2.1 7))) 10 (upd (va_cpy (q1.2.2.1 10) (q1.2.2.1 10) (0 : Int32).toNatClampNeg (1 : Int32).toNatClampNeg (7 : Int32).toNatClampNeg) (0 : Int32).toNatClampNeg q3)) 11 (if ((q1.2.2.1 0) (2 : Int32).toNatClampNeg) < ((q1.1 11) + (1 : Int32)) then ((q1.2.2.1 0) (2 : Int32).toNatClampNeg) else ((q1.1 11) + (1 : Int32)))) rfl hP hK hD hS dX4_keepFrame_113
set_option maxRecDepth 100000 in
set_option maxHeartbeats 4000000 in
theorem c_X4_minuteToldBy {l : Launch} {G : Gp} {sz N : Nat} {x1 : Int32} {h0 : Nat} {a0 : Nat → Nat} {u0 : Ob} {q : Int32} (hf : f_X4_minuteToldBy N x1 u0 = some q) : Met l yX4_minuteToldBy (Cond.code yX4_minuteToldBy cX4_minuteToldBy 2 (some .int) :: lw_g) ({ frames := 1, cells := 0, slots := 0, locals := 21 } : Room) (va_Pc [.ref h0, .int x1] (pw G (wX4 G h0 a0 u0) sz)) (va_Qi (fun (r : Int32) (v : Ob) => q = r ∧ u0 = v) (bw G (fun v : Ob => (wX4 G h0 a0 v)) (va_A (wX4 G h0 a0 u0) sz)) (va_A (wX4 G h0 a0 u0) sz)) 0 0 (va_A (wX4 G h0 a0 u0) sz) := by
  refine mt (Qc := (fun A => va_Qi (fun (r : Int32) (v : Ob) => q = r ∧ u0 = v) (bw G (fun v : Ob => (wX4 G h0 a0 v)) A) A)) (by decide) (Nat.le_of_ble_eq_true rfl) ?_
  intro p e s m below meth c A ls hx hb hr hlk hml hts hown hA hP hK hD hE hS hl
  have hown : s.vm.findClass RX4 = some m.cls := hown
  have hg : ∀ w ∈ lw_g, w.before ([.ref h0, .int x1] : List Value).toArray s = true := fun w h => hts w (List.mem_cons_of_mem _ h)
  have hC : CallFix p m c cX4_minuteToldBy 2 s ([.ref h0, .int x1] : List Value).toArray (Cond.code yX4_minuteToldBy cX4_minuteToldBy 2 (some .int) :: lw_g) RX4 := ⟨hx, hb, hml, hown, hts⟩
  have hl : lv_has ls 2 [(0, .ref h0), (1, .int x1)] := hl
  rw [f_X4_minuteToldBy] at hf
  refine lv_aload_n hx hb dX4_minuteToldBy_0 rfl (lv_at hl 0 rfl) ?_
  refine va_get (D := gD G) (ci := 2) (v := .ref (a0 9)) (C := RX4) (T := TX4) (N := 18) hx hb hg kl_X4 hown hK hP 0 rfl rfl 9 (by decide) (hg _ kq1_71) (fun _ h9 => h9) rfl dX4_minuteToldBy_1 ?_
  refine lv_iload_n hx hb dX4_minuteToldBy_4 rfl (lv_at hl 1 rfl) ?_
  obtain ⟨b1, hf⟩ := tno hf
  refine va_lald (f := (u0.2.2.2 9)) hx hb hK hP 3 2 rfl rfl b1 dX4_minuteToldBy_5 ?_
  refine lv_ldc2 hx hb hown (hg _ kq1_237) dX4_minuteToldBy_6 ?_
  refine lv_land hx hb dX4_minuteToldBy_9 ?_
  obtain ⟨q2, e3, hf⟩ := tbd hf
  refine kSi0 (As := [.long (((u0.2.2.2 9) x1.toNatClampNeg) &&& (576460752302899201 : Int64))]) (rest := []) hC (c_J13_bitCount_95d88 (G := G) e3) kq1_238 kc_J13_bitCount_95d88 (by decide) hP hK hD hE hS hA hl.1 (Nat.le_of_ble_eq_true rfl) ⟨Nat.zero_le _, Nat.zero_le _⟩ dX4_minuteToldBy_10 (fun r9 u9 H locs hw hP hD hS => ?_)
  obtain ⟨rfl, rfl⟩ := hw
  refine lv_aload_n hx hb dX4_minuteToldBy_13 rfl (lv_at hl 0 rfl) ?_
  refine va_get (D := gD G) (ci := 2) (v := .ref (a0 0)) (C := RX4) (T := TX4) (N := 18) hx hb hg kl_X4 hown hK hP 0 rfl rfl 0 (by decide) (hg _ kq1_52) (fun _ h9 => h9) rfl dX4_minuteToldBy_14 ?_
  refine lv_iconst (v := (3 : Int32)) hx hb dX4_minuteToldBy_17 (by decide) ?_
  refine va_iald (f := (u0.2.2.1 0)) hx hb hK hP 1 1 rfl rfl (vin (by decide)) dX4_minuteToldBy_18 ?_
  refine lv_icmp_le (tgt := 26) hx hb dX4_minuteToldBy_19 (by decide) (fun c4 => ?_) (fun c4 => ?_)
  · have hf := tp hf c4
    refine lv_aload_n hx hb dX4_minuteToldBy_26 rfl (lv_at hl 0 rfl) ?_
    refine va_get (D := gD G) (ci := 2) (v := .ref (a0 10)) (C := RX4) (T := TX4) (N := 18) hx hb hg kl_X4 hown hK hP 0 rfl rfl 10 (by decide) (hg _ kq1_73) (fun _ h9 => h9) rfl dX4_minuteToldBy_27 ?_
    refine lv_iload_n hx hb dX4_minuteToldBy_30 rfl (lv_at hl 1 rfl) ?_
    obtain ⟨b5, hf⟩ := tno hf
    refine va_iald (f := (u0.2.2.1 10)) hx hb hK hP 4 1 rfl rfl b5 dX4_minuteToldBy_31 ?_
    have hf := Option.some.inj hf
    subst hf
    exact e_i (wf := (fun v : Ob => (wX4 G h0 a0 v))) hx hb hr hlk u0 ⟨rfl, rfl⟩ hP hK hD hS dX4_minuteToldBy_32
  · have hf := tn hf c4
    refine lv_iconst (v := (-1 : Int32)) hx hb dX4_minuteToldBy_22 (by decide) ?_
    refine lv_goto (tgt := 32) hx hb dX4_minuteToldBy_23 (by decide) ?_
    have hf := Option.some.inj hf
    subst hf
    exact e_i (wf := (fun v : Ob => (wX4 G h0 a0 v))) hx hb hr hlk u0 ⟨rfl, rfl⟩ hP hK hD hS dX4_minuteToldBy_32
set_option maxRecDepth 100000 in
set_option maxHeartbeats 4000000 in
theorem c_X4_voteOf {l : Launch} {G : Gp} {sz N : Nat} {x1 : Int32} {h0 : Nat} {a0 : Nat → Nat} {u0 : Ob} {q : Int32} (hf : f_X4_voteOf N x1 u0 = some q) : Met l yX4_voteOf (Cond.code yX4_voteOf cX4_voteOf 3 (some .int) :: lw_g) ({ frames := 2, cells := 0, slots := 0, locals := 42 } : Room) (va_Pc [.ref h0, .int x1] (pw G (wX4 G h0 a0 u0) sz)) (va_Qi (fun (r : Int32) (v : Ob) => q = r ∧ u0 = v) (bw G (fun v : Ob => (wX4 G h0 a0 v)) (va_A (wX4 G h0 a0 u0) sz)) (va_A (wX4 G h0 a0 u0) sz)) 0 0 (va_A (wX4 G h0 a0 u0) sz) := by
  refine mt (Qc := (fun A => va_Qi (fun (r : Int32) (v : Ob) => q = r ∧ u0 = v) (bw G (fun v : Ob => (wX4 G h0 a0 v)) A) A)) (by decide) (Nat.le_of_ble_eq_true rfl) ?_
  intro p e s m below meth c A ls hx hb hr hlk hml hts hown hA hP hK hD hE hS hl
  have hown : s.vm.findClass RX4 = some m.cls := hown
  have hg : ∀ w ∈ lw_g, w.before ([.ref h0, .int x1] : List Value).toArray s = true := fun w h => hts w (List.mem_cons_of_mem _ h)
  have hC : CallFix p m c cX4_voteOf 3 s ([.ref h0, .int x1] : List Value).toArray (Cond.code yX4_voteOf cX4_voteOf 3 (some .int) :: lw_g) RX4 := ⟨hx, hb, hml, hown, hts⟩
  have hl : lv_has ls 3 [(0, .ref h0), (1, .int x1)] := hl
  rw [f_X4_voteOf] at hf
  refine lv_aload_n hx hb dX4_voteOf_0 rfl (lv_at hl 0 rfl) ?_
  refine lv_iload_n hx hb dX4_voteOf_1 rfl (lv_at hl 1 rfl) ?_
  obtain ⟨q1, e2, hf⟩ := tbd hf
  refine kVi1 (As := [.int x1]) (rest := []) hC (c_X4_minuteToldBy (G := G) e2) kq1_233 kc_X4_minuteToldBy (by decide) 0 (ci := 2) rfl rfl hP hK hD hE hS hA hl.1 (Nat.le_of_ble_eq_true rfl) ⟨Nat.zero_le _, Nat.zero_le _⟩ dX4_voteOf_2 (fun r9 u9 H locs hw hP hD hS => ?_)
  obtain ⟨rfl, rfl⟩ := hw
  have hP : va_P (gD G) vwCl (wX4 G h0 a0 u0) H := hP
  have hD : va_D A (wX4 G h0 a0 u0) := hD
  refine lv_istore_n (lv' := [(2, .int q1), (0, .ref h0), (1, .int x1)]) hx hb dX4_voteOf_5 rfl hl (by decide) rfl (fun ls hl => ?_)
  refine lv_iload_n hx hb dX4_voteOf_6 rfl (lv_at hl 0 rfl) ?_
  refine lv_iconst (v := (-1 : Int32)) hx hb dX4_voteOf_7 (by decide) ?_
  refine lv_icmp_ne (tgt := 15) hx hb dX4_voteOf_8 (by decide) (fun c3 => ?_) (fun c3 => ?_)
  · have hf := tn hf c3
    refine lv_iload_n hx hb dX4_voteOf_15 rfl (lv_at hl 0 rfl) ?_
    refine lv_iload_n hx hb dX4_voteOf_16 rfl (lv_at hl 2 rfl) ?_
    refine lv_iadd hx hb dX4_voteOf_17 ?_
    have hf := Option.some.inj hf
    subst hf
    exact e_i (wf := (fun v : Ob => (wX4 G h0 a0 v))) hx hb hr hlk u0 ⟨rfl, rfl⟩ hP hK hD hS dX4_voteOf_18
  · have hf := tp hf c3
    refine lv_iconst (v := (-1 : Int32)) hx hb dX4_voteOf_11 (by decide) ?_
    refine lv_goto (tgt := 18) hx hb dX4_voteOf_12 (by decide) ?_
    have hf := Option.some.inj hf
    subst hf
    exact e_i (wf := (fun v : Ob => (wX4 G h0 a0 v))) hx hb hr hlk u0 ⟨rfl, rfl⟩ hP hK hD hS dX4_voteOf_18
set_option maxRecDepth 100000 in
set_option maxHeartbeats 4000000 in
theorem c_X4_castVotes {l : Launch} {G : Gp} {sz N : Nat} {h0 : Nat} {a0 : Nat → Nat} {u0 : Ob} {a1 : Nat → Nat} {u1 : Ob} {q : Ob × Ob} (hf : f_X4_castVotes N u0 u1 = some q) : Met l yX4_castVotes (Cond.code yX4_castVotes cX4_castVotes 2 none :: lw_g) ({ frames := 3, cells := 0, slots := 0, locals := 64 } : Room) (va_Pc [.ref h0] (pw G (wX4 G h0 a0 u0 ++ wX0 G (a0 17) a1 u1) sz)) (va_Qv (fun v : Ob × Ob => q = v) (bw G (fun v : Ob × Ob => (wX4 G h0 a0 v.1 ++ wX0 G (a0 17) a1 v.2)) (va_A (wX4 G h0 a0 u0 ++ wX0 G (a0 17) a1 u1) sz)) (va_A (wX4 G h0 a0 u0 ++ wX0 G (a0 17) a1 u1) sz)) 0 0 (va_A (wX4 G h0 a0 u0 ++ wX0 G (a0 17) a1 u1) sz) := by
  refine mt (Qc := (fun A => va_Qv (fun v : Ob × Ob => q = v) (bw G (fun v : Ob × Ob => (wX4 G h0 a0 v.1 ++ wX0 G (a0 17) a1 v.2)) A) A)) (by decide) (Nat.le_of_ble_eq_true rfl) ?_
  intro p e s m below meth c A ls hx hb hr hlk hml hts hown hA hP hK hD hE hS hl
  have hown : s.vm.findClass RX4 = some m.cls := hown
  have hg : ∀ w ∈ lw_g, w.before ([.ref h0] : List Value).toArray s = true := fun w h => hts w (List.mem_cons_of_mem _ h)
  have hC : CallFix p m c cX4_castVotes 2 s ([.ref h0] : List Value).toArray (Cond.code yX4_castVotes cX4_castVotes 2 none :: lw_g) RX4 := ⟨hx, hb, hml, hown, hts⟩
  have hl : lv_has ls 2 [(0, .ref h0)] := hl
  have lp_9 : ∀ (n : Nat) (x1 : Int32) (u0 : Ob) (u1 : Ob), l_X4_castVotes_9 N n x1 u0 u1 = some q → ∀ (H : Heap) (locs : List Loc) (ls : Array Slot), va_P (gD G) vwCl (wX4 G h0 a0 u0 ++ wX0 G (a0 17) a1 u1) H → va_D A (wX4 G h0 a0 u0 ++ wX0 G (a0 17) a1 u1) → va_S A s.heap H locs → lv_has ls 2 [(0, .ref h0), (1, .int x1)] → W p l e ({ frames := 3, cells := 0, slots := 0, locals := 64 } : Room) s m ([.ref h0] : List Value).toArray below meth c H locs 0 0 (MQ below (va_Qv (fun v : Ob × Ob => q = v) (bw G (fun v : Ob × Ob => (wX4 G h0 a0 v.1 ++ wX0 G (a0 17) a1 v.2)) A) A) ([.ref h0] : List Value).toArray s 0 0 A) (F0 m 9 ls []) := by
    intro n
    induction n with
    | zero => intro x1 u0 u1 hf; rw [l_X4_castVotes_9] at hf; cases hf
    | succ n ih =>
      intro x1 u0 u1 hf H locs ls hP hD hS hl
      rw [l_X4_castVotes_9] at hf
      refine lv_iload_n hx hb dX4_castVotes_9 rfl (lv_at hl 1 rfl) ?_
      refine lv_aload_n hx hb dX4_castVotes_10 rfl (lv_at hl 0 rfl) ?_
      refine va_get (D := gD G) (ci := 2) (v := .int (u0.1 11)) (C := RX4) (T := TX4) (N := 18) hx hb hg kl_X4 hown hK hP 0 rfl rfl 11 (by decide) (hg _ kq1_74) (fun _ h9 => h9) rfl dX4_castVotes_11 ?_
      refine lv_icmp_ge (tgt := 35) hx hb dX4_castVotes_14 (by decide) (fun c3 => ?_) (fun c3 => ?_)
      · have hf := tp hf c3
        have hf := Option.some.inj hf
        subst hf
        exact e_v (wf := (fun v : Ob × Ob => (wX4 G h0 a0 v.1 ++ wX0 G (a0 17) a1 v.2))) hx hb hr hlk (u0, u1) rfl hP hK hD hS dX4_castVotes_35
      · have hf := tn hf c3
        refine lv_aload_n hx hb dX4_castVotes_17 rfl (lv_at hl 0 rfl) ?_
        refine va_get (D := gD G) (ci := 2) (v := .ref (a0 17)) (C := RX4) (T := TX4) (N := 18) hx hb hg kl_X4 hown hK hP 0 rfl rfl 17 (by decide) (hg _ kq1_86) (fun _ h9 => h9) rfl dX4_castVotes_18 ?_
        refine lv_aload_n hx hb dX4_castVotes_21 rfl (lv_at hl 0 rfl) ?_
        refine lv_iload_n hx hb dX4_castVotes_22 rfl (lv_at hl 1 rfl) ?_
        obtain ⟨q4, e5, hf⟩ := tbd hf
        refine kVi2 (As := [.int x1]) (rest := [.ref (a0 17)]) hC (c_X4_voteOf (G := G) e5) kq1_229 kc_X4_voteOf (by decide) 0 (ci := 2) rfl rfl hP hK hD hE hS hA (wr := (wX0 G (a0 17) a1 u1)) [0, 1, 2, 3, 4, 5, 6] [7, 8] rfl rfl (by decide) (by decide) (by decide) hl.1 (Nat.le_of_ble_eq_true rfl) ⟨Nat.zero_le _, Nat.zero_le _⟩ dX4_castVotes_23 (fun r9 u9 H locs hw hP hD hS => ?_)
        obtain ⟨rfl, rfl⟩ := hw
        have hP : va_P (gD G) vwCl (wX4 G h0 a0 u0 ++ wX0 G (a0 17) a1 u1) H := hP.sub [2, 3, 4, 5, 6, 7, 8, 0, 1] rfl
        have hD : va_D A (wX4 G h0 a0 u0 ++ wX0 G (a0 17) a1 u1) := hD.sub [2, 3, 4, 5, 6, 7, 8, 0, 1] (by decide) rfl
        obtain ⟨q6, e7, hf⟩ := tbd hf
        refine kVv2 (As := [.int q4]) (rest := []) hC (c_X0_cast (G := G) e7) kq2_4 kc_X0_cast (by decide) 0 (ci := 0) rfl rfl hP hK hD hE hS hA (wr := (wX4 G h0 a0 u0)) [7, 8] [0, 1, 2, 3, 4, 5, 6] rfl rfl (by decide) (by decide) (by decide) hl.1 (Nat.le_of_ble_eq_true rfl) ⟨Nat.zero_le _, Nat.zero_le _⟩ dX4_castVotes_26 (fun u9 H locs hw hP hD hS => ?_)
        obtain rfl := hw
        have hP : va_P (gD G) vwCl (wX4 G h0 a0 u0 ++ wX0 G (a0 17) a1 q6) H := hP
        have hD : va_D A (wX4 G h0 a0 u0 ++ wX0 G (a0 17) a1 q6) := hD
        refine lv_iinc (v := (x1 + (1 : Int32))) (lv' := [(1, .int (x1 + (1 : Int32))), (0, .ref h0)]) hx hb dX4_castVotes_29 hl (k := 1) rfl rfl (by decide) rfl (fun ls hl => ?_)
        refine lv_goto (tgt := 9) hx hb dX4_castVotes_32 (by decide) ?_
        exact ih _ _ _ hf _ _ _ hP hD hS (lv_sub hl [1, 0] rfl)
  rw [f_X4_castVotes] at hf
  refine lv_aload_n hx hb dX4_castVotes_0 rfl (lv_at hl 0 rfl) ?_
  refine va_get (D := gD G) (ci := 2) (v := .ref (a0 17)) (C := RX4) (T := TX4) (N := 18) hx hb hg kl_X4 hown hK hP 0 rfl rfl 17 (by decide) (hg _ kq1_86) (fun _ h9 => h9) rfl dX4_castVotes_1 ?_
  obtain ⟨q1, e2, hf⟩ := tbd hf
  refine kVv2 (As := []) (rest := []) hC (c_X0_open (G := G) e2) kq1_225 kc_X0_open (by decide) 0 (ci := 0) rfl rfl hP hK hD hE hS hA (wr := (wX4 G h0 a0 u0)) [7, 8] [0, 1, 2, 3, 4, 5, 6] rfl rfl (by decide) (by decide) (by decide) hl.1 (Nat.le_of_ble_eq_true rfl) ⟨Nat.zero_le _, Nat.zero_le _⟩ dX4_castVotes_4 (fun u9 H locs hw hP hD hS => ?_)
  obtain rfl := hw
  have hP : va_P (gD G) vwCl (wX4 G h0 a0 u0 ++ wX0 G (a0 17) a1 q1) H := hP
  have hD : va_D A (wX4 G h0 a0 u0 ++ wX0 G (a0 17) a1 q1) := hD
  refine lv_iconst (v := (0 : Int32)) hx hb dX4_castVotes_7 (by decide) ?_
  refine lv_istore_n (lv' := [(1, .int (0 : Int32)), (0, .ref h0)]) hx hb dX4_castVotes_8 rfl hl (by decide) rfl (fun ls hl => ?_)
  exact lp_9 N _ _ _ hf _ _ _ hP hD hS (lv_sub hl [1, 0] rfl)
set_option maxRecDepth 100000 in
set_option maxHeartbeats 4000000 in
theorem c_X4_keepFix {l : Launch} {G : Gp} {sz N : Nat} {x1 : Int32} {x2 : Int32} {h0 : Nat} {a0 : Nat → Nat} {u0 : Ob} {q : Ob} (hf : f_X4_keepFix N x1 x2 u0 = some q) : Met l yX4_keepFix (Cond.code yX4_keepFix cX4_keepFix 3 none :: lw_g) ({ frames := 1, cells := 0, slots := 0, locals := 18 } : Room) (va_Pc [.ref h0, .int x1, .int x2] (pw G (wX4 G h0 a0 u0) sz)) (va_Qv (fun v : Ob => q = v) (bw G (fun v : Ob => (wX4 G h0 a0 v)) (va_A (wX4 G h0 a0 u0) sz)) (va_A (wX4 G h0 a0 u0) sz)) 0 0 (va_A (wX4 G h0 a0 u0) sz) := by
  refine mt (Qc := (fun A => va_Qv (fun v : Ob => q = v) (bw G (fun v : Ob => (wX4 G h0 a0 v)) A) A)) (by decide) (Nat.le_of_ble_eq_true rfl) ?_
  intro p e s m below meth c A ls hx hb hr hlk hml hts hown hA hP hK hD hE hS hl
  have hown : s.vm.findClass RX4 = some m.cls := hown
  have hg : ∀ w ∈ lw_g, w.before ([.ref h0, .int x1, .int x2] : List Value).toArray s = true := fun w h => hts w (List.mem_cons_of_mem _ h)
  have hC : CallFix p m c cX4_keepFix 3 s ([.ref h0, .int x1, .int x2] : List Value).toArray (Cond.code yX4_keepFix cX4_keepFix 3 none :: lw_g) RX4 := ⟨hx, hb, hml, hown, hts⟩
  have hl : lv_has ls 3 [(0, .ref h0), (1, .int x1), (2, .int x2)] := hl
  rw [f_X4_keepFix] at hf
  refine lv_aload_n hx hb dX4_keepFix_0 rfl (lv_at hl 0 rfl) ?_
  refine va_get (D := gD G) (ci := 2) (v := .ref (a0 14)) (C := RX4) (T := TX4) (N := 18) hx hb hg kl_X4 hown hK hP 0 rfl rfl 14 (by decide) (hg _ kq1_80) (fun _ h9 => h9) rfl dX4_keepFix_1 ?_
  refine lv_iconst (v := (0 : Int32)) hx hb dX4_keepFix_4 (by decide) ?_
  refine lv_aload_n hx hb dX4_keepFix_5 rfl (lv_at hl 0 rfl) ?_
  refine va_get (D := gD G) (ci := 2) (v := .ref (a0 14)) (C := RX4) (T := TX4) (N := 18) hx hb hg kl_X4 hown hK hP 0 rfl rfl 14 (by decide) (hg _ kq1_80) (fun _ h9 => h9) rfl dX4_keepFix_6 ?_
  refine lv_iconst (v := (1 : Int32)) hx hb dX4_keepFix_9 (by decide) ?_
  refine lv_bipush (v := (7 : Int32)) hx hb dX4_keepFix_10 (by decide) ?_
  refine va_copyi (f := (u0.2.2.1 14)) (g := (u0.2.2.1 14)) hx hb (hml.trans hl.1.symm) hown (hg _ kq2_96) (hg _ kq2_98) (hg _ kq2_97) (hg _ kq1_11) hK hP hD hS 5 5 1 1 rfl rfl rfl rfl rfl (by decide) (by decide) (by decide) (by decide) (by decide) (fun _ _ => rfl) (Nat.le_of_ble_eq_true rfl) (Nat.le_of_ble_eq_true rfl) dX4_keepFix_12 (fun H locs hP hD hS => ?_)
  have hP : va_P (gD G) vwCl (wX4 G h0 a0 (oa u0 14 (va_cpy (u0.2.2.1 14) (u0.2.2.1 14) (0 : Int32).toNatClampNeg (1 : Int32).toNatClampNeg (7 : Int32).toNatClampNeg))) H := hP
  have hD : va_D A (wX4 G h0 a0 (oa u0 14 (va_cpy (u0.2.2.1 14) (u0.2.2.1 14) (0 : Int32).toNatClampNeg (1 : Int32).toNatClampNeg (7 : Int32).toNatClampNeg))) := hD
  refine lv_aload_n hx hb dX4_keepFix_15 rfl (lv_at hl 0 rfl) ?_
  refine va_get (D := gD G) (ci := 2) (v := .ref (a0 15)) (C := RX4) (T := TX4) (N := 18) hx hb hg kl_X4 hown hK hP 0 rfl rfl 15 (by decide) (hg _ kq1_82) (fun _ h9 => h9) rfl dX4_keepFix_16 ?_
  refine lv_iconst (v := (0 : Int32)) hx hb dX4_keepFix_19 (by decide) ?_
  refine lv_aload_n hx hb dX4_keepFix_20 rfl (lv_at hl 0 rfl) ?_
  refine va_get (D := gD G) (ci := 2) (v := .ref (a0 15)) (C := RX4) (T := TX4) (N := 18) hx hb hg kl_X4 hown hK hP 0 rfl rfl 15 (by decide) (hg _ kq1_82) (fun _ h9 => h9) rfl dX4_keepFix_21 ?_
  refine lv_iconst (v := (1 : Int32)) hx hb dX4_keepFix_24 (by decide) ?_
  refine lv_bipush (v := (7 : Int32)) hx hb dX4_keepFix_25 (by decide) ?_
  refine va_copyi (f := (u0.2.2.1 15)) (g := (u0.2.2.1 15)) hx hb (hml.trans hl.1.symm) hown (hg _ kq2_96) (hg _ kq2_98) (hg _ kq2_97) (hg _ kq1_11) hK hP hD hS 6 6 1 1 rfl rfl rfl rfl rfl (by decide) (by decide) (by decide) (by decide) (by decide) (fun _ _ => rfl) (Nat.le_of_ble_eq_true rfl) (Nat.le_of_ble_eq_true rfl) dX4_keepFix_27 (fun H locs hP hD hS => ?_)
  have hP : va_P (gD G) vwCl (wX4 G h0 a0 (oa (oa u0 14 (va_cpy (u0.2.2.1 14) (u0.2.2.1 14) (0 : Int32).toNatClampNeg (1 : Int32).toNatClampNeg (7 : Int32).toNatClampNeg)) 15 (va_cpy (u0.2.2.1 15) (u0.2.2.1 15) (0 : Int32).toNatClampNeg (1 : Int32).toNatClampNeg (7 : Int32).toNatClampNeg))) H := hP
  have hD : va_D A (wX4 G h0 a0 (oa (oa u0 14 (va_cpy (u0.2.2.1 14) (u0.2.2.1 14) (0 : Int32).toNatClampNeg (1 : Int32).toNatClampNeg (7 : Int32).toNatClampNeg)) 15 (va_cpy (u0.2.2.1 15) (u0.2.2.1 15) (0 : Int32).toNatClampNeg (1 : Int32).toNatClampNeg (7 : Int32).toNatClampNeg))) := hD
  refine lv_aload_n hx hb dX4_keepFix_30 rfl (lv_at hl 0 rfl) ?_
  refine va_get (D := gD G) (ci := 2) (v := .ref (a0 14)) (C := RX4) (T := TX4) (N := 18) hx hb hg kl_X4 hown hK hP 0 rfl rfl 14 (by decide) (hg _ kq1_80) (fun _ h9 => h9) rfl dX4_keepFix_31 ?_
  refine lv_iconst (v := (0 : Int32)) hx hb dX4_keepFix_34 (by decide) ?_
  refine lv_iload_n hx hb dX4_keepFix_35 rfl (lv_at hl 1 rfl) ?_
  refine va_iast (f := (va_cpy (u0.2.2.1 14) (u0.2.2.1 14) (0 : Int32).toNatClampNeg (1 : Int32).toNatClampNeg (7 : Int32).toNatClampNeg)) hx hb hK hP hD hS 5 1 rfl rfl (vin (by decide)) dX4_keepFix_36 (fun H locs hP hD hS => ?_)
  have hP : va_P (gD G) vwCl (wX4 G h0 a0 (oa (oa (oa u0 14 (va_cpy (u0.2.2.1 14) (u0.2.2.1 14) (0 : Int32).toNatClampNeg (1 : Int32).toNatClampNeg (7 : Int32).toNatClampNeg)) 15 (va_cpy (u0.2.2.1 15) (u0.2.2.1 15) (0 : Int32).toNatClampNeg (1 : Int32).toNatClampNeg (7 : Int32).toNatClampNeg)) 14 (upd (va_cpy (u0.2.2.1 14) (u0.2.2.1 14) (0 : Int32).toNatClampNeg (1 : Int32).toNatClampNeg (7 : Int32).toNatClampNeg) (0 : Int32).toNatClampNeg x1))) H := hP
  have hD : va_D A (wX4 G h0 a0 (oa (oa (oa u0 14 (va_cpy (u0.2.2.1 14) (u0.2.2.1 14) (0 : Int32).toNatClampNeg (1 : Int32).toNatClampNeg (7 : Int32).toNatClampNeg)) 15 (va_cpy (u0.2.2.1 15) (u0.2.2.1 15) (0 : Int32).toNatClampNeg (1 : Int32).toNatClampNeg (7 : Int32).toNatClampNeg)) 14 (upd (va_cpy (u0.2.2.1 14) (u0.2.2.1 14) (0 : Int32).toNatClampNeg (1 : Int32).toNatClampNeg (7 : Int32).toNatClampNeg) (0 : Int32).toNatClampNeg x1))) := hD
  refine lv_aload_n hx hb dX4_keepFix_37 rfl (lv_at hl 0 rfl) ?_
  refine va_get (D := gD G) (ci := 2) (v := .ref (a0 15)) (C := RX4) (T := TX4) (N := 18) hx hb hg kl_X4 hown hK hP 0 rfl rfl 15 (by decide) (hg _ kq1_82) (fun _ h9 => h9) rfl dX4_keepFix_38 ?_
  refine lv_iconst (v := (0 : Int32)) hx hb dX4_keepFix_41 (by decide) ?_
  refine lv_iload_n hx hb dX4_keepFix_42 rfl (lv_at hl 2 rfl) ?_
  refine va_iast (f := (va_cpy (u0.2.2.1 15) (u0.2.2.1 15) (0 : Int32).toNatClampNeg (1 : Int32).toNatClampNeg (7 : Int32).toNatClampNeg)) hx hb hK hP hD hS 6 1 rfl rfl (vin (by decide)) dX4_keepFix_43 (fun H locs hP hD hS => ?_)
  have hP : va_P (gD G) vwCl (wX4 G h0 a0 (oa (oa (oa (oa u0 14 (va_cpy (u0.2.2.1 14) (u0.2.2.1 14) (0 : Int32).toNatClampNeg (1 : Int32).toNatClampNeg (7 : Int32).toNatClampNeg)) 15 (va_cpy (u0.2.2.1 15) (u0.2.2.1 15) (0 : Int32).toNatClampNeg (1 : Int32).toNatClampNeg (7 : Int32).toNatClampNeg)) 14 (upd (va_cpy (u0.2.2.1 14) (u0.2.2.1 14) (0 : Int32).toNatClampNeg (1 : Int32).toNatClampNeg (7 : Int32).toNatClampNeg) (0 : Int32).toNatClampNeg x1)) 15 (upd (va_cpy (u0.2.2.1 15) (u0.2.2.1 15) (0 : Int32).toNatClampNeg (1 : Int32).toNatClampNeg (7 : Int32).toNatClampNeg) (0 : Int32).toNatClampNeg x2))) H := hP
  have hD : va_D A (wX4 G h0 a0 (oa (oa (oa (oa u0 14 (va_cpy (u0.2.2.1 14) (u0.2.2.1 14) (0 : Int32).toNatClampNeg (1 : Int32).toNatClampNeg (7 : Int32).toNatClampNeg)) 15 (va_cpy (u0.2.2.1 15) (u0.2.2.1 15) (0 : Int32).toNatClampNeg (1 : Int32).toNatClampNeg (7 : Int32).toNatClampNeg)) 14 (upd (va_cpy (u0.2.2.1 14) (u0.2.2.1 14) (0 : Int32).toNatClampNeg (1 : Int32).toNatClampNeg (7 : Int32).toNatClampNeg) (0 : Int32).toNatClampNeg x1)) 15 (upd (va_cpy (u0.2.2.1 15) (u0.2.2.1 15) (0 : Int32).toNatClampNeg (1 : Int32).toNatClampNeg (7 : Int32).toNatClampNeg) (0 : Int32).toNatClampNeg x2))) := hD
  refine lv_aload_n hx hb dX4_keepFix_44 rfl (lv_at hl 0 rfl) ?_
  refine lv_aload_n hx hb dX4_keepFix_45 rfl (lv_at hl 0 rfl) ?_
  refine va_get (D := gD G) (ci := 2) (v := .int (u0.1 16)) (C := RX4) (T := TX4) (N := 18) hx hb hg kl_X4 hown hK hP 0 rfl rfl 16 (by decide) (hg _ kq1_84) (fun _ h9 => h9) rfl dX4_keepFix_46 ?_
  refine lv_iconst (v := (1 : Int32)) hx hb dX4_keepFix_49 (by decide) ?_
  refine lv_iadd hx hb dX4_keepFix_50 ?_
  refine lv_bipush (v := (8 : Int32)) hx hb dX4_keepFix_51 (by decide) ?_
  refine va_mmin hx hb (hml.trans hl.1.symm) hown (hg _ kq3_145) (hg _ kq2_212) (hg _ kq1_12) (hg _ kq2_213) (Nat.le_of_ble_eq_true rfl) (Nat.le_of_ble_eq_true rfl) (Nat.zero_le _) (Nat.zero_le _) (x := ((u0.1 16) + (1 : Int32))) (y := (8 : Int32)) dX4_keepFix_53 ?_
  refine va_put (D := gD G) (ci := 2) (v := .int (if (8 : Int32) < ((u0.1 16) + (1 : Int32)) then (8 : Int32) else ((u0.1 16) + (1 : Int32)))) (ty := .int) (C := RX4) (T := TX4) (N := 18) hx hb hg kl_X4 tyX4 tyX4_ok nmX4 hown hK hP hD hS 0 rfl rfl 16 (by decide) (hg _ kq1_84) (fun _ h9 => h9) rfl (by decide +kernel) rfl rfl (Nat.le_of_ble_eq_true rfl) dX4_keepFix_56 (fun H locs hP hD hS => ?_)
  have hP : va_P (gD G) vwCl (wX4 G h0 a0 (oi (oa (oa (oa (oa u0 14 (va_cpy (u0.2.2.1 14) (u0.2.2.1 14) (0 : Int32).toNatClampNeg (1 : Int32).toNatClampNeg (7 : Int32).toNatClampNeg)) 15 (va_cpy (u0.2.2.1 15) (u0.2.2.1 15) (0 : Int32).toNatClampNeg (1 : Int32).toNatClampNeg (7 : Int32).toNatClampNeg)) 14 (upd (va_cpy (u0.2.2.1 14) (u0.2.2.1 14) (0 : Int32).toNatClampNeg (1 : Int32).toNatClampNeg (7 : Int32).toNatClampNeg) (0 : Int32).toNatClampNeg x1)) 15 (upd (va_cpy (u0.2.2.1 15) (u0.2.2.1 15) (0 : Int32).toNatClampNeg (1 : Int32).toNatClampNeg (7 : Int32).toNatClampNeg) (0 : Int32).toNatClampNeg x2)) 16 (if (8 : Int32) < ((u0.1 16) + (1 : Int32)) then (8 : Int32) else ((u0.1 16) + (1 : Int32))))) H := hP
  have hD : va_D A (wX4 G h0 a0 (oi (oa (oa (oa (oa u0 14 (va_cpy (u0.2.2.1 14) (u0.2.2.1 14) (0 : Int32).toNatClampNeg (1 : Int32).toNatClampNeg (7 : Int32).toNatClampNeg)) 15 (va_cpy (u0.2.2.1 15) (u0.2.2.1 15) (0 : Int32).toNatClampNeg (1 : Int32).toNatClampNeg (7 : Int32).toNatClampNeg)) 14 (upd (va_cpy (u0.2.2.1 14) (u0.2.2.1 14) (0 : Int32).toNatClampNeg (1 : Int32).toNatClampNeg (7 : Int32).toNatClampNeg) (0 : Int32).toNatClampNeg x1)) 15 (upd (va_cpy (u0.2.2.1 15) (u0.2.2.1 15) (0 : Int32).toNatClampNeg (1 : Int32).toNatClampNeg (7 : Int32).toNatClampNeg) (0 : Int32).toNatClampNeg x2)) 16 (if (8 : Int32) < ((u0.1 16) + (1 : Int32)) then (8 : Int32) else ((u0.1 16) + (1 : Int32))))) := hD
  have hf := Option.some.inj hf
  subst hf
  exact e_v (wf := (fun v : Ob => (wX4 G h0 a0 v))) hx hb hr hlk (oi (oa (oa (oa (oa u0 14 (va_cpy (u0.2.2.1 14) (u0.2.2.1 14) (0 : Int32).toNatClampNeg (1 : Int32).toNatClampNeg (7 : Int32).toNatClampNeg)) 15 (va_cpy (u0.2.2.1 15) (u0.2.2.1 15) (0 : Int32).toNatClampNeg (1 : Int32).toNatClampNeg (7 : Int32).toNatClampNeg)) 14 (upd (va_cpy (u0.2.2.1 14) (u0.2.2.1 14) (0 : Int32).toNatClampNeg (1 : Int32).toNatClampNeg (7 : Int32).toNatClampNeg) (0 : Int32).toNatClampNeg x1)) 15 (upd (va_cpy (u0.2.2.1 15) (u0.2.2.1 15) (0 : Int32).toNatClampNeg (1 : Int32).toNatClampNeg (7 : Int32).toNatClampNeg) (0 : Int32).toNatClampNeg x2)) 16 (if (8 : Int32) < ((u0.1 16) + (1 : Int32)) then (8 : Int32) else ((u0.1 16) + (1 : Int32)))) rfl hP hK hD hS dX4_keepFix_59
set_option maxRecDepth 100000 in
set_option maxHeartbeats 4000000 in
theorem c_X4_countVotes {l : Launch} {G : Gp} {sz N : Nat} {h0 : Nat} {a0 : Nat → Nat} {u0 : Ob} {a1 : Nat → Nat} {u1 : Ob} {q : Ob × Ob} (hf : f_X4_countVotes N u0 u1 = some q) : Met l yX4_countVotes (Cond.code yX4_countVotes cX4_countVotes 3 none :: lw_g) ({ frames := 4, cells := 0, slots := 0, locals := 85 } : Room) (va_Pc [.ref h0] (pw G (wX4 G h0 a0 u0 ++ wX0 G (a0 17) a1 u1) sz)) (va_Qv (fun v : Ob × Ob => q = v) (bw G (fun v : Ob × Ob => (wX4 G h0 a0 v.1 ++ wX0 G (a0 17) a1 v.2)) (va_A (wX4 G h0 a0 u0 ++ wX0 G (a0 17) a1 u1) sz)) (va_A (wX4 G h0 a0 u0 ++ wX0 G (a0 17) a1 u1) sz)) 0 0 (va_A (wX4 G h0 a0 u0 ++ wX0 G (a0 17) a1 u1) sz) := by
  refine mt (Qc := (fun A => va_Qv (fun v : Ob × Ob => q = v) (bw G (fun v : Ob × Ob => (wX4 G h0 a0 v.1 ++ wX0 G (a0 17) a1 v.2)) A) A)) (by decide) (Nat.le_of_ble_eq_true rfl) ?_
  intro p e s m below meth c A ls hx hb hr hlk hml hts hown hA hP hK hD hE hS hl
  have hown : s.vm.findClass RX4 = some m.cls := hown
  have hg : ∀ w ∈ lw_g, w.before ([.ref h0] : List Value).toArray s = true := fun w h => hts w (List.mem_cons_of_mem _ h)
  have hC : CallFix p m c cX4_countVotes 3 s ([.ref h0] : List Value).toArray (Cond.code yX4_countVotes cX4_countVotes 3 none :: lw_g) RX4 := ⟨hx, hb, hml, hown, hts⟩
  have hl : lv_has ls 3 [(0, .ref h0)] := hl
  have lp_54 : ∀ (n : Nat) (x1 : Int32) (x2 : Int32) (u0 : Ob) (u1 : Ob), l_X4_countVotes_54 N n x1 x2 u0 u1 = some q → ∀ (H : Heap) (locs : List Loc) (ls : Array Slot), va_P (gD G) vwCl (wX4 G h0 a0 u0 ++ wX0 G (a0 17) a1 u1) H → va_D A (wX4 G h0 a0 u0 ++ wX0 G (a0 17) a1 u1) → va_S A s.heap H locs → lv_has ls 3 [(0, .ref h0), (1, .int x1), (2, .int x2)] → W p l e ({ frames := 4, cells := 0, slots := 0, locals := 85 } : Room) s m ([.ref h0] : List Value).toArray below meth c H locs 0 0 (MQ below (va_Qv (fun v : Ob × Ob => q = v) (bw G (fun v : Ob × Ob => (wX4 G h0 a0 v.1 ++ wX0 G (a0 17) a1 v.2)) A) A) ([.ref h0] : List Value).toArray s 0 0 A) (F0 m 54 ls []) := by
    intro n
    induction n with
    | zero => intro x1 x2 u0 u1 hf; rw [l_X4_countVotes_54] at hf; cases hf
    | succ n ih =>
      intro x1 x2 u0 u1 hf H locs ls hP hD hS hl
      rw [l_X4_countVotes_54] at hf
      refine lv_iload_n hx hb dX4_countVotes_54 rfl (lv_at hl 2 rfl) ?_
      refine lv_aload_n hx hb dX4_countVotes_55 rfl (lv_at hl 0 rfl) ?_
      refine va_get (D := gD G) (ci := 2) (v := .int (u0.1 11)) (C := RX4) (T := TX4) (N := 18) hx hb hg kl_X4 hown hK hP 0 rfl rfl 11 (by decide) (hg _ kq1_74) (fun _ h9 => h9) rfl dX4_countVotes_56 ?_
      refine lv_icmp_ge (tgt := 99) hx hb dX4_countVotes_59 (by decide) (fun c8 => ?_) (fun c8 => ?_)
      · have hf := tp hf c8
        refine lv_aload_n hx hb dX4_countVotes_99 rfl (lv_at hl 0 rfl) ?_
        refine va_get (D := gD G) (ci := 2) (v := .int (u0.1 12)) (C := RX4) (T := TX4) (N := 18) hx hb hg kl_X4 hown hK hP 0 rfl rfl 12 (by decide) (hg _ kq1_76) (fun _ h9 => h9) rfl dX4_countVotes_100 ?_
        refine lv_iconst (v := (1 : Int32)) hx hb dX4_countVotes_103 (by decide) ?_
        refine lv_iadd hx hb dX4_countVotes_104 ?_
        refine lv_bipush (v := (60 : Int32)) hx hb dX4_countVotes_105 (by decide) ?_
        refine lv_irem hx hb dX4_countVotes_107 (by decide) ?_
        refine lv_bipush (v := (59 : Int32)) hx hb dX4_countVotes_108 (by decide) ?_
        refine lv_icmp_ne (tgt := 129) hx hb dX4_countVotes_110 (by decide) (fun c9 => ?_) (fun c9 => ?_)
        · have hf := tn hf c9
          refine lv_aload_n hx hb dX4_countVotes_129 rfl (lv_at hl 0 rfl) ?_
          refine lv_aload_n hx hb dX4_countVotes_130 rfl (lv_at hl 0 rfl) ?_
          refine va_get (D := gD G) (ci := 2) (v := .int (u0.1 12)) (C := RX4) (T := TX4) (N := 18) hx hb hg kl_X4 hown hK hP 0 rfl rfl 12 (by decide) (hg _ kq1_76) (fun _ h9 => h9) rfl dX4_countVotes_131 ?_
          refine lv_iconst (v := (1 : Int32)) hx hb dX4_countVotes_134 (by decide) ?_
          refine lv_iadd hx hb dX4_countVotes_135 ?_
          refine lv_aload_n hx hb dX4_countVotes_136 rfl (lv_at hl 0 rfl) ?_
          refine va_get (D := gD G) (ci := 2) (v := .int (u0.1 2)) (C := RX4) (T := TX4) (N := 18) hx hb hg kl_X4 hown hK hP 0 rfl rfl 2 (by decide) (hg _ kq1_57) (fun _ h9 => h9) rfl dX4_countVotes_137 ?_
          refine lv_sipush (v := (1000 : Int32)) hx hb dX4_countVotes_140 (by decide) ?_
          refine lv_aload_n hx hb dX4_countVotes_143 rfl (lv_at hl 0 rfl) ?_
          refine va_get (D := gD G) (ci := 2) (v := .int (u0.1 4)) (C := RX4) (T := TX4) (N := 18) hx hb hg kl_X4 hown hK hP 0 rfl rfl 4 (by decide) (hg _ kq1_61) (fun _ h9 => h9) rfl dX4_countVotes_144 ?_
          refine lv_imul hx hb dX4_countVotes_147 ?_
          refine lv_isub hx hb dX4_countVotes_148 ?_
          obtain ⟨q10, e11, hf⟩ := tbd hf
          refine kVv2 (As := [.int ((u0.1 12) + (1 : Int32)), .int ((u0.1 2) - ((1000 : Int32) * (u0.1 4)))]) (rest := []) hC (c_X4_keepFix (G := G) e11) kq3_152 kc_X4_keepFix (by decide) 0 (ci := 2) rfl rfl hP hK hD hE hS hA (wr := (wX0 G (a0 17) a1 u1)) [0, 1, 2, 3, 4, 5, 6] [7, 8] rfl rfl (by decide) (by decide) (by decide) hl.1 (Nat.le_of_ble_eq_true rfl) ⟨Nat.zero_le _, Nat.zero_le _⟩ dX4_countVotes_149 (fun u9 H locs hw hP hD hS => ?_)
          obtain rfl := hw
          have hP : va_P (gD G) vwCl (wX4 G h0 a0 q10 ++ wX0 G (a0 17) a1 u1) H := hP.sub [2, 3, 4, 5, 6, 7, 8, 0, 1] rfl
          have hD : va_D A (wX4 G h0 a0 q10 ++ wX0 G (a0 17) a1 u1) := hD.sub [2, 3, 4, 5, 6, 7, 8, 0, 1] (by decide) rfl
          have hf := Option.some.inj hf
          subst hf
          exact e_v (wf := (fun v : Ob × Ob => (wX4 G h0 a0 v.1 ++ wX0 G (a0 17) a1 v.2))) hx hb hr hlk (q10, u1) rfl hP hK hD hS dX4_countVotes_152
        · have hf := tp hf c9
          refine lv_iconst (v := (2 : Int32)) hx hb dX4_countVotes_113 (by decide) ?_
          refine lv_iload_n hx hb dX4_countVotes_114 rfl (lv_at hl 1 rfl) ?_
          refine lv_imul hx hb dX4_countVotes_115 ?_
          refine lv_aload_n hx hb dX4_countVotes_116 rfl (lv_at hl 0 rfl) ?_
          refine va_get (D := gD G) (ci := 2) (v := .int (u0.1 13)) (C := RX4) (T := TX4) (N := 18) hx hb hg kl_X4 hown hK hP 0 rfl rfl 13 (by decide) (hg _ kq1_78) (fun _ h9 => h9) rfl dX4_countVotes_117 ?_
          refine lv_icmp_lt (tgt := 129) hx hb dX4_countVotes_120 (by decide) (fun c12 => ?_) (fun c12 => ?_)
          · have hf := tp hf c12
            refine lv_aload_n hx hb dX4_countVotes_129 rfl (lv_at hl 0 rfl) ?_
            refine lv_aload_n hx hb dX4_countVotes_130 rfl (lv_at hl 0 rfl) ?_
            refine va_get (D := gD G) (ci := 2) (v := .int (u0.1 12)) (C := RX4) (T := TX4) (N := 18) hx hb hg kl_X4 hown hK hP 0 rfl rfl 12 (by decide) (hg _ kq1_76) (fun _ h9 => h9) rfl dX4_countVotes_131 ?_
            refine lv_iconst (v := (1 : Int32)) hx hb dX4_countVotes_134 (by decide) ?_
            refine lv_iadd hx hb dX4_countVotes_135 ?_
            refine lv_aload_n hx hb dX4_countVotes_136 rfl (lv_at hl 0 rfl) ?_
            refine va_get (D := gD G) (ci := 2) (v := .int (u0.1 2)) (C := RX4) (T := TX4) (N := 18) hx hb hg kl_X4 hown hK hP 0 rfl rfl 2 (by decide) (hg _ kq1_57) (fun _ h9 => h9) rfl dX4_countVotes_137 ?_
            refine lv_sipush (v := (1000 : Int32)) hx hb dX4_countVotes_140 (by decide) ?_
            refine lv_aload_n hx hb dX4_countVotes_143 rfl (lv_at hl 0 rfl) ?_
            refine va_get (D := gD G) (ci := 2) (v := .int (u0.1 4)) (C := RX4) (T := TX4) (N := 18) hx hb hg kl_X4 hown hK hP 0 rfl rfl 4 (by decide) (hg _ kq1_61) (fun _ h9 => h9) rfl dX4_countVotes_144 ?_
            refine lv_imul hx hb dX4_countVotes_147 ?_
            refine lv_isub hx hb dX4_countVotes_148 ?_
            obtain ⟨q13, e14, hf⟩ := tbd hf
            refine kVv2 (As := [.int ((u0.1 12) + (1 : Int32)), .int ((u0.1 2) - ((1000 : Int32) * (u0.1 4)))]) (rest := []) hC (c_X4_keepFix (G := G) e14) kq3_152 kc_X4_keepFix (by decide) 0 (ci := 2) rfl rfl hP hK hD hE hS hA (wr := (wX0 G (a0 17) a1 u1)) [0, 1, 2, 3, 4, 5, 6] [7, 8] rfl rfl (by decide) (by decide) (by decide) hl.1 (Nat.le_of_ble_eq_true rfl) ⟨Nat.zero_le _, Nat.zero_le _⟩ dX4_countVotes_149 (fun u9 H locs hw hP hD hS => ?_)
            obtain rfl := hw
            have hP : va_P (gD G) vwCl (wX4 G h0 a0 q13 ++ wX0 G (a0 17) a1 u1) H := hP.sub [2, 3, 4, 5, 6, 7, 8, 0, 1] rfl
            have hD : va_D A (wX4 G h0 a0 q13 ++ wX0 G (a0 17) a1 u1) := hD.sub [2, 3, 4, 5, 6, 7, 8, 0, 1] (by decide) rfl
            have hf := Option.some.inj hf
            subst hf
            exact e_v (wf := (fun v : Ob × Ob => (wX4 G h0 a0 v.1 ++ wX0 G (a0 17) a1 v.2))) hx hb hr hlk (q13, u1) rfl hP hK hD hS dX4_countVotes_152
          · have hf := tn hf c12
            refine lv_aload_n hx hb dX4_countVotes_123 rfl (lv_at hl 0 rfl) ?_
            refine lv_bipush (v := (61 : Int32)) hx hb dX4_countVotes_124 (by decide) ?_
            refine va_put (D := gD G) (ci := 2) (v := .int (61 : Int32)) (ty := .int) (C := RX4) (T := TX4) (N := 18) hx hb hg kl_X4 tyX4 tyX4_ok nmX4 hown hK hP hD hS 0 rfl rfl 5 (by decide) (hg _ kq1_63) (fun _ h9 => h9) rfl (by decide +kernel) rfl rfl (Nat.le_of_ble_eq_true rfl) dX4_countVotes_126 (fun H locs hP hD hS => ?_)
            have hP : va_P (gD G) vwCl (wX4 G h0 a0 (oi u0 5 (61 : Int32)) ++ wX0 G (a0 17) a1 u1) H := hP
            have hD : va_D A (wX4 G h0 a0 (oi u0 5 (61 : Int32)) ++ wX0 G (a0 17) a1 u1) := hD
            refine lv_aload_n hx hb dX4_countVotes_129 rfl (lv_at hl 0 rfl) ?_
            refine lv_aload_n hx hb dX4_countVotes_130 rfl (lv_at hl 0 rfl) ?_
            refine va_get (D := gD G) (ci := 2) (v := .int (u0.1 12)) (C := RX4) (T := TX4) (N := 18) hx hb hg kl_X4 hown hK hP 0 rfl rfl 12 (by decide) (hg _ kq1_76) (fun _ h9 => h9) rfl dX4_countVotes_131 ?_
            refine lv_iconst (v := (1 : Int32)) hx hb dX4_countVotes_134 (by decide) ?_
            refine lv_iadd hx hb dX4_countVotes_135 ?_
            refine lv_aload_n hx hb dX4_countVotes_136 rfl (lv_at hl 0 rfl) ?_
            refine va_get (D := gD G) (ci := 2) (v := .int (u0.1 2)) (C := RX4) (T := TX4) (N := 18) hx hb hg kl_X4 hown hK hP 0 rfl rfl 2 (by decide) (hg _ kq1_57) (fun _ h9 => h9) rfl dX4_countVotes_137 ?_
            refine lv_sipush (v := (1000 : Int32)) hx hb dX4_countVotes_140 (by decide) ?_
            refine lv_aload_n hx hb dX4_countVotes_143 rfl (lv_at hl 0 rfl) ?_
            refine va_get (D := gD G) (ci := 2) (v := .int (u0.1 4)) (C := RX4) (T := TX4) (N := 18) hx hb hg kl_X4 hown hK hP 0 rfl rfl 4 (by decide) (hg _ kq1_61) (fun _ h9 => h9) rfl dX4_countVotes_144 ?_
            refine lv_imul hx hb dX4_countVotes_147 ?_
            refine lv_isub hx hb dX4_countVotes_148 ?_
            obtain ⟨q15, e16, hf⟩ := tbd hf
            refine kVv2 (As := [.int ((u0.1 12) + (1 : Int32)), .int ((u0.1 2) - ((1000 : Int32) * (u0.1 4)))]) (rest := []) hC (c_X4_keepFix (G := G) e16) kq3_152 kc_X4_keepFix (by decide) 0 (ci := 2) rfl rfl hP hK hD hE hS hA (wr := (wX0 G (a0 17) a1 u1)) [0, 1, 2, 3, 4, 5, 6] [7, 8] rfl rfl (by decide) (by decide) (by decide) hl.1 (Nat.le_of_ble_eq_true rfl) ⟨Nat.zero_le _, Nat.zero_le _⟩ dX4_countVotes_149 (fun u9 H locs hw hP hD hS => ?_)
            obtain rfl := hw
            have hP : va_P (gD G) vwCl (wX4 G h0 a0 q15 ++ wX0 G (a0 17) a1 u1) H := hP.sub [2, 3, 4, 5, 6, 7, 8, 0, 1] rfl
            have hD : va_D A (wX4 G h0 a0 q15 ++ wX0 G (a0 17) a1 u1) := hD.sub [2, 3, 4, 5, 6, 7, 8, 0, 1] (by decide) rfl
            have hf := Option.some.inj hf
            subst hf
            exact e_v (wf := (fun v : Ob × Ob => (wX4 G h0 a0 v.1 ++ wX0 G (a0 17) a1 v.2))) hx hb hr hlk (q15, u1) rfl hP hK hD hS dX4_countVotes_152
      · have hf := tn hf c8
        refine lv_aload_n hx hb dX4_countVotes_62 rfl (lv_at hl 0 rfl) ?_
        refine lv_iload_n hx hb dX4_countVotes_63 rfl (lv_at hl 2 rfl) ?_
        obtain ⟨q17, e18, hf⟩ := tbd hf
        refine kVi2 (As := [.int x2]) (rest := []) hC (c_X4_voteOf (G := G) e18) kq1_229 kc_X4_voteOf (by decide) 0 (ci := 2) rfl rfl hP hK hD hE hS hA (wr := (wX0 G (a0 17) a1 u1)) [0, 1, 2, 3, 4, 5, 6] [7, 8] rfl rfl (by decide) (by decide) (by decide) hl.1 (Nat.le_of_ble_eq_true rfl) ⟨Nat.zero_le _, Nat.zero_le _⟩ dX4_countVotes_64 (fun r9 u9 H locs hw hP hD hS => ?_)
        obtain ⟨rfl, rfl⟩ := hw
        have hP : va_P (gD G) vwCl (wX4 G h0 a0 u0 ++ wX0 G (a0 17) a1 u1) H := hP.sub [2, 3, 4, 5, 6, 7, 8, 0, 1] rfl
        have hD : va_D A (wX4 G h0 a0 u0 ++ wX0 G (a0 17) a1 u1) := hD.sub [2, 3, 4, 5, 6, 7, 8, 0, 1] (by decide) rfl
        refine lv_aload_n hx hb dX4_countVotes_67 rfl (lv_at hl 0 rfl) ?_
        refine va_get (D := gD G) (ci := 2) (v := .int (u0.1 12)) (C := RX4) (T := TX4) (N := 18) hx hb hg kl_X4 hown hK hP 0 rfl rfl 12 (by decide) (hg _ kq1_76) (fun _ h9 => h9) rfl dX4_countVotes_68 ?_
        refine lv_icmp_ne (tgt := 93) hx hb dX4_countVotes_71 (by decide) (fun c19 => ?_) (fun c19 => ?_)
        · have hf := tn hf c19
          refine lv_iinc (v := (x2 + (1 : Int32))) (lv' := [(2, .int (x2 + (1 : Int32))), (0, .ref h0), (1, .int x1)]) hx hb dX4_countVotes_93 hl (k := 2) rfl rfl (by decide) rfl (fun ls hl => ?_)
          refine lv_goto (tgt := 54) hx hb dX4_countVotes_96 (by decide) ?_
          exact ih _ _ _ _ hf _ _ _ hP hD hS (lv_sub hl [1, 2, 0] rfl)
        · have hf := tp hf c19
          refine lv_aload_n hx hb dX4_countVotes_74 rfl (lv_at hl 0 rfl) ?_
          refine va_get (D := gD G) (ci := 2) (v := .ref (a0 8)) (C := RX4) (T := TX4) (N := 18) hx hb hg kl_X4 hown hK hP 0 rfl rfl 8 (by decide) (hg _ kq1_69) (fun _ h9 => h9) rfl dX4_countVotes_75 ?_
          refine lv_iload_n hx hb dX4_countVotes_78 rfl (lv_at hl 2 rfl) ?_
          obtain ⟨b20, hf⟩ := tno hf
          refine va_lald (f := (u0.2.2.2 8)) hx hb hK hP 2 2 rfl rfl b20 dX4_countVotes_79 ?_
          refine lv_bipush (v := (19 : Int32)) hx hb dX4_countVotes_80 (by decide) ?_
          refine lv_lushr (v := (jushr ((u0.2.2.2 8) x2.toNatClampNeg) (19 : Int32))) hx hb dX4_countVotes_82 rfl ?_
          refine lv_lconst (v := (1 : Int64)) hx hb dX4_countVotes_83 (by decide) ?_
          refine lv_land hx hb dX4_countVotes_84 ?_
          refine lv_lconst (v := (0 : Int64)) hx hb dX4_countVotes_85 (by decide) ?_
          refine lc_eq (tgt := 93) hx hb dX4_countVotes_86 dX4_countVotes_87 (by decide) (fun c21 => ?_) (fun c21 => ?_)
          · have hf := tp hf c21
            refine lv_iinc (v := (x2 + (1 : Int32))) (lv' := [(2, .int (x2 + (1 : Int32))), (0, .ref h0), (1, .int x1)]) hx hb dX4_countVotes_93 hl (k := 2) rfl rfl (by decide) rfl (fun ls hl => ?_)
            refine lv_goto (tgt := 54) hx hb dX4_countVotes_96 (by decide) ?_
            exact ih _ _ _ _ hf _ _ _ hP hD hS (lv_sub hl [1, 2, 0] rfl)
          · have hf := tn hf c21
            refine lv_iinc (v := (x1 + (1 : Int32))) (lv' := [(1, .int (x1 + (1 : Int32))), (0, .ref h0), (2, .int x2)]) hx hb dX4_countVotes_90 hl (k := 1) rfl rfl (by decide) rfl (fun ls hl => ?_)
            refine lv_iinc (v := (x2 + (1 : Int32))) (lv' := [(2, .int (x2 + (1 : Int32))), (1, .int (x1 + (1 : Int32))), (0, .ref h0)]) hx hb dX4_countVotes_93 hl (k := 2) rfl rfl (by decide) rfl (fun ls hl => ?_)
            refine lv_goto (tgt := 54) hx hb dX4_countVotes_96 (by decide) ?_
            exact ih _ _ _ _ hf _ _ _ hP hD hS (lv_sub hl [2, 1, 0] rfl)
  rw [f_X4_countVotes] at hf
  refine lv_iconst (v := (0 : Int32)) hx hb dX4_countVotes_0 (by decide) ?_
  refine lv_istore_n (lv' := [(1, .int (0 : Int32)), (0, .ref h0)]) hx hb dX4_countVotes_1 rfl hl (by decide) rfl (fun ls hl => ?_)
  refine lv_aload_n hx hb dX4_countVotes_2 rfl (lv_at hl 1 rfl) ?_
  obtain ⟨q1, e2, hf⟩ := tbd hf
  refine kVv1 (As := []) (rest := []) hC (c_X4_castVotes (G := G) e2) kq3_150 kc_X4_castVotes (by decide) 0 (ci := 2) rfl rfl hP hK hD hE hS hA hl.1 (Nat.le_of_ble_eq_true rfl) ⟨Nat.zero_le _, Nat.zero_le _⟩ dX4_countVotes_3 (fun u9 H locs hw hP hD hS => ?_)
  obtain rfl := hw
  have hP : va_P (gD G) vwCl (wX4 G h0 a0 q1.1 ++ wX0 G (a0 17) a1 q1.2) H := hP
  have hD : va_D A (wX4 G h0 a0 q1.1 ++ wX0 G (a0 17) a1 q1.2) := hD
  refine lv_aload_n hx hb dX4_countVotes_6 rfl (lv_at hl 1 rfl) ?_
  refine lv_aload_n hx hb dX4_countVotes_7 rfl (lv_at hl 1 rfl) ?_
  refine va_get (D := gD G) (ci := 2) (v := .ref (a0 17)) (C := RX4) (T := TX4) (N := 18) hx hb hg kl_X4 hown hK hP 0 rfl rfl 17 (by decide) (hg _ kq1_86) (fun _ h9 => h9) rfl dX4_countVotes_8 ?_
  refine lv_aload_n hx hb dX4_countVotes_11 rfl (lv_at hl 1 rfl) ?_
  refine va_get (D := gD G) (ci := 2) (v := .ref (a0 0)) (C := RX4) (T := TX4) (N := 18) hx hb hg kl_X4 hown hK hP 0 rfl rfl 0 (by decide) (hg _ kq1_52) (fun _ h9 => h9) rfl dX4_countVotes_12 ?_
  refine lv_iconst (v := (1 : Int32)) hx hb dX4_countVotes_15 (by decide) ?_
  refine va_iald (f := (q1.1.2.2.1 0)) hx hb hK hP 1 1 rfl rfl (vin (by decide)) dX4_countVotes_16 ?_
  obtain ⟨q3, e4, hf⟩ := tbd hf
  refine kVi2 (As := [.int ((q1.1.2.2.1 0) (1 : Int32).toNatClampNeg)]) (rest := [.ref h0]) hC (c_X0_winner (G := G) e4) kq2_57 kc_X0_winner (by decide) 0 (ci := 0) rfl rfl hP hK hD hE hS hA (wr := (wX4 G h0 a0 q1.1)) [7, 8] [0, 1, 2, 3, 4, 5, 6] rfl rfl (by decide) (by decide) (by decide) hl.1 (Nat.le_of_ble_eq_true rfl) ⟨Nat.zero_le _, Nat.zero_le _⟩ dX4_countVotes_17 (fun r9 u9 H locs hw hP hD hS => ?_)
  obtain ⟨rfl, rfl⟩ := hw
  have hP : va_P (gD G) vwCl (wX4 G h0 a0 q1.1 ++ wX0 G (a0 17) a1 q1.2) H := hP
  have hD : va_D A (wX4 G h0 a0 q1.1 ++ wX0 G (a0 17) a1 q1.2) := hD
  refine va_put (D := gD G) (ci := 2) (v := .int q3) (ty := .int) (C := RX4) (T := TX4) (N := 18) hx hb hg kl_X4 tyX4 tyX4_ok nmX4 hown hK hP hD hS 0 rfl rfl 12 (by decide) (hg _ kq1_76) (fun _ h9 => h9) rfl (by decide +kernel) rfl rfl (Nat.le_of_ble_eq_true rfl) dX4_countVotes_20 (fun H locs hP hD hS => ?_)
  have hP : va_P (gD G) vwCl (wX4 G h0 a0 (oi q1.1 12 q3) ++ wX0 G (a0 17) a1 q1.2) H := hP
  have hD : va_D A (wX4 G h0 a0 (oi q1.1 12 q3) ++ wX0 G (a0 17) a1 q1.2) := hD
  refine lv_aload_n hx hb dX4_countVotes_23 rfl (lv_at hl 1 rfl) ?_
  refine va_get (D := gD G) (ci := 2) (v := .int q3) (C := RX4) (T := TX4) (N := 18) hx hb hg kl_X4 hown hK hP 0 rfl rfl 12 (by decide) (hg _ kq1_76) (fun _ h9 => h9) rfl dX4_countVotes_24 ?_
  refine lv_iconst (v := (-1 : Int32)) hx hb dX4_countVotes_27 (by decide) ?_
  refine lv_icmp_ne (tgt := 37) hx hb dX4_countVotes_28 (by decide) (fun c5 => ?_) (fun c5 => ?_)
  · have hf := tn hf c5
    refine lv_aload_n hx hb dX4_countVotes_37 rfl (lv_at hl 1 rfl) ?_
    refine lv_aload_n hx hb dX4_countVotes_38 rfl (lv_at hl 1 rfl) ?_
    refine va_get (D := gD G) (ci := 2) (v := .ref (a0 17)) (C := RX4) (T := TX4) (N := 18) hx hb hg kl_X4 hown hK hP 0 rfl rfl 17 (by decide) (hg _ kq1_86) (fun _ h9 => h9) rfl dX4_countVotes_39 ?_
    refine lv_aload_n hx hb dX4_countVotes_42 rfl (lv_at hl 1 rfl) ?_
    refine va_get (D := gD G) (ci := 2) (v := .int q3) (C := RX4) (T := TX4) (N := 18) hx hb hg kl_X4 hown hK hP 0 rfl rfl 12 (by decide) (hg _ kq1_76) (fun _ h9 => h9) rfl dX4_countVotes_43 ?_
    obtain ⟨q6, e7, hf⟩ := tbd hf
    refine kVi2 (As := [.int q3]) (rest := [.ref h0]) hC (c_X0_votesFor (G := G) e7) kq3_151 kc_X0_votesFor (by decide) 0 (ci := 0) rfl rfl hP hK hD hE hS hA (wr := (wX4 G h0 a0 (oi q1.1 12 q3))) [7, 8] [0, 1, 2, 3, 4, 5, 6] rfl rfl (by decide) (by decide) (by decide) hl.1 (Nat.le_of_ble_eq_true rfl) ⟨Nat.zero_le _, Nat.zero_le _⟩ dX4_countVotes_46 (fun r9 u9 H locs hw hP hD hS => ?_)
    obtain ⟨rfl, rfl⟩ := hw
    have hP : va_P (gD G) vwCl (wX4 G h0 a0 (oi q1.1 12 q3) ++ wX0 G (a0 17) a1 q1.2) H := hP
    have hD : va_D A (wX4 G h0 a0 (oi q1.1 12 q3) ++ wX0 G (a0 17) a1 q1.2) := hD
    refine va_put (D := gD G) (ci := 2) (v := .int q6) (ty := .int) (C := RX4) (T := TX4) (N := 18) hx hb hg kl_X4 tyX4 tyX4_ok nmX4 hown hK hP hD hS 0 rfl rfl 13 (by decide) (hg _ kq1_78) (fun _ h9 => h9) rfl (by decide +kernel) rfl rfl (Nat.le_of_ble_eq_true rfl) dX4_countVotes_49 (fun H locs hP hD hS => ?_)
    have hP : va_P (gD G) vwCl (wX4 G h0 a0 (oi (oi q1.1 12 q3) 13 q6) ++ wX0 G (a0 17) a1 q1.2) H := hP
    have hD : va_D A (wX4 G h0 a0 (oi (oi q1.1 12 q3) 13 q6) ++ wX0 G (a0 17) a1 q1.2) := hD
    refine lv_iconst (v := (0 : Int32)) hx hb dX4_countVotes_52 (by decide) ?_
    refine lv_istore_n (lv' := [(2, .int (0 : Int32)), (1, .int (0 : Int32)), (0, .ref h0)]) hx hb dX4_countVotes_53 rfl hl (by decide) rfl (fun ls hl => ?_)
    exact lp_54 N _ _ _ _ hf _ _ _ hP hD hS (lv_sub hl [2, 1, 0] rfl)
  · have hf := tp hf c5
    refine lv_aload_n hx hb dX4_countVotes_31 rfl (lv_at hl 1 rfl) ?_
    refine lv_iconst (v := (0 : Int32)) hx hb dX4_countVotes_32 (by decide) ?_
    refine va_put (D := gD G) (ci := 2) (v := .int (0 : Int32)) (ty := .int) (C := RX4) (T := TX4) (N := 18) hx hb hg kl_X4 tyX4 tyX4_ok nmX4 hown hK hP hD hS 0 rfl rfl 13 (by decide) (hg _ kq1_78) (fun _ h9 => h9) rfl (by decide +kernel) rfl rfl (Nat.le_of_ble_eq_true rfl) dX4_countVotes_33 (fun H locs hP hD hS => ?_)
    have hP : va_P (gD G) vwCl (wX4 G h0 a0 (oi (oi q1.1 12 q3) 13 (0 : Int32)) ++ wX0 G (a0 17) a1 q1.2) H := hP
    have hD : va_D A (wX4 G h0 a0 (oi (oi q1.1 12 q3) 13 (0 : Int32)) ++ wX0 G (a0 17) a1 q1.2) := hD
    have hf := Option.some.inj hf
    subst hf
    exact e_v (wf := (fun v : Ob × Ob => (wX4 G h0 a0 v.1 ++ wX0 G (a0 17) a1 v.2))) hx hb hr hlk ((oi (oi q1.1 12 q3) 13 (0 : Int32)), q1.2) rfl hP hK hD hS dX4_countVotes_36
set_option maxRecDepth 100000 in
set_option maxHeartbeats 4000000 in
theorem c_X4_takePulse {l : Launch} {G : Gp} {sz N : Nat} {x1 : Int32} {x2 : Int32} {h0 : Nat} {a0 : Nat → Nat} {u0 : Ob} {a1 : Nat → Nat} {u1 : Ob} {q : Int32 × Ob × Ob} (hf : f_X4_takePulse N x1 x2 u0 u1 = some q) : Met l yX4_takePulse (Cond.code yX4_takePulse cX4_takePulse 6 (some .int) :: lw_g) ({ frames := 5, cells := 0, slots := 0, locals := 122 } : Room) (va_Pc [.ref h0, .int x1, .int x2] (pw G (wX4 G h0 a0 u0 ++ wX0 G (a0 17) a1 u1) sz)) (va_Qi (fun (r : Int32) (v : Ob × Ob) => q.1 = r ∧ q.2 = v) (bw G (fun v : Ob × Ob => (wX4 G h0 a0 v.1 ++ wX0 G (a0 17) a1 v.2)) (va_A (wX4 G h0 a0 u0 ++ wX0 G (a0 17) a1 u1) sz)) (va_A (wX4 G h0 a0 u0 ++ wX0 G (a0 17) a1 u1) sz)) 0 0 (va_A (wX4 G h0 a0 u0 ++ wX0 G (a0 17) a1 u1) sz) := by
  refine mt (Qc := (fun A => va_Qi (fun (r : Int32) (v : Ob × Ob) => q.1 = r ∧ q.2 = v) (bw G (fun v : Ob × Ob => (wX4 G h0 a0 v.1 ++ wX0 G (a0 17) a1 v.2)) A) A)) (by decide) (Nat.le_of_ble_eq_true rfl) ?_
  intro p e s m below meth c A ls hx hb hr hlk hml hts hown hA hP hK hD hE hS hl
  have hown : s.vm.findClass RX4 = some m.cls := hown
  have hg : ∀ w ∈ lw_g, w.before ([.ref h0, .int x1, .int x2] : List Value).toArray s = true := fun w h => hts w (List.mem_cons_of_mem _ h)
  have hC : CallFix p m c cX4_takePulse 6 s ([.ref h0, .int x1, .int x2] : List Value).toArray (Cond.code yX4_takePulse cX4_takePulse 6 (some .int) :: lw_g) RX4 := ⟨hx, hb, hml, hown, hts⟩
  have hl : lv_has ls 6 [(0, .ref h0), (1, .int x1), (2, .int x2)] := hl
  rw [f_X4_takePulse] at hf
  refine lv_aload_n hx hb dX4_takePulse_0 rfl (lv_at hl 0 rfl) ?_
  refine lv_iload_n hx hb dX4_takePulse_1 rfl (lv_at hl 1 rfl) ?_
  refine va_put (D := gD G) (ci := 2) (v := .int x1) (ty := .int) (C := RX4) (T := TX4) (N := 18) hx hb hg kl_X4 tyX4 tyX4_ok nmX4 hown hK hP hD hS 0 rfl rfl 1 (by decide) (hg _ kq1_54) (fun _ h9 => h9) rfl (by decide +kernel) rfl rfl (Nat.le_of_ble_eq_true rfl) dX4_takePulse_2 (fun H locs hP hD hS => ?_)
  have hP : va_P (gD G) vwCl (wX4 G h0 a0 (oi u0 1 x1) ++ wX0 G (a0 17) a1 u1) H := hP
  have hD : va_D A (wX4 G h0 a0 (oi u0 1 x1) ++ wX0 G (a0 17) a1 u1) := hD
  refine lv_aload_n hx hb dX4_takePulse_5 rfl (lv_at hl 0 rfl) ?_
  refine lv_iload_n hx hb dX4_takePulse_6 rfl (lv_at hl 1 rfl) ?_
  refine lv_iload_n hx hb dX4_takePulse_7 rfl (lv_at hl 2 rfl) ?_
  obtain ⟨q1, e2, hf⟩ := tbd hf
  refine kVi2 (As := [.int x1, .int x2]) (rest := []) hC (c_X4_isToBeIgnored (G := G) e2) kq3_105 kc_X4_isToBeIgnored (by decide) 0 (ci := 2) rfl rfl hP hK hD hE hS hA (wr := (wX0 G (a0 17) a1 u1)) [0, 1, 2, 3, 4, 5, 6] [7, 8] rfl rfl (by decide) (by decide) (by decide) hl.1 (Nat.le_of_ble_eq_true rfl) ⟨Nat.zero_le _, Nat.zero_le _⟩ dX4_takePulse_8 (fun r9 u9 H locs hw hP hD hS => ?_)
  obtain ⟨rfl, rfl⟩ := hw
  have hP : va_P (gD G) vwCl (wX4 G h0 a0 (oi u0 1 x1) ++ wX0 G (a0 17) a1 u1) H := hP.sub [2, 3, 4, 5, 6, 7, 8, 0, 1] rfl
  have hD : va_D A (wX4 G h0 a0 (oi u0 1 x1) ++ wX0 G (a0 17) a1 u1) := hD.sub [2, 3, 4, 5, 6, 7, 8, 0, 1] (by decide) rfl
  refine bz_eq (tgt := 26) hx hb dX4_takePulse_11 (by decide) (fun c3 => ?_) (fun c3 => ?_)
  · have hf := tn hf c3
    refine lv_aload_n hx hb dX4_takePulse_26 rfl (lv_at hl 0 rfl) ?_
    refine lv_iload_n hx hb dX4_takePulse_27 rfl (lv_at hl 1 rfl) ?_
    obtain ⟨q4, e5, hf⟩ := tbd hf
    refine kVi2 (As := [.int x1]) (rest := []) hC (c_X4_secondsSinceMark (G := G) e5) kq3_109 kc_X4_secondsSinceMark (by decide) 0 (ci := 2) rfl rfl hP hK hD hE hS hA (wr := (wX0 G (a0 17) a1 u1)) [0, 1, 2, 3, 4, 5, 6] [7, 8] rfl rfl (by decide) (by decide) (by decide) hl.1 (Nat.le_of_ble_eq_true rfl) ⟨Nat.zero_le _, Nat.zero_le _⟩ dX4_takePulse_28 (fun r9 u9 H locs hw hP hD hS => ?_)
    obtain ⟨rfl, rfl⟩ := hw
    have hP : va_P (gD G) vwCl (wX4 G h0 a0 (oi u0 1 x1) ++ wX0 G (a0 17) a1 u1) H := hP.sub [2, 3, 4, 5, 6, 7, 8, 0, 1] rfl
    have hD : va_D A (wX4 G h0 a0 (oi u0 1 x1) ++ wX0 G (a0 17) a1 u1) := hD.sub [2, 3, 4, 5, 6, 7, 8, 0, 1] (by decide) rfl
    refine lv_istore_n (lv' := [(3, .int q4), (0, .ref h0), (1, .int x1), (2, .int x2)]) hx hb dX4_takePulse_31 rfl hl (by decide) rfl (fun ls hl => ?_)
    refine lv_aload_n hx hb dX4_takePulse_32 rfl (lv_at hl 1 rfl) ?_
    refine lv_iload_n hx hb dX4_takePulse_33 rfl (lv_at hl 2 rfl) ?_
    refine va_put (D := gD G) (ci := 2) (v := .int x1) (ty := .int) (C := RX4) (T := TX4) (N := 18) hx hb hg kl_X4 tyX4 tyX4_ok nmX4 hown hK hP hD hS 0 rfl rfl 2 (by decide) (hg _ kq1_57) (fun _ h9 => h9) rfl (by decide +kernel) rfl rfl (Nat.le_of_ble_eq_true rfl) dX4_takePulse_34 (fun H locs hP hD hS => ?_)
    have hP : va_P (gD G) vwCl (wX4 G h0 a0 (oi (oi u0 1 x1) 2 x1) ++ wX0 G (a0 17) a1 u1) H := hP
    have hD : va_D A (wX4 G h0 a0 (oi (oi u0 1 x1) 2 x1) ++ wX0 G (a0 17) a1 u1) := hD
    refine lv_iload_n hx hb dX4_takePulse_37 rfl (lv_at hl 0 rfl) ?_
    refine lv_bipush (v := (10 : Int32)) hx hb dX4_takePulse_38 (by decide) ?_
    refine lv_icmp_le (tgt := 49) hx hb dX4_takePulse_40 (by decide) (fun c6 => ?_) (fun c6 => ?_)
    · have hf := tp hf c6
      refine lv_aload_n hx hb dX4_takePulse_49 rfl (lv_at hl 1 rfl) ?_
      refine va_get (D := gD G) (ci := 2) (v := .int (u0.1 4)) (C := RX4) (T := TX4) (N := 18) hx hb hg kl_X4 hown hK hP 0 rfl rfl 4 (by decide) (hg _ kq1_61) (fun _ h9 => h9) rfl dX4_takePulse_50 ?_
      refine lv_iconst (v := (-1 : Int32)) hx hb dX4_takePulse_53 (by decide) ?_
      refine lv_icmp_ne (tgt := 72) hx hb dX4_takePulse_54 (by decide) (fun c7 => ?_) (fun c7 => ?_)
      · have hf := tn hf c7
        refine lv_aload_n hx hb dX4_takePulse_72 rfl (lv_at hl 1 rfl) ?_
        refine va_get (D := gD G) (ci := 2) (v := .int (u0.1 4)) (C := RX4) (T := TX4) (N := 18) hx hb hg kl_X4 hown hK hP 0 rfl rfl 4 (by decide) (hg _ kq1_61) (fun _ h9 => h9) rfl dX4_takePulse_73 ?_
        refine lv_iload_n hx hb dX4_takePulse_76 rfl (lv_at hl 0 rfl) ?_
        refine lv_iadd hx hb dX4_takePulse_77 ?_
        refine lv_istore (lv' := [(4, .int ((u0.1 4) + q4)), (3, .int q4), (0, .ref h0), (1, .int x1), (2, .int x2)]) hx hb dX4_takePulse_78 hl (by decide) rfl (fun ls hl => ?_)
        refine lv_iload hx hb dX4_takePulse_80 (lv_at hl 0 rfl) ?_
        refine lv_aload_n hx hb dX4_takePulse_82 rfl (lv_at hl 2 rfl) ?_
        refine va_get (D := gD G) (ci := 2) (v := .int (u0.1 5)) (C := RX4) (T := TX4) (N := 18) hx hb hg kl_X4 hown hK hP 0 rfl rfl 5 (by decide) (hg _ kq1_63) (fun _ h9 => h9) rfl dX4_takePulse_83 ?_
        refine lv_iconst (v := (1 : Int32)) hx hb dX4_takePulse_86 (by decide) ?_
        refine lv_isub hx hb dX4_takePulse_87 ?_
        refine lv_icmp_ne (tgt := 97) hx hb dX4_takePulse_88 (by decide) (fun c8 => ?_) (fun c8 => ?_)
        · have hf := tn hf c8
          refine lv_iload hx hb dX4_takePulse_97 (lv_at hl 0 rfl) ?_
          refine lv_aload_n hx hb dX4_takePulse_99 rfl (lv_at hl 2 rfl) ?_
          refine va_get (D := gD G) (ci := 2) (v := .int (u0.1 5)) (C := RX4) (T := TX4) (N := 18) hx hb hg kl_X4 hown hK hP 0 rfl rfl 5 (by decide) (hg _ kq1_63) (fun _ h9 => h9) rfl dX4_takePulse_100 ?_
          refine lv_icmp_ge (tgt := 144) hx hb dX4_takePulse_103 (by decide) (fun c9 => ?_) (fun c9 => ?_)
          · have hf := tp hf c9
            refine lv_iload hx hb dX4_takePulse_144 (lv_at hl 0 rfl) ?_
            refine lv_aload_n hx hb dX4_takePulse_146 rfl (lv_at hl 2 rfl) ?_
            refine va_get (D := gD G) (ci := 2) (v := .int (u0.1 5)) (C := RX4) (T := TX4) (N := 18) hx hb hg kl_X4 hown hK hP 0 rfl rfl 5 (by decide) (hg _ kq1_63) (fun _ h9 => h9) rfl dX4_takePulse_147 ?_
            refine lv_isub hx hb dX4_takePulse_150 ?_
            refine lv_istore (lv' := [(5, .int (((u0.1 4) + q4) - (u0.1 5))), (4, .int ((u0.1 4) + q4)), (3, .int q4), (0, .ref h0), (1, .int x1), (2, .int x2)]) hx hb dX4_takePulse_151 hl (by decide) rfl (fun ls hl => ?_)
            refine lv_aload_n hx hb dX4_takePulse_153 rfl (lv_at hl 3 rfl) ?_
            obtain ⟨q10, e11, hf⟩ := tbd hf
            refine kVv2 (As := []) (rest := []) hC (c_X4_keepFrame (G := G) e11) kq3_129 kc_X4_keepFrame (by decide) 0 (ci := 2) rfl rfl hP hK hD hE hS hA (wr := (wX0 G (a0 17) a1 u1)) [0, 1, 2, 3, 4, 5, 6] [7, 8] rfl rfl (by decide) (by decide) (by decide) hl.1 (Nat.le_of_ble_eq_true rfl) ⟨Nat.zero_le _, Nat.zero_le _⟩ dX4_takePulse_154 (fun u9 H locs hw hP hD hS => ?_)
            obtain rfl := hw
            have hP : va_P (gD G) vwCl (wX4 G h0 a0 q10 ++ wX0 G (a0 17) a1 u1) H := hP.sub [2, 3, 4, 5, 6, 7, 8, 0, 1] rfl
            have hD : va_D A (wX4 G h0 a0 q10 ++ wX0 G (a0 17) a1 u1) := hD.sub [2, 3, 4, 5, 6, 7, 8, 0, 1] (by decide) rfl
            refine lv_aload_n hx hb dX4_takePulse_157 rfl (lv_at hl 3 rfl) ?_
            refine lv_iload hx hb dX4_takePulse_158 (lv_at hl 0 rfl) ?_
            refine lv_iload_n hx hb dX4_takePulse_160 rfl (lv_at hl 5 rfl) ?_
            obtain ⟨q12, e13, hf⟩ := tbd hf
            refine kVv2 (As := [.int (((u0.1 4) + q4) - (u0.1 5)), .int x2]) (rest := []) hC (c_X4_beginMinute (G := G) e13) kq3_117 kc_X4_beginMinute (by decide) 0 (ci := 2) rfl rfl hP hK hD hE hS hA (wr := (wX0 G (a0 17) a1 u1)) [0, 1, 2, 3, 4, 5, 6] [7, 8] rfl rfl (by decide) (by decide) (by decide) hl.1 (Nat.le_of_ble_eq_true rfl) ⟨Nat.zero_le _, Nat.zero_le _⟩ dX4_takePulse_161 (fun u9 H locs hw hP hD hS => ?_)
            obtain rfl := hw
            have hP : va_P (gD G) vwCl (wX4 G h0 a0 q12 ++ wX0 G (a0 17) a1 u1) H := hP.sub [2, 3, 4, 5, 6, 7, 8, 0, 1] rfl
            have hD : va_D A (wX4 G h0 a0 q12 ++ wX0 G (a0 17) a1 u1) := hD.sub [2, 3, 4, 5, 6, 7, 8, 0, 1] (by decide) rfl
            refine lv_aload_n hx hb dX4_takePulse_164 rfl (lv_at hl 3 rfl) ?_
            obtain ⟨q14, e15, hf⟩ := tbd hf
            refine kVv1 (As := []) (rest := []) hC (c_X4_countVotes (G := G) e15) kq3_146 kc_X4_countVotes (by decide) 0 (ci := 2) rfl rfl hP hK hD hE hS hA hl.1 (Nat.le_of_ble_eq_true rfl) ⟨Nat.zero_le _, Nat.zero_le _⟩ dX4_takePulse_165 (fun u9 H locs hw hP hD hS => ?_)
            obtain rfl := hw
            have hP : va_P (gD G) vwCl (wX4 G h0 a0 q14.1 ++ wX0 G (a0 17) a1 q14.2) H := hP
            have hD : va_D A (wX4 G h0 a0 q14.1 ++ wX0 G (a0 17) a1 q14.2) := hD
            refine lv_iconst (v := (3 : Int32)) hx hb dX4_takePulse_168 (by decide) ?_
            have hf := Option.some.inj hf
            subst hf
            exact e_i (wf := (fun v : Ob × Ob => (wX4 G h0 a0 v.1 ++ wX0 G (a0 17) a1 v.2))) hx hb hr hlk (q14.1, q14.2) ⟨rfl, rfl⟩ hP hK hD hS dX4_takePulse_169
          · have hf := tn hf c9
            refine lv_aload_n hx hb dX4_takePulse_106 rfl (lv_at hl 2 rfl) ?_
            refine lv_aload_n hx hb dX4_takePulse_107 rfl (lv_at hl 2 rfl) ?_
            refine va_get (D := gD G) (ci := 2) (v := .int (u0.1 4)) (C := RX4) (T := TX4) (N := 18) hx hb hg kl_X4 hown hK hP 0 rfl rfl 4 (by decide) (hg _ kq1_61) (fun _ h9 => h9) rfl dX4_takePulse_108 ?_
            refine lv_iconst (v := (1 : Int32)) hx hb dX4_takePulse_111 (by decide) ?_
            refine lv_iadd hx hb dX4_takePulse_112 ?_
            refine lv_iload hx hb dX4_takePulse_113 (lv_at hl 0 rfl) ?_
            refine lv_iconst (v := (1 : Int32)) hx hb dX4_takePulse_115 (by decide) ?_
            refine lv_isub hx hb dX4_takePulse_116 ?_
            obtain ⟨q16, e17, hf⟩ := tbd hf
            refine kVv2 (As := [.int ((u0.1 4) + (1 : Int32)), .int (((u0.1 4) + q4) - (1 : Int32))]) (rest := []) hC (c_X4_doubtSeconds (G := G) e17) kq3_121 kc_X4_doubtSeconds (by decide) 0 (ci := 2) rfl rfl hP hK hD hE hS hA (wr := (wX0 G (a0 17) a1 u1)) [0, 1, 2, 3, 4, 5, 6] [7, 8] rfl rfl (by decide) (by decide) (by decide) hl.1 (Nat.le_of_ble_eq_true rfl) ⟨Nat.zero_le _, Nat.zero_le _⟩ dX4_takePulse_117 (fun u9 H locs hw hP hD hS => ?_)
            obtain rfl := hw
            have hP : va_P (gD G) vwCl (wX4 G h0 a0 q16 ++ wX0 G (a0 17) a1 u1) H := hP.sub [2, 3, 4, 5, 6, 7, 8, 0, 1] rfl
            have hD : va_D A (wX4 G h0 a0 q16 ++ wX0 G (a0 17) a1 u1) := hD.sub [2, 3, 4, 5, 6, 7, 8, 0, 1] (by decide) rfl
            refine lv_aload_n hx hb dX4_takePulse_120 rfl (lv_at hl 2 rfl) ?_
            refine lv_iload hx hb dX4_takePulse_121 (lv_at hl 0 rfl) ?_
            refine va_put (D := gD G) (ci := 2) (v := .int ((u0.1 4) + q4)) (ty := .int) (C := RX4) (T := TX4) (N := 18) hx hb hg kl_X4 tyX4 tyX4_ok nmX4 hown hK hP hD hS 0 rfl rfl 4 (by decide) (hg _ kq1_61) (fun _ h9 => h9) rfl (by decide +kernel) rfl rfl (Nat.le_of_ble_eq_true rfl) dX4_takePulse_123 (fun H locs hP hD hS => ?_)
            have hP : va_P (gD G) vwCl (wX4 G h0 a0 (oi q16 4 ((u0.1 4) + q4)) ++ wX0 G (a0 17) a1 u1) H := hP
            have hD : va_D A (wX4 G h0 a0 (oi q16 4 ((u0.1 4) + q4)) ++ wX0 G (a0 17) a1 u1) := hD
            refine lv_aload_n hx hb dX4_takePulse_126 rfl (lv_at hl 2 rfl) ?_
            refine lv_iload hx hb dX4_takePulse_127 (lv_at hl 0 rfl) ?_
            refine lv_iload_n hx hb dX4_takePulse_129 rfl (lv_at hl 4 rfl) ?_
            obtain ⟨q18, e19, hf⟩ := tbd hf
            refine kVv2 (As := [.int ((u0.1 4) + q4), .int x2]) (rest := []) hC (c_X4_putBit (G := G) e19) kq3_125 kc_X4_putBit (by decide) 0 (ci := 2) rfl rfl hP hK hD hE hS hA (wr := (wX0 G (a0 17) a1 u1)) [0, 1, 2, 3, 4, 5, 6] [7, 8] rfl rfl (by decide) (by decide) (by decide) hl.1 (Nat.le_of_ble_eq_true rfl) ⟨Nat.zero_le _, Nat.zero_le _⟩ dX4_takePulse_130 (fun u9 H locs hw hP hD hS => ?_)
            obtain rfl := hw
            have hP : va_P (gD G) vwCl (wX4 G h0 a0 q18 ++ wX0 G (a0 17) a1 u1) H := hP.sub [2, 3, 4, 5, 6, 7, 8, 0, 1] rfl
            have hD : va_D A (wX4 G h0 a0 q18 ++ wX0 G (a0 17) a1 u1) := hD.sub [2, 3, 4, 5, 6, 7, 8, 0, 1] (by decide) rfl
            refine lv_iload_n hx hb dX4_takePulse_133 rfl (lv_at hl 1 rfl) ?_
            refine lv_iconst (v := (1 : Int32)) hx hb dX4_takePulse_134 (by decide) ?_
            refine lv_icmp_le (tgt := 142) hx hb dX4_takePulse_135 (by decide) (fun c20 => ?_) (fun c20 => ?_)
            · have hf := tp hf c20
              refine lv_iconst (v := (1 : Int32)) hx hb dX4_takePulse_142 (by decide) ?_
              have hf := Option.some.inj hf
              subst hf
              exact e_i (wf := (fun v : Ob × Ob => (wX4 G h0 a0 v.1 ++ wX0 G (a0 17) a1 v.2))) hx hb hr hlk (q18, u1) ⟨rfl, rfl⟩ hP hK hD hS dX4_takePulse_143
            · have hf := tn hf c20
              refine lv_iconst (v := (2 : Int32)) hx hb dX4_takePulse_138 (by decide) ?_
              refine lv_goto (tgt := 143) hx hb dX4_takePulse_139 (by decide) ?_
              have hf := Option.some.inj hf
              subst hf
              exact e_i (wf := (fun v : Ob × Ob => (wX4 G h0 a0 v.1 ++ wX0 G (a0 17) a1 v.2))) hx hb hr hlk (q18, u1) ⟨rfl, rfl⟩ hP hK hD hS dX4_takePulse_143
        · have hf := tp hf c8
          refine lv_aload_n hx hb dX4_takePulse_91 rfl (lv_at hl 2 rfl) ?_
          obtain ⟨q21, e22, hf⟩ := tbd hf
          refine kVv2 (As := []) (rest := []) hC (c_X4_loseStep (G := G) e22) kq3_116 kc_X4_loseStep (by decide) 0 (ci := 2) rfl rfl hP hK hD hE hS hA (wr := (wX0 G (a0 17) a1 u1)) [0, 1, 2, 3, 4, 5, 6] [7, 8] rfl rfl (by decide) (by decide) (by decide) hl.1 (Nat.le_of_ble_eq_true rfl) ⟨Nat.zero_le _, Nat.zero_le _⟩ dX4_takePulse_92 (fun u9 H locs hw hP hD hS => ?_)
          obtain rfl := hw
          have hP : va_P (gD G) vwCl (wX4 G h0 a0 q21 ++ wX0 G (a0 17) a1 u1) H := hP.sub [2, 3, 4, 5, 6, 7, 8, 0, 1] rfl
          have hD : va_D A (wX4 G h0 a0 q21 ++ wX0 G (a0 17) a1 u1) := hD.sub [2, 3, 4, 5, 6, 7, 8, 0, 1] (by decide) rfl
          refine lv_iconst (v := (4 : Int32)) hx hb dX4_takePulse_95 (by decide) ?_
          have hf := Option.some.inj hf
          subst hf
          exact e_i (wf := (fun v : Ob × Ob => (wX4 G h0 a0 v.1 ++ wX0 G (a0 17) a1 v.2))) hx hb hr hlk (q21, u1) ⟨rfl, rfl⟩ hP hK hD hS dX4_takePulse_96
      · have hf := tp hf c7
        refine lv_iload_n hx hb dX4_takePulse_57 rfl (lv_at hl 0 rfl) ?_
        refine lv_iconst (v := (2 : Int32)) hx hb dX4_takePulse_58 (by decide) ?_
        refine lv_icmp_eq (tgt := 64) hx hb dX4_takePulse_59 (by decide) (fun c23 => ?_) (fun c23 => ?_)
        · have hf := tp hf c23
          refine lv_aload_n hx hb dX4_takePulse_64 rfl (lv_at hl 1 rfl) ?_
          refine lv_iconst (v := (0 : Int32)) hx hb dX4_takePulse_65 (by decide) ?_
          refine lv_iload_n hx hb dX4_takePulse_66 rfl (lv_at hl 3 rfl) ?_
          obtain ⟨q24, e25, hf⟩ := tbd hf
          refine kVv2 (As := [.int (0 : Int32), .int x2]) (rest := []) hC (c_X4_beginMinute (G := G) e25) kq3_117 kc_X4_beginMinute (by decide) 0 (ci := 2) rfl rfl hP hK hD hE hS hA (wr := (wX0 G (a0 17) a1 u1)) [0, 1, 2, 3, 4, 5, 6] [7, 8] rfl rfl (by decide) (by decide) (by decide) hl.1 (Nat.le_of_ble_eq_true rfl) ⟨Nat.zero_le _, Nat.zero_le _⟩ dX4_takePulse_67 (fun u9 H locs hw hP hD hS => ?_)
          obtain rfl := hw
          have hP : va_P (gD G) vwCl (wX4 G h0 a0 q24 ++ wX0 G (a0 17) a1 u1) H := hP.sub [2, 3, 4, 5, 6, 7, 8, 0, 1] rfl
          have hD : va_D A (wX4 G h0 a0 q24 ++ wX0 G (a0 17) a1 u1) := hD.sub [2, 3, 4, 5, 6, 7, 8, 0, 1] (by decide) rfl
          refine lv_iconst (v := (3 : Int32)) hx hb dX4_takePulse_70 (by decide) ?_
          have hf := Option.some.inj hf
          subst hf
          exact e_i (wf := (fun v : Ob × Ob => (wX4 G h0 a0 v.1 ++ wX0 G (a0 17) a1 v.2))) hx hb hr hlk (q24, u1) ⟨rfl, rfl⟩ hP hK hD hS dX4_takePulse_71
        · have hf := tn hf c23
          refine lv_iconst (v := (1 : Int32)) hx hb dX4_takePulse_62 (by decide) ?_
          have hf := Option.some.inj hf
          subst hf
          exact e_i (wf := (fun v : Ob × Ob => (wX4 G h0 a0 v.1 ++ wX0 G (a0 17) a1 v.2))) hx hb hr hlk ((oi (oi u0 1 x1) 2 x1), u1) ⟨rfl, rfl⟩ hP hK hD hS dX4_takePulse_63
    · have hf := tn hf c6
      refine lv_aload_n hx hb dX4_takePulse_43 rfl (lv_at hl 1 rfl) ?_
      obtain ⟨q26, e27, hf⟩ := tbd hf
      refine kVv2 (As := []) (rest := []) hC (c_X4_loseStep (G := G) e27) kq3_116 kc_X4_loseStep (by decide) 0 (ci := 2) rfl rfl hP hK hD hE hS hA (wr := (wX0 G (a0 17) a1 u1)) [0, 1, 2, 3, 4, 5, 6] [7, 8] rfl rfl (by decide) (by decide) (by decide) hl.1 (Nat.le_of_ble_eq_true rfl) ⟨Nat.zero_le _, Nat.zero_le _⟩ dX4_takePulse_44 (fun u9 H locs hw hP hD hS => ?_)
      obtain rfl := hw
      have hP : va_P (gD G) vwCl (wX4 G h0 a0 q26 ++ wX0 G (a0 17) a1 u1) H := hP.sub [2, 3, 4, 5, 6, 7, 8, 0, 1] rfl
      have hD : va_D A (wX4 G h0 a0 q26 ++ wX0 G (a0 17) a1 u1) := hD.sub [2, 3, 4, 5, 6, 7, 8, 0, 1] (by decide) rfl
      refine lv_iconst (v := (4 : Int32)) hx hb dX4_takePulse_47 (by decide) ?_
      have hf := Option.some.inj hf
      subst hf
      exact e_i (wf := (fun v : Ob × Ob => (wX4 G h0 a0 v.1 ++ wX0 G (a0 17) a1 v.2))) hx hb hr hlk (q26, u1) ⟨rfl, rfl⟩ hP hK hD hS dX4_takePulse_48
  · have hf := tp hf c3
    refine lv_aload_n hx hb dX4_takePulse_14 rfl (lv_at hl 0 rfl) ?_
    refine lv_dup hx hb dX4_takePulse_15 rfl ?_
    refine va_get (D := gD G) (ci := 2) (v := .int (u0.1 3)) (C := RX4) (T := TX4) (N := 18) hx hb hg kl_X4 hown hK hP 0 rfl rfl 3 (by decide) (hg _ kq1_59) (fun _ h9 => h9) rfl dX4_takePulse_16 ?_
    refine lv_iconst (v := (1 : Int32)) hx hb dX4_takePulse_19 (by decide) ?_
    refine lv_iadd hx hb dX4_takePulse_20 ?_
    refine va_put (D := gD G) (ci := 2) (v := .int ((u0.1 3) + (1 : Int32))) (ty := .int) (C := RX4) (T := TX4) (N := 18) hx hb hg kl_X4 tyX4 tyX4_ok nmX4 hown hK hP hD hS 0 rfl rfl 3 (by decide) (hg _ kq1_59) (fun _ h9 => h9) rfl (by decide +kernel) rfl rfl (Nat.le_of_ble_eq_true rfl) dX4_takePulse_21 (fun H locs hP hD hS => ?_)
    have hP : va_P (gD G) vwCl (wX4 G h0 a0 (oi (oi u0 1 x1) 3 ((u0.1 3) + (1 : Int32))) ++ wX0 G (a0 17) a1 u1) H := hP
    have hD : va_D A (wX4 G h0 a0 (oi (oi u0 1 x1) 3 ((u0.1 3) + (1 : Int32))) ++ wX0 G (a0 17) a1 u1) := hD
    refine lv_iconst (v := (0 : Int32)) hx hb dX4_takePulse_24 (by decide) ?_
    have hf := Option.some.inj hf
    subst hf
    exact e_i (wf := (fun v : Ob × Ob => (wX4 G h0 a0 v.1 ++ wX0 G (a0 17) a1 v.2))) hx hb hr hlk ((oi (oi u0 1 x1) 3 ((u0.1 3) + (1 : Int32))), u1) ⟨rfl, rfl⟩ hP hK hD hS dX4_takePulse_25
set_option maxRecDepth 100000 in
set_option maxHeartbeats 4000000 in
theorem c_X4_hearMinute {l : Launch} {G : Gp} {sz N : Nat} {x1 : Int32} {x2 : Bool} {x3 : Int64} {h0 : Nat} {a0 : Nat → Nat} {u0 : Ob} {a1 : Nat → Nat} {u1 : Ob} {q : Int32 × Ob × Ob} (hf : f_X4_hearMinute N x1 x2 x3 u0 u1 = some q) : Met l yX4_hearMinute (Cond.code yX4_hearMinute cX4_hearMinute 13 (some .int) :: lw_g) ({ frames := 6, cells := 0, slots := 0, locals := 147 } : Room) (va_Pc [.ref h0, .int x1, .int (bI x2), .long x3] (pw G (wX4 G h0 a0 u0 ++ wX0 G (a0 17) a1 u1) sz)) (va_Qi (fun (r : Int32) (v : Ob × Ob) => q.1 = r ∧ q.2 = v) (bw G (fun v : Ob × Ob => (wX4 G h0 a0 v.1 ++ wX0 G (a0 17) a1 v.2)) (va_A (wX4 G h0 a0 u0 ++ wX0 G (a0 17) a1 u1) sz)) (va_A (wX4 G h0 a0 u0 ++ wX0 G (a0 17) a1 u1) sz)) 0 0 (va_A (wX4 G h0 a0 u0 ++ wX0 G (a0 17) a1 u1) sz) := by
  refine mt (Qc := (fun A => va_Qi (fun (r : Int32) (v : Ob × Ob) => q.1 = r ∧ q.2 = v) (bw G (fun v : Ob × Ob => (wX4 G h0 a0 v.1 ++ wX0 G (a0 17) a1 v.2)) A) A)) (by decide) (Nat.le_of_ble_eq_true rfl) ?_
  intro p e s m below meth c A ls hx hb hr hlk hml hts hown hA hP hK hD hE hS hl
  have hown : s.vm.findClass RX4 = some m.cls := hown
  have hg : ∀ w ∈ lw_g, w.before ([.ref h0, .int x1, .int (bI x2), .long x3] : List Value).toArray s = true := fun w h => hts w (List.mem_cons_of_mem _ h)
  have hC : CallFix p m c cX4_hearMinute 13 s ([.ref h0, .int x1, .int (bI x2), .long x3] : List Value).toArray (Cond.code yX4_hearMinute cX4_hearMinute 13 (some .int) :: lw_g) RX4 := ⟨hx, hb, hml, hown, hts⟩
  have hl : lv_has ls 13 [(0, .ref h0), (1, .int x1), (2, .int (bI x2)), (3, .long x3)] := hl
  have lp_19 : ∀ (n : Nat) (x5 : Int64) (x7 : Int32) (x8 : Int32) (x9 : Int32) (u0 : Ob) (u1 : Ob), l_X4_hearMinute_19 N x1 x2 x3 n x5 x7 x8 x9 u0 u1 = some q → ∀ (H : Heap) (locs : List Loc) (ls : Array Slot), va_P (gD G) vwCl (wX4 G h0 a0 u0 ++ wX0 G (a0 17) a1 u1) H → va_D A (wX4 G h0 a0 u0 ++ wX0 G (a0 17) a1 u1) → va_S A s.heap H locs → lv_has ls 13 [(0, .ref h0), (1, .int x1), (2, .int (bI x2)), (3, .long x3), (5, .long x5), (7, .int x7), (8, .int x8), (9, .int x9)] → W p l e ({ frames := 6, cells := 0, slots := 0, locals := 147 } : Room) s m ([.ref h0, .int x1, .int (bI x2), .long x3] : List Value).toArray below meth c H locs 0 0 (MQ below (va_Qi (fun (r : Int32) (v : Ob × Ob) => q.1 = r ∧ q.2 = v) (bw G (fun v : Ob × Ob => (wX4 G h0 a0 v.1 ++ wX0 G (a0 17) a1 v.2)) A) A) ([.ref h0, .int x1, .int (bI x2), .long x3] : List Value).toArray s 0 0 A) (F0 m 19 ls []) := by
    intro n
    induction n with
    | zero => intro x5 x7 x8 x9 u0 u1 hf; rw [l_X4_hearMinute_19] at hf; cases hf
    | succ n ih =>
      intro x5 x7 x8 x9 u0 u1 hf H locs ls hP hD hS hl
      rw [l_X4_hearMinute_19] at hf
      refine lv_iload hx hb dX4_hearMinute_19 (lv_at hl 7 rfl) ?_
      refine lv_bipush (v := (58 : Int32)) hx hb dX4_hearMinute_21 (by decide) ?_
      refine lv_icmp_gt (tgt := 111) hx hb dX4_hearMinute_23 (by decide) (fun c5 => ?_) (fun c5 => ?_)
      · have hf := tp hf c5
        refine lv_iload hx hb dX4_hearMinute_111 (lv_at hl 6 rfl) ?_
        have hf := Option.some.inj hf
        subst hf
        exact e_i (wf := (fun v : Ob × Ob => (wX4 G h0 a0 v.1 ++ wX0 G (a0 17) a1 v.2))) hx hb hr hlk (u0, u1) ⟨rfl, rfl⟩ hP hK hD hS dX4_hearMinute_113
      · have hf := tn hf c5
        refine lv_iload hx hb dX4_hearMinute_26 (lv_at hl 5 rfl) ?_
        refine lv_sipush (v := (1000 : Int32)) hx hb dX4_hearMinute_28 (by decide) ?_
        refine lv_iload hx hb dX4_hearMinute_31 (lv_at hl 7 rfl) ?_
        refine lv_imul hx hb dX4_hearMinute_33 ?_
        refine lv_iadd hx hb dX4_hearMinute_34 ?_
        refine lv_istore (lv' := [(10, .int (x7 + ((1000 : Int32) * x9))), (0, .ref h0), (1, .int x1), (2, .int (bI x2)), (3, .long x3), (5, .long x5), (7, .int x7), (8, .int x8), (9, .int x9)]) hx hb dX4_hearMinute_35 hl (by decide) rfl (fun ls hl => ?_)
        refine lv_lload hx hb dX4_hearMinute_37 (lv_at hl 5 rfl) ?_
        refine lv_iload hx hb dX4_hearMinute_39 (lv_at hl 8 rfl) ?_
        refine lv_lushr (v := (jushr x5 x9)) hx hb dX4_hearMinute_41 rfl ?_
        refine lv_lconst (v := (1 : Int64)) hx hb dX4_hearMinute_42 (by decide) ?_
        refine lv_land hx hb dX4_hearMinute_43 ?_
        refine lv_lconst (v := (0 : Int64)) hx hb dX4_hearMinute_44 (by decide) ?_
        refine lc_eq (tgt := 55) hx hb dX4_hearMinute_45 dX4_hearMinute_46 (by decide) (fun c6 => ?_) (fun c6 => ?_)
        · have hf := tp hf c6
          refine lv_bipush (v := (100 : Int32)) hx hb dX4_hearMinute_55 (by decide) ?_
          refine lv_istore (lv' := [(11, .int (100 : Int32)), (10, .int (x7 + ((1000 : Int32) * x9))), (0, .ref h0), (1, .int x1), (2, .int (bI x2)), (3, .long x3), (5, .long x5), (7, .int x7), (8, .int x8), (9, .int x9)]) hx hb dX4_hearMinute_57 hl (by decide) rfl (fun ls hl => ?_)
          refine lv_lload_n hx hb dX4_hearMinute_59 rfl (lv_at hl 5 rfl) ?_
          refine lv_iload hx hb dX4_hearMinute_60 (lv_at hl 9 rfl) ?_
          refine lv_lushr (v := (jushr x3 x9)) hx hb dX4_hearMinute_62 rfl ?_
          refine lv_lconst (v := (1 : Int64)) hx hb dX4_hearMinute_63 (by decide) ?_
          refine lv_land hx hb dX4_hearMinute_64 ?_
          refine lv_lconst (v := (0 : Int64)) hx hb dX4_hearMinute_65 (by decide) ?_
          refine lc_ne (tgt := 83) hx hb dX4_hearMinute_66 dX4_hearMinute_67 (by decide) (fun c7 => ?_) (fun c7 => ?_)
          · have hf := tn hf c7
            refine lv_iconst (v := (0 : Int32)) hx hb dX4_hearMinute_83 (by decide) ?_
            refine lv_istore (lv' := [(12, .int (0 : Int32)), (11, .int (100 : Int32)), (10, .int (x7 + ((1000 : Int32) * x9))), (0, .ref h0), (1, .int x1), (2, .int (bI x2)), (3, .long x3), (5, .long x5), (7, .int x7), (8, .int x8), (9, .int x9)]) hx hb dX4_hearMinute_84 hl (by decide) rfl (fun ls hl => ?_)
            refine lv_iload hx hb dX4_hearMinute_86 (lv_at hl 0 rfl) ?_
            refine lv_if_eq (tgt := 105) hx hb dX4_hearMinute_88 (by decide) (fun c8 => ?_) (fun c8 => ?_)
            rotate_left
            · exact absurd c8 (by decide)
            refine lv_iinc (v := (x9 + (1 : Int32))) (lv' := [(9, .int (x9 + (1 : Int32))), (12, .int (0 : Int32)), (11, .int (100 : Int32)), (10, .int (x7 + ((1000 : Int32) * x9))), (0, .ref h0), (1, .int x1), (2, .int (bI x2)), (3, .long x3), (5, .long x5), (7, .int x7), (8, .int x8)]) hx hb dX4_hearMinute_105 hl (k := 10) rfl rfl (by decide) rfl (fun ls hl => ?_)
            refine lv_goto (tgt := 19) hx hb dX4_hearMinute_108 (by decide) ?_
            exact ih _ _ _ _ _ _ hf _ _ _ hP hD hS (lv_sub hl [4, 5, 6, 7, 8, 9, 10, 0] rfl)
          · have hf := tp hf c7
            refine lv_iload hx hb dX4_hearMinute_70 (lv_at hl 1 rfl) ?_
            refine lv_aload_n hx hb dX4_hearMinute_72 rfl (lv_at hl 2 rfl) ?_
            refine va_get (D := gD G) (ci := 2) (v := .int (u0.1 1)) (C := RX4) (T := TX4) (N := 18) hx hb hg kl_X4 hown hK hP 0 rfl rfl 1 (by decide) (hg _ kq1_54) (fun _ h9 => h9) rfl dX4_hearMinute_73 ?_
            refine lv_icmp_le (tgt := 83) hx hb dX4_hearMinute_76 (by decide) (fun c9 => ?_) (fun c9 => ?_)
            · have hf := tp hf c9
              refine lv_iconst (v := (0 : Int32)) hx hb dX4_hearMinute_83 (by decide) ?_
              refine lv_istore (lv' := [(12, .int (0 : Int32)), (11, .int (100 : Int32)), (10, .int (x7 + ((1000 : Int32) * x9))), (0, .ref h0), (1, .int x1), (2, .int (bI x2)), (3, .long x3), (5, .long x5), (7, .int x7), (8, .int x8), (9, .int x9)]) hx hb dX4_hearMinute_84 hl (by decide) rfl (fun ls hl => ?_)
              refine lv_iload hx hb dX4_hearMinute_86 (lv_at hl 0 rfl) ?_
              refine lv_if_eq (tgt := 105) hx hb dX4_hearMinute_88 (by decide) (fun c10 => ?_) (fun c10 => ?_)
              rotate_left
              · exact absurd c10 (by decide)
              refine lv_iinc (v := (x9 + (1 : Int32))) (lv' := [(9, .int (x9 + (1 : Int32))), (12, .int (0 : Int32)), (11, .int (100 : Int32)), (10, .int (x7 + ((1000 : Int32) * x9))), (0, .ref h0), (1, .int x1), (2, .int (bI x2)), (3, .long x3), (5, .long x5), (7, .int x7), (8, .int x8)]) hx hb dX4_hearMinute_105 hl (k := 10) rfl rfl (by decide) rfl (fun ls hl => ?_)
              refine lv_goto (tgt := 19) hx hb dX4_hearMinute_108 (by decide) ?_
              exact ih _ _ _ _ _ _ hf _ _ _ hP hD hS (lv_sub hl [4, 5, 6, 7, 8, 9, 10, 0] rfl)
            · have hf := tn hf c9
              refine lv_iconst (v := (1 : Int32)) hx hb dX4_hearMinute_79 (by decide) ?_
              refine lv_goto (tgt := 84) hx hb dX4_hearMinute_80 (by decide) ?_
              refine lv_istore (lv' := [(12, .int (1 : Int32)), (11, .int (100 : Int32)), (10, .int (x7 + ((1000 : Int32) * x9))), (0, .ref h0), (1, .int x1), (2, .int (bI x2)), (3, .long x3), (5, .long x5), (7, .int x7), (8, .int x8), (9, .int x9)]) hx hb dX4_hearMinute_84 hl (by decide) rfl (fun ls hl => ?_)
              refine lv_iload hx hb dX4_hearMinute_86 (lv_at hl 0 rfl) ?_
              refine lv_if_eq (tgt := 105) hx hb dX4_hearMinute_88 (by decide) (fun c11 => ?_) (fun c11 => ?_)
              · exact absurd c11 (by decide)
              refine lv_aload_n hx hb dX4_hearMinute_91 rfl (lv_at hl 3 rfl) ?_
              refine lv_iload hx hb dX4_hearMinute_92 (lv_at hl 2 rfl) ?_
              refine lv_iload hx hb dX4_hearMinute_94 (lv_at hl 1 rfl) ?_
              obtain ⟨q12, e13, hf⟩ := tbd hf
              refine kVi1 (As := [.int (x7 + ((1000 : Int32) * x9)), .int (100 : Int32)]) (rest := []) hC (c_X4_takePulse (G := G) e13) kq3_180 kc_X4_takePulse (by decide) 0 (ci := 2) rfl rfl hP hK hD hE hS hA hl.1 (Nat.le_of_ble_eq_true rfl) ⟨Nat.zero_le _, Nat.zero_le _⟩ dX4_hearMinute_96 (fun r9 u9 H locs hw hP hD hS => ?_)
              obtain ⟨rfl, rfl⟩ := hw
              have hP : va_P (gD G) vwCl (wX4 G h0 a0 q12.2.1 ++ wX0 G (a0 17) a1 q12.2.2) H := hP
              have hD : va_D A (wX4 G h0 a0 q12.2.1 ++ wX0 G (a0 17) a1 q12.2.2) := hD
              refine lv_if_eq (tgt := 105) hx hb dX4_hearMinute_99 (by decide) (fun c14 => ?_) (fun c14 => ?_)
              · have hf := tp hf c14
                refine lv_iinc (v := (x9 + (1 : Int32))) (lv' := [(9, .int (x9 + (1 : Int32))), (12, .int (1 : Int32)), (11, .int (100 : Int32)), (10, .int (x7 + ((1000 : Int32) * x9))), (0, .ref h0), (1, .int x1), (2, .int (bI x2)), (3, .long x3), (5, .long x5), (7, .int x7), (8, .int x8)]) hx hb dX4_hearMinute_105 hl (k := 10) rfl rfl (by decide) rfl (fun ls hl => ?_)
                refine lv_goto (tgt := 19) hx hb dX4_hearMinute_108 (by decide) ?_
                exact ih _ _ _ _ _ _ hf _ _ _ hP hD hS (lv_sub hl [4, 5, 6, 7, 8, 9, 10, 0] rfl)
              · have hf := tn hf c14
                refine lv_iinc (v := (x8 + (1 : Int32))) (lv' := [(8, .int (x8 + (1 : Int32))), (12, .int (1 : Int32)), (11, .int (100 : Int32)), (10, .int (x7 + ((1000 : Int32) * x9))), (0, .ref h0), (1, .int x1), (2, .int (bI x2)), (3, .long x3), (5, .long x5), (7, .int x7), (9, .int x9)]) hx hb dX4_hearMinute_102 hl (k := 9) rfl rfl (by decide) rfl (fun ls hl => ?_)
                refine lv_iinc (v := (x9 + (1 : Int32))) (lv' := [(9, .int (x9 + (1 : Int32))), (8, .int (x8 + (1 : Int32))), (12, .int (1 : Int32)), (11, .int (100 : Int32)), (10, .int (x7 + ((1000 : Int32) * x9))), (0, .ref h0), (1, .int x1), (2, .int (bI x2)), (3, .long x3), (5, .long x5), (7, .int x7)]) hx hb dX4_hearMinute_105 hl (k := 10) rfl rfl (by decide) rfl (fun ls hl => ?_)
                refine lv_goto (tgt := 19) hx hb dX4_hearMinute_108 (by decide) ?_
                exact ih _ _ _ _ _ _ hf _ _ _ hP hD hS (lv_sub hl [5, 6, 7, 8, 9, 10, 1, 0] rfl)
        · have hf := tn hf c6
          refine lv_sipush (v := (200 : Int32)) hx hb dX4_hearMinute_49 (by decide) ?_
          refine lv_goto (tgt := 57) hx hb dX4_hearMinute_52 (by decide) ?_
          refine lv_istore (lv' := [(11, .int (200 : Int32)), (10, .int (x7 + ((1000 : Int32) * x9))), (0, .ref h0), (1, .int x1), (2, .int (bI x2)), (3, .long x3), (5, .long x5), (7, .int x7), (8, .int x8), (9, .int x9)]) hx hb dX4_hearMinute_57 hl (by decide) rfl (fun ls hl => ?_)
          refine lv_lload_n hx hb dX4_hearMinute_59 rfl (lv_at hl 5 rfl) ?_
          refine lv_iload hx hb dX4_hearMinute_60 (lv_at hl 9 rfl) ?_
          refine lv_lushr (v := (jushr x3 x9)) hx hb dX4_hearMinute_62 rfl ?_
          refine lv_lconst (v := (1 : Int64)) hx hb dX4_hearMinute_63 (by decide) ?_
          refine lv_land hx hb dX4_hearMinute_64 ?_
          refine lv_lconst (v := (0 : Int64)) hx hb dX4_hearMinute_65 (by decide) ?_
          refine lc_ne (tgt := 83) hx hb dX4_hearMinute_66 dX4_hearMinute_67 (by decide) (fun c15 => ?_) (fun c15 => ?_)
          · have hf := tn hf c15
            refine lv_iconst (v := (0 : Int32)) hx hb dX4_hearMinute_83 (by decide) ?_
            refine lv_istore (lv' := [(12, .int (0 : Int32)), (11, .int (200 : Int32)), (10, .int (x7 + ((1000 : Int32) * x9))), (0, .ref h0), (1, .int x1), (2, .int (bI x2)), (3, .long x3), (5, .long x5), (7, .int x7), (8, .int x8), (9, .int x9)]) hx hb dX4_hearMinute_84 hl (by decide) rfl (fun ls hl => ?_)
            refine lv_iload hx hb dX4_hearMinute_86 (lv_at hl 0 rfl) ?_
            refine lv_if_eq (tgt := 105) hx hb dX4_hearMinute_88 (by decide) (fun c16 => ?_) (fun c16 => ?_)
            rotate_left
            · exact absurd c16 (by decide)
            refine lv_iinc (v := (x9 + (1 : Int32))) (lv' := [(9, .int (x9 + (1 : Int32))), (12, .int (0 : Int32)), (11, .int (200 : Int32)), (10, .int (x7 + ((1000 : Int32) * x9))), (0, .ref h0), (1, .int x1), (2, .int (bI x2)), (3, .long x3), (5, .long x5), (7, .int x7), (8, .int x8)]) hx hb dX4_hearMinute_105 hl (k := 10) rfl rfl (by decide) rfl (fun ls hl => ?_)
            refine lv_goto (tgt := 19) hx hb dX4_hearMinute_108 (by decide) ?_
            exact ih _ _ _ _ _ _ hf _ _ _ hP hD hS (lv_sub hl [4, 5, 6, 7, 8, 9, 10, 0] rfl)
          · have hf := tp hf c15
            refine lv_iload hx hb dX4_hearMinute_70 (lv_at hl 1 rfl) ?_
            refine lv_aload_n hx hb dX4_hearMinute_72 rfl (lv_at hl 2 rfl) ?_
            refine va_get (D := gD G) (ci := 2) (v := .int (u0.1 1)) (C := RX4) (T := TX4) (N := 18) hx hb hg kl_X4 hown hK hP 0 rfl rfl 1 (by decide) (hg _ kq1_54) (fun _ h9 => h9) rfl dX4_hearMinute_73 ?_
            refine lv_icmp_le (tgt := 83) hx hb dX4_hearMinute_76 (by decide) (fun c17 => ?_) (fun c17 => ?_)
            · have hf := tp hf c17
              refine lv_iconst (v := (0 : Int32)) hx hb dX4_hearMinute_83 (by decide) ?_
              refine lv_istore (lv' := [(12, .int (0 : Int32)), (11, .int (200 : Int32)), (10, .int (x7 + ((1000 : Int32) * x9))), (0, .ref h0), (1, .int x1), (2, .int (bI x2)), (3, .long x3), (5, .long x5), (7, .int x7), (8, .int x8), (9, .int x9)]) hx hb dX4_hearMinute_84 hl (by decide) rfl (fun ls hl => ?_)
              refine lv_iload hx hb dX4_hearMinute_86 (lv_at hl 0 rfl) ?_
              refine lv_if_eq (tgt := 105) hx hb dX4_hearMinute_88 (by decide) (fun c18 => ?_) (fun c18 => ?_)
              rotate_left
              · exact absurd c18 (by decide)
              refine lv_iinc (v := (x9 + (1 : Int32))) (lv' := [(9, .int (x9 + (1 : Int32))), (12, .int (0 : Int32)), (11, .int (200 : Int32)), (10, .int (x7 + ((1000 : Int32) * x9))), (0, .ref h0), (1, .int x1), (2, .int (bI x2)), (3, .long x3), (5, .long x5), (7, .int x7), (8, .int x8)]) hx hb dX4_hearMinute_105 hl (k := 10) rfl rfl (by decide) rfl (fun ls hl => ?_)
              refine lv_goto (tgt := 19) hx hb dX4_hearMinute_108 (by decide) ?_
              exact ih _ _ _ _ _ _ hf _ _ _ hP hD hS (lv_sub hl [4, 5, 6, 7, 8, 9, 10, 0] rfl)
            · have hf := tn hf c17
              refine lv_iconst (v := (1 : Int32)) hx hb dX4_hearMinute_79 (by decide) ?_
              refine lv_goto (tgt := 84) hx hb dX4_hearMinute_80 (by decide) ?_
              refine lv_istore (lv' := [(12, .int (1 : Int32)), (11, .int (200 : Int32)), (10, .int (x7 + ((1000 : Int32) * x9))), (0, .ref h0), (1, .int x1), (2, .int (bI x2)), (3, .long x3), (5, .long x5), (7, .int x7), (8, .int x8), (9, .int x9)]) hx hb dX4_hearMinute_84 hl (by decide) rfl (fun ls hl => ?_)
              refine lv_iload hx hb dX4_hearMinute_86 (lv_at hl 0 rfl) ?_
              refine lv_if_eq (tgt := 105) hx hb dX4_hearMinute_88 (by decide) (fun c19 => ?_) (fun c19 => ?_)
              · exact absurd c19 (by decide)
              refine lv_aload_n hx hb dX4_hearMinute_91 rfl (lv_at hl 3 rfl) ?_
              refine lv_iload hx hb dX4_hearMinute_92 (lv_at hl 2 rfl) ?_
              refine lv_iload hx hb dX4_hearMinute_94 (lv_at hl 1 rfl) ?_
              obtain ⟨q20, e21, hf⟩ := tbd hf
              refine kVi1 (As := [.int (x7 + ((1000 : Int32) * x9)), .int (200 : Int32)]) (rest := []) hC (c_X4_takePulse (G := G) e21) kq3_180 kc_X4_takePulse (by decide) 0 (ci := 2) rfl rfl hP hK hD hE hS hA hl.1 (Nat.le_of_ble_eq_true rfl) ⟨Nat.zero_le _, Nat.zero_le _⟩ dX4_hearMinute_96 (fun r9 u9 H locs hw hP hD hS => ?_)
              obtain ⟨rfl, rfl⟩ := hw
              have hP : va_P (gD G) vwCl (wX4 G h0 a0 q20.2.1 ++ wX0 G (a0 17) a1 q20.2.2) H := hP
              have hD : va_D A (wX4 G h0 a0 q20.2.1 ++ wX0 G (a0 17) a1 q20.2.2) := hD
              refine lv_if_eq (tgt := 105) hx hb dX4_hearMinute_99 (by decide) (fun c22 => ?_) (fun c22 => ?_)
              · have hf := tp hf c22
                refine lv_iinc (v := (x9 + (1 : Int32))) (lv' := [(9, .int (x9 + (1 : Int32))), (12, .int (1 : Int32)), (11, .int (200 : Int32)), (10, .int (x7 + ((1000 : Int32) * x9))), (0, .ref h0), (1, .int x1), (2, .int (bI x2)), (3, .long x3), (5, .long x5), (7, .int x7), (8, .int x8)]) hx hb dX4_hearMinute_105 hl (k := 10) rfl rfl (by decide) rfl (fun ls hl => ?_)
                refine lv_goto (tgt := 19) hx hb dX4_hearMinute_108 (by decide) ?_
                exact ih _ _ _ _ _ _ hf _ _ _ hP hD hS (lv_sub hl [4, 5, 6, 7, 8, 9, 10, 0] rfl)
              · have hf := tn hf c22
                refine lv_iinc (v := (x8 + (1 : Int32))) (lv' := [(8, .int (x8 + (1 : Int32))), (12, .int (1 : Int32)), (11, .int (200 : Int32)), (10, .int (x7 + ((1000 : Int32) * x9))), (0, .ref h0), (1, .int x1), (2, .int (bI x2)), (3, .long x3), (5, .long x5), (7, .int x7), (9, .int x9)]) hx hb dX4_hearMinute_102 hl (k := 9) rfl rfl (by decide) rfl (fun ls hl => ?_)
                refine lv_iinc (v := (x9 + (1 : Int32))) (lv' := [(9, .int (x9 + (1 : Int32))), (8, .int (x8 + (1 : Int32))), (12, .int (1 : Int32)), (11, .int (200 : Int32)), (10, .int (x7 + ((1000 : Int32) * x9))), (0, .ref h0), (1, .int x1), (2, .int (bI x2)), (3, .long x3), (5, .long x5), (7, .int x7)]) hx hb dX4_hearMinute_105 hl (k := 10) rfl rfl (by decide) rfl (fun ls hl => ?_)
                refine lv_goto (tgt := 19) hx hb dX4_hearMinute_108 (by decide) ?_
                exact ih _ _ _ _ _ _ hf _ _ _ hP hD hS (lv_sub hl [5, 6, 7, 8, 9, 10, 1, 0] rfl)
  rw [f_X4_hearMinute] at hf
  refine lv_iload_n hx hb dX4_hearMinute_0 rfl (lv_at hl 1 rfl) ?_
  refine lv_iload_n hx hb dX4_hearMinute_1 rfl (lv_at hl 2 rfl) ?_
  obtain ⟨q1, e2, hf⟩ := tbd hf
  refine kSl0 (As := [.int x1, .int (bI x2)]) (rest := []) hC (c_X2_encode (G := G) e2) kq3_160 kc_X2_encode (by decide) hP hK hD hE hS hA hl.1 (Nat.le_of_ble_eq_true rfl) ⟨Nat.zero_le _, Nat.zero_le _⟩ dX4_hearMinute_2 (fun r9 u9 H locs hw hP hD hS => ?_)
  obtain ⟨rfl, rfl⟩ := hw
  refine lv_lstore (lv' := [(5, .long q1), (0, .ref h0), (1, .int x1), (2, .int (bI x2)), (3, .long x3)]) hx hb dX4_hearMinute_5 hl (by decide) rfl (fun ls hl => ?_)
  refine lv_aload_n hx hb dX4_hearMinute_7 rfl (lv_at hl 1 rfl) ?_
  obtain ⟨q3, e4, hf⟩ := tbd hf
  refine kVi2 (As := []) (rest := []) hC (c_X4_hearingStart (G := G) e4) kq3_76 kc_X4_hearingStart (by decide) 0 (ci := 2) rfl rfl hP hK hD hE hS hA (wr := (wX0 G (a0 17) a1 u1)) [0, 1, 2, 3, 4, 5, 6] [7, 8] rfl rfl (by decide) (by decide) (by decide) hl.1 (Nat.le_of_ble_eq_true rfl) ⟨Nat.zero_le _, Nat.zero_le _⟩ dX4_hearMinute_8 (fun r9 u9 H locs hw hP hD hS => ?_)
  obtain ⟨rfl, rfl⟩ := hw
  have hP : va_P (gD G) vwCl (wX4 G h0 a0 u0 ++ wX0 G (a0 17) a1 u1) H := hP.sub [2, 3, 4, 5, 6, 7, 8, 0, 1] rfl
  have hD : va_D A (wX4 G h0 a0 u0 ++ wX0 G (a0 17) a1 u1) := hD.sub [2, 3, 4, 5, 6, 7, 8, 0, 1] (by decide) rfl
  refine lv_istore (lv' := [(7, .int q3), (5, .long q1), (0, .ref h0), (1, .int x1), (2, .int (bI x2)), (3, .long x3)]) hx hb dX4_hearMinute_11 hl (by decide) rfl (fun ls hl => ?_)
  refine lv_iconst (v := (0 : Int32)) hx hb dX4_hearMinute_13 (by decide) ?_
  refine lv_istore (lv' := [(8, .int (0 : Int32)), (7, .int q3), (5, .long q1), (0, .ref h0), (1, .int x1), (2, .int (bI x2)), (3, .long x3)]) hx hb dX4_hearMinute_14 hl (by decide) rfl (fun ls hl => ?_)
  refine lv_iconst (v := (0 : Int32)) hx hb dX4_hearMinute_16 (by decide) ?_
  refine lv_istore (lv' := [(9, .int (0 : Int32)), (8, .int (0 : Int32)), (7, .int q3), (5, .long q1), (0, .ref h0), (1, .int x1), (2, .int (bI x2)), (3, .long x3)]) hx hb dX4_hearMinute_17 hl (by decide) rfl (fun ls hl => ?_)
  exact lp_19 N _ _ _ _ _ _ hf _ _ _ hP hD hS (lv_sub hl [4, 5, 6, 7, 3, 2, 1, 0] rfl)
set_option maxRecDepth 100000 in
set_option maxHeartbeats 4000000 in
theorem c_X4_blockWinner {l : Launch} {G : Gp} {sz N : Nat} {x1 : Int32} {x2 : Int32} {h0 : Nat} {a0 : Nat → Nat} {u0 : Ob} {a1 : Nat → Nat} {u1 : Ob} {q : Int32 × Ob × Ob} (hf : f_X4_blockWinner N x1 x2 u0 u1 = some q) : Met l yX4_blockWinner (Cond.code yX4_blockWinner cX4_blockWinner 4 (some .int) :: lw_g) ({ frames := 3, cells := 0, slots := 0, locals := 73 } : Room) (va_Pc [.ref h0, .int x1, .int x2] (pw G (wX4 G h0 a0 u0 ++ wX0 G (a0 17) a1 u1) sz)) (va_Qi (fun (r : Int32) (v : Ob × Ob) => q.1 = r ∧ q.2 = v) (bw G (fun v : Ob × Ob => (wX4 G h0 a0 v.1 ++ wX0 G (a0 17) a1 v.2)) (va_A (wX4 G h0 a0 u0 ++ wX0 G (a0 17) a1 u1) sz)) (va_A (wX4 G h0 a0 u0 ++ wX0 G (a0 17) a1 u1) sz)) 0 0 (va_A (wX4 G h0 a0 u0 ++ wX0 G (a0 17) a1 u1) sz) := by
  refine mt (Qc := (fun A => va_Qi (fun (r : Int32) (v : Ob × Ob) => q.1 = r ∧ q.2 = v) (bw G (fun v : Ob × Ob => (wX4 G h0 a0 v.1 ++ wX0 G (a0 17) a1 v.2)) A) A)) (by decide) (Nat.le_of_ble_eq_true rfl) ?_
  intro p e s m below meth c A ls hx hb hr hlk hml hts hown hA hP hK hD hE hS hl
  have hown : s.vm.findClass RX4 = some m.cls := hown
  have hg : ∀ w ∈ lw_g, w.before ([.ref h0, .int x1, .int x2] : List Value).toArray s = true := fun w h => hts w (List.mem_cons_of_mem _ h)
  have hC : CallFix p m c cX4_blockWinner 4 s ([.ref h0, .int x1, .int x2] : List Value).toArray (Cond.code yX4_blockWinner cX4_blockWinner 4 (some .int) :: lw_g) RX4 := ⟨hx, hb, hml, hown, hts⟩
  have hl : lv_has ls 4 [(0, .ref h0), (1, .int x1), (2, .int x2)] := hl
  have lp_9 : ∀ (n : Nat) (x3 : Int32) (u0 : Ob) (u1 : Ob), l_X4_blockWinner_9 N x1 x2 n x3 u0 u1 = some q → ∀ (H : Heap) (locs : List Loc) (ls : Array Slot), va_P (gD G) vwCl (wX4 G h0 a0 u0 ++ wX0 G (a0 17) a1 u1) H → va_D A (wX4 G h0 a0 u0 ++ wX0 G (a0 17) a1 u1) → va_S A s.heap H locs → lv_has ls 4 [(0, .ref h0), (1, .int x1), (2, .int x2), (3, .int x3)] → W p l e ({ frames := 3, cells := 0, slots := 0, locals := 73 } : Room) s m ([.ref h0, .int x1, .int x2] : List Value).toArray below meth c H locs 0 0 (MQ below (va_Qi (fun (r : Int32) (v : Ob × Ob) => q.1 = r ∧ q.2 = v) (bw G (fun v : Ob × Ob => (wX4 G h0 a0 v.1 ++ wX0 G (a0 17) a1 v.2)) A) A) ([.ref h0, .int x1, .int x2] : List Value).toArray s 0 0 A) (F0 m 9 ls []) := by
    intro n
    induction n with
    | zero => intro x3 u0 u1 hf; rw [l_X4_blockWinner_9] at hf; cases hf
    | succ n ih =>
      intro x3 u0 u1 hf H locs ls hP hD hS hl
      rw [l_X4_blockWinner_9] at hf
      refine lv_iload_n hx hb dX4_blockWinner_9 rfl (lv_at hl 3 rfl) ?_
      refine lv_aload_n hx hb dX4_blockWinner_10 rfl (lv_at hl 0 rfl) ?_
      refine va_get (D := gD G) (ci := 2) (v := .int (u0.1 11)) (C := RX4) (T := TX4) (N := 18) hx hb hg kl_X4 hown hK hP 0 rfl rfl 11 (by decide) (hg _ kq1_74) (fun _ h9 => h9) rfl dX4_blockWinner_11 ?_
      refine lv_icmp_ge (tgt := 51) hx hb dX4_blockWinner_14 (by decide) (fun c3 => ?_) (fun c3 => ?_)
      · have hf := tp hf c3
        refine lv_aload_n hx hb dX4_blockWinner_51 rfl (lv_at hl 0 rfl) ?_
        refine va_get (D := gD G) (ci := 2) (v := .ref (a0 17)) (C := RX4) (T := TX4) (N := 18) hx hb hg kl_X4 hown hK hP 0 rfl rfl 17 (by decide) (hg _ kq1_86) (fun _ h9 => h9) rfl dX4_blockWinner_52 ?_
        refine lv_aload_n hx hb dX4_blockWinner_55 rfl (lv_at hl 0 rfl) ?_
        refine va_get (D := gD G) (ci := 2) (v := .ref (a0 0)) (C := RX4) (T := TX4) (N := 18) hx hb hg kl_X4 hown hK hP 0 rfl rfl 0 (by decide) (hg _ kq1_52) (fun _ h9 => h9) rfl dX4_blockWinner_56 ?_
        refine lv_iconst (v := (1 : Int32)) hx hb dX4_blockWinner_59 (by decide) ?_
        refine va_iald (f := (u0.2.2.1 0)) hx hb hK hP 1 1 rfl rfl (vin (by decide)) dX4_blockWinner_60 ?_
        obtain ⟨q4, e5, hf⟩ := tbd hf
        refine kVi2 (As := [.int ((u0.2.2.1 0) (1 : Int32).toNatClampNeg)]) (rest := []) hC (c_X0_winner (G := G) e5) kq2_57 kc_X0_winner (by decide) 0 (ci := 0) rfl rfl hP hK hD hE hS hA (wr := (wX4 G h0 a0 u0)) [7, 8] [0, 1, 2, 3, 4, 5, 6] rfl rfl (by decide) (by decide) (by decide) hl.1 (Nat.le_of_ble_eq_true rfl) ⟨Nat.zero_le _, Nat.zero_le _⟩ dX4_blockWinner_61 (fun r9 u9 H locs hw hP hD hS => ?_)
        obtain ⟨rfl, rfl⟩ := hw
        have hP : va_P (gD G) vwCl (wX4 G h0 a0 u0 ++ wX0 G (a0 17) a1 u1) H := hP
        have hD : va_D A (wX4 G h0 a0 u0 ++ wX0 G (a0 17) a1 u1) := hD
        have hf := Option.some.inj hf
        subst hf
        exact e_i (wf := (fun v : Ob × Ob => (wX4 G h0 a0 v.1 ++ wX0 G (a0 17) a1 v.2))) hx hb hr hlk (u0, u1) ⟨rfl, rfl⟩ hP hK hD hS dX4_blockWinner_64
      · have hf := tn hf c3
        refine lv_iload_n hx hb dX4_blockWinner_17 rfl (lv_at hl 3 rfl) ?_
        refine lv_iload_n hx hb dX4_blockWinner_18 rfl (lv_at hl 2 rfl) ?_
        refine lv_icmp_gt (tgt := 51) hx hb dX4_blockWinner_19 (by decide) (fun c6 => ?_) (fun c6 => ?_)
        · have hf := tp hf c6
          refine lv_aload_n hx hb dX4_blockWinner_51 rfl (lv_at hl 0 rfl) ?_
          refine va_get (D := gD G) (ci := 2) (v := .ref (a0 17)) (C := RX4) (T := TX4) (N := 18) hx hb hg kl_X4 hown hK hP 0 rfl rfl 17 (by decide) (hg _ kq1_86) (fun _ h9 => h9) rfl dX4_blockWinner_52 ?_
          refine lv_aload_n hx hb dX4_blockWinner_55 rfl (lv_at hl 0 rfl) ?_
          refine va_get (D := gD G) (ci := 2) (v := .ref (a0 0)) (C := RX4) (T := TX4) (N := 18) hx hb hg kl_X4 hown hK hP 0 rfl rfl 0 (by decide) (hg _ kq1_52) (fun _ h9 => h9) rfl dX4_blockWinner_56 ?_
          refine lv_iconst (v := (1 : Int32)) hx hb dX4_blockWinner_59 (by decide) ?_
          refine va_iald (f := (u0.2.2.1 0)) hx hb hK hP 1 1 rfl rfl (vin (by decide)) dX4_blockWinner_60 ?_
          obtain ⟨q7, e8, hf⟩ := tbd hf
          refine kVi2 (As := [.int ((u0.2.2.1 0) (1 : Int32).toNatClampNeg)]) (rest := []) hC (c_X0_winner (G := G) e8) kq2_57 kc_X0_winner (by decide) 0 (ci := 0) rfl rfl hP hK hD hE hS hA (wr := (wX4 G h0 a0 u0)) [7, 8] [0, 1, 2, 3, 4, 5, 6] rfl rfl (by decide) (by decide) (by decide) hl.1 (Nat.le_of_ble_eq_true rfl) ⟨Nat.zero_le _, Nat.zero_le _⟩ dX4_blockWinner_61 (fun r9 u9 H locs hw hP hD hS => ?_)
          obtain ⟨rfl, rfl⟩ := hw
          have hP : va_P (gD G) vwCl (wX4 G h0 a0 u0 ++ wX0 G (a0 17) a1 u1) H := hP
          have hD : va_D A (wX4 G h0 a0 u0 ++ wX0 G (a0 17) a1 u1) := hD
          have hf := Option.some.inj hf
          subst hf
          exact e_i (wf := (fun v : Ob × Ob => (wX4 G h0 a0 v.1 ++ wX0 G (a0 17) a1 v.2))) hx hb hr hlk (u0, u1) ⟨rfl, rfl⟩ hP hK hD hS dX4_blockWinner_64
        · have hf := tn hf c6
          refine lv_aload_n hx hb dX4_blockWinner_22 rfl (lv_at hl 0 rfl) ?_
          refine va_get (D := gD G) (ci := 2) (v := .ref (a0 17)) (C := RX4) (T := TX4) (N := 18) hx hb hg kl_X4 hown hK hP 0 rfl rfl 17 (by decide) (hg _ kq1_86) (fun _ h9 => h9) rfl dX4_blockWinner_23 ?_
          refine lv_aload_n hx hb dX4_blockWinner_26 rfl (lv_at hl 0 rfl) ?_
          refine va_get (D := gD G) (ci := 2) (v := .ref (a0 8)) (C := RX4) (T := TX4) (N := 18) hx hb hg kl_X4 hown hK hP 0 rfl rfl 8 (by decide) (hg _ kq1_69) (fun _ h9 => h9) rfl dX4_blockWinner_27 ?_
          refine lv_iload_n hx hb dX4_blockWinner_30 rfl (lv_at hl 3 rfl) ?_
          obtain ⟨b9, hf⟩ := tno hf
          refine va_lald (f := (u0.2.2.2 8)) hx hb hK hP 2 2 rfl rfl b9 dX4_blockWinner_31 ?_
          refine lv_aload_n hx hb dX4_blockWinner_32 rfl (lv_at hl 0 rfl) ?_
          refine va_get (D := gD G) (ci := 2) (v := .ref (a0 9)) (C := RX4) (T := TX4) (N := 18) hx hb hg kl_X4 hown hK hP 0 rfl rfl 9 (by decide) (hg _ kq1_71) (fun _ h9 => h9) rfl dX4_blockWinner_33 ?_
          refine lv_iload_n hx hb dX4_blockWinner_36 rfl (lv_at hl 3 rfl) ?_
          obtain ⟨b10, hf⟩ := tno hf
          refine va_lald (f := (u0.2.2.2 9)) hx hb hK hP 3 2 rfl rfl b10 dX4_blockWinner_37 ?_
          refine lv_iload_n hx hb dX4_blockWinner_38 rfl (lv_at hl 1 rfl) ?_
          obtain ⟨q11, e12, hf⟩ := tbd hf
          refine kSi0 (As := [.long ((u0.2.2.2 8) x3.toNatClampNeg), .long ((u0.2.2.2 9) x3.toNatClampNeg), .int x1]) (rest := [.ref (a0 17)]) hC (c_X2_blockValue (G := G) e12) kq2_20 kc_X2_blockValue (by decide) hP hK hD hE hS hA hl.1 (Nat.le_of_ble_eq_true rfl) ⟨Nat.zero_le _, Nat.zero_le _⟩ dX4_blockWinner_39 (fun r9 u9 H locs hw hP hD hS => ?_)
          obtain ⟨rfl, rfl⟩ := hw
          obtain ⟨q13, e14, hf⟩ := tbd hf
          refine kVv2 (As := [.int q11]) (rest := []) hC (c_X0_cast (G := G) e14) kq2_4 kc_X0_cast (by decide) 0 (ci := 0) rfl rfl hP hK hD hE hS hA (wr := (wX4 G h0 a0 u0)) [7, 8] [0, 1, 2, 3, 4, 5, 6] rfl rfl (by decide) (by decide) (by decide) hl.1 (Nat.le_of_ble_eq_true rfl) ⟨Nat.zero_le _, Nat.zero_le _⟩ dX4_blockWinner_42 (fun u9 H locs hw hP hD hS => ?_)
          obtain rfl := hw
          have hP : va_P (gD G) vwCl (wX4 G h0 a0 u0 ++ wX0 G (a0 17) a1 q13) H := hP
          have hD : va_D A (wX4 G h0 a0 u0 ++ wX0 G (a0 17) a1 q13) := hD
          refine lv_iinc (v := (x3 + (1 : Int32))) (lv' := [(3, .int (x3 + (1 : Int32))), (0, .ref h0), (1, .int x1), (2, .int x2)]) hx hb dX4_blockWinner_45 hl (k := 3) rfl rfl (by decide) rfl (fun ls hl => ?_)
          refine lv_goto (tgt := 9) hx hb dX4_blockWinner_48 (by decide) ?_
          exact ih _ _ _ hf _ _ _ hP hD hS (lv_sub hl [1, 2, 3, 0] rfl)
  rw [f_X4_blockWinner] at hf
  refine lv_aload_n hx hb dX4_blockWinner_0 rfl (lv_at hl 0 rfl) ?_
  refine va_get (D := gD G) (ci := 2) (v := .ref (a0 17)) (C := RX4) (T := TX4) (N := 18) hx hb hg kl_X4 hown hK hP 0 rfl rfl 17 (by decide) (hg _ kq1_86) (fun _ h9 => h9) rfl dX4_blockWinner_1 ?_
  obtain ⟨q1, e2, hf⟩ := tbd hf
  refine kVv2 (As := []) (rest := []) hC (c_X0_open (G := G) e2) kq1_225 kc_X0_open (by decide) 0 (ci := 0) rfl rfl hP hK hD hE hS hA (wr := (wX4 G h0 a0 u0)) [7, 8] [0, 1, 2, 3, 4, 5, 6] rfl rfl (by decide) (by decide) (by decide) hl.1 (Nat.le_of_ble_eq_true rfl) ⟨Nat.zero_le _, Nat.zero_le _⟩ dX4_blockWinner_4 (fun u9 H locs hw hP hD hS => ?_)
  obtain rfl := hw
  have hP : va_P (gD G) vwCl (wX4 G h0 a0 u0 ++ wX0 G (a0 17) a1 q1) H := hP
  have hD : va_D A (wX4 G h0 a0 u0 ++ wX0 G (a0 17) a1 q1) := hD
  refine lv_iconst (v := (0 : Int32)) hx hb dX4_blockWinner_7 (by decide) ?_
  refine lv_istore_n (lv' := [(3, .int (0 : Int32)), (0, .ref h0), (1, .int x1), (2, .int x2)]) hx hb dX4_blockWinner_8 rfl hl (by decide) rfl (fun ls hl => ?_)
  exact lp_9 N _ _ _ hf _ _ _ hP hD hS (lv_sub hl [1, 2, 3, 0] rfl)
set_option maxRecDepth 100000 in
set_option maxHeartbeats 4000000 in
theorem c_X4_assembledMinute {l : Launch} {G : Gp} {sz N : Nat} {h0 : Nat} {a0 : Nat → Nat} {u0 : Ob} {a1 : Nat → Nat} {u1 : Ob} {q : Int32 × Ob × Ob} (hf : f_X4_assembledMinute N u0 u1 = some q) : Met l yX4_assembledMinute (Cond.code yX4_assembledMinute cX4_assembledMinute 4 (some .int) :: lw_g) ({ frames := 4, cells := 0, slots := 0, locals := 96 } : Room) (va_Pc [.ref h0] (pw G (wX4 G h0 a0 u0 ++ wX0 G (a0 17) a1 u1) sz)) (va_Qi (fun (r : Int32) (v : Ob × Ob) => q.1 = r ∧ q.2 = v) (bw G (fun v : Ob × Ob => (wX4 G h0 a0 v.1 ++ wX0 G (a0 17) a1 v.2)) (va_A (wX4 G h0 a0 u0 ++ wX0 G (a0 17) a1 u1) sz)) (va_A (wX4 G h0 a0 u0 ++ wX0 G (a0 17) a1 u1) sz)) 0 0 (va_A (wX4 G h0 a0 u0 ++ wX0 G (a0 17) a1 u1) sz) := by
  refine mt (Qc := (fun A => va_Qi (fun (r : Int32) (v : Ob × Ob) => q.1 = r ∧ q.2 = v) (bw G (fun v : Ob × Ob => (wX4 G h0 a0 v.1 ++ wX0 G (a0 17) a1 v.2)) A) A)) (by decide) (Nat.le_of_ble_eq_true rfl) ?_
  intro p e s m below meth c A ls hx hb hr hlk hml hts hown hA hP hK hD hE hS hl
  have hown : s.vm.findClass RX4 = some m.cls := hown
  have hg : ∀ w ∈ lw_g, w.before ([.ref h0] : List Value).toArray s = true := fun w h => hts w (List.mem_cons_of_mem _ h)
  have hC : CallFix p m c cX4_assembledMinute 4 s ([.ref h0] : List Value).toArray (Cond.code yX4_assembledMinute cX4_assembledMinute 4 (some .int) :: lw_g) RX4 := ⟨hx, hb, hml, hown, hts⟩
  have hl : lv_has ls 4 [(0, .ref h0)] := hl
  have lp_9 : ∀ (n : Nat) (x1 : Int32) (u0 : Ob) (u1 : Ob), l_X4_assembledMinute_9 N n x1 u0 u1 = some q → ∀ (H : Heap) (locs : List Loc) (ls : Array Slot), va_P (gD G) vwCl (wX4 G h0 a0 u0 ++ wX0 G (a0 17) a1 u1) H → va_D A (wX4 G h0 a0 u0 ++ wX0 G (a0 17) a1 u1) → va_S A s.heap H locs → lv_has ls 4 [(0, .ref h0), (1, .int x1)] → W p l e ({ frames := 4, cells := 0, slots := 0, locals := 96 } : Room) s m ([.ref h0] : List Value).toArray below meth c H locs 0 0 (MQ below (va_Qi (fun (r : Int32) (v : Ob × Ob) => q.1 = r ∧ q.2 = v) (bw G (fun v : Ob × Ob => (wX4 G h0 a0 v.1 ++ wX0 G (a0 17) a1 v.2)) A) A) ([.ref h0] : List Value).toArray s 0 0 A) (F0 m 9 ls []) := by
    intro n
    induction n with
    | zero => intro x1 u0 u1 hf; rw [l_X4_assembledMinute_9] at hf; cases hf
    | succ n ih =>
      intro x1 u0 u1 hf H locs ls hP hD hS hl
      rw [l_X4_assembledMinute_9] at hf
      refine lv_iload_n hx hb dX4_assembledMinute_9 rfl (lv_at hl 1 rfl) ?_
      refine lv_aload_n hx hb dX4_assembledMinute_10 rfl (lv_at hl 0 rfl) ?_
      refine va_get (D := gD G) (ci := 2) (v := .int (u0.1 11)) (C := RX4) (T := TX4) (N := 18) hx hb hg kl_X4 hown hK hP 0 rfl rfl 11 (by decide) (hg _ kq1_74) (fun _ h9 => h9) rfl dX4_assembledMinute_11 ?_
      refine lv_icmp_ge (tgt := 62) hx hb dX4_assembledMinute_14 (by decide) (fun c3 => ?_) (fun c3 => ?_)
      · have hf := tp hf c3
        refine lv_aload_n hx hb dX4_assembledMinute_62 rfl (lv_at hl 0 rfl) ?_
        refine va_get (D := gD G) (ci := 2) (v := .ref (a0 17)) (C := RX4) (T := TX4) (N := 18) hx hb hg kl_X4 hown hK hP 0 rfl rfl 17 (by decide) (hg _ kq1_86) (fun _ h9 => h9) rfl dX4_assembledMinute_63 ?_
        refine lv_aload_n hx hb dX4_assembledMinute_66 rfl (lv_at hl 0 rfl) ?_
        refine va_get (D := gD G) (ci := 2) (v := .ref (a0 0)) (C := RX4) (T := TX4) (N := 18) hx hb hg kl_X4 hown hK hP 0 rfl rfl 0 (by decide) (hg _ kq1_52) (fun _ h9 => h9) rfl dX4_assembledMinute_67 ?_
        refine lv_iconst (v := (1 : Int32)) hx hb dX4_assembledMinute_70 (by decide) ?_
        refine va_iald (f := (u0.2.2.1 0)) hx hb hK hP 1 1 rfl rfl (vin (by decide)) dX4_assembledMinute_71 ?_
        obtain ⟨q4, e5, hf⟩ := tbd hf
        refine kVi2 (As := [.int ((u0.2.2.1 0) (1 : Int32).toNatClampNeg)]) (rest := []) hC (c_X0_winner (G := G) e5) kq2_57 kc_X0_winner (by decide) 0 (ci := 0) rfl rfl hP hK hD hE hS hA (wr := (wX4 G h0 a0 u0)) [7, 8] [0, 1, 2, 3, 4, 5, 6] rfl rfl (by decide) (by decide) (by decide) hl.1 (Nat.le_of_ble_eq_true rfl) ⟨Nat.zero_le _, Nat.zero_le _⟩ dX4_assembledMinute_72 (fun r9 u9 H locs hw hP hD hS => ?_)
        obtain ⟨rfl, rfl⟩ := hw
        have hP : va_P (gD G) vwCl (wX4 G h0 a0 u0 ++ wX0 G (a0 17) a1 u1) H := hP
        have hD : va_D A (wX4 G h0 a0 u0 ++ wX0 G (a0 17) a1 u1) := hD
        refine lv_istore_n (lv' := [(1, .int q4), (0, .ref h0)]) hx hb dX4_assembledMinute_75 rfl hl (by decide) rfl (fun ls hl => ?_)
        refine lv_iload_n hx hb dX4_assembledMinute_76 rfl (lv_at hl 0 rfl) ?_
        refine lv_iconst (v := (-1 : Int32)) hx hb dX4_assembledMinute_77 (by decide) ?_
        refine lv_icmp_ne (tgt := 83) hx hb dX4_assembledMinute_78 (by decide) (fun c6 => ?_) (fun c6 => ?_)
        · have hf := tn hf c6
          refine lv_aload_n hx hb dX4_assembledMinute_83 rfl (lv_at hl 1 rfl) ?_
          refine lv_iconst (v := (1 : Int32)) hx hb dX4_assembledMinute_84 (by decide) ?_
          refine lv_iload_n hx hb dX4_assembledMinute_85 rfl (lv_at hl 0 rfl) ?_
          obtain ⟨q7, e8, hf⟩ := tbd hf
          refine kVi1 (As := [.int (1 : Int32), .int q4]) (rest := []) hC (c_X4_blockWinner (G := G) e8) kq2_66 kc_X4_blockWinner (by decide) 0 (ci := 2) rfl rfl hP hK hD hE hS hA hl.1 (Nat.le_of_ble_eq_true rfl) ⟨Nat.zero_le _, Nat.zero_le _⟩ dX4_assembledMinute_86 (fun r9 u9 H locs hw hP hD hS => ?_)
          obtain ⟨rfl, rfl⟩ := hw
          have hP : va_P (gD G) vwCl (wX4 G h0 a0 q7.2.1 ++ wX0 G (a0 17) a1 q7.2.2) H := hP
          have hD : va_D A (wX4 G h0 a0 q7.2.1 ++ wX0 G (a0 17) a1 q7.2.2) := hD
          refine lv_istore_n (lv' := [(2, .int q7.1), (1, .int q4), (0, .ref h0)]) hx hb dX4_assembledMinute_89 rfl hl (by decide) rfl (fun ls hl => ?_)
          refine lv_aload_n hx hb dX4_assembledMinute_90 rfl (lv_at hl 2 rfl) ?_
          refine lv_iconst (v := (2 : Int32)) hx hb dX4_assembledMinute_91 (by decide) ?_
          refine lv_iload_n hx hb dX4_assembledMinute_92 rfl (lv_at hl 1 rfl) ?_
          obtain ⟨q9, e10, hf⟩ := tbd hf
          refine kVi1 (As := [.int (2 : Int32), .int q4]) (rest := []) hC (c_X4_blockWinner (G := G) e10) kq2_66 kc_X4_blockWinner (by decide) 0 (ci := 2) rfl rfl hP hK hD hE hS hA hl.1 (Nat.le_of_ble_eq_true rfl) ⟨Nat.zero_le _, Nat.zero_le _⟩ dX4_assembledMinute_93 (fun r9 u9 H locs hw hP hD hS => ?_)
          obtain ⟨rfl, rfl⟩ := hw
          have hP : va_P (gD G) vwCl (wX4 G h0 a0 q9.2.1 ++ wX0 G (a0 17) a1 q9.2.2) H := hP
          have hD : va_D A (wX4 G h0 a0 q9.2.1 ++ wX0 G (a0 17) a1 q9.2.2) := hD
          refine lv_istore_n (lv' := [(3, .int q9.1), (2, .int q7.1), (1, .int q4), (0, .ref h0)]) hx hb dX4_assembledMinute_96 rfl hl (by decide) rfl (fun ls hl => ?_)
          refine lv_iload_n hx hb dX4_assembledMinute_97 rfl (lv_at hl 1 rfl) ?_
          refine lv_iconst (v := (-1 : Int32)) hx hb dX4_assembledMinute_98 (by decide) ?_
          refine lv_icmp_eq (tgt := 107) hx hb dX4_assembledMinute_99 (by decide) (fun c11 => ?_) (fun c11 => ?_)
          · have hf := tp hf c11
            refine lv_iconst (v := (-1 : Int32)) hx hb dX4_assembledMinute_107 (by decide) ?_
            refine lv_goto (tgt := 117) hx hb dX4_assembledMinute_108 (by decide) ?_
            have hf := Option.some.inj hf
            subst hf
            exact e_i (wf := (fun v : Ob × Ob => (wX4 G h0 a0 v.1 ++ wX0 G (a0 17) a1 v.2))) hx hb hr hlk (q9.2.1, q9.2.2) ⟨rfl, rfl⟩ hP hK hD hS dX4_assembledMinute_117
          · have hf := tn hf c11
            refine lv_iload_n hx hb dX4_assembledMinute_102 rfl (lv_at hl 0 rfl) ?_
            refine lv_iconst (v := (-1 : Int32)) hx hb dX4_assembledMinute_103 (by decide) ?_
            refine lv_icmp_ne (tgt := 111) hx hb dX4_assembledMinute_104 (by decide) (fun c12 => ?_) (fun c12 => ?_)
            · have hf := tn hf c12
              refine lv_iload_n hx hb dX4_assembledMinute_111 rfl (lv_at hl 0 rfl) ?_
              refine lv_iload_n hx hb dX4_assembledMinute_112 rfl (lv_at hl 1 rfl) ?_
              refine lv_iload_n hx hb dX4_assembledMinute_113 rfl (lv_at hl 2 rfl) ?_
              obtain ⟨q13, e14, hf⟩ := tbd hf
              refine kSi0 (As := [.int q9.1, .int q7.1, .int q4]) (rest := []) hC (c_X1_minuteNumber (G := G) e14) kq2_70 kc_X1_minuteNumber (by decide) hP hK hD hE hS hA hl.1 (Nat.le_of_ble_eq_true rfl) ⟨Nat.zero_le _, Nat.zero_le _⟩ dX4_assembledMinute_114 (fun r9 u9 H locs hw hP hD hS => ?_)
              obtain ⟨rfl, rfl⟩ := hw
              have hf := Option.some.inj hf
              subst hf
              exact e_i (wf := (fun v : Ob × Ob => (wX4 G h0 a0 v.1 ++ wX0 G (a0 17) a1 v.2))) hx hb hr hlk (q9.2.1, q9.2.2) ⟨rfl, rfl⟩ hP hK hD hS dX4_assembledMinute_117
            · have hf := tp hf c12
              refine lv_iconst (v := (-1 : Int32)) hx hb dX4_assembledMinute_107 (by decide) ?_
              refine lv_goto (tgt := 117) hx hb dX4_assembledMinute_108 (by decide) ?_
              have hf := Option.some.inj hf
              subst hf
              exact e_i (wf := (fun v : Ob × Ob => (wX4 G h0 a0 v.1 ++ wX0 G (a0 17) a1 v.2))) hx hb hr hlk (q9.2.1, q9.2.2) ⟨rfl, rfl⟩ hP hK hD hS dX4_assembledMinute_117
        · have hf := tp hf c6
          refine lv_iconst (v := (-1 : Int32)) hx hb dX4_assembledMinute_81 (by decide) ?_
          have hf := Option.some.inj hf
          subst hf
          exact e_i (wf := (fun v : Ob × Ob => (wX4 G h0 a0 v.1 ++ wX0 G (a0 17) a1 v.2))) hx hb hr hlk (u0, u1) ⟨rfl, rfl⟩ hP hK hD hS dX4_assembledMinute_82
      · have hf := tn hf c3
        refine lv_aload_n hx hb dX4_assembledMinute_17 rfl (lv_at hl 0 rfl) ?_
        refine va_get (D := gD G) (ci := 2) (v := .ref (a0 8)) (C := RX4) (T := TX4) (N := 18) hx hb hg kl_X4 hown hK hP 0 rfl rfl 8 (by decide) (hg _ kq1_69) (fun _ h9 => h9) rfl dX4_assembledMinute_18 ?_
        refine lv_iload_n hx hb dX4_assembledMinute_21 rfl (lv_at hl 1 rfl) ?_
        obtain ⟨b15, hf⟩ := tno hf
        refine va_lald (f := (u0.2.2.2 8)) hx hb hK hP 2 2 rfl rfl b15 dX4_assembledMinute_22 ?_
        refine lv_aload_n hx hb dX4_assembledMinute_23 rfl (lv_at hl 0 rfl) ?_
        refine va_get (D := gD G) (ci := 2) (v := .ref (a0 9)) (C := RX4) (T := TX4) (N := 18) hx hb hg kl_X4 hown hK hP 0 rfl rfl 9 (by decide) (hg _ kq1_71) (fun _ h9 => h9) rfl dX4_assembledMinute_24 ?_
        refine lv_iload_n hx hb dX4_assembledMinute_27 rfl (lv_at hl 1 rfl) ?_
        obtain ⟨b16, hf⟩ := tno hf
        refine va_lald (f := (u0.2.2.2 9)) hx hb hK hP 3 2 rfl rfl b16 dX4_assembledMinute_28 ?_
        refine lv_iconst (v := (0 : Int32)) hx hb dX4_assembledMinute_29 (by decide) ?_
        obtain ⟨q17, e18, hf⟩ := tbd hf
        refine kSi0 (As := [.long ((u0.2.2.2 8) x1.toNatClampNeg), .long ((u0.2.2.2 9) x1.toNatClampNeg), .int (0 : Int32)]) (rest := []) hC (c_X2_blockValue (G := G) e18) kq2_20 kc_X2_blockValue (by decide) hP hK hD hE hS hA hl.1 (Nat.le_of_ble_eq_true rfl) ⟨Nat.zero_le _, Nat.zero_le _⟩ dX4_assembledMinute_30 (fun r9 u9 H locs hw hP hD hS => ?_)
        obtain ⟨rfl, rfl⟩ := hw
        refine lv_istore_n (lv' := [(2, .int q17), (0, .ref h0), (1, .int x1)]) hx hb dX4_assembledMinute_33 rfl hl (by decide) rfl (fun ls hl => ?_)
        refine lv_aload_n hx hb dX4_assembledMinute_34 rfl (lv_at hl 1 rfl) ?_
        refine va_get (D := gD G) (ci := 2) (v := .ref (a0 17)) (C := RX4) (T := TX4) (N := 18) hx hb hg kl_X4 hown hK hP 0 rfl rfl 17 (by decide) (hg _ kq1_86) (fun _ h9 => h9) rfl dX4_assembledMinute_35 ?_
        refine lv_iload_n hx hb dX4_assembledMinute_38 rfl (lv_at hl 0 rfl) ?_
        refine lv_iconst (v := (-1 : Int32)) hx hb dX4_assembledMinute_39 (by decide) ?_
        refine lv_icmp_ne (tgt := 47) hx hb dX4_assembledMinute_40 (by decide) (fun c19 => ?_) (fun c19 => ?_)
        · have hf := tn hf c19
          refine lv_iload_n hx hb dX4_assembledMinute_47 rfl (lv_at hl 0 rfl) ?_
          refine lv_iload_n hx hb dX4_assembledMinute_48 rfl (lv_at hl 2 rfl) ?_
          refine lv_iadd hx hb dX4_assembledMinute_49 ?_
          refine lv_bipush (v := (60 : Int32)) hx hb dX4_assembledMinute_50 (by decide) ?_
          refine lv_irem hx hb dX4_assembledMinute_52 (by decide) ?_
          obtain ⟨q20, e21, hf⟩ := tbd hf
          refine kVv2 (As := [.int ((q17 + x1) - (q17 + x1) / (60 : Int32) * (60 : Int32))]) (rest := []) hC (c_X0_cast (G := G) e21) kq2_4 kc_X0_cast (by decide) 0 (ci := 0) rfl rfl hP hK hD hE hS hA (wr := (wX4 G h0 a0 u0)) [7, 8] [0, 1, 2, 3, 4, 5, 6] rfl rfl (by decide) (by decide) (by decide) hl.1 (Nat.le_of_ble_eq_true rfl) ⟨Nat.zero_le _, Nat.zero_le _⟩ dX4_assembledMinute_53 (fun u9 H locs hw hP hD hS => ?_)
          obtain rfl := hw
          have hP : va_P (gD G) vwCl (wX4 G h0 a0 u0 ++ wX0 G (a0 17) a1 q20) H := hP
          have hD : va_D A (wX4 G h0 a0 u0 ++ wX0 G (a0 17) a1 q20) := hD
          refine lv_iinc (v := (x1 + (1 : Int32))) (lv' := [(1, .int (x1 + (1 : Int32))), (2, .int q17), (0, .ref h0)]) hx hb dX4_assembledMinute_56 hl (k := 2) rfl rfl (by decide) rfl (fun ls hl => ?_)
          refine lv_goto (tgt := 9) hx hb dX4_assembledMinute_59 (by decide) ?_
          exact ih _ _ _ hf _ _ _ hP hD hS (lv_sub hl [2, 0] rfl)
        · have hf := tp hf c19
          refine lv_iconst (v := (-1 : Int32)) hx hb dX4_assembledMinute_43 (by decide) ?_
          refine lv_goto (tgt := 53) hx hb dX4_assembledMinute_44 (by decide) ?_
          obtain ⟨q22, e23, hf⟩ := tbd hf
          refine kVv2 (As := [.int (-1 : Int32)]) (rest := []) hC (c_X0_cast (G := G) e23) kq2_4 kc_X0_cast (by decide) 0 (ci := 0) rfl rfl hP hK hD hE hS hA (wr := (wX4 G h0 a0 u0)) [7, 8] [0, 1, 2, 3, 4, 5, 6] rfl rfl (by decide) (by decide) (by decide) hl.1 (Nat.le_of_ble_eq_true rfl) ⟨Nat.zero_le _, Nat.zero_le _⟩ dX4_assembledMinute_53 (fun u9 H locs hw hP hD hS => ?_)
          obtain rfl := hw
          have hP : va_P (gD G) vwCl (wX4 G h0 a0 u0 ++ wX0 G (a0 17) a1 q22) H := hP
          have hD : va_D A (wX4 G h0 a0 u0 ++ wX0 G (a0 17) a1 q22) := hD
          refine lv_iinc (v := (x1 + (1 : Int32))) (lv' := [(1, .int (x1 + (1 : Int32))), (2, .int q17), (0, .ref h0)]) hx hb dX4_assembledMinute_56 hl (k := 2) rfl rfl (by decide) rfl (fun ls hl => ?_)
          refine lv_goto (tgt := 9) hx hb dX4_assembledMinute_59 (by decide) ?_
          exact ih _ _ _ hf _ _ _ hP hD hS (lv_sub hl [2, 0] rfl)
  rw [f_X4_assembledMinute] at hf
  refine lv_aload_n hx hb dX4_assembledMinute_0 rfl (lv_at hl 0 rfl) ?_
  refine va_get (D := gD G) (ci := 2) (v := .ref (a0 17)) (C := RX4) (T := TX4) (N := 18) hx hb hg kl_X4 hown hK hP 0 rfl rfl 17 (by decide) (hg _ kq1_86) (fun _ h9 => h9) rfl dX4_assembledMinute_1 ?_
  obtain ⟨q1, e2, hf⟩ := tbd hf
  refine kVv2 (As := []) (rest := []) hC (c_X0_open (G := G) e2) kq1_225 kc_X0_open (by decide) 0 (ci := 0) rfl rfl hP hK hD hE hS hA (wr := (wX4 G h0 a0 u0)) [7, 8] [0, 1, 2, 3, 4, 5, 6] rfl rfl (by decide) (by decide) (by decide) hl.1 (Nat.le_of_ble_eq_true rfl) ⟨Nat.zero_le _, Nat.zero_le _⟩ dX4_assembledMinute_4 (fun u9 H locs hw hP hD hS => ?_)
  obtain rfl := hw
  have hP : va_P (gD G) vwCl (wX4 G h0 a0 u0 ++ wX0 G (a0 17) a1 q1) H := hP
  have hD : va_D A (wX4 G h0 a0 u0 ++ wX0 G (a0 17) a1 q1) := hD
  refine lv_iconst (v := (0 : Int32)) hx hb dX4_assembledMinute_7 (by decide) ?_
  refine lv_istore_n (lv' := [(1, .int (0 : Int32)), (0, .ref h0)]) hx hb dX4_assembledMinute_8 rfl hl (by decide) rfl (fun ls hl => ?_)
  exact lp_9 N _ _ _ hf _ _ _ hP hD hS (lv_sub hl [1, 0] rfl)
set_option maxRecDepth 100000 in
set_option maxHeartbeats 4000000 in
theorem c_X4_mostDoubtsOfABit {l : Launch} {G : Gp} {sz N : Nat} {h0 : Nat} {a0 : Nat → Nat} {u0 : Ob} {q : Int32} (hf : f_X4_mostDoubtsOfABit N u0 = some q) : Met l yX4_mostDoubtsOfABit (Cond.code yX4_mostDoubtsOfABit cX4_mostDoubtsOfABit 5 (some .int) :: lw_g) ({ frames := 1, cells := 0, slots := 0, locals := 15 } : Room) (va_Pc [.ref h0] (pw G (wX4 G h0 a0 u0) sz)) (va_Qi (fun (r : Int32) (v : Ob) => q = r ∧ u0 = v) (bw G (fun v : Ob => (wX4 G h0 a0 v)) (va_A (wX4 G h0 a0 u0) sz)) (va_A (wX4 G h0 a0 u0) sz)) 0 0 (va_A (wX4 G h0 a0 u0) sz) := by
  refine mt (Qc := (fun A => va_Qi (fun (r : Int32) (v : Ob) => q = r ∧ u0 = v) (bw G (fun v : Ob => (wX4 G h0 a0 v)) A) A)) (by decide) (Nat.le_of_ble_eq_true rfl) ?_
  intro p e s m below meth c A ls hx hb hr hlk hml hts hown hA hP hK hD hE hS hl
  have hown : s.vm.findClass RX4 = some m.cls := hown
  have hg : ∀ w ∈ lw_g, w.before ([.ref h0] : List Value).toArray s = true := fun w h => hts w (List.mem_cons_of_mem _ h)
  have hC : CallFix p m c cX4_mostDoubtsOfABit 5 s ([.ref h0] : List Value).toArray (Cond.code yX4_mostDoubtsOfABit cX4_mostDoubtsOfABit 5 (some .int) :: lw_g) RX4 := ⟨hx, hb, hml, hown, hts⟩
  have hl : lv_has ls 5 [(0, .ref h0)] := hl
  have li_15 : ∀ (n : Nat) (x1 : Int32) (x2 : Int32) (x3 : Int32) (x4 : Int32) (w : Int32 × Int32 × Int32 × Int32), l_X4_mostDoubtsOfABit_15 N u0 n x1 x2 x3 x4 = some w → (∀ (H : Heap) (locs : List Loc) (ls : Array Slot), va_P (gD G) vwCl (wX4 G h0 a0 u0) H → va_D A (wX4 G h0 a0 u0) → va_S A s.heap H locs → lv_has ls 5 [(0, .ref h0), (1, .int w.1), (2, .int w.2.1), (3, .int w.2.2.1), (4, .int w.2.2.2)] → W p l e ({ frames := 1, cells := 0, slots := 0, locals := 15 } : Room) s m ([.ref h0] : List Value).toArray below meth c H locs 0 0 (MQ below (va_Qi (fun (r : Int32) (v : Ob) => q = r ∧ u0 = v) (bw G (fun v : Ob => (wX4 G h0 a0 v)) A) A) ([.ref h0] : List Value).toArray s 0 0 A) (F0 m 49 ls [])) → ∀ (H : Heap) (locs : List Loc) (ls : Array Slot), va_P (gD G) vwCl (wX4 G h0 a0 u0) H → va_D A (wX4 G h0 a0 u0) → va_S A s.heap H locs → lv_has ls 5 [(0, .ref h0), (1, .int x1), (2, .int x2), (3, .int x3), (4, .int x4)] → W p l e ({ frames := 1, cells := 0, slots := 0, locals := 15 } : Room) s m ([.ref h0] : List Value).toArray below meth c H locs 0 0 (MQ below (va_Qi (fun (r : Int32) (v : Ob) => q = r ∧ u0 = v) (bw G (fun v : Ob => (wX4 G h0 a0 v)) A) A) ([.ref h0] : List Value).toArray s 0 0 A) (F0 m 15 ls []) := by
    intro n
    induction n with
    | zero => intro x1 x2 x3 x4 w hf; rw [l_X4_mostDoubtsOfABit_15] at hf; cases hf
    | succ n ih =>
      intro x1 x2 x3 x4 w hf kk H locs ls hP hD hS hl
      rw [l_X4_mostDoubtsOfABit_15] at hf
      refine lv_iload hx hb dX4_mostDoubtsOfABit_15 (lv_at hl 4 rfl) ?_
      refine lv_aload_n hx hb dX4_mostDoubtsOfABit_17 rfl (lv_at hl 0 rfl) ?_
      refine va_get (D := gD G) (ci := 2) (v := .int (u0.1 11)) (C := RX4) (T := TX4) (N := 18) hx hb hg kl_X4 hown hK hP 0 rfl rfl 11 (by decide) (hg _ kq1_74) (fun _ h9 => h9) rfl dX4_mostDoubtsOfABit_18 ?_
      refine lv_icmp_ge (tgt := 49) hx hb dX4_mostDoubtsOfABit_21 (by decide) (fun c2 => ?_) (fun c2 => ?_)
      · have hf := tp hf c2
        have hf := Option.some.inj hf
        subst hf
        exact kk _ _ _ hP hD hS (lv_sub hl [0, 1, 2, 3, 4] rfl)
      · have hf := tn hf c2
        refine lv_iload_n hx hb dX4_mostDoubtsOfABit_24 rfl (lv_at hl 3 rfl) ?_
        refine lv_aload_n hx hb dX4_mostDoubtsOfABit_25 rfl (lv_at hl 0 rfl) ?_
        refine va_get (D := gD G) (ci := 2) (v := .ref (a0 9)) (C := RX4) (T := TX4) (N := 18) hx hb hg kl_X4 hown hK hP 0 rfl rfl 9 (by decide) (hg _ kq1_71) (fun _ h9 => h9) rfl dX4_mostDoubtsOfABit_26 ?_
        refine lv_iload hx hb dX4_mostDoubtsOfABit_29 (lv_at hl 4 rfl) ?_
        obtain ⟨b3, hf⟩ := tno hf
        refine va_lald (f := (u0.2.2.2 9)) hx hb hK hP 3 2 rfl rfl b3 dX4_mostDoubtsOfABit_31 ?_
        refine lv_ldc2 hx hb hown (hg _ kq1_237) dX4_mostDoubtsOfABit_32 ?_
        refine lv_land hx hb dX4_mostDoubtsOfABit_35 ?_
        refine lv_iload_n hx hb dX4_mostDoubtsOfABit_36 rfl (lv_at hl 2 rfl) ?_
        refine lv_lushr (v := (jushr (((u0.2.2.2 9) x4.toNatClampNeg) &&& (576460752302899201 : Int64)) x2)) hx hb dX4_mostDoubtsOfABit_37 rfl ?_
        refine lv_lconst (v := (1 : Int64)) hx hb dX4_mostDoubtsOfABit_38 (by decide) ?_
        refine lv_land hx hb dX4_mostDoubtsOfABit_39 ?_
        refine lv_l2i (v := ((jushr (((u0.2.2.2 9) x4.toNatClampNeg) &&& (576460752302899201 : Int64)) x2) &&& (1 : Int64)).toInt32) hx hb dX4_mostDoubtsOfABit_40 rfl ?_
        refine lv_iadd hx hb dX4_mostDoubtsOfABit_41 ?_
        refine lv_istore_n (lv' := [(3, .int (x3 + ((jushr (((u0.2.2.2 9) x4.toNatClampNeg) &&& (576460752302899201 : Int64)) x2) &&& (1 : Int64)).toInt32)), (0, .ref h0), (1, .int x1), (2, .int x2), (4, .int x4)]) hx hb dX4_mostDoubtsOfABit_42 rfl hl (by decide) rfl (fun ls hl => ?_)
        refine lv_iinc (v := (x4 + (1 : Int32))) (lv' := [(4, .int (x4 + (1 : Int32))), (3, .int (x3 + ((jushr (((u0.2.2.2 9) x4.toNatClampNeg) &&& (576460752302899201 : Int64)) x2) &&& (1 : Int64)).toInt32)), (0, .ref h0), (1, .int x1), (2, .int x2)]) hx hb dX4_mostDoubtsOfABit_43 hl (k := 4) rfl rfl (by decide) rfl (fun ls hl => ?_)
        refine lv_goto (tgt := 15) hx hb dX4_mostDoubtsOfABit_46 (by decide) ?_
        exact ih _ _ _ _ w hf kk _ _ _ hP hD hS (lv_sub hl [2, 3, 4, 1, 0] rfl)
  have lp_4 : ∀ (n : Nat) (x1 : Int32) (x2 : Int32), l_X4_mostDoubtsOfABit_4 N u0 n x1 x2 = some q → ∀ (H : Heap) (locs : List Loc) (ls : Array Slot), va_P (gD G) vwCl (wX4 G h0 a0 u0) H → va_D A (wX4 G h0 a0 u0) → va_S A s.heap H locs → lv_has ls 5 [(0, .ref h0), (1, .int x1), (2, .int x2)] → W p l e ({ frames := 1, cells := 0, slots := 0, locals := 15 } : Room) s m ([.ref h0] : List Value).toArray below meth c H locs 0 0 (MQ below (va_Qi (fun (r : Int32) (v : Ob) => q = r ∧ u0 = v) (bw G (fun v : Ob => (wX4 G h0 a0 v)) A) A) ([.ref h0] : List Value).toArray s 0 0 A) (F0 m 4 ls []) := by
    intro n
    induction n with
    | zero => intro x1 x2 hf; rw [l_X4_mostDoubtsOfABit_4] at hf; cases hf
    | succ n ih =>
      intro x1 x2 hf H locs ls hP hD hS hl
      rw [l_X4_mostDoubtsOfABit_4] at hf
      refine lv_iload_n hx hb dX4_mostDoubtsOfABit_4 rfl (lv_at hl 2 rfl) ?_
      refine lv_bipush (v := (58 : Int32)) hx hb dX4_mostDoubtsOfABit_5 (by decide) ?_
      refine lv_icmp_gt (tgt := 61) hx hb dX4_mostDoubtsOfABit_7 (by decide) (fun c1 => ?_) (fun c1 => ?_)
      · have hf := tp hf c1
        refine lv_iload_n hx hb dX4_mostDoubtsOfABit_61 rfl (lv_at hl 1 rfl) ?_
        have hf := Option.some.inj hf
        subst hf
        exact e_i (wf := (fun v : Ob => (wX4 G h0 a0 v))) hx hb hr hlk u0 ⟨rfl, rfl⟩ hP hK hD hS dX4_mostDoubtsOfABit_62
      · have hf := tn hf c1
        refine lv_iconst (v := (0 : Int32)) hx hb dX4_mostDoubtsOfABit_10 (by decide) ?_
        refine lv_istore_n (lv' := [(3, .int (0 : Int32)), (0, .ref h0), (1, .int x1), (2, .int x2)]) hx hb dX4_mostDoubtsOfABit_11 rfl hl (by decide) rfl (fun ls hl => ?_)
        refine lv_iconst (v := (0 : Int32)) hx hb dX4_mostDoubtsOfABit_12 (by decide) ?_
        refine lv_istore (lv' := [(4, .int (0 : Int32)), (3, .int (0 : Int32)), (0, .ref h0), (1, .int x1), (2, .int x2)]) hx hb dX4_mostDoubtsOfABit_13 hl (by decide) rfl (fun ls hl => ?_)
        obtain ⟨w4, e5, hf⟩ := tbd hf
        refine li_15 N _ _ _ _ w4 e5 (fun H locs ls hP hD hS hl => ?_) _ _ _ hP hD hS (lv_sub hl [2, 3, 4, 1, 0] rfl)
        refine lv_iload_n hx hb dX4_mostDoubtsOfABit_49 rfl (lv_at hl 1 rfl) ?_
        refine lv_iload_n hx hb dX4_mostDoubtsOfABit_50 rfl (lv_at hl 3 rfl) ?_
        refine va_mmax hx hb (hml.trans hl.1.symm) hown (hg _ kq2_81) (hg _ kq2_82) (hg _ kq1_12) (hg _ kq2_83) (Nat.le_of_ble_eq_true rfl) (Nat.le_of_ble_eq_true rfl) (Nat.zero_le _) (Nat.zero_le _) (x := w4.1) (y := w4.2.2.1) dX4_mostDoubtsOfABit_51 ?_
        refine lv_istore_n (lv' := [(1, .int (if w4.1 < w4.2.2.1 then w4.2.2.1 else w4.1)), (0, .ref h0), (2, .int w4.2.1), (3, .int w4.2.2.1), (4, .int w4.2.2.2)]) hx hb dX4_mostDoubtsOfABit_54 rfl hl (by decide) rfl (fun ls hl => ?_)
        refine lv_iinc (v := (w4.2.1 + (1 : Int32))) (lv' := [(2, .int (w4.2.1 + (1 : Int32))), (1, .int (if w4.1 < w4.2.2.1 then w4.2.2.1 else w4.1)), (0, .ref h0), (3, .int w4.2.2.1), (4, .int w4.2.2.2)]) hx hb dX4_mostDoubtsOfABit_55 hl (k := 2) rfl rfl (by decide) rfl (fun ls hl => ?_)
        refine lv_goto (tgt := 4) hx hb dX4_mostDoubtsOfABit_58 (by decide) ?_
        exact ih _ _ hf _ _ _ hP hD hS (lv_sub hl [2, 1, 0] rfl)
  rw [f_X4_mostDoubtsOfABit] at hf
  refine lv_iconst (v := (0 : Int32)) hx hb dX4_mostDoubtsOfABit_0 (by decide) ?_
  refine lv_istore_n (lv' := [(1, .int (0 : Int32)), (0, .ref h0)]) hx hb dX4_mostDoubtsOfABit_1 rfl hl (by decide) rfl (fun ls hl => ?_)
  refine lv_iconst (v := (0 : Int32)) hx hb dX4_mostDoubtsOfABit_2 (by decide) ?_
  refine lv_istore_n (lv' := [(2, .int (0 : Int32)), (1, .int (0 : Int32)), (0, .ref h0)]) hx hb dX4_mostDoubtsOfABit_3 rfl hl (by decide) rfl (fun ls hl => ?_)
  exact lp_4 N _ _ hf _ _ _ hP hD hS (lv_sub hl [2, 1, 0] rfl)
set_option maxRecDepth 100000 in
set_option maxHeartbeats 4000000 in
theorem c_X4_minutesSinceFix {l : Launch} {G : Gp} {sz N : Nat} {x1 : Int32} {h0 : Nat} {a0 : Nat → Nat} {u0 : Ob} {q : Int64} (hf : f_X4_minutesSinceFix N x1 u0 = some q) : Met l yX4_minutesSinceFix (Cond.code yX4_minutesSinceFix cX4_minutesSinceFix 2 (some .long) :: lw_g) ({ frames := 0, cells := 0, slots := 0, locals := 0 } : Room) (va_Pc [.ref h0, .int x1] (pw G (wX4 G h0 a0 u0) sz)) (va_Ql (fun (r : Int64) (v : Ob) => q = r ∧ u0 = v) (bw G (fun v : Ob => (wX4 G h0 a0 v)) (va_A (wX4 G h0 a0 u0) sz)) (va_A (wX4 G h0 a0 u0) sz)) 0 0 (va_A (wX4 G h0 a0 u0) sz) := by
  refine mt (Qc := (fun A => va_Ql (fun (r : Int64) (v : Ob) => q = r ∧ u0 = v) (bw G (fun v : Ob => (wX4 G h0 a0 v)) A) A)) (by decide) (Nat.le_of_ble_eq_true rfl) ?_
  intro p e s m below meth c A ls hx hb hr hlk hml hts hown hA hP hK hD hE hS hl
  have hown : s.vm.findClass RX4 = some m.cls := hown
  have hg : ∀ w ∈ lw_g, w.before ([.ref h0, .int x1] : List Value).toArray s = true := fun w h => hts w (List.mem_cons_of_mem _ h)
  have hC : CallFix p m c cX4_minutesSinceFix 2 s ([.ref h0, .int x1] : List Value).toArray (Cond.code yX4_minutesSinceFix cX4_minutesSinceFix 2 (some .long) :: lw_g) RX4 := ⟨hx, hb, hml, hown, hts⟩
  have hl : lv_has ls 2 [(0, .ref h0), (1, .int x1)] := hl
  rw [f_X4_minutesSinceFix] at hf
  refine lv_ldc2 hx hb hown (hg _ kq4_139) dX4_minutesSinceFix_0 ?_
  refine lv_aload_n hx hb dX4_minutesSinceFix_3 rfl (lv_at hl 0 rfl) ?_
  refine va_get (D := gD G) (ci := 2) (v := .ref (a0 14)) (C := RX4) (T := TX4) (N := 18) hx hb hg kl_X4 hown hK hP 0 rfl rfl 14 (by decide) (hg _ kq1_80) (fun _ h9 => h9) rfl dX4_minutesSinceFix_4 ?_
  refine lv_iconst (v := (0 : Int32)) hx hb dX4_minutesSinceFix_7 (by decide) ?_
  refine va_iald (f := (u0.2.2.1 14)) hx hb hK hP 5 1 rfl rfl (vin (by decide)) dX4_minutesSinceFix_8 ?_
  refine lv_aload_n hx hb dX4_minutesSinceFix_9 rfl (lv_at hl 0 rfl) ?_
  refine va_get (D := gD G) (ci := 2) (v := .ref (a0 14)) (C := RX4) (T := TX4) (N := 18) hx hb hg kl_X4 hown hK hP 0 rfl rfl 14 (by decide) (hg _ kq1_80) (fun _ h9 => h9) rfl dX4_minutesSinceFix_10 ?_
  refine lv_iload_n hx hb dX4_minutesSinceFix_13 rfl (lv_at hl 1 rfl) ?_
  obtain ⟨b1, hf⟩ := tno hf
  refine va_iald (f := (u0.2.2.1 14)) hx hb hK hP 5 1 rfl rfl b1 dX4_minutesSinceFix_14 ?_
  refine lv_isub hx hb dX4_minutesSinceFix_15 ?_
  refine lv_i2l (v := (((u0.2.2.1 14) (0 : Int32).toNatClampNeg) - ((u0.2.2.1 14) x1.toNatClampNeg)).toInt64) hx hb dX4_minutesSinceFix_16 rfl ?_
  refine lv_lmul hx hb dX4_minutesSinceFix_17 ?_
  have hf := Option.some.inj hf
  subst hf
  exact e_l (wf := (fun v : Ob => (wX4 G h0 a0 v))) hx hb hr hlk u0 ⟨rfl, rfl⟩ hP hK hD hS dX4_minutesSinceFix_18
set_option maxRecDepth 100000 in
set_option maxHeartbeats 4000000 in
theorem c_X4_timeSinceFix {l : Launch} {G : Gp} {sz N : Nat} {x1 : Int32} {h0 : Nat} {a0 : Nat → Nat} {u0 : Ob} {q : Int64} (hf : f_X4_timeSinceFix N x1 u0 = some q) : Met l yX4_timeSinceFix (Cond.code yX4_timeSinceFix cX4_timeSinceFix 2 (some .long) :: lw_g) ({ frames := 0, cells := 0, slots := 0, locals := 0 } : Room) (va_Pc [.ref h0, .int x1] (pw G (wX4 G h0 a0 u0) sz)) (va_Ql (fun (r : Int64) (v : Ob) => q = r ∧ u0 = v) (bw G (fun v : Ob => (wX4 G h0 a0 v)) (va_A (wX4 G h0 a0 u0) sz)) (va_A (wX4 G h0 a0 u0) sz)) 0 0 (va_A (wX4 G h0 a0 u0) sz) := by
  refine mt (Qc := (fun A => va_Ql (fun (r : Int64) (v : Ob) => q = r ∧ u0 = v) (bw G (fun v : Ob => (wX4 G h0 a0 v)) A) A)) (by decide) (Nat.le_of_ble_eq_true rfl) ?_
  intro p e s m below meth c A ls hx hb hr hlk hml hts hown hA hP hK hD hE hS hl
  have hown : s.vm.findClass RX4 = some m.cls := hown
  have hg : ∀ w ∈ lw_g, w.before ([.ref h0, .int x1] : List Value).toArray s = true := fun w h => hts w (List.mem_cons_of_mem _ h)
  have hC : CallFix p m c cX4_timeSinceFix 2 s ([.ref h0, .int x1] : List Value).toArray (Cond.code yX4_timeSinceFix cX4_timeSinceFix 2 (some .long) :: lw_g) RX4 := ⟨hx, hb, hml, hown, hts⟩
  have hl : lv_has ls 2 [(0, .ref h0), (1, .int x1)] := hl
  rw [f_X4_timeSinceFix] at hf
  refine lv_aload_n hx hb dX4_timeSinceFix_0 rfl (lv_at hl 0 rfl) ?_
  refine va_get (D := gD G) (ci := 2) (v := .ref (a0 15)) (C := RX4) (T := TX4) (N := 18) hx hb hg kl_X4 hown hK hP 0 rfl rfl 15 (by decide) (hg _ kq1_82) (fun _ h9 => h9) rfl dX4_timeSinceFix_1 ?_
  refine lv_iconst (v := (0 : Int32)) hx hb dX4_timeSinceFix_4 (by decide) ?_
  refine va_iald (f := (u0.2.2.1 15)) hx hb hK hP 6 1 rfl rfl (vin (by decide)) dX4_timeSinceFix_5 ?_
  refine lv_i2l (v := ((u0.2.2.1 15) (0 : Int32).toNatClampNeg).toInt64) hx hb dX4_timeSinceFix_6 rfl ?_
  refine lv_aload_n hx hb dX4_timeSinceFix_7 rfl (lv_at hl 0 rfl) ?_
  refine va_get (D := gD G) (ci := 2) (v := .ref (a0 15)) (C := RX4) (T := TX4) (N := 18) hx hb hg kl_X4 hown hK hP 0 rfl rfl 15 (by decide) (hg _ kq1_82) (fun _ h9 => h9) rfl dX4_timeSinceFix_8 ?_
  refine lv_iload_n hx hb dX4_timeSinceFix_11 rfl (lv_at hl 1 rfl) ?_
  obtain ⟨b1, hf⟩ := tno hf
  refine va_iald (f := (u0.2.2.1 15)) hx hb hK hP 6 1 rfl rfl b1 dX4_timeSinceFix_12 ?_
  refine lv_i2l (v := ((u0.2.2.1 15) x1.toNatClampNeg).toInt64) hx hb dX4_timeSinceFix_13 rfl ?_
  refine lv_lsub hx hb dX4_timeSinceFix_14 ?_
  have hf := Option.some.inj hf
  subst hf
  exact e_l (wf := (fun v : Ob => (wX4 G h0 a0 v))) hx hb hr hlk u0 ⟨rfl, rfl⟩ hP hK hD hS dX4_timeSinceFix_15
set_option maxRecDepth 100000 in
set_option maxHeartbeats 4000000 in
theorem c_X4_driftEstimate {l : Launch} {G : Gp} {sz N : Nat} {h0 : Nat} {a0 : Nat → Nat} {u0 : Ob} {q : Int64} (hf : f_X4_driftEstimate N u0 = some q) : Met l yX4_driftEstimate (Cond.code yX4_driftEstimate cX4_driftEstimate 3 (some .long) :: lw_g) ({ frames := 1, cells := 0, slots := 0, locals := 21 } : Room) (va_Pc [.ref h0] (pw G (wX4 G h0 a0 u0) sz)) (va_Ql (fun (r : Int64) (v : Ob) => q = r ∧ u0 = v) (bw G (fun v : Ob => (wX4 G h0 a0 v)) (va_A (wX4 G h0 a0 u0) sz)) (va_A (wX4 G h0 a0 u0) sz)) 0 0 (va_A (wX4 G h0 a0 u0) sz) := by
  refine mt (Qc := (fun A => va_Ql (fun (r : Int64) (v : Ob) => q = r ∧ u0 = v) (bw G (fun v : Ob => (wX4 G h0 a0 v)) A) A)) (by decide) (Nat.le_of_ble_eq_true rfl) ?_
  intro p e s m below meth c A ls hx hb hr hlk hml hts hown hA hP hK hD hE hS hl
  have hown : s.vm.findClass RX4 = some m.cls := hown
  have hg : ∀ w ∈ lw_g, w.before ([.ref h0] : List Value).toArray s = true := fun w h => hts w (List.mem_cons_of_mem _ h)
  have hC : CallFix p m c cX4_driftEstimate 3 s ([.ref h0] : List Value).toArray (Cond.code yX4_driftEstimate cX4_driftEstimate 3 (some .long) :: lw_g) RX4 := ⟨hx, hb, hml, hown, hts⟩
  have hl : lv_has ls 3 [(0, .ref h0)] := hl
  rw [f_X4_driftEstimate] at hf
  refine lv_aload_n hx hb dX4_driftEstimate_0 rfl (lv_at hl 0 rfl) ?_
  refine lv_iconst (v := (1 : Int32)) hx hb dX4_driftEstimate_1 (by decide) ?_
  obtain ⟨q1, e2, hf⟩ := tbd hf
  refine kVl1 (As := [.int (1 : Int32)]) (rest := []) hC (c_X4_timeSinceFix (G := G) e2) kq4_158 kc_X4_timeSinceFix (by decide) 0 (ci := 2) rfl rfl hP hK hD hE hS hA hl.1 (Nat.le_of_ble_eq_true rfl) ⟨Nat.zero_le _, Nat.zero_le _⟩ dX4_driftEstimate_2 (fun r9 u9 H locs hw hP hD hS => ?_)
  obtain ⟨rfl, rfl⟩ := hw
  have hP : va_P (gD G) vwCl (wX4 G h0 a0 u0) H := hP
  have hD : va_D A (wX4 G h0 a0 u0) := hD
  refine lv_lstore_n (lv' := [(1, .long q1), (0, .ref h0)]) hx hb dX4_driftEstimate_5 rfl hl (by decide) rfl (fun ls hl => ?_)
  refine lv_lload_n hx hb dX4_driftEstimate_6 rfl (lv_at hl 0 rfl) ?_
  refine lv_lconst (v := (0 : Int64)) hx hb dX4_driftEstimate_7 (by decide) ?_
  refine lc_ne (tgt := 16) hx hb dX4_driftEstimate_8 dX4_driftEstimate_9 (by decide) (fun c3 => ?_) (fun c3 => ?_)
  · have hf := tn hf c3
    refine lv_aload_n hx hb dX4_driftEstimate_16 rfl (lv_at hl 1 rfl) ?_
    refine lv_iconst (v := (1 : Int32)) hx hb dX4_driftEstimate_17 (by decide) ?_
    obtain ⟨q4, e5, hf⟩ := tbd hf
    refine kVl1 (As := [.int (1 : Int32)]) (rest := []) hC (c_X4_minutesSinceFix (G := G) e5) kq4_159 kc_X4_minutesSinceFix (by decide) 0 (ci := 2) rfl rfl hP hK hD hE hS hA hl.1 (Nat.le_of_ble_eq_true rfl) ⟨Nat.zero_le _, Nat.zero_le _⟩ dX4_driftEstimate_18 (fun r9 u9 H locs hw hP hD hS => ?_)
    obtain ⟨rfl, rfl⟩ := hw
    have hP : va_P (gD G) vwCl (wX4 G h0 a0 u0) H := hP
    have hD : va_D A (wX4 G h0 a0 u0) := hD
    refine lv_lload_n hx hb dX4_driftEstimate_21 rfl (lv_at hl 0 rfl) ?_
    refine lv_lsub hx hb dX4_driftEstimate_22 ?_
    refine lv_ldc2 hx hb hown (hg _ kq4_160) dX4_driftEstimate_23 ?_
    refine lv_lmul hx hb dX4_driftEstimate_26 ?_
    refine lv_lload_n hx hb dX4_driftEstimate_27 rfl (lv_at hl 0 rfl) ?_
    obtain ⟨b6, hf⟩ := tno hf
    refine lv_ldiv hx hb dX4_driftEstimate_28 b6 ?_
    have hf := Option.some.inj hf
    subst hf
    exact e_l (wf := (fun v : Ob => (wX4 G h0 a0 v))) hx hb hr hlk u0 ⟨rfl, rfl⟩ hP hK hD hS dX4_driftEstimate_29
  · have hf := tp hf c3
    refine lv_lconst (v := (0 : Int64)) hx hb dX4_driftEstimate_12 (by decide) ?_
    refine lv_goto (tgt := 29) hx hb dX4_driftEstimate_13 (by decide) ?_
    have hf := Option.some.inj hf
    subst hf
    exact e_l (wf := (fun v : Ob => (wX4 G h0 a0 v))) hx hb hr hlk u0 ⟨rfl, rfl⟩ hP hK hD hS dX4_driftEstimate_29
