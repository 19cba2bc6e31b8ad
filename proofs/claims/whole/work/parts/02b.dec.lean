theorem dX3_addFelt_31 : decode cX3_addFelt 31 = .ok (.getfield 32, 3) := by decide +kernel
theorem dX3_addFelt_34 : decode cX3_addFelt 34 = .ok (.iconst 1, 1) := by decide +kernel
theorem dX3_addFelt_35 : decode cX3_addFelt 35 = .ok (.iadd, 1) := by decide +kernel
theorem dX3_addFelt_36 : decode cX3_addFelt 36 = .ok (.putfield 32, 3) := by decide +kernel
theorem dX3_addFelt_39 : decode cX3_addFelt 39 = .ok (.aload_n 0, 1) := by decide +kernel
theorem dX3_addFelt_40 : decode cX3_addFelt 40 = .ok (.getfield 32, 3) := by decide +kernel
theorem dX3_addFelt_43 : decode cX3_addFelt 43 = .ok (.ireturn, 1) := by decide +kernel
theorem dX3_addEntry_0 : decode cX3_addEntry 0 = .ok (.aload_n 0, 1) := by decide +kernel
theorem dX3_addEntry_1 : decode cX3_addEntry 1 = .ok (.getfield 35, 3) := by decide +kernel
theorem dX3_addEntry_4 : decode cX3_addEntry 4 = .ok (.bipush 15, 2) := by decide +kernel
theorem dX3_addEntry_6 : decode cX3_addEntry 6 = .ok (.if_icmp .ge 33, 3) := by decide +kernel
theorem dX3_addEntry_9 : decode cX3_addEntry 9 = .ok (.aload_n 0, 1) := by decide +kernel
theorem dX3_addEntry_10 : decode cX3_addEntry 10 = .ok (.getfield 22, 3) := by decide +kernel
theorem dX3_addEntry_13 : decode cX3_addEntry 13 = .ok (.aload_n 0, 1) := by decide +kernel
theorem dX3_addEntry_14 : decode cX3_addEntry 14 = .ok (.getfield 35, 3) := by decide +kernel
theorem dX3_addEntry_17 : decode cX3_addEntry 17 = .ok (.iload_n 1, 1) := by decide +kernel
theorem dX3_addEntry_18 : decode cX3_addEntry 18 = .ok (.iastore, 1) := by decide +kernel
theorem dX3_addEntry_19 : decode cX3_addEntry 19 = .ok (.aload_n 0, 1) := by decide +kernel
theorem dX3_addEntry_20 : decode cX3_addEntry 20 = .ok (.getfield 25, 3) := by decide +kernel
theorem dX3_addEntry_23 : decode cX3_addEntry 23 = .ok (.aload_n 0, 1) := by decide +kernel
theorem dX3_addEntry_24 : decode cX3_addEntry 24 = .ok (.getfield 35, 3) := by decide +kernel
theorem dX3_addEntry_27 : decode cX3_addEntry 27 = .ok (.iload_n 2, 1) := by decide +kernel
theorem dX3_addEntry_28 : decode cX3_addEntry 28 = .ok (.iastore, 1) := by decide +kernel
theorem dX3_addEntry_29 : decode cX3_addEntry 29 = .ok (.aload_n 0, 1) := by decide +kernel
theorem dX3_addEntry_30 : decode cX3_addEntry 30 = .ok (.dup, 1) := by decide +kernel
theorem dX3_addEntry_31 : decode cX3_addEntry 31 = .ok (.getfield 35, 3) := by decide +kernel
theorem dX3_addEntry_34 : decode cX3_addEntry 34 = .ok (.iconst 1, 1) := by decide +kernel
theorem dX3_addEntry_35 : decode cX3_addEntry 35 = .ok (.iadd, 1) := by decide +kernel
theorem dX3_addEntry_36 : decode cX3_addEntry 36 = .ok (.putfield 35, 3) := by decide +kernel
theorem dX3_addEntry_39 : decode cX3_addEntry 39 = .ok (.aload_n 0, 1) := by decide +kernel
theorem dX3_addEntry_40 : decode cX3_addEntry 40 = .ok (.getfield 35, 3) := by decide +kernel
theorem dX3_addEntry_43 : decode cX3_addEntry 43 = .ok (.ireturn, 1) := by decide +kernel
theorem dX3_allWatchedAre_0 : decode cX3_allWatchedAre 0 = .ok (.iconst 0, 1) := by decide +kernel
theorem dX3_allWatchedAre_1 : decode cX3_allWatchedAre 1 = .ok (.istore_n 2, 1) := by decide +kernel
theorem dX3_allWatchedAre_2 : decode cX3_allWatchedAre 2 = .ok (.iload_n 2, 1) := by decide +kernel
theorem dX3_allWatchedAre_3 : decode cX3_allWatchedAre 3 = .ok (.aload_n 0, 1) := by decide +kernel
theorem dX3_allWatchedAre_4 : decode cX3_allWatchedAre 4 = .ok (.getfield 28, 3) := by decide +kernel
theorem dX3_allWatchedAre_7 : decode cX3_allWatchedAre 7 = .ok (.if_icmp .ge 21, 3) := by decide +kernel
theorem dX3_allWatchedAre_10 : decode cX3_allWatchedAre 10 = .ok (.aload_n 0, 1) := by decide +kernel
theorem dX3_allWatchedAre_11 : decode cX3_allWatchedAre 11 = .ok (.getfield 9, 3) := by decide +kernel
theorem dX3_allWatchedAre_14 : decode cX3_allWatchedAre 14 = .ok (.iload_n 2, 1) := by decide +kernel
theorem dX3_allWatchedAre_15 : decode cX3_allWatchedAre 15 = .ok (.iaload, 1) := by decide +kernel
theorem dX3_allWatchedAre_16 : decode cX3_allWatchedAre 16 = .ok (.iload_n 1, 1) := by decide +kernel
theorem dX3_allWatchedAre_17 : decode cX3_allWatchedAre 17 = .ok (.if_icmp .eq 5, 3) := by decide +kernel
theorem dX3_allWatchedAre_20 : decode cX3_allWatchedAre 20 = .ok (.iconst 0, 1) := by decide +kernel
theorem dX3_allWatchedAre_21 : decode cX3_allWatchedAre 21 = .ok (.ireturn, 1) := by decide +kernel
theorem dX3_allWatchedAre_22 : decode cX3_allWatchedAre 22 = .ok (.iinc 2 1, 3) := by decide +kernel
theorem dX3_allWatchedAre_25 : decode cX3_allWatchedAre 25 = .ok (.goto (-23), 3) := by decide +kernel
theorem dX3_allWatchedAre_28 : decode cX3_allWatchedAre 28 = .ok (.iconst 1, 1) := by decide +kernel
theorem dX3_allWatchedAre_29 : decode cX3_allWatchedAre 29 = .ok (.ireturn, 1) := by decide +kernel
theorem dX3_firstWrong_0 : decode cX3_firstWrong 0 = .ok (.iconst 0, 1) := by decide +kernel
theorem dX3_firstWrong_1 : decode cX3_firstWrong 1 = .ok (.istore_n 2, 1) := by decide +kernel
theorem dX3_firstWrong_2 : decode cX3_firstWrong 2 = .ok (.iload_n 2, 1) := by decide +kernel
theorem dX3_firstWrong_3 : decode cX3_firstWrong 3 = .ok (.aload_n 0, 1) := by decide +kernel
theorem dX3_firstWrong_4 : decode cX3_firstWrong 4 = .ok (.getfield 35, 3) := by decide +kernel
theorem dX3_firstWrong_7 : decode cX3_firstWrong 7 = .ok (.if_icmp .ge 31, 3) := by decide +kernel
theorem dX3_firstWrong_10 : decode cX3_firstWrong 10 = .ok (.aload_n 1, 1) := by decide +kernel
theorem dX3_firstWrong_11 : decode cX3_firstWrong 11 = .ok (.getfield 38, 3) := by decide +kernel
theorem dX3_firstWrong_14 : decode cX3_firstWrong 14 = .ok (.aload_n 0, 1) := by decide +kernel
theorem dX3_firstWrong_15 : decode cX3_firstWrong 15 = .ok (.getfield 22, 3) := by decide +kernel
theorem dX3_firstWrong_18 : decode cX3_firstWrong 18 = .ok (.iload_n 2, 1) := by decide +kernel
theorem dX3_firstWrong_19 : decode cX3_firstWrong 19 = .ok (.iaload, 1) := by decide +kernel
theorem dX3_firstWrong_20 : decode cX3_firstWrong 20 = .ok (.iaload, 1) := by decide +kernel
theorem dX3_firstWrong_21 : decode cX3_firstWrong 21 = .ok (.aload_n 0, 1) := by decide +kernel
theorem dX3_firstWrong_22 : decode cX3_firstWrong 22 = .ok (.getfield 25, 3) := by decide +kernel
theorem dX3_firstWrong_25 : decode cX3_firstWrong 25 = .ok (.iload_n 2, 1) := by decide +kernel
theorem dX3_firstWrong_26 : decode cX3_firstWrong 26 = .ok (.iaload, 1) := by decide +kernel
theorem dX3_firstWrong_27 : decode cX3_firstWrong 27 = .ok (.if_icmp .eq 5, 3) := by decide +kernel
theorem dX3_firstWrong_30 : decode cX3_firstWrong 30 = .ok (.iload_n 2, 1) := by decide +kernel
theorem dX3_firstWrong_31 : decode cX3_firstWrong 31 = .ok (.ireturn, 1) := by decide +kernel
theorem dX3_firstWrong_32 : decode cX3_firstWrong 32 = .ok (.iinc 2 1, 3) := by decide +kernel
theorem dX3_firstWrong_35 : decode cX3_firstWrong 35 = .ok (.goto (-33), 3) := by decide +kernel
theorem dX3_firstWrong_38 : decode cX3_firstWrong 38 = .ok (.iconst (-1), 1) := by decide +kernel
theorem dX3_firstWrong_39 : decode cX3_firstWrong 39 = .ok (.ireturn, 1) := by decide +kernel
theorem dX3_canReach_0 : decode cX3_canReach 0 = .ok (.iconst 0, 1) := by decide +kernel
theorem dX3_canReach_1 : decode cX3_canReach 1 = .ok (.istore_n 2, 1) := by decide +kernel
theorem dX3_canReach_2 : decode cX3_canReach 2 = .ok (.iload_n 2, 1) := by decide +kernel
theorem dX3_canReach_3 : decode cX3_canReach 3 = .ok (.aload_n 0, 1) := by decide +kernel
theorem dX3_canReach_4 : decode cX3_canReach 4 = .ok (.getfield 32, 3) := by decide +kernel
theorem dX3_canReach_7 : decode cX3_canReach 7 = .ok (.if_icmp .ge 35, 3) := by decide +kernel
theorem dX3_canReach_10 : decode cX3_canReach 10 = .ok (.aload_n 0, 1) := by decide +kernel
theorem dX3_canReach_11 : decode cX3_canReach 11 = .ok (.getfield 15, 3) := by decide +kernel
theorem dX3_canReach_14 : decode cX3_canReach 14 = .ok (.iload_n 2, 1) := by decide +kernel
theorem dX3_canReach_15 : decode cX3_canReach 15 = .ok (.iaload, 1) := by decide +kernel
theorem dX3_canReach_16 : decode cX3_canReach 16 = .ok (.iload_n 1, 1) := by decide +kernel
theorem dX3_canReach_17 : decode cX3_canReach 17 = .ok (.if_icmp .gt 7, 3) := by decide +kernel
theorem dX3_canReach_20 : decode cX3_canReach 20 = .ok (.iconst 1, 1) := by decide +kernel
theorem dX3_canReach_21 : decode cX3_canReach 21 = .ok (.goto 4, 3) := by decide +kernel
theorem dX3_canReach_24 : decode cX3_canReach 24 = .ok (.iconst 0, 1) := by decide +kernel
theorem dX3_canReach_25 : decode cX3_canReach 25 = .ok (.aload_n 0, 1) := by decide +kernel
theorem dX3_canReach_26 : decode cX3_canReach 26 = .ok (.getfield 18, 3) := by decide +kernel
theorem dX3_canReach_29 : decode cX3_canReach 29 = .ok (.iload_n 2, 1) := by decide +kernel
theorem dX3_canReach_30 : decode cX3_canReach 30 = .ok (.baload, 1) := by decide +kernel
theorem dX3_canReach_31 : decode cX3_canReach 31 = .ok (.if_icmp .eq 5, 3) := by decide +kernel
theorem dX3_canReach_34 : decode cX3_canReach 34 = .ok (.iconst 0, 1) := by decide +kernel
theorem dX3_canReach_35 : decode cX3_canReach 35 = .ok (.ireturn, 1) := by decide +kernel
theorem dX3_canReach_36 : decode cX3_canReach 36 = .ok (.iinc 2 1, 3) := by decide +kernel
theorem dX3_canReach_39 : decode cX3_canReach 39 = .ok (.goto (-37), 3) := by decide +kernel
theorem dX3_canReach_42 : decode cX3_canReach 42 = .ok (.iconst 1, 1) := by decide +kernel
theorem dX3_canReach_43 : decode cX3_canReach 43 = .ok (.ireturn, 1) := by decide +kernel
theorem dX3_reachesBelow_0 : decode cX3_reachesBelow 0 = .ok (.iconst 0, 1) := by decide +kernel
theorem dX3_reachesBelow_1 : decode cX3_reachesBelow 1 = .ok (.istore_n 2, 1) := by decide +kernel
theorem dX3_reachesBelow_2 : decode cX3_reachesBelow 2 = .ok (.iconst 0, 1) := by decide +kernel
theorem dX3_reachesBelow_3 : decode cX3_reachesBelow 3 = .ok (.istore_n 3, 1) := by decide +kernel
theorem dX3_reachesBelow_4 : decode cX3_reachesBelow 4 = .ok (.iload_n 3, 1) := by decide +kernel
theorem dX3_reachesBelow_5 : decode cX3_reachesBelow 5 = .ok (.iload_n 1, 1) := by decide +kernel
theorem dX3_reachesBelow_6 : decode cX3_reachesBelow 6 = .ok (.if_icmp .ge 25, 3) := by decide +kernel
theorem dX3_reachesBelow_9 : decode cX3_reachesBelow 9 = .ok (.iload_n 2, 1) := by decide +kernel
theorem dX3_reachesBelow_10 : decode cX3_reachesBelow 10 = .ok (.aload_n 0, 1) := by decide +kernel
theorem dX3_reachesBelow_11 : decode cX3_reachesBelow 11 = .ok (.iload_n 3, 1) := by decide +kernel
theorem dX3_reachesBelow_12 : decode cX3_reachesBelow 12 = .ok (.invokevirtual 43, 3) := by decide +kernel
theorem dX3_reachesBelow_15 : decode cX3_reachesBelow 15 = .ok (.ifCond .eq 7, 3) := by decide +kernel
theorem dX3_reachesBelow_18 : decode cX3_reachesBelow 18 = .ok (.iconst 1, 1) := by decide +kernel
theorem dX3_reachesBelow_19 : decode cX3_reachesBelow 19 = .ok (.goto 4, 3) := by decide +kernel
theorem dX3_reachesBelow_22 : decode cX3_reachesBelow 22 = .ok (.iconst 0, 1) := by decide +kernel
theorem dX3_reachesBelow_23 : decode cX3_reachesBelow 23 = .ok (.iadd, 1) := by decide +kernel
theorem dX3_reachesBelow_24 : decode cX3_reachesBelow 24 = .ok (.istore_n 2, 1) := by decide +kernel
theorem dX3_reachesBelow_25 : decode cX3_reachesBelow 25 = .ok (.iinc 3 1, 3) := by decide +kernel
theorem dX3_reachesBelow_28 : decode cX3_reachesBelow 28 = .ok (.goto (-24), 3) := by decide +kernel
theorem dX3_reachesBelow_31 : decode cX3_reachesBelow 31 = .ok (.iload_n 2, 1) := by decide +kernel
theorem dX3_reachesBelow_32 : decode cX3_reachesBelow 32 = .ok (.ireturn, 1) := by decide +kernel
theorem dX3_leastReach_0 : decode cX3_leastReach 0 = .ok (.iconst 0, 1) := by decide +kernel
theorem dX3_leastReach_1 : decode cX3_leastReach 1 = .ok (.istore_n 1, 1) := by decide +kernel
theorem dX3_leastReach_2 : decode cX3_leastReach 2 = .ok (.iload_n 1, 1) := by decide +kernel
theorem dX3_leastReach_3 : decode cX3_leastReach 3 = .ok (.bipush 50, 2) := by decide +kernel
theorem dX3_leastReach_5 : decode cX3_leastReach 5 = .ok (.if_icmp .gt 19, 3) := by decide +kernel
theorem dX3_leastReach_8 : decode cX3_leastReach 8 = .ok (.aload_n 0, 1) := by decide +kernel
theorem dX3_leastReach_9 : decode cX3_leastReach 9 = .ok (.iload_n 1, 1) := by decide +kernel
theorem dX3_leastReach_10 : decode cX3_leastReach 10 = .ok (.invokevirtual 43, 3) := by decide +kernel
theorem dX3_leastReach_13 : decode cX3_leastReach 13 = .ok (.ifCond .eq 5, 3) := by decide +kernel
theorem dX3_leastReach_16 : decode cX3_leastReach 16 = .ok (.iload_n 1, 1) := by decide +kernel
theorem dX3_leastReach_17 : decode cX3_leastReach 17 = .ok (.ireturn, 1) := by decide +kernel
theorem dX3_leastReach_18 : decode cX3_leastReach 18 = .ok (.iinc 1 1, 3) := by decide +kernel
theorem dX3_leastReach_21 : decode cX3_leastReach 21 = .ok (.goto (-19), 3) := by decide +kernel
theorem dX3_leastReach_24 : decode cX3_leastReach 24 = .ok (.iconst (-1), 1) := by decide +kernel
theorem dX3_leastReach_25 : decode cX3_leastReach 25 = .ok (.ireturn, 1) := by decide +kernel
theorem dX3_greatestReach_0 : decode cX3_greatestReach 0 = .ok (.bipush 50, 2) := by decide +kernel
theorem dX3_greatestReach_2 : decode cX3_greatestReach 2 = .ok (.istore_n 1, 1) := by decide +kernel
theorem dX3_greatestReach_3 : decode cX3_greatestReach 3 = .ok (.iload_n 1, 1) := by decide +kernel
theorem dX3_greatestReach_4 : decode cX3_greatestReach 4 = .ok (.ifCond .lt 19, 3) := by decide +kernel
theorem dX3_greatestReach_7 : decode cX3_greatestReach 7 = .ok (.aload_n 0, 1) := by decide +kernel
theorem dX3_greatestReach_8 : decode cX3_greatestReach 8 = .ok (.iload_n 1, 1) := by decide +kernel
theorem dX3_greatestReach_9 : decode cX3_greatestReach 9 = .ok (.invokevirtual 43, 3) := by decide +kernel
theorem dX3_greatestReach_12 : decode cX3_greatestReach 12 = .ok (.ifCond .eq 5, 3) := by decide +kernel
theorem dX3_greatestReach_15 : decode cX3_greatestReach 15 = .ok (.iload_n 1, 1) := by decide +kernel
theorem dX3_greatestReach_16 : decode cX3_greatestReach 16 = .ok (.ireturn, 1) := by decide +kernel
theorem dX3_greatestReach_17 : decode cX3_greatestReach 17 = .ok (.iinc 1 (-1), 3) := by decide +kernel
theorem dX3_greatestReach_20 : decode cX3_greatestReach 20 = .ok (.goto (-17), 3) := by decide +kernel
theorem dX3_greatestReach_23 : decode cX3_greatestReach 23 = .ok (.iconst (-1), 1) := by decide +kernel
theorem dX3_greatestReach_24 : decode cX3_greatestReach 24 = .ok (.ireturn, 1) := by decide +kernel
theorem dX3_bestDoorToPart_0 : decode cX3_bestDoorToPart 0 = .ok (.aload_n 0, 1) := by decide +kernel
theorem dX3_bestDoorToPart_1 : decode cX3_bestDoorToPart 1 = .ok (.bipush 51, 2) := by decide +kernel
theorem dX3_bestDoorToPart_3 : decode cX3_bestDoorToPart 3 = .ok (.invokevirtual 47, 3) := by decide +kernel
theorem dX3_bestDoorToPart_6 : decode cX3_bestDoorToPart 6 = .ok (.istore_n 1, 1) := by decide +kernel
theorem dX3_bestDoorToPart_7 : decode cX3_bestDoorToPart 7 = .ok (.iload_n 1, 1) := by decide +kernel
theorem dX3_bestDoorToPart_8 : decode cX3_bestDoorToPart 8 = .ok (.istore_n 2, 1) := by decide +kernel
theorem dX3_bestDoorToPart_9 : decode cX3_bestDoorToPart 9 = .ok (.iconst (-1), 1) := by decide +kernel
theorem dX3_bestDoorToPart_10 : decode cX3_bestDoorToPart 10 = .ok (.istore_n 3, 1) := by decide +kernel
theorem dX3_bestDoorToPart_11 : decode cX3_bestDoorToPart 11 = .ok (.iconst 0, 1) := by decide +kernel
theorem dX3_bestDoorToPart_12 : decode cX3_bestDoorToPart 12 = .ok (.istore 4, 2) := by decide +kernel
theorem dX3_bestDoorToPart_14 : decode cX3_bestDoorToPart 14 = .ok (.iconst 0, 1) := by decide +kernel
theorem dX3_bestDoorToPart_15 : decode cX3_bestDoorToPart 15 = .ok (.istore 5, 2) := by decide +kernel
theorem dX3_bestDoorToPart_17 : decode cX3_bestDoorToPart 17 = .ok (.iload 5, 2) := by decide +kernel
theorem dX3_bestDoorToPart_19 : decode cX3_bestDoorToPart 19 = .ok (.bipush 50, 2) := by decide +kernel
theorem dX3_bestDoorToPart_21 : decode cX3_bestDoorToPart 21 = .ok (.if_icmp .gt 51, 3) := by decide +kernel
theorem dX3_bestDoorToPart_24 : decode cX3_bestDoorToPart 24 = .ok (.iload 4, 2) := by decide +kernel
theorem dX3_bestDoorToPart_26 : decode cX3_bestDoorToPart 26 = .ok (.iload_n 1, 1) := by decide +kernel
theorem dX3_bestDoorToPart_27 : decode cX3_bestDoorToPart 27 = .ok (.iload 4, 2) := by decide +kernel
theorem dX3_bestDoorToPart_29 : decode cX3_bestDoorToPart 29 = .ok (.isub, 1) := by decide +kernel
theorem dX3_bestDoorToPart_30 : decode cX3_bestDoorToPart 30 = .ok (.invokestatic 51, 3) := by decide +kernel
theorem dX3_bestDoorToPart_33 : decode cX3_bestDoorToPart 33 = .ok (.istore 6, 2) := by decide +kernel
theorem dX3_bestDoorToPart_35 : decode cX3_bestDoorToPart 35 = .ok (.iload 6, 2) := by decide +kernel
theorem dX3_bestDoorToPart_37 : decode cX3_bestDoorToPart 37 = .ok (.iload_n 2, 1) := by decide +kernel
theorem dX3_bestDoorToPart_38 : decode cX3_bestDoorToPart 38 = .ok (.if_icmp .ge 9, 3) := by decide +kernel
theorem dX3_bestDoorToPart_41 : decode cX3_bestDoorToPart 41 = .ok (.iload 6, 2) := by decide +kernel
theorem dX3_bestDoorToPart_43 : decode cX3_bestDoorToPart 43 = .ok (.istore_n 2, 1) := by decide +kernel
theorem dX3_bestDoorToPart_44 : decode cX3_bestDoorToPart 44 = .ok (.iload 5, 2) := by decide +kernel
theorem dX3_bestDoorToPart_46 : decode cX3_bestDoorToPart 46 = .ok (.istore_n 3, 1) := by decide +kernel
theorem dX3_bestDoorToPart_47 : decode cX3_bestDoorToPart 47 = .ok (.iload 4, 2) := by decide +kernel
theorem dX3_bestDoorToPart_49 : decode cX3_bestDoorToPart 49 = .ok (.aload_n 0, 1) := by decide +kernel
theorem dX3_bestDoorToPart_50 : decode cX3_bestDoorToPart 50 = .ok (.iload 5, 2) := by decide +kernel
theorem dX3_bestDoorToPart_52 : decode cX3_bestDoorToPart 52 = .ok (.invokevirtual 43, 3) := by decide +kernel
theorem dX3_bestDoorToPart_55 : decode cX3_bestDoorToPart 55 = .ok (.ifCond .eq 7, 3) := by decide +kernel
theorem dX3_bestDoorToPart_58 : decode cX3_bestDoorToPart 58 = .ok (.iconst 1, 1) := by decide +kernel
theorem dX3_bestDoorToPart_59 : decode cX3_bestDoorToPart 59 = .ok (.goto 4, 3) := by decide +kernel
theorem dX3_bestDoorToPart_62 : decode cX3_bestDoorToPart 62 = .ok (.iconst 0, 1) := by decide +kernel
theorem dX3_bestDoorToPart_63 : decode cX3_bestDoorToPart 63 = .ok (.iadd, 1) := by decide +kernel
theorem dX3_bestDoorToPart_64 : decode cX3_bestDoorToPart 64 = .ok (.istore 4, 2) := by decide +kernel
theorem dX3_bestDoorToPart_66 : decode cX3_bestDoorToPart 66 = .ok (.iinc 5 1, 3) := by decide +kernel
theorem dX3_bestDoorToPart_69 : decode cX3_bestDoorToPart 69 = .ok (.goto (-52), 3) := by decide +kernel
theorem dX3_bestDoorToPart_72 : decode cX3_bestDoorToPart 72 = .ok (.iload_n 3, 1) := by decide +kernel
theorem dX3_bestDoorToPart_73 : decode cX3_bestDoorToPart 73 = .ok (.ireturn, 1) := by decide +kernel
theorem dX4_init_0 : decode cX4_init 0 = .ok (.aload_n 0, 1) := by decide +kernel
theorem dX4_init_1 : decode cX4_init 1 = .ok (.invokespecial 3, 3) := by decide +kernel
theorem dX4_init_4 : decode cX4_init 4 = .ok (.aload_n 0, 1) := by decide +kernel
theorem dX4_init_5 : decode cX4_init 5 = .ok (.bipush 7, 2) := by decide +kernel
theorem dX4_init_7 : decode cX4_init 7 = .ok (.newarray .int, 2) := by decide +kernel
theorem dX4_init_9 : decode cX4_init 9 = .ok (.putfield 9, 3) := by decide +kernel
theorem dX4_init_12 : decode cX4_init 12 = .ok (.aload_n 0, 1) := by decide +kernel
theorem dX4_init_13 : decode cX4_init 13 = .ok (.sipush 512, 3) := by decide +kernel
theorem dX4_init_16 : decode cX4_init 16 = .ok (.newarray .int, 2) := by decide +kernel
theorem dX4_init_18 : decode cX4_init 18 = .ok (.putfield 15, 3) := by decide +kernel
theorem dX4_init_21 : decode cX4_init 21 = .ok (.return_, 1) := by decide +kernel
theorem dX4_longestRow_0 : decode cX4_longestRow 0 = .ok (.aload_n 0, 1) := by decide +kernel
theorem dX4_longestRow_1 : decode cX4_longestRow 1 = .ok (.invokevirtual 18, 3) := by decide +kernel
theorem dX4_longestRow_4 : decode cX4_longestRow 4 = .ok (.iconst 0, 1) := by decide +kernel
theorem dX4_longestRow_5 : decode cX4_longestRow 5 = .ok (.istore_n 3, 1) := by decide +kernel
theorem dX4_longestRow_6 : decode cX4_longestRow 6 = .ok (.iconst 0, 1) := by decide +kernel
theorem dX4_longestRow_7 : decode cX4_longestRow 7 = .ok (.istore 4, 2) := by decide +kernel
theorem dX4_longestRow_9 : decode cX4_longestRow 9 = .ok (.iconst 0, 1) := by decide +kernel
theorem dX4_longestRow_10 : decode cX4_longestRow 10 = .ok (.istore 5, 2) := by decide +kernel
theorem dX4_longestRow_12 : decode cX4_longestRow 12 = .ok (.iload 5, 2) := by decide +kernel
theorem dX4_longestRow_14 : decode cX4_longestRow 14 = .ok (.iconst 1, 1) := by decide +kernel
theorem dX4_longestRow_15 : decode cX4_longestRow 15 = .ok (.aload_n 1, 1) := by decide +kernel
theorem dX4_longestRow_16 : decode cX4_longestRow 16 = .ok (.getfield 21, 3) := by decide +kernel
theorem dX4_longestRow_19 : decode cX4_longestRow 19 = .ok (.ishl, 1) := by decide +kernel
theorem dX4_longestRow_20 : decode cX4_longestRow 20 = .ok (.if_icmp .ge 140, 3) := by decide +kernel
theorem dX4_longestRow_23 : decode cX4_longestRow 23 = .ok (.aload_n 0, 1) := by decide +kernel
theorem dX4_longestRow_24 : decode cX4_longestRow 24 = .ok (.getfield 15, 3) := by decide +kernel
theorem dX4_longestRow_27 : decode cX4_longestRow 27 = .ok (.iload 5, 2) := by decide +kernel
theorem dX4_longestRow_29 : decode cX4_longestRow 29 = .ok (.iaload, 1) := by decide +kernel
theorem dX4_longestRow_30 : decode cX4_longestRow 30 = .ok (.istore 6, 2) := by decide +kernel
theorem dX4_longestRow_32 : decode cX4_longestRow 32 = .ok (.iload 6, 2) := by decide +kernel
theorem dX4_longestRow_34 : decode cX4_longestRow 34 = .ok (.iconst (-1), 1) := by decide +kernel
theorem dX4_longestRow_35 : decode cX4_longestRow 35 = .ok (.if_icmp .ne 6, 3) := by decide +kernel
theorem dX4_longestRow_38 : decode cX4_longestRow 38 = .ok (.goto 116, 3) := by decide +kernel
theorem dX4_longestRow_41 : decode cX4_longestRow 41 = .ok (.iload 5, 2) := by decide +kernel
theorem dX4_longestRow_43 : decode cX4_longestRow 43 = .ok (.invokestatic 27, 3) := by decide +kernel
theorem dX4_longestRow_46 : decode cX4_longestRow 46 = .ok (.istore 7, 2) := by decide +kernel
theorem dX4_longestRow_48 : decode cX4_longestRow 48 = .ok (.iload 7, 2) := by decide +kernel
theorem dX4_longestRow_50 : decode cX4_longestRow 50 = .ok (.iload_n 3, 1) := by decide +kernel
theorem dX4_longestRow_51 : decode cX4_longestRow 51 = .ok (.if_icmp .gt 16, 3) := by decide +kernel
theorem dX4_longestRow_54 : decode cX4_longestRow 54 = .ok (.iload 7, 2) := by decide +kernel
theorem dX4_longestRow_56 : decode cX4_longestRow 56 = .ok (.iload_n 3, 1) := by decide +kernel
theorem dX4_longestRow_57 : decode cX4_longestRow 57 = .ok (.if_icmp .ne 17, 3) := by decide +kernel
theorem dX4_longestRow_60 : decode cX4_longestRow 60 = .ok (.iload 6, 2) := by decide +kernel
theorem dX4_longestRow_62 : decode cX4_longestRow 62 = .ok (.iload 4, 2) := by decide +kernel
theorem dX4_longestRow_64 : decode cX4_longestRow 64 = .ok (.if_icmp .ge 10, 3) := by decide +kernel
theorem dX4_longestRow_67 : decode cX4_longestRow 67 = .ok (.iload 7, 2) := by decide +kernel
theorem dX4_longestRow_69 : decode cX4_longestRow 69 = .ok (.istore_n 3, 1) := by decide +kernel
theorem dX4_longestRow_70 : decode cX4_longestRow 70 = .ok (.iload 6, 2) := by decide +kernel
theorem dX4_longestRow_72 : decode cX4_longestRow 72 = .ok (.istore 4, 2) := by decide +kernel
theorem dX4_longestRow_74 : decode cX4_longestRow 74 = .ok (.aload_n 0, 1) := by decide +kernel
theorem dX4_longestRow_75 : decode cX4_longestRow 75 = .ok (.aload_n 1, 1) := by decide +kernel
theorem dX4_longestRow_76 : decode cX4_longestRow 76 = .ok (.aload_n 2, 1) := by decide +kernel
theorem dX4_longestRow_77 : decode cX4_longestRow 77 = .ok (.iload 5, 2) := by decide +kernel
theorem dX4_longestRow_79 : decode cX4_longestRow 79 = .ok (.invokevirtual 33, 3) := by decide +kernel
theorem dX4_longestRow_82 : decode cX4_longestRow 82 = .ok (.iconst 0, 1) := by decide +kernel
theorem dX4_longestRow_83 : decode cX4_longestRow 83 = .ok (.istore 8, 2) := by decide +kernel
theorem dX4_longestRow_85 : decode cX4_longestRow 85 = .ok (.iload 8, 2) := by decide +kernel
theorem dX4_longestRow_87 : decode cX4_longestRow 87 = .ok (.aload_n 1, 1) := by decide +kernel
theorem dX4_longestRow_88 : decode cX4_longestRow 88 = .ok (.getfield 21, 3) := by decide +kernel
theorem dX4_longestRow_91 : decode cX4_longestRow 91 = .ok (.if_icmp .ge 63, 3) := by decide +kernel
theorem dX4_longestRow_94 : decode cX4_longestRow 94 = .ok (.aload_n 2, 1) := by decide +kernel
theorem dX4_longestRow_95 : decode cX4_longestRow 95 = .ok (.iload 5, 2) := by decide +kernel
theorem dX4_longestRow_97 : decode cX4_longestRow 97 = .ok (.iload 8, 2) := by decide +kernel
theorem dX4_longestRow_99 : decode cX4_longestRow 99 = .ok (.invokestatic 37, 3) := by decide +kernel
theorem dX4_longestRow_102 : decode cX4_longestRow 102 = .ok (.ifCond .eq 46, 3) := by decide +kernel
theorem dX4_longestRow_105 : decode cX4_longestRow 105 = .ok (.aload_n 0, 1) := by decide +kernel
theorem dX4_longestRow_106 : decode cX4_longestRow 106 = .ok (.getfield 9, 3) := by decide +kernel
theorem dX4_longestRow_109 : decode cX4_longestRow 109 = .ok (.aload_n 1, 1) := by decide +kernel
theorem dX4_longestRow_110 : decode cX4_longestRow 110 = .ok (.getfield 41, 3) := by decide +kernel
theorem dX4_longestRow_113 : decode cX4_longestRow 113 = .ok (.iload 8, 2) := by decide +kernel
theorem dX4_longestRow_115 : decode cX4_longestRow 115 = .ok (.iaload, 1) := by decide +kernel
theorem dX4_longestRow_116 : decode cX4_longestRow 116 = .ok (.iaload, 1) := by decide +kernel
theorem dX4_longestRow_117 : decode cX4_longestRow 117 = .ok (.aload_n 2, 1) := by decide +kernel
theorem dX4_longestRow_118 : decode cX4_longestRow 118 = .ok (.getfield 44, 3) := by decide +kernel
theorem dX4_longestRow_121 : decode cX4_longestRow 121 = .ok (.iload 8, 2) := by decide +kernel
theorem dX4_longestRow_123 : decode cX4_longestRow 123 = .ok (.iaload, 1) := by decide +kernel
theorem dX4_longestRow_124 : decode cX4_longestRow 124 = .ok (.if_icmp .lt 24, 3) := by decide +kernel
theorem dX4_longestRow_127 : decode cX4_longestRow 127 = .ok (.aload_n 0, 1) := by decide +kernel
theorem dX4_longestRow_128 : decode cX4_longestRow 128 = .ok (.iload 5, 2) := by decide +kernel
theorem dX4_longestRow_130 : decode cX4_longestRow 130 = .ok (.iconst 1, 1) := by decide +kernel
theorem dX4_longestRow_131 : decode cX4_longestRow 131 = .ok (.iload 8, 2) := by decide +kernel
theorem dX4_longestRow_133 : decode cX4_longestRow 133 = .ok (.ishl, 1) := by decide +kernel
theorem dX4_longestRow_134 : decode cX4_longestRow 134 = .ok (.ior, 1) := by decide +kernel
theorem dX4_longestRow_135 : decode cX4_longestRow 135 = .ok (.iload 6, 2) := by decide +kernel
theorem dX4_longestRow_137 : decode cX4_longestRow 137 = .ok (.bipush 10, 2) := by decide +kernel
theorem dX4_longestRow_139 : decode cX4_longestRow 139 = .ok (.imul, 1) := by decide +kernel
theorem dX4_longestRow_140 : decode cX4_longestRow 140 = .ok (.iload 8, 2) := by decide +kernel
theorem dX4_longestRow_142 : decode cX4_longestRow 142 = .ok (.iadd, 1) := by decide +kernel
theorem dX4_longestRow_143 : decode cX4_longestRow 143 = .ok (.iconst 1, 1) := by decide +kernel
theorem dX4_longestRow_144 : decode cX4_longestRow 144 = .ok (.iadd, 1) := by decide +kernel
theorem dX4_longestRow_145 : decode cX4_longestRow 145 = .ok (.invokevirtual 49, 3) := by decide +kernel
theorem dX4_longestRow_148 : decode cX4_longestRow 148 = .ok (.iinc 8 1, 3) := by decide +kernel
theorem dX4_longestRow_151 : decode cX4_longestRow 151 = .ok (.goto (-66), 3) := by decide +kernel
theorem dX4_longestRow_154 : decode cX4_longestRow 154 = .ok (.iinc 5 1, 3) := by decide +kernel
theorem dX4_longestRow_157 : decode cX4_longestRow 157 = .ok (.goto (-145), 3) := by decide +kernel
theorem dX4_longestRow_160 : decode cX4_longestRow 160 = .ok (.iload 4, 2) := by decide +kernel
theorem dX4_longestRow_162 : decode cX4_longestRow 162 = .ok (.ireturn, 1) := by decide +kernel
theorem dX4_leastFloat_0 : decode cX4_leastFloat 0 = .ok (.aload_n 0, 1) := by decide +kernel
theorem dX4_leastFloat_1 : decode cX4_leastFloat 1 = .ok (.invokevirtual 18, 3) := by decide +kernel
theorem dX4_leastFloat_4 : decode cX4_leastFloat 4 = .ok (.iconst 0, 1) := by decide +kernel
theorem dX4_leastFloat_5 : decode cX4_leastFloat 5 = .ok (.istore 4, 2) := by decide +kernel
theorem dX4_leastFloat_7 : decode cX4_leastFloat 7 = .ok (.iload 4, 2) := by decide +kernel
theorem dX4_leastFloat_9 : decode cX4_leastFloat 9 = .ok (.iconst 1, 1) := by decide +kernel
theorem dX4_leastFloat_10 : decode cX4_leastFloat 10 = .ok (.aload_n 1, 1) := by decide +kernel
theorem dX4_leastFloat_11 : decode cX4_leastFloat 11 = .ok (.getfield 21, 3) := by decide +kernel
theorem dX4_leastFloat_14 : decode cX4_leastFloat 14 = .ok (.ishl, 1) := by decide +kernel
theorem dX4_leastFloat_15 : decode cX4_leastFloat 15 = .ok (.if_icmp .ge 120, 3) := by decide +kernel
theorem dX4_leastFloat_18 : decode cX4_leastFloat 18 = .ok (.aload_n 0, 1) := by decide +kernel
theorem dX4_leastFloat_19 : decode cX4_leastFloat 19 = .ok (.getfield 15, 3) := by decide +kernel
theorem dX4_leastFloat_22 : decode cX4_leastFloat 22 = .ok (.iload 4, 2) := by decide +kernel
theorem dX4_leastFloat_24 : decode cX4_leastFloat 24 = .ok (.iaload, 1) := by decide +kernel
theorem dX4_leastFloat_25 : decode cX4_leastFloat 25 = .ok (.istore 5, 2) := by decide +kernel
theorem dX4_leastFloat_27 : decode cX4_leastFloat 27 = .ok (.iload 5, 2) := by decide +kernel
theorem dX4_leastFloat_29 : decode cX4_leastFloat 29 = .ok (.iconst (-1), 1) := by decide +kernel
theorem dX4_leastFloat_30 : decode cX4_leastFloat 30 = .ok (.if_icmp .ne 6, 3) := by decide +kernel
theorem dX4_leastFloat_33 : decode cX4_leastFloat 33 = .ok (.goto 96, 3) := by decide +kernel
theorem dX4_leastFloat_36 : decode cX4_leastFloat 36 = .ok (.aload_n 0, 1) := by decide +kernel
theorem dX4_leastFloat_37 : decode cX4_leastFloat 37 = .ok (.aload_n 1, 1) := by decide +kernel
theorem dX4_leastFloat_38 : decode cX4_leastFloat 38 = .ok (.aload_n 2, 1) := by decide +kernel
theorem dX4_leastFloat_39 : decode cX4_leastFloat 39 = .ok (.iload 4, 2) := by decide +kernel
theorem dX4_leastFloat_41 : decode cX4_leastFloat 41 = .ok (.invokevirtual 33, 3) := by decide +kernel
theorem dX4_leastFloat_44 : decode cX4_leastFloat 44 = .ok (.iconst 0, 1) := by decide +kernel
theorem dX4_leastFloat_45 : decode cX4_leastFloat 45 = .ok (.istore 6, 2) := by decide +kernel
theorem dX4_leastFloat_47 : decode cX4_leastFloat 47 = .ok (.iload 6, 2) := by decide +kernel
theorem dX4_leastFloat_49 : decode cX4_leastFloat 49 = .ok (.aload_n 1, 1) := by decide +kernel
theorem dX4_leastFloat_50 : decode cX4_leastFloat 50 = .ok (.getfield 21, 3) := by decide +kernel
theorem dX4_leastFloat_53 : decode cX4_leastFloat 53 = .ok (.if_icmp .ge 76, 3) := by decide +kernel
theorem dX4_leastFloat_56 : decode cX4_leastFloat 56 = .ok (.aload_n 2, 1) := by decide +kernel
theorem dX4_leastFloat_57 : decode cX4_leastFloat 57 = .ok (.getfield 44, 3) := by decide +kernel
theorem dX4_leastFloat_60 : decode cX4_leastFloat 60 = .ok (.iload 6, 2) := by decide +kernel
theorem dX4_leastFloat_62 : decode cX4_leastFloat 62 = .ok (.iaload, 1) := by decide +kernel
theorem dX4_leastFloat_63 : decode cX4_leastFloat 63 = .ok (.aload_n 0, 1) := by decide +kernel
theorem dX4_leastFloat_64 : decode cX4_leastFloat 64 = .ok (.getfield 9, 3) := by decide +kernel
theorem dX4_leastFloat_67 : decode cX4_leastFloat 67 = .ok (.aload_n 1, 1) := by decide +kernel
theorem dX4_leastFloat_68 : decode cX4_leastFloat 68 = .ok (.getfield 41, 3) := by decide +kernel
theorem dX4_leastFloat_71 : decode cX4_leastFloat 71 = .ok (.iload 6, 2) := by decide +kernel
theorem dX4_leastFloat_73 : decode cX4_leastFloat 73 = .ok (.iaload, 1) := by decide +kernel
theorem dX4_leastFloat_74 : decode cX4_leastFloat 74 = .ok (.iaload, 1) := by decide +kernel
theorem dX4_leastFloat_75 : decode cX4_leastFloat 75 = .ok (.isub, 1) := by decide +kernel
theorem dX4_leastFloat_76 : decode cX4_leastFloat 76 = .ok (.istore 7, 2) := by decide +kernel
theorem dX4_leastFloat_78 : decode cX4_leastFloat 78 = .ok (.aload_n 2, 1) := by decide +kernel
theorem dX4_leastFloat_79 : decode cX4_leastFloat 79 = .ok (.iload 4, 2) := by decide +kernel
theorem dX4_leastFloat_81 : decode cX4_leastFloat 81 = .ok (.iload 6, 2) := by decide +kernel
theorem dX4_leastFloat_83 : decode cX4_leastFloat 83 = .ok (.invokestatic 37, 3) := by decide +kernel
theorem dX4_leastFloat_86 : decode cX4_leastFloat 86 = .ok (.ifCond .eq 37, 3) := by decide +kernel
theorem dX4_leastFloat_89 : decode cX4_leastFloat 89 = .ok (.iload 7, 2) := by decide +kernel
theorem dX4_leastFloat_91 : decode cX4_leastFloat 91 = .ok (.ifCond .le 14, 3) := by decide +kernel
theorem dX4_leastFloat_94 : decode cX4_leastFloat 94 = .ok (.aload_n 1, 1) := by decide +kernel
theorem dX4_leastFloat_95 : decode cX4_leastFloat 95 = .ok (.getfield 41, 3) := by decide +kernel
theorem dX4_leastFloat_98 : decode cX4_leastFloat 98 = .ok (.iload 6, 2) := by decide +kernel
theorem dX4_leastFloat_100 : decode cX4_leastFloat 100 = .ok (.iaload, 1) := by decide +kernel
theorem dX4_leastFloat_101 : decode cX4_leastFloat 101 = .ok (.iload_n 3, 1) := by decide +kernel
theorem dX4_leastFloat_102 : decode cX4_leastFloat 102 = .ok (.if_icmp .ne 21, 3) := by decide +kernel
theorem dX4_leastFloat_105 : decode cX4_leastFloat 105 = .ok (.aload_n 0, 1) := by decide +kernel
theorem dX4_leastFloat_106 : decode cX4_leastFloat 106 = .ok (.iload 4, 2) := by decide +kernel
theorem dX4_leastFloat_108 : decode cX4_leastFloat 108 = .ok (.iconst 1, 1) := by decide +kernel
theorem dX4_leastFloat_109 : decode cX4_leastFloat 109 = .ok (.iload 6, 2) := by decide +kernel
theorem dX4_leastFloat_111 : decode cX4_leastFloat 111 = .ok (.ishl, 1) := by decide +kernel
theorem dX4_leastFloat_112 : decode cX4_leastFloat 112 = .ok (.ior, 1) := by decide +kernel
theorem dX4_leastFloat_113 : decode cX4_leastFloat 113 = .ok (.iload 5, 2) := by decide +kernel
theorem dX4_leastFloat_115 : decode cX4_leastFloat 115 = .ok (.iload 7, 2) := by decide +kernel
theorem dX4_leastFloat_117 : decode cX4_leastFloat 117 = .ok (.invokestatic 53, 3) := by decide +kernel
theorem dX4_leastFloat_120 : decode cX4_leastFloat 120 = .ok (.invokevirtual 49, 3) := by decide +kernel
theorem dX4_leastFloat_123 : decode cX4_leastFloat 123 = .ok (.iinc 6 1, 3) := by decide +kernel
theorem dX4_leastFloat_126 : decode cX4_leastFloat 126 = .ok (.goto (-79), 3) := by decide +kernel
theorem dX4_leastFloat_129 : decode cX4_leastFloat 129 = .ok (.iinc 4 1, 3) := by decide +kernel
theorem dX4_leastFloat_132 : decode cX4_leastFloat 132 = .ok (.goto (-125), 3) := by decide +kernel
theorem dX4_leastFloat_135 : decode cX4_leastFloat 135 = .ok (.aload_n 0, 1) := by decide +kernel
theorem dX4_leastFloat_136 : decode cX4_leastFloat 136 = .ok (.getfield 15, 3) := by decide +kernel
theorem dX4_leastFloat_139 : decode cX4_leastFloat 139 = .ok (.aload_n 1, 1) := by decide +kernel
theorem dX4_leastFloat_140 : decode cX4_leastFloat 140 = .ok (.aload_n 2, 1) := by decide +kernel
theorem dX4_leastFloat_141 : decode cX4_leastFloat 141 = .ok (.invokestatic 59, 3) := by decide +kernel
theorem dX4_leastFloat_144 : decode cX4_leastFloat 144 = .ok (.iaload, 1) := by decide +kernel
theorem dX4_leastFloat_145 : decode cX4_leastFloat 145 = .ok (.istore 4, 2) := by decide +kernel
theorem dX4_leastFloat_147 : decode cX4_leastFloat 147 = .ok (.iload 4, 2) := by decide +kernel
theorem dX4_leastFloat_149 : decode cX4_leastFloat 149 = .ok (.sipush 999, 3) := by decide +kernel
theorem dX4_leastFloat_152 : decode cX4_leastFloat 152 = .ok (.if_icmp .gt 8, 3) := by decide +kernel
theorem dX4_leastFloat_155 : decode cX4_leastFloat 155 = .ok (.iload 4, 2) := by decide +kernel
theorem dX4_leastFloat_157 : decode cX4_leastFloat 157 = .ok (.goto 4, 3) := by decide +kernel
theorem dX4_leastFloat_160 : decode cX4_leastFloat 160 = .ok (.iconst (-1), 1) := by decide +kernel
theorem dX4_leastFloat_161 : decode cX4_leastFloat 161 = .ok (.ireturn, 1) := by decide +kernel
theorem dX4_allOpen_0 : decode cX4_allOpen 0 = .ok (.iconst 0, 1) := by decide +kernel
theorem dX4_allOpen_1 : decode cX4_allOpen 1 = .ok (.istore_n 2, 1) := by decide +kernel
theorem dX4_allOpen_2 : decode cX4_allOpen 2 = .ok (.iconst 0, 1) := by decide +kernel
theorem dX4_allOpen_3 : decode cX4_allOpen 3 = .ok (.istore_n 3, 1) := by decide +kernel
theorem dX4_allOpen_4 : decode cX4_allOpen 4 = .ok (.iload_n 3, 1) := by decide +kernel
theorem dX4_allOpen_5 : decode cX4_allOpen 5 = .ok (.aload_n 0, 1) := by decide +kernel
theorem dX4_allOpen_6 : decode cX4_allOpen 6 = .ok (.getfield 21, 3) := by decide +kernel
theorem dX4_allOpen_9 : decode cX4_allOpen 9 = .ok (.if_icmp .ge 28, 3) := by decide +kernel
theorem dX4_allOpen_12 : decode cX4_allOpen 12 = .ok (.iload_n 2, 1) := by decide +kernel
theorem dX4_allOpen_13 : decode cX4_allOpen 13 = .ok (.aload_n 1, 1) := by decide +kernel
theorem dX4_allOpen_14 : decode cX4_allOpen 14 = .ok (.getfield 44, 3) := by decide +kernel
theorem dX4_allOpen_17 : decode cX4_allOpen 17 = .ok (.iload_n 3, 1) := by decide +kernel
theorem dX4_allOpen_18 : decode cX4_allOpen 18 = .ok (.iaload, 1) := by decide +kernel
theorem dX4_allOpen_19 : decode cX4_allOpen 19 = .ok (.ifCond .le 9, 3) := by decide +kernel
theorem dX4_allOpen_22 : decode cX4_allOpen 22 = .ok (.iconst 1, 1) := by decide +kernel
theorem dX4_allOpen_23 : decode cX4_allOpen 23 = .ok (.iload_n 3, 1) := by decide +kernel
theorem dX4_allOpen_24 : decode cX4_allOpen 24 = .ok (.ishl, 1) := by decide +kernel
theorem dX4_allOpen_25 : decode cX4_allOpen 25 = .ok (.goto 4, 3) := by decide +kernel
theorem dX4_allOpen_28 : decode cX4_allOpen 28 = .ok (.iconst 0, 1) := by decide +kernel
theorem dX4_allOpen_29 : decode cX4_allOpen 29 = .ok (.ior, 1) := by decide +kernel
theorem dX4_allOpen_30 : decode cX4_allOpen 30 = .ok (.istore_n 2, 1) := by decide +kernel
theorem dX4_allOpen_31 : decode cX4_allOpen 31 = .ok (.iinc 3 1, 3) := by decide +kernel
theorem dX4_allOpen_34 : decode cX4_allOpen 34 = .ok (.goto (-30), 3) := by decide +kernel
theorem dX4_allOpen_37 : decode cX4_allOpen 37 = .ok (.iload_n 2, 1) := by decide +kernel
theorem dX4_allOpen_38 : decode cX4_allOpen 38 = .ok (.ireturn, 1) := by decide +kernel
theorem dX4_beginSets_0 : decode cX4_beginSets 0 = .ok (.iconst 0, 1) := by decide +kernel
theorem dX4_beginSets_1 : decode cX4_beginSets 1 = .ok (.istore_n 1, 1) := by decide +kernel
theorem dX4_beginSets_2 : decode cX4_beginSets 2 = .ok (.iload_n 1, 1) := by decide +kernel
theorem dX4_beginSets_3 : decode cX4_beginSets 3 = .ok (.aload_n 0, 1) := by decide +kernel
theorem dX4_beginSets_4 : decode cX4_beginSets 4 = .ok (.getfield 15, 3) := by decide +kernel
theorem dX4_beginSets_7 : decode cX4_beginSets 7 = .ok (.arraylength, 1) := by decide +kernel
theorem dX4_beginSets_8 : decode cX4_beginSets 8 = .ok (.if_icmp .ge 16, 3) := by decide +kernel
theorem dX4_beginSets_11 : decode cX4_beginSets 11 = .ok (.aload_n 0, 1) := by decide +kernel
theorem dX4_beginSets_12 : decode cX4_beginSets 12 = .ok (.getfield 15, 3) := by decide +kernel
theorem dX4_beginSets_15 : decode cX4_beginSets 15 = .ok (.iload_n 1, 1) := by decide +kernel
theorem dX4_beginSets_16 : decode cX4_beginSets 16 = .ok (.iconst (-1), 1) := by decide +kernel
theorem dX4_beginSets_17 : decode cX4_beginSets 17 = .ok (.iastore, 1) := by decide +kernel
theorem dX4_beginSets_18 : decode cX4_beginSets 18 = .ok (.iinc 1 1, 3) := by decide +kernel
theorem dX4_beginSets_21 : decode cX4_beginSets 21 = .ok (.goto (-19), 3) := by decide +kernel
theorem dX4_beginSets_24 : decode cX4_beginSets 24 = .ok (.aload_n 0, 1) := by decide +kernel
theorem dX4_beginSets_25 : decode cX4_beginSets 25 = .ok (.getfield 15, 3) := by decide +kernel
theorem dX4_beginSets_28 : decode cX4_beginSets 28 = .ok (.iconst 0, 1) := by decide +kernel
theorem dX4_beginSets_29 : decode cX4_beginSets 29 = .ok (.iconst 0, 1) := by decide +kernel
theorem dX4_beginSets_30 : decode cX4_beginSets 30 = .ok (.iastore, 1) := by decide +kernel
theorem dX4_beginSets_31 : decode cX4_beginSets 31 = .ok (.return_, 1) := by decide +kernel
theorem dX4_offer_0 : decode cX4_offer 0 = .ok (.aload_n 0, 1) := by decide +kernel
theorem dX4_offer_1 : decode cX4_offer 1 = .ok (.getfield 15, 3) := by decide +kernel
theorem dX4_offer_4 : decode cX4_offer 4 = .ok (.iload_n 1, 1) := by decide +kernel
theorem dX4_offer_5 : decode cX4_offer 5 = .ok (.iaload, 1) := by decide +kernel
theorem dX4_offer_6 : decode cX4_offer 6 = .ok (.iconst (-1), 1) := by decide +kernel
theorem dX4_offer_7 : decode cX4_offer 7 = .ok (.if_icmp .eq 13, 3) := by decide +kernel
theorem dX4_offer_10 : decode cX4_offer 10 = .ok (.iload_n 2, 1) := by decide +kernel
theorem dX4_offer_11 : decode cX4_offer 11 = .ok (.aload_n 0, 1) := by decide +kernel
theorem dX4_offer_12 : decode cX4_offer 12 = .ok (.getfield 15, 3) := by decide +kernel
theorem dX4_offer_15 : decode cX4_offer 15 = .ok (.iload_n 1, 1) := by decide +kernel
theorem dX4_offer_16 : decode cX4_offer 16 = .ok (.iaload, 1) := by decide +kernel
theorem dX4_offer_17 : decode cX4_offer 17 = .ok (.if_icmp .ge 10, 3) := by decide +kernel
theorem dX4_offer_20 : decode cX4_offer 20 = .ok (.aload_n 0, 1) := by decide +kernel
theorem dX4_offer_21 : decode cX4_offer 21 = .ok (.getfield 15, 3) := by decide +kernel
theorem dX4_offer_24 : decode cX4_offer 24 = .ok (.iload_n 1, 1) := by decide +kernel
theorem dX4_offer_25 : decode cX4_offer 25 = .ok (.iload_n 2, 1) := by decide +kernel
theorem dX4_offer_26 : decode cX4_offer 26 = .ok (.iastore, 1) := by decide +kernel
theorem dX4_offer_27 : decode cX4_offer 27 = .ok (.return_, 1) := by decide +kernel
theorem dX4_isOpen_0 : decode cX4_isOpen 0 = .ok (.aload_n 0, 1) := by decide +kernel
theorem dX4_isOpen_1 : decode cX4_isOpen 1 = .ok (.getfield 44, 3) := by decide +kernel
theorem dX4_isOpen_4 : decode cX4_isOpen 4 = .ok (.iload_n 2, 1) := by decide +kernel
theorem dX4_isOpen_5 : decode cX4_isOpen 5 = .ok (.iaload, 1) := by decide +kernel
theorem dX4_isOpen_6 : decode cX4_isOpen 6 = .ok (.ifCond .le 15, 3) := by decide +kernel
theorem dX4_isOpen_9 : decode cX4_isOpen 9 = .ok (.iload_n 1, 1) := by decide +kernel
theorem dX4_isOpen_10 : decode cX4_isOpen 10 = .ok (.iload_n 2, 1) := by decide +kernel
theorem dX4_isOpen_11 : decode cX4_isOpen 11 = .ok (.invokestatic 63, 3) := by decide +kernel
theorem dX4_isOpen_14 : decode cX4_isOpen 14 = .ok (.ifCond .ne 7, 3) := by decide +kernel
theorem dX4_isOpen_17 : decode cX4_isOpen 17 = .ok (.iconst 1, 1) := by decide +kernel
theorem dX4_isOpen_18 : decode cX4_isOpen 18 = .ok (.goto 4, 3) := by decide +kernel
theorem dX4_isOpen_21 : decode cX4_isOpen 21 = .ok (.iconst 0, 1) := by decide +kernel
theorem dX4_isOpen_22 : decode cX4_isOpen 22 = .ok (.ireturn, 1) := by decide +kernel
theorem dX4_fillHats_0 : decode cX4_fillHats 0 = .ok (.aload_n 2, 1) := by decide +kernel
theorem dX4_fillHats_1 : decode cX4_fillHats 1 = .ok (.getfield 67, 3) := by decide +kernel
theorem dX4_fillHats_4 : decode cX4_fillHats 4 = .ok (.iconst 0, 1) := by decide +kernel
theorem dX4_fillHats_5 : decode cX4_fillHats 5 = .ok (.aload_n 0, 1) := by decide +kernel
theorem dX4_fillHats_6 : decode cX4_fillHats 6 = .ok (.getfield 9, 3) := by decide +kernel
theorem dX4_fillHats_9 : decode cX4_fillHats 9 = .ok (.iconst 0, 1) := by decide +kernel
theorem dX4_fillHats_10 : decode cX4_fillHats 10 = .ok (.bipush 7, 2) := by decide +kernel
theorem dX4_fillHats_12 : decode cX4_fillHats 12 = .ok (.invokestatic 70, 3) := by decide +kernel
theorem dX4_fillHats_15 : decode cX4_fillHats 15 = .ok (.iconst 0, 1) := by decide +kernel
theorem dX4_fillHats_16 : decode cX4_fillHats 16 = .ok (.istore 4, 2) := by decide +kernel
theorem dX4_fillHats_18 : decode cX4_fillHats 18 = .ok (.iload 4, 2) := by decide +kernel
theorem dX4_fillHats_20 : decode cX4_fillHats 20 = .ok (.aload_n 1, 1) := by decide +kernel
theorem dX4_fillHats_21 : decode cX4_fillHats 21 = .ok (.getfield 21, 3) := by decide +kernel
theorem dX4_fillHats_24 : decode cX4_fillHats 24 = .ok (.if_icmp .ge 62, 3) := by decide +kernel
theorem dX4_fillHats_27 : decode cX4_fillHats 27 = .ok (.iload_n 3, 1) := by decide +kernel
theorem dX4_fillHats_28 : decode cX4_fillHats 28 = .ok (.iload 4, 2) := by decide +kernel
theorem dX4_fillHats_30 : decode cX4_fillHats 30 = .ok (.invokestatic 63, 3) := by decide +kernel
theorem dX4_fillHats_33 : decode cX4_fillHats 33 = .ok (.ifCond .eq 47, 3) := by decide +kernel
theorem dX4_fillHats_36 : decode cX4_fillHats 36 = .ok (.aload_n 0, 1) := by decide +kernel
theorem dX4_fillHats_37 : decode cX4_fillHats 37 = .ok (.getfield 9, 3) := by decide +kernel
theorem dX4_fillHats_40 : decode cX4_fillHats 40 = .ok (.aload_n 1, 1) := by decide +kernel
theorem dX4_fillHats_41 : decode cX4_fillHats 41 = .ok (.getfield 41, 3) := by decide +kernel
theorem dX4_fillHats_44 : decode cX4_fillHats 44 = .ok (.iload 4, 2) := by decide +kernel
theorem dX4_fillHats_46 : decode cX4_fillHats 46 = .ok (.iaload, 1) := by decide +kernel
theorem dX4_fillHats_47 : decode cX4_fillHats 47 = .ok (.dup2, 1) := by decide +kernel
theorem dX4_fillHats_48 : decode cX4_fillHats 48 = .ok (.iaload, 1) := by decide +kernel
theorem dX4_fillHats_49 : decode cX4_fillHats 49 = .ok (.aload_n 2, 1) := by decide +kernel
theorem dX4_fillHats_50 : decode cX4_fillHats 50 = .ok (.getfield 44, 3) := by decide +kernel
theorem dX4_fillHats_53 : decode cX4_fillHats 53 = .ok (.iload 4, 2) := by decide +kernel
theorem dX4_fillHats_55 : decode cX4_fillHats 55 = .ok (.iaload, 1) := by decide +kernel
theorem dX4_fillHats_56 : decode cX4_fillHats 56 = .ok (.isub, 1) := by decide +kernel
theorem dX4_fillHats_57 : decode cX4_fillHats 57 = .ok (.iastore, 1) := by decide +kernel
theorem dX4_fillHats_58 : decode cX4_fillHats 58 = .ok (.aload_n 0, 1) := by decide +kernel
theorem dX4_fillHats_59 : decode cX4_fillHats 59 = .ok (.getfield 9, 3) := by decide +kernel
theorem dX4_fillHats_62 : decode cX4_fillHats 62 = .ok (.aload_n 1, 1) := by decide +kernel
theorem dX4_fillHats_63 : decode cX4_fillHats 63 = .ok (.getfield 76, 3) := by decide +kernel
theorem dX4_fillHats_66 : decode cX4_fillHats 66 = .ok (.iload 4, 2) := by decide +kernel
theorem dX4_fillHats_68 : decode cX4_fillHats 68 = .ok (.iaload, 1) := by decide +kernel
theorem dX4_fillHats_69 : decode cX4_fillHats 69 = .ok (.dup2, 1) := by decide +kernel
theorem dX4_fillHats_70 : decode cX4_fillHats 70 = .ok (.iaload, 1) := by decide +kernel
theorem dX4_fillHats_71 : decode cX4_fillHats 71 = .ok (.aload_n 2, 1) := by decide +kernel
theorem dX4_fillHats_72 : decode cX4_fillHats 72 = .ok (.getfield 44, 3) := by decide +kernel
theorem dX4_fillHats_75 : decode cX4_fillHats 75 = .ok (.iload 4, 2) := by decide +kernel
theorem dX4_fillHats_77 : decode cX4_fillHats 77 = .ok (.iaload, 1) := by decide +kernel
theorem dX4_fillHats_78 : decode cX4_fillHats 78 = .ok (.iadd, 1) := by decide +kernel
theorem dX4_fillHats_79 : decode cX4_fillHats 79 = .ok (.iastore, 1) := by decide +kernel
theorem dX4_fillHats_80 : decode cX4_fillHats 80 = .ok (.iinc 4 1, 3) := by decide +kernel
theorem dX4_fillHats_83 : decode cX4_fillHats 83 = .ok (.goto (-65), 3) := by decide +kernel
theorem dX4_fillHats_86 : decode cX4_fillHats 86 = .ok (.return_, 1) := by decide +kernel
theorem dX5_init_0 : decode cX5_init 0 = .ok (.aload_n 0, 1) := by decide +kernel
theorem dX5_init_1 : decode cX5_init 1 = .ok (.invokespecial 3, 3) := by decide +kernel
theorem dX5_init_4 : decode cX5_init 4 = .ok (.aload_n 0, 1) := by decide +kernel
theorem dX5_init_5 : decode cX5_init 5 = .ok (.sipush 240, 3) := by decide +kernel
theorem dX5_init_8 : decode cX5_init 8 = .ok (.newarray .int, 2) := by decide +kernel
theorem dX5_init_10 : decode cX5_init 10 = .ok (.putfield 9, 3) := by decide +kernel
theorem dX5_init_13 : decode cX5_init 13 = .ok (.aload_n 0, 1) := by decide +kernel
theorem dX5_init_14 : decode cX5_init 14 = .ok (.iconst 0, 1) := by decide +kernel
theorem dX5_init_15 : decode cX5_init 15 = .ok (.putfield 15, 3) := by decide +kernel
theorem dX5_init_18 : decode cX5_init 18 = .ok (.aload_n 0, 1) := by decide +kernel
theorem dX5_init_19 : decode cX5_init 19 = .ok (.iconst (-1), 1) := by decide +kernel
theorem dX5_init_20 : decode cX5_init 20 = .ok (.putfield 19, 3) := by decide +kernel
theorem dX5_init_23 : decode cX5_init 23 = .ok (.aload_n 0, 1) := by decide +kernel
theorem dX5_init_24 : decode cX5_init 24 = .ok (.iconst 0, 1) := by decide +kernel
theorem dX5_init_25 : decode cX5_init 25 = .ok (.putfield 22, 3) := by decide +kernel
theorem dX5_init_28 : decode cX5_init 28 = .ok (.aload_n 0, 1) := by decide +kernel
theorem dX5_init_29 : decode cX5_init 29 = .ok (.iconst 0, 1) := by decide +kernel
theorem dX5_init_30 : decode cX5_init 30 = .ok (.putfield 25, 3) := by decide +kernel
theorem dX5_init_33 : decode cX5_init 33 = .ok (.aload_n 0, 1) := by decide +kernel
theorem dX5_init_34 : decode cX5_init 34 = .ok (.iconst 0, 1) := by decide +kernel
theorem dX5_init_35 : decode cX5_init 35 = .ok (.putfield 28, 3) := by decide +kernel
theorem dX5_init_38 : decode cX5_init 38 = .ok (.return_, 1) := by decide +kernel
theorem dX5_append_0 : decode cX5_append 0 = .ok (.aload_n 0, 1) := by decide +kernel
theorem dX5_append_1 : decode cX5_append 1 = .ok (.getfield 15, 3) := by decide +kernel
theorem dX5_append_4 : decode cX5_append 4 = .ok (.sipush 240, 3) := by decide +kernel
theorem dX5_append_7 : decode cX5_append 7 = .ok (.if_icmp .ge 23, 3) := by decide +kernel
theorem dX5_append_10 : decode cX5_append 10 = .ok (.aload_n 0, 1) := by decide +kernel
theorem dX5_append_11 : decode cX5_append 11 = .ok (.getfield 9, 3) := by decide +kernel
theorem dX5_append_14 : decode cX5_append 14 = .ok (.aload_n 0, 1) := by decide +kernel
theorem dX5_append_15 : decode cX5_append 15 = .ok (.getfield 15, 3) := by decide +kernel
theorem dX5_append_18 : decode cX5_append 18 = .ok (.iload_n 1, 1) := by decide +kernel
theorem dX5_append_19 : decode cX5_append 19 = .ok (.iastore, 1) := by decide +kernel
theorem dX5_append_20 : decode cX5_append 20 = .ok (.aload_n 0, 1) := by decide +kernel
theorem dX5_append_21 : decode cX5_append 21 = .ok (.dup, 1) := by decide +kernel
theorem dX5_append_22 : decode cX5_append 22 = .ok (.getfield 15, 3) := by decide +kernel
theorem dX5_append_25 : decode cX5_append 25 = .ok (.iconst 1, 1) := by decide +kernel
theorem dX5_append_26 : decode cX5_append 26 = .ok (.iadd, 1) := by decide +kernel
theorem dX5_append_27 : decode cX5_append 27 = .ok (.putfield 15, 3) := by decide +kernel
theorem dX5_append_30 : decode cX5_append 30 = .ok (.aload_n 0, 1) := by decide +kernel
theorem dX5_append_31 : decode cX5_append 31 = .ok (.getfield 15, 3) := by decide +kernel
theorem dX5_append_34 : decode cX5_append 34 = .ok (.ireturn, 1) := by decide +kernel
theorem dX5_readInto_0 : decode cX5_readInto 0 = .ok (.aload_n 1, 1) := by decide +kernel
theorem dX5_readInto_1 : decode cX5_readInto 1 = .ok (.invokevirtual 31, 3) := by decide +kernel
theorem dX5_readInto_4 : decode cX5_readInto 4 = .ok (.aload_n 0, 1) := by decide +kernel
theorem dX5_readInto_5 : decode cX5_readInto 5 = .ok (.iconst 0, 1) := by decide +kernel
theorem dX5_readInto_6 : decode cX5_readInto 6 = .ok (.putfield 22, 3) := by decide +kernel
theorem dX5_readInto_9 : decode cX5_readInto 9 = .ok (.aload_n 0, 1) := by decide +kernel
theorem dX5_readInto_10 : decode cX5_readInto 10 = .ok (.iconst (-1), 1) := by decide +kernel
theorem dX5_readInto_11 : decode cX5_readInto 11 = .ok (.putfield 19, 3) := by decide +kernel
theorem dX5_readInto_14 : decode cX5_readInto 14 = .ok (.aload_n 0, 1) := by decide +kernel
theorem dX5_readInto_15 : decode cX5_readInto 15 = .ok (.iconst 0, 1) := by decide +kernel
theorem dX5_readInto_16 : decode cX5_readInto 16 = .ok (.putfield 25, 3) := by decide +kernel
theorem dX5_readInto_19 : decode cX5_readInto 19 = .ok (.aload_n 0, 1) := by decide +kernel
theorem dX5_readInto_20 : decode cX5_readInto 20 = .ok (.invokevirtual 36, 3) := by decide +kernel
theorem dX5_readInto_23 : decode cX5_readInto 23 = .ok (.iconst 0, 1) := by decide +kernel
theorem dX5_readInto_24 : decode cX5_readInto 24 = .ok (.istore_n 2, 1) := by decide +kernel
theorem dX5_readInto_25 : decode cX5_readInto 25 = .ok (.iload_n 2, 1) := by decide +kernel
theorem dX5_readInto_26 : decode cX5_readInto 26 = .ok (.sipush 240, 3) := by decide +kernel
theorem dX5_readInto_29 : decode cX5_readInto 29 = .ok (.if_icmp .ge 36, 3) := by decide +kernel
theorem dX5_readInto_32 : decode cX5_readInto 32 = .ok (.aload_n 0, 1) := by decide +kernel
theorem dX5_readInto_33 : decode cX5_readInto 33 = .ok (.getfield 22, 3) := by decide +kernel
theorem dX5_readInto_36 : decode cX5_readInto 36 = .ok (.ifCond .ne 29, 3) := by decide +kernel
theorem dX5_readInto_39 : decode cX5_readInto 39 = .ok (.aload_n 0, 1) := by decide +kernel
theorem dX5_readInto_40 : decode cX5_readInto 40 = .ok (.getfield 25, 3) := by decide +kernel
theorem dX5_readInto_43 : decode cX5_readInto 43 = .ok (.aload_n 0, 1) := by decide +kernel
theorem dX5_readInto_44 : decode cX5_readInto 44 = .ok (.getfield 15, 3) := by decide +kernel
theorem dX5_readInto_47 : decode cX5_readInto 47 = .ok (.if_icmp .ge 18, 3) := by decide +kernel
theorem dX5_readInto_50 : decode cX5_readInto 50 = .ok (.aload_n 0, 1) := by decide +kernel
theorem dX5_readInto_51 : decode cX5_readInto 51 = .ok (.aload_n 1, 1) := by decide +kernel
theorem dX5_readInto_52 : decode cX5_readInto 52 = .ok (.invokevirtual 39, 3) := by decide +kernel
theorem dX5_readInto_55 : decode cX5_readInto 55 = .ok (.aload_n 0, 1) := by decide +kernel
theorem dX5_readInto_56 : decode cX5_readInto 56 = .ok (.invokevirtual 36, 3) := by decide +kernel
theorem dX5_readInto_59 : decode cX5_readInto 59 = .ok (.iinc 2 1, 3) := by decide +kernel
theorem dX5_readInto_62 : decode cX5_readInto 62 = .ok (.goto (-37), 3) := by decide +kernel
theorem dX5_readInto_65 : decode cX5_readInto 65 = .ok (.aload_n 0, 1) := by decide +kernel
theorem dX5_readInto_66 : decode cX5_readInto 66 = .ok (.iconst 0, 1) := by decide +kernel
theorem dX5_readInto_67 : decode cX5_readInto 67 = .ok (.putfield 15, 3) := by decide +kernel
theorem dX5_readInto_70 : decode cX5_readInto 70 = .ok (.aload_n 0, 1) := by decide +kernel
theorem dX5_readInto_71 : decode cX5_readInto 71 = .ok (.getfield 22, 3) := by decide +kernel
theorem dX5_readInto_74 : decode cX5_readInto 74 = .ok (.ireturn, 1) := by decide +kernel
theorem dX5_readClause_0 : decode cX5_readClause 0 = .ok (.aload_n 0, 1) := by decide +kernel
theorem dX5_readClause_1 : decode cX5_readClause 1 = .ok (.getfield 9, 3) := by decide +kernel
theorem dX5_readClause_4 : decode cX5_readClause 4 = .ok (.aload_n 0, 1) := by decide +kernel
theorem dX5_readClause_5 : decode cX5_readClause 5 = .ok (.getfield 25, 3) := by decide +kernel
theorem dX5_readClause_8 : decode cX5_readClause 8 = .ok (.iaload, 1) := by decide +kernel
theorem dX5_readClause_9 : decode cX5_readClause 9 = .ok (.istore_n 2, 1) := by decide +kernel
theorem dX5_readClause_10 : decode cX5_readClause 10 = .ok (.aload_n 1, 1) := by decide +kernel
theorem dX5_readClause_11 : decode cX5_readClause 11 = .ok (.iload_n 2, 1) := by decide +kernel
theorem dX5_readClause_12 : decode cX5_readClause 12 = .ok (.invokestatic 43, 3) := by decide +kernel
theorem dX5_readClause_15 : decode cX5_readClause 15 = .ok (.istore_n 3, 1) := by decide +kernel
theorem dX5_readClause_16 : decode cX5_readClause 16 = .ok (.iload_n 3, 1) := by decide +kernel
theorem dX5_readClause_17 : decode cX5_readClause 17 = .ok (.ifCond .eq 13, 3) := by decide +kernel
theorem dX5_readClause_20 : decode cX5_readClause 20 = .ok (.aload_n 0, 1) := by decide +kernel
theorem dX5_readClause_21 : decode cX5_readClause 21 = .ok (.iload_n 3, 1) := by decide +kernel
theorem dX5_readClause_22 : decode cX5_readClause 22 = .ok (.aload_n 0, 1) := by decide +kernel
theorem dX5_readClause_23 : decode cX5_readClause 23 = .ok (.getfield 25, 3) := by decide +kernel
theorem dX5_readClause_26 : decode cX5_readClause 26 = .ok (.invokevirtual 47, 3) := by decide +kernel
theorem dX5_readClause_29 : decode cX5_readClause 29 = .ok (.return_, 1) := by decide +kernel
theorem dX5_readClause_30 : decode cX5_readClause 30 = .ok (.aload_n 0, 1) := by decide +kernel
theorem dX5_readClause_31 : decode cX5_readClause 31 = .ok (.dup, 1) := by decide +kernel
theorem dX5_readClause_32 : decode cX5_readClause 32 = .ok (.getfield 25, 3) := by decide +kernel
theorem dX5_readClause_35 : decode cX5_readClause 35 = .ok (.iconst 1, 1) := by decide +kernel
theorem dX5_readClause_36 : decode cX5_readClause 36 = .ok (.iadd, 1) := by decide +kernel
theorem dX5_readClause_37 : decode cX5_readClause 37 = .ok (.putfield 25, 3) := by decide +kernel
theorem dX5_readClause_40 : decode cX5_readClause 40 = .ok (.iload_n 2, 1) := by decide +kernel
theorem dX5_readClause_41 : decode cX5_readClause 41 = .ok (.bipush 116, 2) := by decide +kernel
theorem dX5_readClause_43 : decode cX5_readClause 43 = .ok (.if_icmp .ne 11, 3) := by decide +kernel
theorem dX5_readClause_46 : decode cX5_readClause 46 = .ok (.aload_n 0, 1) := by decide +kernel
theorem dX5_readClause_47 : decode cX5_readClause 47 = .ok (.aload_n 1, 1) := by decide +kernel
theorem dX5_readClause_48 : decode cX5_readClause 48 = .ok (.invokevirtual 51, 3) := by decide +kernel
theorem dX5_readClause_51 : decode cX5_readClause 51 = .ok (.goto 22, 3) := by decide +kernel
theorem dX5_readClause_54 : decode cX5_readClause 54 = .ok (.iload_n 2, 1) := by decide +kernel
theorem dX5_readClause_55 : decode cX5_readClause 55 = .ok (.bipush 112, 2) := by decide +kernel
theorem dX5_readClause_57 : decode cX5_readClause 57 = .ok (.if_icmp .ne 11, 3) := by decide +kernel
theorem dX5_readClause_60 : decode cX5_readClause 60 = .ok (.aload_n 0, 1) := by decide +kernel
theorem dX5_readClause_61 : decode cX5_readClause 61 = .ok (.aload_n 1, 1) := by decide +kernel
theorem dX5_readClause_62 : decode cX5_readClause 62 = .ok (.invokevirtual 54, 3) := by decide +kernel
theorem dX5_readClause_65 : decode cX5_readClause 65 = .ok (.goto 8, 3) := by decide +kernel
theorem dX5_readClause_68 : decode cX5_readClause 68 = .ok (.aload_n 0, 1) := by decide +kernel
theorem dX5_readClause_69 : decode cX5_readClause 69 = .ok (.aload_n 1, 1) := by decide +kernel
theorem dX5_readClause_70 : decode cX5_readClause 70 = .ok (.invokevirtual 57, 3) := by decide +kernel
theorem dX5_readClause_73 : decode cX5_readClause 73 = .ok (.return_, 1) := by decide +kernel
theorem dX5_faultOfWord_0 : decode cX5_faultOfWord 0 = .ok (.iload_n 1, 1) := by decide +kernel
theorem dX5_faultOfWord_1 : decode cX5_faultOfWord 1 = .ok (.lookupswitch 100 #[(100, 74), (112, 48), (116, 35)], 35) := by decide +kernel
theorem dX5_faultOfWord_36 : decode cX5_faultOfWord 36 = .ok (.aload_n 0, 1) := by decide +kernel
theorem dX5_faultOfWord_37 : decode cX5_faultOfWord 37 = .ok (.getfield 60, 3) := by decide +kernel
theorem dX5_faultOfWord_40 : decode cX5_faultOfWord 40 = .ok (.ifCond .eq 7, 3) := by decide +kernel
theorem dX5_faultOfWord_43 : decode cX5_faultOfWord 43 = .ok (.iconst 3, 1) := by decide +kernel
theorem dX5_faultOfWord_44 : decode cX5_faultOfWord 44 = .ok (.goto 4, 3) := by decide +kernel
theorem dX5_faultOfWord_47 : decode cX5_faultOfWord 47 = .ok (.iconst 0, 1) := by decide +kernel
theorem dX5_faultOfWord_48 : decode cX5_faultOfWord 48 = .ok (.ireturn, 1) := by decide +kernel
theorem dX5_faultOfWord_49 : decode cX5_faultOfWord 49 = .ok (.aload_n 0, 1) := by decide +kernel
theorem dX5_faultOfWord_50 : decode cX5_faultOfWord 50 = .ok (.getfield 60, 3) := by decide +kernel
theorem dX5_faultOfWord_53 : decode cX5_faultOfWord 53 = .ok (.ifCond .ne 7, 3) := by decide +kernel
theorem dX5_faultOfWord_56 : decode cX5_faultOfWord 56 = .ok (.iconst 1, 1) := by decide +kernel
theorem dX5_faultOfWord_57 : decode cX5_faultOfWord 57 = .ok (.goto 17, 3) := by decide +kernel
theorem dX5_faultOfWord_60 : decode cX5_faultOfWord 60 = .ok (.aload_n 0, 1) := by decide +kernel
theorem dX5_faultOfWord_61 : decode cX5_faultOfWord 61 = .ok (.getfield 64, 3) := by decide +kernel
theorem dX5_faultOfWord_64 : decode cX5_faultOfWord 64 = .ok (.bipush 7, 2) := by decide +kernel
theorem dX5_faultOfWord_66 : decode cX5_faultOfWord 66 = .ok (.if_icmp .lt 7, 3) := by decide +kernel
theorem dX5_faultOfWord_69 : decode cX5_faultOfWord 69 = .ok (.iconst 3, 1) := by decide +kernel
theorem dX5_faultOfWord_70 : decode cX5_faultOfWord 70 = .ok (.goto 4, 3) := by decide +kernel
theorem dX5_faultOfWord_73 : decode cX5_faultOfWord 73 = .ok (.iconst 0, 1) := by decide +kernel
theorem dX5_faultOfWord_74 : decode cX5_faultOfWord 74 = .ok (.ireturn, 1) := by decide +kernel
theorem dX5_faultOfWord_75 : decode cX5_faultOfWord 75 = .ok (.aload_n 0, 1) := by decide +kernel
theorem dX5_faultOfWord_76 : decode cX5_faultOfWord 76 = .ok (.getfield 60, 3) := by decide +kernel
theorem dX5_faultOfWord_79 : decode cX5_faultOfWord 79 = .ok (.ifCond .ne 7, 3) := by decide +kernel
theorem dX5_faultOfWord_82 : decode cX5_faultOfWord 82 = .ok (.iconst 1, 1) := by decide +kernel
theorem dX5_faultOfWord_83 : decode cX5_faultOfWord 83 = .ok (.goto 17, 3) := by decide +kernel
theorem dX5_faultOfWord_86 : decode cX5_faultOfWord 86 = .ok (.aload_n 0, 1) := by decide +kernel
theorem dX5_faultOfWord_87 : decode cX5_faultOfWord 87 = .ok (.getfield 67, 3) := by decide +kernel
theorem dX5_faultOfWord_90 : decode cX5_faultOfWord 90 = .ok (.bipush 9, 2) := by decide +kernel
theorem dX5_faultOfWord_92 : decode cX5_faultOfWord 92 = .ok (.if_icmp .lt 7, 3) := by decide +kernel
theorem dX5_faultOfWord_95 : decode cX5_faultOfWord 95 = .ok (.iconst 3, 1) := by decide +kernel
theorem dX5_faultOfWord_96 : decode cX5_faultOfWord 96 = .ok (.goto 4, 3) := by decide +kernel
theorem dX5_faultOfWord_99 : decode cX5_faultOfWord 99 = .ok (.iconst 0, 1) := by decide +kernel
theorem dX5_faultOfWord_100 : decode cX5_faultOfWord 100 = .ok (.ireturn, 1) := by decide +kernel
theorem dX5_faultOfWord_101 : decode cX5_faultOfWord 101 = .ok (.iconst 1, 1) := by decide +kernel
theorem dX5_faultOfWord_102 : decode cX5_faultOfWord 102 = .ok (.ireturn, 1) := by decide +kernel
theorem dX5_readTree_0 : decode cX5_readTree 0 = .ok (.aload_n 0, 1) := by decide +kernel
theorem dX5_readTree_1 : decode cX5_readTree 1 = .ok (.iconst 0, 1) := by decide +kernel
theorem dX5_readTree_2 : decode cX5_readTree 2 = .ok (.sipush 999, 3) := by decide +kernel
theorem dX5_readTree_5 : decode cX5_readTree 5 = .ok (.invokevirtual 70, 3) := by decide +kernel
theorem dX5_readTree_8 : decode cX5_readTree 8 = .ok (.istore_n 2, 1) := by decide +kernel
theorem dX5_readTree_9 : decode cX5_readTree 9 = .ok (.aload_n 0, 1) := by decide +kernel
theorem dX5_readTree_10 : decode cX5_readTree 10 = .ok (.iconst 1, 1) := by decide +kernel
theorem dX5_readTree_11 : decode cX5_readTree 11 = .ok (.bipush 24, 2) := by decide +kernel
theorem dX5_readTree_13 : decode cX5_readTree 13 = .ok (.invokevirtual 70, 3) := by decide +kernel
theorem dX5_readTree_16 : decode cX5_readTree 16 = .ok (.istore_n 3, 1) := by decide +kernel
theorem dX5_readTree_17 : decode cX5_readTree 17 = .ok (.aload_n 0, 1) := by decide +kernel
theorem dX5_readTree_18 : decode cX5_readTree 18 = .ok (.invokevirtual 74, 3) := by decide +kernel
theorem dX5_readTree_21 : decode cX5_readTree 21 = .ok (.aload_n 0, 1) := by decide +kernel
theorem dX5_readTree_22 : decode cX5_readTree 22 = .ok (.getfield 22, 3) := by decide +kernel
theorem dX5_readTree_25 : decode cX5_readTree 25 = .ok (.ifCond .ne 9, 3) := by decide +kernel
theorem dX5_readTree_28 : decode cX5_readTree 28 = .ok (.aload_n 1, 1) := by decide +kernel
theorem dX5_readTree_29 : decode cX5_readTree 29 = .ok (.iload_n 2, 1) := by decide +kernel
theorem dX5_readTree_30 : decode cX5_readTree 30 = .ok (.iload_n 3, 1) := by decide +kernel
theorem dX5_readTree_31 : decode cX5_readTree 31 = .ok (.invokevirtual 77, 3) := by decide +kernel
theorem dX5_readTree_34 : decode cX5_readTree 34 = .ok (.return_, 1) := by decide +kernel
theorem dX5_readPerson_0 : decode cX5_readPerson 0 = .ok (.aload_n 0, 1) := by decide +kernel
theorem dX5_readPerson_1 : decode cX5_readPerson 1 = .ok (.iconst 0, 1) := by decide +kernel
theorem dX5_readPerson_2 : decode cX5_readPerson 2 = .ok (.iconst 4, 1) := by decide +kernel
theorem dX5_readPerson_3 : decode cX5_readPerson 3 = .ok (.invokevirtual 70, 3) := by decide +kernel
theorem dX5_readPerson_6 : decode cX5_readPerson 6 = .ok (.istore_n 2, 1) := by decide +kernel
theorem dX5_readPerson_7 : decode cX5_readPerson 7 = .ok (.aload_n 0, 1) := by decide +kernel
theorem dX5_readPerson_8 : decode cX5_readPerson 8 = .ok (.iconst 0, 1) := by decide +kernel
theorem dX5_readPerson_9 : decode cX5_readPerson 9 = .ok (.bipush 99, 2) := by decide +kernel
theorem dX5_readPerson_11 : decode cX5_readPerson 11 = .ok (.invokevirtual 70, 3) := by decide +kernel
theorem dX5_readPerson_14 : decode cX5_readPerson 14 = .ok (.istore_n 3, 1) := by decide +kernel
theorem dX5_readPerson_15 : decode cX5_readPerson 15 = .ok (.aload_n 0, 1) := by decide +kernel
theorem dX5_readPerson_16 : decode cX5_readPerson 16 = .ok (.iconst 0, 1) := by decide +kernel
theorem dX5_readPerson_17 : decode cX5_readPerson 17 = .ok (.bipush 50, 2) := by decide +kernel
theorem dX5_readPerson_19 : decode cX5_readPerson 19 = .ok (.invokevirtual 70, 3) := by decide +kernel
theorem dX5_readPerson_22 : decode cX5_readPerson 22 = .ok (.istore 4, 2) := by decide +kernel
theorem dX5_readPerson_24 : decode cX5_readPerson 24 = .ok (.aload_n 0, 1) := by decide +kernel
theorem dX5_readPerson_25 : decode cX5_readPerson 25 = .ok (.invokevirtual 74, 3) := by decide +kernel
theorem dX5_readPerson_28 : decode cX5_readPerson 28 = .ok (.aload_n 0, 1) := by decide +kernel
theorem dX5_readPerson_29 : decode cX5_readPerson 29 = .ok (.getfield 22, 3) := by decide +kernel
theorem dX5_readPerson_32 : decode cX5_readPerson 32 = .ok (.ifCond .ne 11, 3) := by decide +kernel
theorem dX5_readPerson_35 : decode cX5_readPerson 35 = .ok (.aload_n 1, 1) := by decide +kernel
theorem dX5_readPerson_36 : decode cX5_readPerson 36 = .ok (.iload_n 2, 1) := by decide +kernel
theorem dX5_readPerson_37 : decode cX5_readPerson 37 = .ok (.iload_n 3, 1) := by decide +kernel
theorem dX5_readPerson_38 : decode cX5_readPerson 38 = .ok (.iload 4, 2) := by decide +kernel
theorem dX5_readPerson_40 : decode cX5_readPerson 40 = .ok (.invokevirtual 80, 3) := by decide +kernel
theorem dX5_readPerson_43 : decode cX5_readPerson 43 = .ok (.return_, 1) := by decide +kernel
theorem dX5_readDebt_0 : decode cX5_readDebt 0 = .ok (.aload_n 0, 1) := by decide +kernel
theorem dX5_readDebt_1 : decode cX5_readDebt 1 = .ok (.iconst 0, 1) := by decide +kernel
theorem dX5_readDebt_2 : decode cX5_readDebt 2 = .ok (.aload_n 1, 1) := by decide +kernel
theorem dX5_readDebt_3 : decode cX5_readDebt 3 = .ok (.getfield 64, 3) := by decide +kernel
theorem dX5_readDebt_6 : decode cX5_readDebt 6 = .ok (.iconst 1, 1) := by decide +kernel
theorem dX5_readDebt_7 : decode cX5_readDebt 7 = .ok (.isub, 1) := by decide +kernel
theorem dX5_readDebt_8 : decode cX5_readDebt 8 = .ok (.invokevirtual 70, 3) := by decide +kernel
theorem dX5_readDebt_11 : decode cX5_readDebt 11 = .ok (.istore_n 2, 1) := by decide +kernel
theorem dX5_readDebt_12 : decode cX5_readDebt 12 = .ok (.aload_n 0, 1) := by decide +kernel
theorem dX5_readDebt_13 : decode cX5_readDebt 13 = .ok (.iconst 0, 1) := by decide +kernel
theorem dX5_readDebt_14 : decode cX5_readDebt 14 = .ok (.aload_n 1, 1) := by decide +kernel
theorem dX5_readDebt_15 : decode cX5_readDebt 15 = .ok (.getfield 64, 3) := by decide +kernel
theorem dX5_readDebt_18 : decode cX5_readDebt 18 = .ok (.iconst 1, 1) := by decide +kernel
theorem dX5_readDebt_19 : decode cX5_readDebt 19 = .ok (.isub, 1) := by decide +kernel
theorem dX5_readDebt_20 : decode cX5_readDebt 20 = .ok (.invokevirtual 70, 3) := by decide +kernel
theorem dX5_readDebt_23 : decode cX5_readDebt 23 = .ok (.istore_n 3, 1) := by decide +kernel
theorem dX5_readDebt_24 : decode cX5_readDebt 24 = .ok (.iload_n 2, 1) := by decide +kernel
theorem dX5_readDebt_25 : decode cX5_readDebt 25 = .ok (.iload_n 3, 1) := by decide +kernel
theorem dX5_readDebt_26 : decode cX5_readDebt 26 = .ok (.if_icmp .ne 12, 3) := by decide +kernel
theorem dX5_readDebt_29 : decode cX5_readDebt 29 = .ok (.aload_n 0, 1) := by decide +kernel
theorem dX5_readDebt_30 : decode cX5_readDebt 30 = .ok (.iconst 4, 1) := by decide +kernel
theorem dX5_readDebt_31 : decode cX5_readDebt 31 = .ok (.aload_n 0, 1) := by decide +kernel
theorem dX5_readDebt_32 : decode cX5_readDebt 32 = .ok (.getfield 28, 3) := by decide +kernel
theorem dX5_readDebt_35 : decode cX5_readDebt 35 = .ok (.invokevirtual 47, 3) := by decide +kernel
theorem dX5_readDebt_38 : decode cX5_readDebt 38 = .ok (.aload_n 0, 1) := by decide +kernel
theorem dX5_readDebt_39 : decode cX5_readDebt 39 = .ok (.iconst 1, 1) := by decide +kernel
theorem dX5_readDebt_40 : decode cX5_readDebt 40 = .ok (.bipush 99, 2) := by decide +kernel
theorem dX5_readDebt_42 : decode cX5_readDebt 42 = .ok (.invokevirtual 70, 3) := by decide +kernel
theorem dX5_readDebt_45 : decode cX5_readDebt 45 = .ok (.istore 4, 2) := by decide +kernel
theorem dX5_readDebt_47 : decode cX5_readDebt 47 = .ok (.aload_n 0, 1) := by decide +kernel
theorem dX5_readDebt_48 : decode cX5_readDebt 48 = .ok (.invokevirtual 74, 3) := by decide +kernel
theorem dX5_readDebt_51 : decode cX5_readDebt 51 = .ok (.aload_n 0, 1) := by decide +kernel
theorem dX5_readDebt_52 : decode cX5_readDebt 52 = .ok (.getfield 22, 3) := by decide +kernel
theorem dX5_readDebt_55 : decode cX5_readDebt 55 = .ok (.ifCond .ne 11, 3) := by decide +kernel
theorem dX5_readDebt_58 : decode cX5_readDebt 58 = .ok (.aload_n 1, 1) := by decide +kernel
theorem dX5_readDebt_59 : decode cX5_readDebt 59 = .ok (.iload_n 2, 1) := by decide +kernel
theorem dX5_readDebt_60 : decode cX5_readDebt 60 = .ok (.iload_n 3, 1) := by decide +kernel
theorem dX5_readDebt_61 : decode cX5_readDebt 61 = .ok (.iload 4, 2) := by decide +kernel
theorem dX5_readDebt_63 : decode cX5_readDebt 63 = .ok (.invokevirtual 84, 3) := by decide +kernel
theorem dX5_readDebt_66 : decode cX5_readDebt 66 = .ok (.return_, 1) := by decide +kernel
theorem dX5_readNumber_0 : decode cX5_readNumber 0 = .ok (.aload_n 0, 1) := by decide +kernel
theorem dX5_readNumber_1 : decode cX5_readNumber 1 = .ok (.getfield 22, 3) := by decide +kernel
theorem dX5_readNumber_4 : decode cX5_readNumber 4 = .ok (.ifCond .eq 5, 3) := by decide +kernel
theorem dX5_readNumber_7 : decode cX5_readNumber 7 = .ok (.iconst (-1), 1) := by decide +kernel
theorem dX5_readNumber_8 : decode cX5_readNumber 8 = .ok (.ireturn, 1) := by decide +kernel
theorem dX5_readNumber_9 : decode cX5_readNumber 9 = .ok (.aload_n 0, 1) := by decide +kernel
theorem dX5_readNumber_10 : decode cX5_readNumber 10 = .ok (.invokevirtual 36, 3) := by decide +kernel
theorem dX5_readNumber_13 : decode cX5_readNumber 13 = .ok (.aload_n 0, 1) := by decide +kernel
theorem dX5_readNumber_14 : decode cX5_readNumber 14 = .ok (.aload_n 0, 1) := by decide +kernel
theorem dX5_readNumber_15 : decode cX5_readNumber 15 = .ok (.getfield 25, 3) := by decide +kernel
theorem dX5_readNumber_18 : decode cX5_readNumber 18 = .ok (.putfield 28, 3) := by decide +kernel
theorem dX5_readNumber_21 : decode cX5_readNumber 21 = .ok (.iconst 0, 1) := by decide +kernel
theorem dX5_readNumber_22 : decode cX5_readNumber 22 = .ok (.istore_n 3, 1) := by decide +kernel
theorem dX5_readNumber_23 : decode cX5_readNumber 23 = .ok (.aload_n 0, 1) := by decide +kernel
theorem dX5_readNumber_24 : decode cX5_readNumber 24 = .ok (.getfield 25, 3) := by decide +kernel
theorem dX5_readNumber_27 : decode cX5_readNumber 27 = .ok (.aload_n 0, 1) := by decide +kernel
theorem dX5_readNumber_28 : decode cX5_readNumber 28 = .ok (.getfield 15, 3) := by decide +kernel
theorem dX5_readNumber_31 : decode cX5_readNumber 31 = .ok (.if_icmp .ge 75, 3) := by decide +kernel
theorem dX5_readNumber_34 : decode cX5_readNumber 34 = .ok (.aload_n 0, 1) := by decide +kernel
theorem dX5_readNumber_35 : decode cX5_readNumber 35 = .ok (.getfield 9, 3) := by decide +kernel
theorem dX5_readNumber_38 : decode cX5_readNumber 38 = .ok (.aload_n 0, 1) := by decide +kernel
theorem dX5_readNumber_39 : decode cX5_readNumber 39 = .ok (.getfield 25, 3) := by decide +kernel
theorem dX5_readNumber_42 : decode cX5_readNumber 42 = .ok (.iaload, 1) := by decide +kernel
theorem dX5_readNumber_43 : decode cX5_readNumber 43 = .ok (.bipush 48, 2) := by decide +kernel
theorem dX5_readNumber_45 : decode cX5_readNumber 45 = .ok (.if_icmp .lt 61, 3) := by decide +kernel
theorem dX5_readNumber_48 : decode cX5_readNumber 48 = .ok (.aload_n 0, 1) := by decide +kernel
theorem dX5_readNumber_49 : decode cX5_readNumber 49 = .ok (.getfield 9, 3) := by decide +kernel
theorem dX5_readNumber_52 : decode cX5_readNumber 52 = .ok (.aload_n 0, 1) := by decide +kernel
theorem dX5_readNumber_53 : decode cX5_readNumber 53 = .ok (.getfield 25, 3) := by decide +kernel
theorem dX5_readNumber_56 : decode cX5_readNumber 56 = .ok (.iaload, 1) := by decide +kernel
theorem dX5_readNumber_57 : decode cX5_readNumber 57 = .ok (.bipush 57, 2) := by decide +kernel
theorem dX5_readNumber_59 : decode cX5_readNumber 59 = .ok (.if_icmp .gt 47, 3) := by decide +kernel
theorem dX5_readNumber_62 : decode cX5_readNumber 62 = .ok (.aload_n 0, 1) := by decide +kernel
theorem dX5_readNumber_63 : decode cX5_readNumber 63 = .ok (.getfield 25, 3) := by decide +kernel
theorem dX5_readNumber_66 : decode cX5_readNumber 66 = .ok (.aload_n 0, 1) := by decide +kernel
theorem dX5_readNumber_67 : decode cX5_readNumber 67 = .ok (.getfield 28, 3) := by decide +kernel
theorem dX5_readNumber_70 : decode cX5_readNumber 70 = .ok (.isub, 1) := by decide +kernel
theorem dX5_readNumber_71 : decode cX5_readNumber 71 = .ok (.iconst 3, 1) := by decide +kernel
theorem dX5_readNumber_72 : decode cX5_readNumber 72 = .ok (.if_icmp .ge 21, 3) := by decide +kernel
theorem dX5_readNumber_75 : decode cX5_readNumber 75 = .ok (.iload_n 3, 1) := by decide +kernel
theorem dX5_readNumber_76 : decode cX5_readNumber 76 = .ok (.bipush 10, 2) := by decide +kernel
theorem dX5_readNumber_78 : decode cX5_readNumber 78 = .ok (.imul, 1) := by decide +kernel
theorem dX5_readNumber_79 : decode cX5_readNumber 79 = .ok (.aload_n 0, 1) := by decide +kernel
theorem dX5_readNumber_80 : decode cX5_readNumber 80 = .ok (.getfield 9, 3) := by decide +kernel
theorem dX5_readNumber_83 : decode cX5_readNumber 83 = .ok (.aload_n 0, 1) := by decide +kernel
theorem dX5_readNumber_84 : decode cX5_readNumber 84 = .ok (.getfield 25, 3) := by decide +kernel
theorem dX5_readNumber_87 : decode cX5_readNumber 87 = .ok (.iaload, 1) := by decide +kernel
theorem dX5_readNumber_88 : decode cX5_readNumber 88 = .ok (.iadd, 1) := by decide +kernel
theorem dX5_readNumber_89 : decode cX5_readNumber 89 = .ok (.bipush 48, 2) := by decide +kernel
theorem dX5_readNumber_91 : decode cX5_readNumber 91 = .ok (.isub, 1) := by decide +kernel
theorem dX5_readNumber_92 : decode cX5_readNumber 92 = .ok (.istore_n 3, 1) := by decide +kernel
theorem dX5_readNumber_93 : decode cX5_readNumber 93 = .ok (.aload_n 0, 1) := by decide +kernel
theorem dX5_readNumber_94 : decode cX5_readNumber 94 = .ok (.dup, 1) := by decide +kernel
theorem dX5_readNumber_95 : decode cX5_readNumber 95 = .ok (.getfield 25, 3) := by decide +kernel
theorem dX5_readNumber_98 : decode cX5_readNumber 98 = .ok (.iconst 1, 1) := by decide +kernel
theorem dX5_readNumber_99 : decode cX5_readNumber 99 = .ok (.iadd, 1) := by decide +kernel
theorem dX5_readNumber_100 : decode cX5_readNumber 100 = .ok (.putfield 25, 3) := by decide +kernel
theorem dX5_readNumber_103 : decode cX5_readNumber 103 = .ok (.goto (-80), 3) := by decide +kernel
theorem dX5_readNumber_106 : decode cX5_readNumber 106 = .ok (.aload_n 0, 1) := by decide +kernel
theorem dX5_readNumber_107 : decode cX5_readNumber 107 = .ok (.getfield 25, 3) := by decide +kernel
theorem dX5_readNumber_110 : decode cX5_readNumber 110 = .ok (.aload_n 0, 1) := by decide +kernel
theorem dX5_readNumber_111 : decode cX5_readNumber 111 = .ok (.getfield 28, 3) := by decide +kernel
theorem dX5_readNumber_114 : decode cX5_readNumber 114 = .ok (.if_icmp .ne 15, 3) := by decide +kernel
theorem dX5_readNumber_117 : decode cX5_readNumber 117 = .ok (.aload_n 0, 1) := by decide +kernel
theorem dX5_readNumber_118 : decode cX5_readNumber 118 = .ok (.iconst 1, 1) := by decide +kernel
theorem dX5_readNumber_119 : decode cX5_readNumber 119 = .ok (.aload_n 0, 1) := by decide +kernel
theorem dX5_readNumber_120 : decode cX5_readNumber 120 = .ok (.getfield 25, 3) := by decide +kernel
theorem dX5_readNumber_123 : decode cX5_readNumber 123 = .ok (.invokevirtual 47, 3) := by decide +kernel
theorem dX5_readNumber_126 : decode cX5_readNumber 126 = .ok (.goto 34, 3) := by decide +kernel
theorem dX5_readNumber_129 : decode cX5_readNumber 129 = .ok (.aload_n 0, 1) := by decide +kernel
theorem dX5_readNumber_130 : decode cX5_readNumber 130 = .ok (.getfield 25, 3) := by decide +kernel
theorem dX5_readNumber_133 : decode cX5_readNumber 133 = .ok (.aload_n 0, 1) := by decide +kernel
theorem dX5_readNumber_134 : decode cX5_readNumber 134 = .ok (.getfield 28, 3) := by decide +kernel
theorem dX5_readNumber_137 : decode cX5_readNumber 137 = .ok (.isub, 1) := by decide +kernel
theorem dX5_readNumber_138 : decode cX5_readNumber 138 = .ok (.iconst 3, 1) := by decide +kernel
theorem dX5_readNumber_139 : decode cX5_readNumber 139 = .ok (.if_icmp .gt 12, 3) := by decide +kernel
theorem dX5_readNumber_142 : decode cX5_readNumber 142 = .ok (.iload_n 3, 1) := by decide +kernel
theorem dX5_readNumber_143 : decode cX5_readNumber 143 = .ok (.iload_n 1, 1) := by decide +kernel
theorem dX5_readNumber_144 : decode cX5_readNumber 144 = .ok (.iload_n 2, 1) := by decide +kernel
theorem dX5_readNumber_145 : decode cX5_readNumber 145 = .ok (.invokestatic 87, 3) := by decide +kernel
theorem dX5_readNumber_148 : decode cX5_readNumber 148 = .ok (.ifCond .eq 12, 3) := by decide +kernel
theorem dX5_readNumber_151 : decode cX5_readNumber 151 = .ok (.aload_n 0, 1) := by decide +kernel
theorem dX5_readNumber_152 : decode cX5_readNumber 152 = .ok (.iconst 2, 1) := by decide +kernel
theorem dX5_readNumber_153 : decode cX5_readNumber 153 = .ok (.aload_n 0, 1) := by decide +kernel
theorem dX5_readNumber_154 : decode cX5_readNumber 154 = .ok (.getfield 28, 3) := by decide +kernel
theorem dX5_readNumber_157 : decode cX5_readNumber 157 = .ok (.invokevirtual 47, 3) := by decide +kernel
theorem dX5_readNumber_160 : decode cX5_readNumber 160 = .ok (.iload_n 3, 1) := by decide +kernel
theorem dX5_readNumber_161 : decode cX5_readNumber 161 = .ok (.ireturn, 1) := by decide +kernel
theorem dX5_readEnd_0 : decode cX5_readEnd 0 = .ok (.aload_n 0, 1) := by decide +kernel
theorem dX5_readEnd_1 : decode cX5_readEnd 1 = .ok (.getfield 22, 3) := by decide +kernel
theorem dX5_readEnd_4 : decode cX5_readEnd 4 = .ok (.ifCond .eq 4, 3) := by decide +kernel
theorem dX5_readEnd_7 : decode cX5_readEnd 7 = .ok (.return_, 1) := by decide +kernel
theorem dX5_readEnd_8 : decode cX5_readEnd 8 = .ok (.aload_n 0, 1) := by decide +kernel
theorem dX5_readEnd_9 : decode cX5_readEnd 9 = .ok (.invokevirtual 36, 3) := by decide +kernel
theorem dX5_readEnd_12 : decode cX5_readEnd 12 = .ok (.aload_n 0, 1) := by decide +kernel
theorem dX5_readEnd_13 : decode cX5_readEnd 13 = .ok (.getfield 25, 3) := by decide +kernel
theorem dX5_readEnd_16 : decode cX5_readEnd 16 = .ok (.aload_n 0, 1) := by decide +kernel
theorem dX5_readEnd_17 : decode cX5_readEnd 17 = .ok (.getfield 15, 3) := by decide +kernel
theorem dX5_readEnd_20 : decode cX5_readEnd 20 = .ok (.if_icmp .ge 30, 3) := by decide +kernel
theorem dX5_readEnd_23 : decode cX5_readEnd 23 = .ok (.aload_n 0, 1) := by decide +kernel
theorem dX5_readEnd_24 : decode cX5_readEnd 24 = .ok (.getfield 9, 3) := by decide +kernel
theorem dX5_readEnd_27 : decode cX5_readEnd 27 = .ok (.aload_n 0, 1) := by decide +kernel
theorem dX5_readEnd_28 : decode cX5_readEnd 28 = .ok (.getfield 25, 3) := by decide +kernel
theorem dX5_readEnd_31 : decode cX5_readEnd 31 = .ok (.iaload, 1) := by decide +kernel
theorem dX5_readEnd_32 : decode cX5_readEnd 32 = .ok (.bipush 59, 2) := by decide +kernel
theorem dX5_readEnd_34 : decode cX5_readEnd 34 = .ok (.if_icmp .ne 16, 3) := by decide +kernel
theorem dX5_readEnd_37 : decode cX5_readEnd 37 = .ok (.aload_n 0, 1) := by decide +kernel
theorem dX5_readEnd_38 : decode cX5_readEnd 38 = .ok (.dup, 1) := by decide +kernel
theorem dX5_readEnd_39 : decode cX5_readEnd 39 = .ok (.getfield 25, 3) := by decide +kernel
theorem dX5_readEnd_42 : decode cX5_readEnd 42 = .ok (.iconst 1, 1) := by decide +kernel
theorem dX5_readEnd_43 : decode cX5_readEnd 43 = .ok (.iadd, 1) := by decide +kernel
theorem dX5_readEnd_44 : decode cX5_readEnd 44 = .ok (.putfield 25, 3) := by decide +kernel
theorem dX5_readEnd_47 : decode cX5_readEnd 47 = .ok (.goto 12, 3) := by decide +kernel
theorem dX5_readEnd_50 : decode cX5_readEnd 50 = .ok (.aload_n 0, 1) := by decide +kernel
theorem dX5_readEnd_51 : decode cX5_readEnd 51 = .ok (.iconst 1, 1) := by decide +kernel
theorem dX5_readEnd_52 : decode cX5_readEnd 52 = .ok (.aload_n 0, 1) := by decide +kernel
theorem dX5_readEnd_53 : decode cX5_readEnd 53 = .ok (.getfield 25, 3) := by decide +kernel
theorem dX5_readEnd_56 : decode cX5_readEnd 56 = .ok (.invokevirtual 47, 3) := by decide +kernel
theorem dX5_readEnd_59 : decode cX5_readEnd 59 = .ok (.return_, 1) := by decide +kernel
theorem dX5_skipBlanks_0 : decode cX5_skipBlanks 0 = .ok (.aload_n 0, 1) := by decide +kernel
theorem dX5_skipBlanks_1 : decode cX5_skipBlanks 1 = .ok (.getfield 25, 3) := by decide +kernel
theorem dX5_skipBlanks_4 : decode cX5_skipBlanks 4 = .ok (.aload_n 0, 1) := by decide +kernel
theorem dX5_skipBlanks_5 : decode cX5_skipBlanks 5 = .ok (.getfield 15, 3) := by decide +kernel
theorem dX5_skipBlanks_8 : decode cX5_skipBlanks 8 = .ok (.if_icmp .ge 30, 3) := by decide +kernel
theorem dX5_skipBlanks_11 : decode cX5_skipBlanks 11 = .ok (.aload_n 0, 1) := by decide +kernel
theorem dX5_skipBlanks_12 : decode cX5_skipBlanks 12 = .ok (.getfield 9, 3) := by decide +kernel
theorem dX5_skipBlanks_15 : decode cX5_skipBlanks 15 = .ok (.aload_n 0, 1) := by decide +kernel
theorem dX5_skipBlanks_16 : decode cX5_skipBlanks 16 = .ok (.getfield 25, 3) := by decide +kernel
theorem dX5_skipBlanks_19 : decode cX5_skipBlanks 19 = .ok (.iaload, 1) := by decide +kernel
theorem dX5_skipBlanks_20 : decode cX5_skipBlanks 20 = .ok (.bipush 32, 2) := by decide +kernel
theorem dX5_skipBlanks_22 : decode cX5_skipBlanks 22 = .ok (.if_icmp .ne 16, 3) := by decide +kernel
theorem dX5_skipBlanks_25 : decode cX5_skipBlanks 25 = .ok (.aload_n 0, 1) := by decide +kernel
theorem dX5_skipBlanks_26 : decode cX5_skipBlanks 26 = .ok (.dup, 1) := by decide +kernel
theorem dX5_skipBlanks_27 : decode cX5_skipBlanks 27 = .ok (.getfield 25, 3) := by decide +kernel
theorem dX5_skipBlanks_30 : decode cX5_skipBlanks 30 = .ok (.iconst 1, 1) := by decide +kernel
theorem dX5_skipBlanks_31 : decode cX5_skipBlanks 31 = .ok (.iadd, 1) := by decide +kernel
theorem dX5_skipBlanks_32 : decode cX5_skipBlanks 32 = .ok (.putfield 25, 3) := by decide +kernel
theorem dX5_skipBlanks_35 : decode cX5_skipBlanks 35 = .ok (.goto (-35), 3) := by decide +kernel
theorem dX5_skipBlanks_38 : decode cX5_skipBlanks 38 = .ok (.return_, 1) := by decide +kernel
theorem dX5_noteFault_0 : decode cX5_noteFault 0 = .ok (.aload_n 0, 1) := by decide +kernel
theorem dX5_noteFault_1 : decode cX5_noteFault 1 = .ok (.getfield 22, 3) := by decide +kernel
theorem dX5_noteFault_4 : decode cX5_noteFault 4 = .ok (.ifCond .ne 13, 3) := by decide +kernel
theorem dX5_noteFault_7 : decode cX5_noteFault 7 = .ok (.aload_n 0, 1) := by decide +kernel
theorem dX5_noteFault_8 : decode cX5_noteFault 8 = .ok (.iload_n 1, 1) := by decide +kernel
theorem dX5_noteFault_9 : decode cX5_noteFault 9 = .ok (.putfield 22, 3) := by decide +kernel
theorem dX5_noteFault_12 : decode cX5_noteFault 12 = .ok (.aload_n 0, 1) := by decide +kernel
theorem dX5_noteFault_13 : decode cX5_noteFault 13 = .ok (.iload_n 2, 1) := by decide +kernel
theorem dX5_noteFault_14 : decode cX5_noteFault 14 = .ok (.putfield 19, 3) := by decide +kernel
theorem dX5_noteFault_17 : decode cX5_noteFault 17 = .ok (.return_, 1) := by decide +kernel
theorem dX6_init_0 : decode cX6_init 0 = .ok (.aload_n 0, 1) := by decide +kernel
theorem dX6_init_1 : decode cX6_init 1 = .ok (.invokespecial 1, 3) := by decide +kernel
theorem dX6_init_4 : decode cX6_init 4 = .ok (.aload_n 0, 1) := by decide +kernel
theorem dX6_init_5 : decode cX6_init 5 = .ok (.new 7, 3) := by decide +kernel
theorem dX6_init_8 : decode cX6_init 8 = .ok (.dup, 1) := by decide +kernel
theorem dX6_init_9 : decode cX6_init 9 = .ok (.invokespecial 9, 3) := by decide +kernel
theorem dX6_init_12 : decode cX6_init 12 = .ok (.putfield 10, 3) := by decide +kernel
