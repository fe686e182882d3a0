theorem dX7_passes_2 : decode cX7_passes 2 = .ok (.iconst 0, 1) := by decide +kernel
theorem dX7_passes_3 : decode cX7_passes 3 = .ok (.istore_n 3, 1) := by decide +kernel
theorem dX7_passes_4 : decode cX7_passes 4 = .ok (.iload_n 3, 1) := by decide +kernel
theorem dX7_passes_5 : decode cX7_passes 5 = .ok (.iload_n 1, 1) := by decide +kernel
theorem dX7_passes_6 : decode cX7_passes 6 = .ok (.if_icmp .ge 71, 3) := by decide +kernel
theorem dX7_passes_9 : decode cX7_passes 9 = .ok (.aload_n 0, 1) := by decide +kernel
theorem dX7_passes_10 : decode cX7_passes 10 = .ok (.dup, 1) := by decide +kernel
theorem dX7_passes_11 : decode cX7_passes 11 = .ok (.getfield 152, 3) := by decide +kernel
theorem dX7_passes_14 : decode cX7_passes 14 = .ok (.iconst 1, 1) := by decide +kernel
theorem dX7_passes_15 : decode cX7_passes 15 = .ok (.iadd, 1) := by decide +kernel
theorem dX7_passes_16 : decode cX7_passes 16 = .ok (.putfield 152, 3) := by decide +kernel
theorem dX7_passes_19 : decode cX7_passes 19 = .ok (.iconst 0, 1) := by decide +kernel
theorem dX7_passes_20 : decode cX7_passes 20 = .ok (.istore 4, 2) := by decide +kernel
theorem dX7_passes_22 : decode cX7_passes 22 = .ok (.iload 4, 2) := by decide +kernel
theorem dX7_passes_24 : decode cX7_passes 24 = .ok (.aload_n 0, 1) := by decide +kernel
theorem dX7_passes_25 : decode cX7_passes 25 = .ok (.getfield 91, 3) := by decide +kernel
theorem dX7_passes_28 : decode cX7_passes 28 = .ok (.if_icmp .ge 43, 3) := by decide +kernel
theorem dX7_passes_31 : decode cX7_passes 31 = .ok (.aload_n 0, 1) := by decide +kernel
theorem dX7_passes_32 : decode cX7_passes 32 = .ok (.iload 4, 2) := by decide +kernel
theorem dX7_passes_34 : decode cX7_passes 34 = .ok (.invokevirtual 242, 3) := by decide +kernel
theorem dX7_passes_37 : decode cX7_passes 37 = .ok (.ifCond .eq 28, 3) := by decide +kernel
theorem dX7_passes_40 : decode cX7_passes 40 = .ok (.aload_n 0, 1) := by decide +kernel
theorem dX7_passes_41 : decode cX7_passes 41 = .ok (.iload 4, 2) := by decide +kernel
theorem dX7_passes_43 : decode cX7_passes 43 = .ok (.invokevirtual 245, 3) := by decide +kernel
theorem dX7_passes_46 : decode cX7_passes 46 = .ok (.aload_n 0, 1) := by decide +kernel
theorem dX7_passes_47 : decode cX7_passes 47 = .ok (.getfield 152, 3) := by decide +kernel
theorem dX7_passes_50 : decode cX7_passes 50 = .ok (.if_icmp .lt 6, 3) := by decide +kernel
theorem dX7_passes_53 : decode cX7_passes 53 = .ok (.goto 12, 3) := by decide +kernel
theorem dX7_passes_56 : decode cX7_passes 56 = .ok (.aload_n 0, 1) := by decide +kernel
theorem dX7_passes_57 : decode cX7_passes 57 = .ok (.iload 4, 2) := by decide +kernel
theorem dX7_passes_59 : decode cX7_passes 59 = .ok (.invokevirtual 142, 3) := by decide +kernel
theorem dX7_passes_62 : decode cX7_passes 62 = .ok (.iinc 2 1, 3) := by decide +kernel
theorem dX7_passes_65 : decode cX7_passes 65 = .ok (.iinc 4 1, 3) := by decide +kernel
theorem dX7_passes_68 : decode cX7_passes 68 = .ok (.goto (-46), 3) := by decide +kernel
theorem dX7_passes_71 : decode cX7_passes 71 = .ok (.iinc 3 1, 3) := by decide +kernel
theorem dX7_passes_74 : decode cX7_passes 74 = .ok (.goto (-70), 3) := by decide +kernel
theorem dX7_passes_77 : decode cX7_passes 77 = .ok (.aload_n 0, 1) := by decide +kernel
theorem dX7_passes_78 : decode cX7_passes 78 = .ok (.dup, 1) := by decide +kernel
theorem dX7_passes_79 : decode cX7_passes 79 = .ok (.getfield 162, 3) := by decide +kernel
theorem dX7_passes_82 : decode cX7_passes 82 = .ok (.iload_n 2, 1) := by decide +kernel
theorem dX7_passes_83 : decode cX7_passes 83 = .ok (.iadd, 1) := by decide +kernel
theorem dX7_passes_84 : decode cX7_passes 84 = .ok (.putfield 162, 3) := by decide +kernel
theorem dX7_passes_87 : decode cX7_passes 87 = .ok (.iload_n 2, 1) := by decide +kernel
theorem dX7_passes_88 : decode cX7_passes 88 = .ok (.ireturn, 1) := by decide +kernel
theorem dX7_pass_0 : decode cX7_pass 0 = .ok (.iload_n 1, 1) := by decide +kernel
theorem dX7_pass_1 : decode cX7_pass 1 = .ok (.iconst 1, 1) := by decide +kernel
theorem dX7_pass_2 : decode cX7_pass 2 = .ok (.bipush 99, 2) := by decide +kernel
theorem dX7_pass_4 : decode cX7_pass 4 = .ok (.invokestatic 87, 3) := by decide +kernel
theorem dX7_pass_7 : decode cX7_pass 7 = .ok (.ifCond .ne 9, 3) := by decide +kernel
theorem dX7_pass_10 : decode cX7_pass 10 = .ok (.aload_n 0, 1) := by decide +kernel
theorem dX7_pass_11 : decode cX7_pass 11 = .ok (.iconst 1, 1) := by decide +kernel
theorem dX7_pass_12 : decode cX7_pass 12 = .ok (.invokevirtual 168, 3) := by decide +kernel
theorem dX7_pass_15 : decode cX7_pass 15 = .ok (.ireturn, 1) := by decide +kernel
theorem dX7_pass_16 : decode cX7_pass 16 = .ok (.aload_n 0, 1) := by decide +kernel
theorem dX7_pass_17 : decode cX7_pass 17 = .ok (.getfield 152, 3) := by decide +kernel
theorem dX7_pass_20 : decode cX7_pass 20 = .ok (.iload_n 1, 1) := by decide +kernel
theorem dX7_pass_21 : decode cX7_pass 21 = .ok (.iadd, 1) := by decide +kernel
theorem dX7_pass_22 : decode cX7_pass 22 = .ok (.sipush 400, 3) := by decide +kernel
theorem dX7_pass_25 : decode cX7_pass 25 = .ok (.if_icmp .le 9, 3) := by decide +kernel
theorem dX7_pass_28 : decode cX7_pass 28 = .ok (.aload_n 0, 1) := by decide +kernel
theorem dX7_pass_29 : decode cX7_pass 29 = .ok (.iconst 2, 1) := by decide +kernel
theorem dX7_pass_30 : decode cX7_pass 30 = .ok (.invokevirtual 168, 3) := by decide +kernel
theorem dX7_pass_33 : decode cX7_pass 33 = .ok (.ireturn, 1) := by decide +kernel
theorem dX7_pass_34 : decode cX7_pass 34 = .ok (.aload_n 0, 1) := by decide +kernel
theorem dX7_pass_35 : decode cX7_pass 35 = .ok (.iconst 0, 1) := by decide +kernel
theorem dX7_pass_36 : decode cX7_pass 36 = .ok (.putfield 81, 3) := by decide +kernel
theorem dX7_pass_39 : decode cX7_pass 39 = .ok (.aload_n 0, 1) := by decide +kernel
theorem dX7_pass_40 : decode cX7_pass 40 = .ok (.invokevirtual 171, 3) := by decide +kernel
theorem dX7_pass_43 : decode cX7_pass 43 = .ok (.aload_n 0, 1) := by decide +kernel
theorem dX7_pass_44 : decode cX7_pass 44 = .ok (.iload_n 1, 1) := by decide +kernel
theorem dX7_pass_45 : decode cX7_pass 45 = .ok (.invokevirtual 248, 3) := by decide +kernel
theorem dX7_pass_48 : decode cX7_pass 48 = .ok (.ireturn, 1) := by decide +kernel
theorem dX7_counted_0 : decode cX7_counted 0 = .ok (.iconst 0, 1) := by decide +kernel
theorem dX7_counted_1 : decode cX7_counted 1 = .ok (.istore_n 2, 1) := by decide +kernel
theorem dX7_counted_2 : decode cX7_counted 2 = .ok (.iconst 0, 1) := by decide +kernel
theorem dX7_counted_3 : decode cX7_counted 3 = .ok (.istore_n 3, 1) := by decide +kernel
theorem dX7_counted_4 : decode cX7_counted 4 = .ok (.iload_n 3, 1) := by decide +kernel
theorem dX7_counted_5 : decode cX7_counted 5 = .ok (.aload_n 0, 1) := by decide +kernel
theorem dX7_counted_6 : decode cX7_counted 6 = .ok (.getfield 91, 3) := by decide +kernel
theorem dX7_counted_9 : decode cX7_counted 9 = .ok (.if_icmp .ge 95, 3) := by decide +kernel
theorem dX7_counted_12 : decode cX7_counted 12 = .ok (.iload_n 1, 1) := by decide +kernel
theorem dX7_counted_13 : decode cX7_counted 13 = .ok (.iconst 2, 1) := by decide +kernel
theorem dX7_counted_14 : decode cX7_counted 14 = .ok (.if_icmp .ne 19, 3) := by decide +kernel
theorem dX7_counted_17 : decode cX7_counted 17 = .ok (.iload_n 2, 1) := by decide +kernel
theorem dX7_counted_18 : decode cX7_counted 18 = .ok (.aload_n 0, 1) := by decide +kernel
theorem dX7_counted_19 : decode cX7_counted 19 = .ok (.iload_n 3, 1) := by decide +kernel
theorem dX7_counted_20 : decode cX7_counted 20 = .ok (.invokevirtual 242, 3) := by decide +kernel
theorem dX7_counted_23 : decode cX7_counted 23 = .ok (.ifCond .eq 7, 3) := by decide +kernel
theorem dX7_counted_26 : decode cX7_counted 26 = .ok (.iconst 1, 1) := by decide +kernel
theorem dX7_counted_27 : decode cX7_counted 27 = .ok (.goto 4, 3) := by decide +kernel
theorem dX7_counted_30 : decode cX7_counted 30 = .ok (.iconst 0, 1) := by decide +kernel
theorem dX7_counted_31 : decode cX7_counted 31 = .ok (.iadd, 1) := by decide +kernel
theorem dX7_counted_32 : decode cX7_counted 32 = .ok (.istore_n 2, 1) := by decide +kernel
theorem dX7_counted_33 : decode cX7_counted 33 = .ok (.iload_n 1, 1) := by decide +kernel
theorem dX7_counted_34 : decode cX7_counted 34 = .ok (.iconst 3, 1) := by decide +kernel
theorem dX7_counted_35 : decode cX7_counted 35 = .ok (.if_icmp .ne 19, 3) := by decide +kernel
theorem dX7_counted_38 : decode cX7_counted 38 = .ok (.iload_n 2, 1) := by decide +kernel
theorem dX7_counted_39 : decode cX7_counted 39 = .ok (.aload_n 0, 1) := by decide +kernel
theorem dX7_counted_40 : decode cX7_counted 40 = .ok (.iload_n 3, 1) := by decide +kernel
theorem dX7_counted_41 : decode cX7_counted 41 = .ok (.invokevirtual 109, 3) := by decide +kernel
theorem dX7_counted_44 : decode cX7_counted 44 = .ok (.ifCond .eq 7, 3) := by decide +kernel
theorem dX7_counted_47 : decode cX7_counted 47 = .ok (.iconst 1, 1) := by decide +kernel
theorem dX7_counted_48 : decode cX7_counted 48 = .ok (.goto 4, 3) := by decide +kernel
theorem dX7_counted_51 : decode cX7_counted 51 = .ok (.iconst 0, 1) := by decide +kernel
theorem dX7_counted_52 : decode cX7_counted 52 = .ok (.iadd, 1) := by decide +kernel
theorem dX7_counted_53 : decode cX7_counted 53 = .ok (.istore_n 2, 1) := by decide +kernel
theorem dX7_counted_54 : decode cX7_counted 54 = .ok (.iload_n 1, 1) := by decide +kernel
theorem dX7_counted_55 : decode cX7_counted 55 = .ok (.iconst 4, 1) := by decide +kernel
theorem dX7_counted_56 : decode cX7_counted 56 = .ok (.if_icmp .ne 15, 3) := by decide +kernel
theorem dX7_counted_59 : decode cX7_counted 59 = .ok (.iload_n 2, 1) := by decide +kernel
theorem dX7_counted_60 : decode cX7_counted 60 = .ok (.aload_n 0, 1) := by decide +kernel
theorem dX7_counted_61 : decode cX7_counted 61 = .ok (.getfield 43, 3) := by decide +kernel
theorem dX7_counted_64 : decode cX7_counted 64 = .ok (.iload_n 3, 1) := by decide +kernel
theorem dX7_counted_65 : decode cX7_counted 65 = .ok (.iaload, 1) := by decide +kernel
theorem dX7_counted_66 : decode cX7_counted 66 = .ok (.invokestatic 129, 3) := by decide +kernel
theorem dX7_counted_69 : decode cX7_counted 69 = .ok (.iadd, 1) := by decide +kernel
theorem dX7_counted_70 : decode cX7_counted 70 = .ok (.istore_n 2, 1) := by decide +kernel
theorem dX7_counted_71 : decode cX7_counted 71 = .ok (.iload_n 1, 1) := by decide +kernel
theorem dX7_counted_72 : decode cX7_counted 72 = .ok (.iconst 5, 1) := by decide +kernel
theorem dX7_counted_73 : decode cX7_counted 73 = .ok (.if_icmp .ne 25, 3) := by decide +kernel
theorem dX7_counted_76 : decode cX7_counted 76 = .ok (.iload_n 2, 1) := by decide +kernel
theorem dX7_counted_77 : decode cX7_counted 77 = .ok (.aload_n 0, 1) := by decide +kernel
theorem dX7_counted_78 : decode cX7_counted 78 = .ok (.iload_n 3, 1) := by decide +kernel
theorem dX7_counted_79 : decode cX7_counted 79 = .ok (.aload_n 0, 1) := by decide +kernel
theorem dX7_counted_80 : decode cX7_counted 80 = .ok (.getfield 43, 3) := by decide +kernel
theorem dX7_counted_83 : decode cX7_counted 83 = .ok (.iload_n 3, 1) := by decide +kernel
theorem dX7_counted_84 : decode cX7_counted 84 = .ok (.iaload, 1) := by decide +kernel
theorem dX7_counted_85 : decode cX7_counted 85 = .ok (.invokevirtual 139, 3) := by decide +kernel
theorem dX7_counted_88 : decode cX7_counted 88 = .ok (.ifCond .eq 7, 3) := by decide +kernel
theorem dX7_counted_91 : decode cX7_counted 91 = .ok (.iconst 1, 1) := by decide +kernel
theorem dX7_counted_92 : decode cX7_counted 92 = .ok (.goto 4, 3) := by decide +kernel
theorem dX7_counted_95 : decode cX7_counted 95 = .ok (.iconst 0, 1) := by decide +kernel
theorem dX7_counted_96 : decode cX7_counted 96 = .ok (.iadd, 1) := by decide +kernel
theorem dX7_counted_97 : decode cX7_counted 97 = .ok (.istore_n 2, 1) := by decide +kernel
theorem dX7_counted_98 : decode cX7_counted 98 = .ok (.iinc 3 1, 3) := by decide +kernel
theorem dX7_counted_101 : decode cX7_counted 101 = .ok (.goto (-97), 3) := by decide +kernel
theorem dX7_counted_104 : decode cX7_counted 104 = .ok (.iload_n 2, 1) := by decide +kernel
theorem dX7_counted_105 : decode cX7_counted 105 = .ok (.ireturn, 1) := by decide +kernel
theorem dX7_pairs_0 : decode cX7_pairs 0 = .ok (.iconst 0, 1) := by decide +kernel
theorem dX7_pairs_1 : decode cX7_pairs 1 = .ok (.istore_n 1, 1) := by decide +kernel
theorem dX7_pairs_2 : decode cX7_pairs 2 = .ok (.iconst 0, 1) := by decide +kernel
theorem dX7_pairs_3 : decode cX7_pairs 3 = .ok (.istore_n 2, 1) := by decide +kernel
theorem dX7_pairs_4 : decode cX7_pairs 4 = .ok (.iload_n 2, 1) := by decide +kernel
theorem dX7_pairs_5 : decode cX7_pairs 5 = .ok (.aload_n 0, 1) := by decide +kernel
theorem dX7_pairs_6 : decode cX7_pairs 6 = .ok (.getfield 84, 3) := by decide +kernel
theorem dX7_pairs_9 : decode cX7_pairs 9 = .ok (.if_icmp .ge 21, 3) := by decide +kernel
theorem dX7_pairs_12 : decode cX7_pairs 12 = .ok (.iload_n 1, 1) := by decide +kernel
theorem dX7_pairs_13 : decode cX7_pairs 13 = .ok (.aload_n 0, 1) := by decide +kernel
theorem dX7_pairs_14 : decode cX7_pairs 14 = .ok (.getfield 22, 3) := by decide +kernel
theorem dX7_pairs_17 : decode cX7_pairs 17 = .ok (.iload_n 2, 1) := by decide +kernel
theorem dX7_pairs_18 : decode cX7_pairs 18 = .ok (.iaload, 1) := by decide +kernel
theorem dX7_pairs_19 : decode cX7_pairs 19 = .ok (.invokestatic 129, 3) := by decide +kernel
theorem dX7_pairs_22 : decode cX7_pairs 22 = .ok (.iadd, 1) := by decide +kernel
theorem dX7_pairs_23 : decode cX7_pairs 23 = .ok (.istore_n 1, 1) := by decide +kernel
theorem dX7_pairs_24 : decode cX7_pairs 24 = .ok (.iinc 2 1, 3) := by decide +kernel
theorem dX7_pairs_27 : decode cX7_pairs 27 = .ok (.goto (-23), 3) := by decide +kernel
theorem dX7_pairs_30 : decode cX7_pairs 30 = .ok (.iload_n 1, 1) := by decide +kernel
theorem dX7_pairs_31 : decode cX7_pairs 31 = .ok (.iconst 2, 1) := by decide +kernel
theorem dX7_pairs_32 : decode cX7_pairs 32 = .ok (.idiv, 1) := by decide +kernel
theorem dX7_pairs_33 : decode cX7_pairs 33 = .ok (.ireturn, 1) := by decide +kernel
theorem dX7_account_0 : decode cX7_account 0 = .ok (.iload_n 1, 1) := by decide +kernel
theorem dX7_account_1 : decode cX7_account 1 = .ok (.iconst 0, 1) := by decide +kernel
theorem dX7_account_2 : decode cX7_account 2 = .ok (.bipush 9, 2) := by decide +kernel
theorem dX7_account_4 : decode cX7_account 4 = .ok (.invokestatic 87, 3) := by decide +kernel
theorem dX7_account_7 : decode cX7_account 7 = .ok (.ifCond .ne 9, 3) := by decide +kernel
theorem dX7_account_10 : decode cX7_account 10 = .ok (.aload_n 0, 1) := by decide +kernel
theorem dX7_account_11 : decode cX7_account 11 = .ok (.iconst 1, 1) := by decide +kernel
theorem dX7_account_12 : decode cX7_account 12 = .ok (.invokevirtual 168, 3) := by decide +kernel
theorem dX7_account_15 : decode cX7_account 15 = .ok (.ireturn, 1) := by decide +kernel
theorem dX7_account_16 : decode cX7_account 16 = .ok (.aload_n 0, 1) := by decide +kernel
theorem dX7_account_17 : decode cX7_account 17 = .ok (.iconst 0, 1) := by decide +kernel
theorem dX7_account_18 : decode cX7_account 18 = .ok (.putfield 81, 3) := by decide +kernel
theorem dX7_account_21 : decode cX7_account 21 = .ok (.iload_n 1, 1) := by decide +kernel
theorem dX7_account_22 : decode cX7_account 22 = .ok (.tableswitch 84 0 9 #[54, 59, 84, 84, 84, 84, 64, 69, 74, 79], 54) := by decide +kernel
theorem dX7_account_76 : decode cX7_account 76 = .ok (.aload_n 0, 1) := by decide +kernel
theorem dX7_account_77 : decode cX7_account 77 = .ok (.getfield 84, 3) := by decide +kernel
theorem dX7_account_80 : decode cX7_account 80 = .ok (.ireturn, 1) := by decide +kernel
theorem dX7_account_81 : decode cX7_account 81 = .ok (.aload_n 0, 1) := by decide +kernel
theorem dX7_account_82 : decode cX7_account 82 = .ok (.getfield 91, 3) := by decide +kernel
theorem dX7_account_85 : decode cX7_account 85 = .ok (.ireturn, 1) := by decide +kernel
theorem dX7_account_86 : decode cX7_account 86 = .ok (.aload_n 0, 1) := by decide +kernel
theorem dX7_account_87 : decode cX7_account 87 = .ok (.getfield 159, 3) := by decide +kernel
theorem dX7_account_90 : decode cX7_account 90 = .ok (.ireturn, 1) := by decide +kernel
theorem dX7_account_91 : decode cX7_account 91 = .ok (.aload_n 0, 1) := by decide +kernel
theorem dX7_account_92 : decode cX7_account 92 = .ok (.getfield 152, 3) := by decide +kernel
theorem dX7_account_95 : decode cX7_account 95 = .ok (.ireturn, 1) := by decide +kernel
theorem dX7_account_96 : decode cX7_account 96 = .ok (.aload_n 0, 1) := by decide +kernel
theorem dX7_account_97 : decode cX7_account 97 = .ok (.getfield 162, 3) := by decide +kernel
theorem dX7_account_100 : decode cX7_account 100 = .ok (.ireturn, 1) := by decide +kernel
theorem dX7_account_101 : decode cX7_account 101 = .ok (.aload_n 0, 1) := by decide +kernel
theorem dX7_account_102 : decode cX7_account 102 = .ok (.invokevirtual 251, 3) := by decide +kernel
theorem dX7_account_105 : decode cX7_account 105 = .ok (.ireturn, 1) := by decide +kernel
theorem dX7_account_106 : decode cX7_account 106 = .ok (.aload_n 0, 1) := by decide +kernel
theorem dX7_account_107 : decode cX7_account 107 = .ok (.iload_n 1, 1) := by decide +kernel
theorem dX7_account_108 : decode cX7_account 108 = .ok (.invokevirtual 255, 3) := by decide +kernel
theorem dX7_account_111 : decode cX7_account 111 = .ok (.ireturn, 1) := by decide +kernel
theorem dX7_meanLoad_0 : decode cX7_meanLoad 0 = .ok (.aload_n 0, 1) := by decide +kernel
theorem dX7_meanLoad_1 : decode cX7_meanLoad 1 = .ok (.aload_n 0, 1) := by decide +kernel
theorem dX7_meanLoad_2 : decode cX7_meanLoad 2 = .ok (.getfield 84, 3) := by decide +kernel
theorem dX7_meanLoad_5 : decode cX7_meanLoad 5 = .ok (.ifCond .ne 7, 3) := by decide +kernel
theorem dX7_meanLoad_8 : decode cX7_meanLoad 8 = .ok (.iconst 1, 1) := by decide +kernel
theorem dX7_meanLoad_9 : decode cX7_meanLoad 9 = .ok (.goto 4, 3) := by decide +kernel
theorem dX7_meanLoad_12 : decode cX7_meanLoad 12 = .ok (.iconst 0, 1) := by decide +kernel
theorem dX7_meanLoad_13 : decode cX7_meanLoad 13 = .ok (.putfield 81, 3) := by decide +kernel
theorem dX7_meanLoad_16 : decode cX7_meanLoad 16 = .ok (.iconst 0, 1) := by decide +kernel
theorem dX7_meanLoad_17 : decode cX7_meanLoad 17 = .ok (.istore_n 1, 1) := by decide +kernel
theorem dX7_meanLoad_18 : decode cX7_meanLoad 18 = .ok (.iconst 0, 1) := by decide +kernel
theorem dX7_meanLoad_19 : decode cX7_meanLoad 19 = .ok (.istore_n 2, 1) := by decide +kernel
theorem dX7_meanLoad_20 : decode cX7_meanLoad 20 = .ok (.iload_n 2, 1) := by decide +kernel
theorem dX7_meanLoad_21 : decode cX7_meanLoad 21 = .ok (.aload_n 0, 1) := by decide +kernel
theorem dX7_meanLoad_22 : decode cX7_meanLoad 22 = .ok (.getfield 84, 3) := by decide +kernel
theorem dX7_meanLoad_25 : decode cX7_meanLoad 25 = .ok (.if_icmp .ge 17, 3) := by decide +kernel
theorem dX7_meanLoad_28 : decode cX7_meanLoad 28 = .ok (.iload_n 1, 1) := by decide +kernel
theorem dX7_meanLoad_29 : decode cX7_meanLoad 29 = .ok (.aload_n 0, 1) := by decide +kernel
theorem dX7_meanLoad_30 : decode cX7_meanLoad 30 = .ok (.iload_n 2, 1) := by decide +kernel
theorem dX7_meanLoad_31 : decode cX7_meanLoad 31 = .ok (.invokevirtual 125, 3) := by decide +kernel
theorem dX7_meanLoad_34 : decode cX7_meanLoad 34 = .ok (.iadd, 1) := by decide +kernel
theorem dX7_meanLoad_35 : decode cX7_meanLoad 35 = .ok (.istore_n 1, 1) := by decide +kernel
theorem dX7_meanLoad_36 : decode cX7_meanLoad 36 = .ok (.iinc 2 1, 3) := by decide +kernel
theorem dX7_meanLoad_39 : decode cX7_meanLoad 39 = .ok (.goto (-19), 3) := by decide +kernel
theorem dX7_meanLoad_42 : decode cX7_meanLoad 42 = .ok (.aload_n 0, 1) := by decide +kernel
theorem dX7_meanLoad_43 : decode cX7_meanLoad 43 = .ok (.getfield 84, 3) := by decide +kernel
theorem dX7_meanLoad_46 : decode cX7_meanLoad 46 = .ok (.ifCond .ne 7, 3) := by decide +kernel
theorem dX7_meanLoad_49 : decode cX7_meanLoad 49 = .ok (.dconst 0, 1) := by decide +kernel
theorem dX7_meanLoad_50 : decode cX7_meanLoad 50 = .ok (.goto 11, 3) := by decide +kernel
theorem dX7_meanLoad_53 : decode cX7_meanLoad 53 = .ok (.iload_n 1, 1) := by decide +kernel
theorem dX7_meanLoad_54 : decode cX7_meanLoad 54 = .ok (.i2d, 1) := by decide +kernel
theorem dX7_meanLoad_55 : decode cX7_meanLoad 55 = .ok (.aload_n 0, 1) := by decide +kernel
theorem dX7_meanLoad_56 : decode cX7_meanLoad 56 = .ok (.getfield 84, 3) := by decide +kernel
theorem dX7_meanLoad_59 : decode cX7_meanLoad 59 = .ok (.i2d, 1) := by decide +kernel
theorem dX7_meanLoad_60 : decode cX7_meanLoad 60 = .ok (.ddiv, 1) := by decide +kernel
theorem dX7_meanLoad_61 : decode cX7_meanLoad 61 = .ok (.dreturn, 1) := by decide +kernel
theorem dX7_append_0 : decode cX7_append 0 = .ok (.iload_n 1, 1) := by decide +kernel
theorem dX7_append_1 : decode cX7_append 1 = .ok (.bipush 32, 2) := by decide +kernel
theorem dX7_append_3 : decode cX7_append 3 = .ok (.bipush 126, 2) := by decide +kernel
theorem dX7_append_5 : decode cX7_append 5 = .ok (.invokestatic 87, 3) := by decide +kernel
theorem dX7_append_8 : decode cX7_append 8 = .ok (.ifCond .ne 9, 3) := by decide +kernel
theorem dX7_append_11 : decode cX7_append 11 = .ok (.aload_n 0, 1) := by decide +kernel
theorem dX7_append_12 : decode cX7_append 12 = .ok (.iconst 1, 1) := by decide +kernel
theorem dX7_append_13 : decode cX7_append 13 = .ok (.invokevirtual 168, 3) := by decide +kernel
theorem dX7_append_16 : decode cX7_append 16 = .ok (.ireturn, 1) := by decide +kernel
theorem dX7_append_17 : decode cX7_append 17 = .ok (.aload_n 0, 1) := by decide +kernel
theorem dX7_append_18 : decode cX7_append 18 = .ok (.getfield 258, 3) := by decide +kernel
theorem dX7_append_21 : decode cX7_append 21 = .ok (.bipush 60, 2) := by decide +kernel
theorem dX7_append_23 : decode cX7_append 23 = .ok (.if_icmp .ne 9, 3) := by decide +kernel
theorem dX7_append_26 : decode cX7_append 26 = .ok (.aload_n 0, 1) := by decide +kernel
theorem dX7_append_27 : decode cX7_append 27 = .ok (.iconst 2, 1) := by decide +kernel
theorem dX7_append_28 : decode cX7_append 28 = .ok (.invokevirtual 168, 3) := by decide +kernel
theorem dX7_append_31 : decode cX7_append 31 = .ok (.ireturn, 1) := by decide +kernel
theorem dX7_append_32 : decode cX7_append 32 = .ok (.aload_n 0, 1) := by decide +kernel
theorem dX7_append_33 : decode cX7_append 33 = .ok (.iconst 0, 1) := by decide +kernel
theorem dX7_append_34 : decode cX7_append 34 = .ok (.putfield 81, 3) := by decide +kernel
theorem dX7_append_37 : decode cX7_append 37 = .ok (.aload_n 0, 1) := by decide +kernel
theorem dX7_append_38 : decode cX7_append 38 = .ok (.getfield 58, 3) := by decide +kernel
theorem dX7_append_41 : decode cX7_append 41 = .ok (.aload_n 0, 1) := by decide +kernel
theorem dX7_append_42 : decode cX7_append 42 = .ok (.getfield 258, 3) := by decide +kernel
theorem dX7_append_45 : decode cX7_append 45 = .ok (.iload_n 1, 1) := by decide +kernel
theorem dX7_append_46 : decode cX7_append 46 = .ok (.castore, 1) := by decide +kernel
theorem dX7_append_47 : decode cX7_append 47 = .ok (.aload_n 0, 1) := by decide +kernel
theorem dX7_append_48 : decode cX7_append 48 = .ok (.dup, 1) := by decide +kernel
theorem dX7_append_49 : decode cX7_append 49 = .ok (.getfield 258, 3) := by decide +kernel
theorem dX7_append_52 : decode cX7_append 52 = .ok (.iconst 1, 1) := by decide +kernel
theorem dX7_append_53 : decode cX7_append 53 = .ok (.iadd, 1) := by decide +kernel
theorem dX7_append_54 : decode cX7_append 54 = .ok (.putfield 258, 3) := by decide +kernel
theorem dX7_append_57 : decode cX7_append 57 = .ok (.aload_n 0, 1) := by decide +kernel
theorem dX7_append_58 : decode cX7_append 58 = .ok (.getfield 258, 3) := by decide +kernel
theorem dX7_append_61 : decode cX7_append 61 = .ok (.ireturn, 1) := by decide +kernel
theorem dX7_sign_0 : decode cX7_sign 0 = .ok (.aload_n 0, 1) := by decide +kernel
theorem dX7_sign_1 : decode cX7_sign 1 = .ok (.getfield 261, 3) := by decide +kernel
theorem dX7_sign_4 : decode cX7_sign 4 = .ok (.aload_n 0, 1) := by decide +kernel
theorem dX7_sign_5 : decode cX7_sign 5 = .ok (.getfield 258, 3) := by decide +kernel
theorem dX7_sign_8 : decode cX7_sign 8 = .ok (.if_icmp .ge 15, 3) := by decide +kernel
theorem dX7_sign_11 : decode cX7_sign 11 = .ok (.aload_n 0, 1) := by decide +kernel
theorem dX7_sign_12 : decode cX7_sign 12 = .ok (.getfield 58, 3) := by decide +kernel
theorem dX7_sign_15 : decode cX7_sign 15 = .ok (.aload_n 0, 1) := by decide +kernel
theorem dX7_sign_16 : decode cX7_sign 16 = .ok (.getfield 261, 3) := by decide +kernel
theorem dX7_sign_19 : decode cX7_sign 19 = .ok (.caload, 1) := by decide +kernel
theorem dX7_sign_20 : decode cX7_sign 20 = .ok (.goto 4, 3) := by decide +kernel
theorem dX7_sign_23 : decode cX7_sign 23 = .ok (.iconst (-1), 1) := by decide +kernel
theorem dX7_sign_24 : decode cX7_sign 24 = .ok (.ireturn, 1) := by decide +kernel
theorem dX7_skips_0 : decode cX7_skips 0 = .ok (.aload_n 0, 1) := by decide +kernel
theorem dX7_skips_1 : decode cX7_skips 1 = .ok (.invokevirtual 264, 3) := by decide +kernel
theorem dX7_skips_4 : decode cX7_skips 4 = .ok (.iload_n 1, 1) := by decide +kernel
theorem dX7_skips_5 : decode cX7_skips 5 = .ok (.if_icmp .eq 5, 3) := by decide +kernel
theorem dX7_skips_8 : decode cX7_skips 8 = .ok (.iconst 0, 1) := by decide +kernel
theorem dX7_skips_9 : decode cX7_skips 9 = .ok (.ireturn, 1) := by decide +kernel
theorem dX7_skips_10 : decode cX7_skips 10 = .ok (.aload_n 0, 1) := by decide +kernel
theorem dX7_skips_11 : decode cX7_skips 11 = .ok (.dup, 1) := by decide +kernel
theorem dX7_skips_12 : decode cX7_skips 12 = .ok (.getfield 261, 3) := by decide +kernel
theorem dX7_skips_15 : decode cX7_skips 15 = .ok (.iconst 1, 1) := by decide +kernel
theorem dX7_skips_16 : decode cX7_skips 16 = .ok (.iadd, 1) := by decide +kernel
theorem dX7_skips_17 : decode cX7_skips 17 = .ok (.putfield 261, 3) := by decide +kernel
theorem dX7_skips_20 : decode cX7_skips 20 = .ok (.iconst 1, 1) := by decide +kernel
theorem dX7_skips_21 : decode cX7_skips 21 = .ok (.ireturn, 1) := by decide +kernel
theorem dX7_takesDigits_0 : decode cX7_takesDigits 0 = .ok (.aload_n 0, 1) := by decide +kernel
theorem dX7_takesDigits_1 : decode cX7_takesDigits 1 = .ok (.invokevirtual 264, 3) := by decide +kernel
theorem dX7_takesDigits_4 : decode cX7_takesDigits 4 = .ok (.bipush 48, 2) := by decide +kernel
theorem dX7_takesDigits_6 : decode cX7_takesDigits 6 = .ok (.bipush 57, 2) := by decide +kernel
theorem dX7_takesDigits_8 : decode cX7_takesDigits 8 = .ok (.invokestatic 87, 3) := by decide +kernel
theorem dX7_takesDigits_11 : decode cX7_takesDigits 11 = .ok (.ifCond .ne 5, 3) := by decide +kernel
theorem dX7_takesDigits_14 : decode cX7_takesDigits 14 = .ok (.iconst 0, 1) := by decide +kernel
theorem dX7_takesDigits_15 : decode cX7_takesDigits 15 = .ok (.ireturn, 1) := by decide +kernel
theorem dX7_takesDigits_16 : decode cX7_takesDigits 16 = .ok (.iconst 0, 1) := by decide +kernel
theorem dX7_takesDigits_17 : decode cX7_takesDigits 17 = .ok (.istore_n 3, 1) := by decide +kernel
theorem dX7_takesDigits_18 : decode cX7_takesDigits 18 = .ok (.iconst 0, 1) := by decide +kernel
theorem dX7_takesDigits_19 : decode cX7_takesDigits 19 = .ok (.istore 4, 2) := by decide +kernel
theorem dX7_takesDigits_21 : decode cX7_takesDigits 21 = .ok (.iload 4, 2) := by decide +kernel
theorem dX7_takesDigits_23 : decode cX7_takesDigits 23 = .ok (.iload_n 2, 1) := by decide +kernel
theorem dX7_takesDigits_24 : decode cX7_takesDigits 24 = .ok (.if_icmp .ge 46, 3) := by decide +kernel
theorem dX7_takesDigits_27 : decode cX7_takesDigits 27 = .ok (.aload_n 0, 1) := by decide +kernel
theorem dX7_takesDigits_28 : decode cX7_takesDigits 28 = .ok (.invokevirtual 264, 3) := by decide +kernel
theorem dX7_takesDigits_31 : decode cX7_takesDigits 31 = .ok (.bipush 48, 2) := by decide +kernel
theorem dX7_takesDigits_33 : decode cX7_takesDigits 33 = .ok (.bipush 57, 2) := by decide +kernel
theorem dX7_takesDigits_35 : decode cX7_takesDigits 35 = .ok (.invokestatic 87, 3) := by decide +kernel
theorem dX7_takesDigits_38 : decode cX7_takesDigits 38 = .ok (.ifCond .eq 32, 3) := by decide +kernel
theorem dX7_takesDigits_41 : decode cX7_takesDigits 41 = .ok (.bipush 10, 2) := by decide +kernel
theorem dX7_takesDigits_43 : decode cX7_takesDigits 43 = .ok (.iload_n 3, 1) := by decide +kernel
theorem dX7_takesDigits_44 : decode cX7_takesDigits 44 = .ok (.imul, 1) := by decide +kernel
theorem dX7_takesDigits_45 : decode cX7_takesDigits 45 = .ok (.aload_n 0, 1) := by decide +kernel
theorem dX7_takesDigits_46 : decode cX7_takesDigits 46 = .ok (.invokevirtual 264, 3) := by decide +kernel
theorem dX7_takesDigits_49 : decode cX7_takesDigits 49 = .ok (.iadd, 1) := by decide +kernel
theorem dX7_takesDigits_50 : decode cX7_takesDigits 50 = .ok (.bipush 48, 2) := by decide +kernel
theorem dX7_takesDigits_52 : decode cX7_takesDigits 52 = .ok (.isub, 1) := by decide +kernel
theorem dX7_takesDigits_53 : decode cX7_takesDigits 53 = .ok (.istore_n 3, 1) := by decide +kernel
theorem dX7_takesDigits_54 : decode cX7_takesDigits 54 = .ok (.aload_n 0, 1) := by decide +kernel
theorem dX7_takesDigits_55 : decode cX7_takesDigits 55 = .ok (.dup, 1) := by decide +kernel
theorem dX7_takesDigits_56 : decode cX7_takesDigits 56 = .ok (.getfield 261, 3) := by decide +kernel
theorem dX7_takesDigits_59 : decode cX7_takesDigits 59 = .ok (.iconst 1, 1) := by decide +kernel
theorem dX7_takesDigits_60 : decode cX7_takesDigits 60 = .ok (.iadd, 1) := by decide +kernel
theorem dX7_takesDigits_61 : decode cX7_takesDigits 61 = .ok (.putfield 261, 3) := by decide +kernel
theorem dX7_takesDigits_64 : decode cX7_takesDigits 64 = .ok (.iinc 4 1, 3) := by decide +kernel
theorem dX7_takesDigits_67 : decode cX7_takesDigits 67 = .ok (.goto (-46), 3) := by decide +kernel
theorem dX7_takesDigits_70 : decode cX7_takesDigits 70 = .ok (.aload_n 0, 1) := by decide +kernel
theorem dX7_takesDigits_71 : decode cX7_takesDigits 71 = .ok (.getfield 65, 3) := by decide +kernel
theorem dX7_takesDigits_74 : decode cX7_takesDigits 74 = .ok (.iconst 4, 1) := by decide +kernel
theorem dX7_takesDigits_75 : decode cX7_takesDigits 75 = .ok (.aload_n 0, 1) := by decide +kernel
theorem dX7_takesDigits_76 : decode cX7_takesDigits 76 = .ok (.getfield 267, 3) := by decide +kernel
theorem dX7_takesDigits_79 : decode cX7_takesDigits 79 = .ok (.imul, 1) := by decide +kernel
theorem dX7_takesDigits_80 : decode cX7_takesDigits 80 = .ok (.iload_n 1, 1) := by decide +kernel
theorem dX7_takesDigits_81 : decode cX7_takesDigits 81 = .ok (.iadd, 1) := by decide +kernel
theorem dX7_takesDigits_82 : decode cX7_takesDigits 82 = .ok (.iload_n 3, 1) := by decide +kernel
theorem dX7_takesDigits_83 : decode cX7_takesDigits 83 = .ok (.iastore, 1) := by decide +kernel
theorem dX7_takesDigits_84 : decode cX7_takesDigits 84 = .ok (.iconst 1, 1) := by decide +kernel
theorem dX7_takesDigits_85 : decode cX7_takesDigits 85 = .ok (.ireturn, 1) := by decide +kernel
theorem dX7_takesEntry_0 : decode cX7_takesEntry 0 = .ok (.aload_n 0, 1) := by decide +kernel
theorem dX7_takesEntry_1 : decode cX7_takesEntry 1 = .ok (.invokevirtual 264, 3) := by decide +kernel
theorem dX7_takesEntry_4 : decode cX7_takesEntry 4 = .ok (.istore_n 1, 1) := by decide +kernel
theorem dX7_takesEntry_5 : decode cX7_takesEntry 5 = .ok (.iload_n 1, 1) := by decide +kernel
theorem dX7_takesEntry_6 : decode cX7_takesEntry 6 = .ok (.bipush 106, 2) := by decide +kernel
theorem dX7_takesEntry_8 : decode cX7_takesEntry 8 = .ok (.if_icmp .eq 29, 3) := by decide +kernel
theorem dX7_takesEntry_11 : decode cX7_takesEntry 11 = .ok (.iload_n 1, 1) := by decide +kernel
theorem dX7_takesEntry_12 : decode cX7_takesEntry 12 = .ok (.bipush 108, 2) := by decide +kernel
theorem dX7_takesEntry_14 : decode cX7_takesEntry 14 = .ok (.if_icmp .eq 23, 3) := by decide +kernel
theorem dX7_takesEntry_17 : decode cX7_takesEntry 17 = .ok (.iload_n 1, 1) := by decide +kernel
theorem dX7_takesEntry_18 : decode cX7_takesEntry 18 = .ok (.bipush 112, 2) := by decide +kernel
theorem dX7_takesEntry_20 : decode cX7_takesEntry 20 = .ok (.if_icmp .eq 17, 3) := by decide +kernel
theorem dX7_takesEntry_23 : decode cX7_takesEntry 23 = .ok (.iload_n 1, 1) := by decide +kernel
theorem dX7_takesEntry_24 : decode cX7_takesEntry 24 = .ok (.bipush 110, 2) := by decide +kernel
theorem dX7_takesEntry_26 : decode cX7_takesEntry 26 = .ok (.if_icmp .eq 11, 3) := by decide +kernel
theorem dX7_takesEntry_29 : decode cX7_takesEntry 29 = .ok (.iload_n 1, 1) := by decide +kernel
theorem dX7_takesEntry_30 : decode cX7_takesEntry 30 = .ok (.bipush 100, 2) := by decide +kernel
theorem dX7_takesEntry_32 : decode cX7_takesEntry 32 = .ok (.if_icmp .eq 5, 3) := by decide +kernel
theorem dX7_takesEntry_35 : decode cX7_takesEntry 35 = .ok (.iconst 0, 1) := by decide +kernel
theorem dX7_takesEntry_36 : decode cX7_takesEntry 36 = .ok (.ireturn, 1) := by decide +kernel
theorem dX7_takesEntry_37 : decode cX7_takesEntry 37 = .ok (.aload_n 0, 1) := by decide +kernel
theorem dX7_takesEntry_38 : decode cX7_takesEntry 38 = .ok (.getfield 62, 3) := by decide +kernel
theorem dX7_takesEntry_41 : decode cX7_takesEntry 41 = .ok (.aload_n 0, 1) := by decide +kernel
theorem dX7_takesEntry_42 : decode cX7_takesEntry 42 = .ok (.getfield 267, 3) := by decide +kernel
theorem dX7_takesEntry_45 : decode cX7_takesEntry 45 = .ok (.aload_n 0, 1) := by decide +kernel
theorem dX7_takesEntry_46 : decode cX7_takesEntry 46 = .ok (.getfield 58, 3) := by decide +kernel
theorem dX7_takesEntry_49 : decode cX7_takesEntry 49 = .ok (.aload_n 0, 1) := by decide +kernel
theorem dX7_takesEntry_50 : decode cX7_takesEntry 50 = .ok (.getfield 261, 3) := by decide +kernel
theorem dX7_takesEntry_53 : decode cX7_takesEntry 53 = .ok (.caload, 1) := by decide +kernel
theorem dX7_takesEntry_54 : decode cX7_takesEntry 54 = .ok (.castore, 1) := by decide +kernel
theorem dX7_takesEntry_55 : decode cX7_takesEntry 55 = .ok (.aload_n 0, 1) := by decide +kernel
theorem dX7_takesEntry_56 : decode cX7_takesEntry 56 = .ok (.dup, 1) := by decide +kernel
theorem dX7_takesEntry_57 : decode cX7_takesEntry 57 = .ok (.getfield 261, 3) := by decide +kernel
theorem dX7_takesEntry_60 : decode cX7_takesEntry 60 = .ok (.iconst 1, 1) := by decide +kernel
theorem dX7_takesEntry_61 : decode cX7_takesEntry 61 = .ok (.iadd, 1) := by decide +kernel
theorem dX7_takesEntry_62 : decode cX7_takesEntry 62 = .ok (.putfield 261, 3) := by decide +kernel
theorem dX7_takesEntry_65 : decode cX7_takesEntry 65 = .ok (.aload_n 0, 1) := by decide +kernel
theorem dX7_takesEntry_66 : decode cX7_takesEntry 66 = .ok (.iconst 0, 1) := by decide +kernel
theorem dX7_takesEntry_67 : decode cX7_takesEntry 67 = .ok (.iload_n 1, 1) := by decide +kernel
theorem dX7_takesEntry_68 : decode cX7_takesEntry 68 = .ok (.bipush 100, 2) := by decide +kernel
theorem dX7_takesEntry_70 : decode cX7_takesEntry 70 = .ok (.if_icmp .ne 7, 3) := by decide +kernel
theorem dX7_takesEntry_73 : decode cX7_takesEntry 73 = .ok (.iconst 3, 1) := by decide +kernel
theorem dX7_takesEntry_74 : decode cX7_takesEntry 74 = .ok (.goto 4, 3) := by decide +kernel
theorem dX7_takesEntry_77 : decode cX7_takesEntry 77 = .ok (.iconst 1, 1) := by decide +kernel
theorem dX7_takesEntry_78 : decode cX7_takesEntry 78 = .ok (.invokevirtual 270, 3) := by decide +kernel
theorem dX7_takesEntry_81 : decode cX7_takesEntry 81 = .ok (.ifCond .ne 5, 3) := by decide +kernel
theorem dX7_takesEntry_84 : decode cX7_takesEntry 84 = .ok (.iconst 0, 1) := by decide +kernel
theorem dX7_takesEntry_85 : decode cX7_takesEntry 85 = .ok (.ireturn, 1) := by decide +kernel
theorem dX7_takesEntry_86 : decode cX7_takesEntry 86 = .ok (.iload_n 1, 1) := by decide +kernel
theorem dX7_takesEntry_87 : decode cX7_takesEntry 87 = .ok (.bipush 106, 2) := by decide +kernel
theorem dX7_takesEntry_89 : decode cX7_takesEntry 89 = .ok (.if_icmp .eq 9, 3) := by decide +kernel
theorem dX7_takesEntry_92 : decode cX7_takesEntry 92 = .ok (.iload_n 1, 1) := by decide +kernel
theorem dX7_takesEntry_93 : decode cX7_takesEntry 93 = .ok (.bipush 108, 2) := by decide +kernel
theorem dX7_takesEntry_95 : decode cX7_takesEntry 95 = .ok (.if_icmp .ne 23, 3) := by decide +kernel
theorem dX7_takesEntry_98 : decode cX7_takesEntry 98 = .ok (.aload_n 0, 1) := by decide +kernel
theorem dX7_takesEntry_99 : decode cX7_takesEntry 99 = .ok (.bipush 44, 2) := by decide +kernel
theorem dX7_takesEntry_101 : decode cX7_takesEntry 101 = .ok (.invokevirtual 273, 3) := by decide +kernel
theorem dX7_takesEntry_104 : decode cX7_takesEntry 104 = .ok (.ifCond .eq 12, 3) := by decide +kernel
theorem dX7_takesEntry_107 : decode cX7_takesEntry 107 = .ok (.aload_n 0, 1) := by decide +kernel
theorem dX7_takesEntry_108 : decode cX7_takesEntry 108 = .ok (.iconst 1, 1) := by decide +kernel
theorem dX7_takesEntry_109 : decode cX7_takesEntry 109 = .ok (.iconst 3, 1) := by decide +kernel
theorem dX7_takesEntry_110 : decode cX7_takesEntry 110 = .ok (.invokevirtual 270, 3) := by decide +kernel
theorem dX7_takesEntry_113 : decode cX7_takesEntry 113 = .ok (.ifCond .ne 5, 3) := by decide +kernel
theorem dX7_takesEntry_116 : decode cX7_takesEntry 116 = .ok (.iconst 0, 1) := by decide +kernel
theorem dX7_takesEntry_117 : decode cX7_takesEntry 117 = .ok (.ireturn, 1) := by decide +kernel
theorem dX7_takesEntry_118 : decode cX7_takesEntry 118 = .ok (.iload_n 1, 1) := by decide +kernel
theorem dX7_takesEntry_119 : decode cX7_takesEntry 119 = .ok (.bipush 112, 2) := by decide +kernel
theorem dX7_takesEntry_121 : decode cX7_takesEntry 121 = .ok (.if_icmp .ne 59, 3) := by decide +kernel
theorem dX7_takesEntry_124 : decode cX7_takesEntry 124 = .ok (.aload_n 0, 1) := by decide +kernel
theorem dX7_takesEntry_125 : decode cX7_takesEntry 125 = .ok (.bipush 64, 2) := by decide +kernel
theorem dX7_takesEntry_127 : decode cX7_takesEntry 127 = .ok (.invokevirtual 273, 3) := by decide +kernel
theorem dX7_takesEntry_130 : decode cX7_takesEntry 130 = .ok (.ifCond .eq 48, 3) := by decide +kernel
theorem dX7_takesEntry_133 : decode cX7_takesEntry 133 = .ok (.aload_n 0, 1) := by decide +kernel
theorem dX7_takesEntry_134 : decode cX7_takesEntry 134 = .ok (.iconst 1, 1) := by decide +kernel
theorem dX7_takesEntry_135 : decode cX7_takesEntry 135 = .ok (.iconst 1, 1) := by decide +kernel
theorem dX7_takesEntry_136 : decode cX7_takesEntry 136 = .ok (.invokevirtual 270, 3) := by decide +kernel
theorem dX7_takesEntry_139 : decode cX7_takesEntry 139 = .ok (.ifCond .eq 39, 3) := by decide +kernel
theorem dX7_takesEntry_142 : decode cX7_takesEntry 142 = .ok (.aload_n 0, 1) := by decide +kernel
theorem dX7_takesEntry_143 : decode cX7_takesEntry 143 = .ok (.bipush 44, 2) := by decide +kernel
theorem dX7_takesEntry_145 : decode cX7_takesEntry 145 = .ok (.invokevirtual 273, 3) := by decide +kernel
theorem dX7_takesEntry_148 : decode cX7_takesEntry 148 = .ok (.ifCond .eq 30, 3) := by decide +kernel
theorem dX7_takesEntry_151 : decode cX7_takesEntry 151 = .ok (.aload_n 0, 1) := by decide +kernel
theorem dX7_takesEntry_152 : decode cX7_takesEntry 152 = .ok (.iconst 2, 1) := by decide +kernel
theorem dX7_takesEntry_153 : decode cX7_takesEntry 153 = .ok (.iconst 3, 1) := by decide +kernel
theorem dX7_takesEntry_154 : decode cX7_takesEntry 154 = .ok (.invokevirtual 270, 3) := by decide +kernel
theorem dX7_takesEntry_157 : decode cX7_takesEntry 157 = .ok (.ifCond .eq 21, 3) := by decide +kernel
theorem dX7_takesEntry_160 : decode cX7_takesEntry 160 = .ok (.aload_n 0, 1) := by decide +kernel
theorem dX7_takesEntry_161 : decode cX7_takesEntry 161 = .ok (.bipush 44, 2) := by decide +kernel
theorem dX7_takesEntry_163 : decode cX7_takesEntry 163 = .ok (.invokevirtual 273, 3) := by decide +kernel
theorem dX7_takesEntry_166 : decode cX7_takesEntry 166 = .ok (.ifCond .eq 12, 3) := by decide +kernel
theorem dX7_takesEntry_169 : decode cX7_takesEntry 169 = .ok (.aload_n 0, 1) := by decide +kernel
theorem dX7_takesEntry_170 : decode cX7_takesEntry 170 = .ok (.iconst 3, 1) := by decide +kernel
theorem dX7_takesEntry_171 : decode cX7_takesEntry 171 = .ok (.iconst 1, 1) := by decide +kernel
theorem dX7_takesEntry_172 : decode cX7_takesEntry 172 = .ok (.invokevirtual 270, 3) := by decide +kernel
theorem dX7_takesEntry_175 : decode cX7_takesEntry 175 = .ok (.ifCond .ne 5, 3) := by decide +kernel
theorem dX7_takesEntry_178 : decode cX7_takesEntry 178 = .ok (.iconst 0, 1) := by decide +kernel
theorem dX7_takesEntry_179 : decode cX7_takesEntry 179 = .ok (.ireturn, 1) := by decide +kernel
theorem dX7_takesEntry_180 : decode cX7_takesEntry 180 = .ok (.aload_n 0, 1) := by decide +kernel
theorem dX7_takesEntry_181 : decode cX7_takesEntry 181 = .ok (.bipush 59, 2) := by decide +kernel
theorem dX7_takesEntry_183 : decode cX7_takesEntry 183 = .ok (.invokevirtual 273, 3) := by decide +kernel
theorem dX7_takesEntry_186 : decode cX7_takesEntry 186 = .ok (.ifCond .ne 5, 3) := by decide +kernel
theorem dX7_takesEntry_189 : decode cX7_takesEntry 189 = .ok (.iconst 0, 1) := by decide +kernel
theorem dX7_takesEntry_190 : decode cX7_takesEntry 190 = .ok (.ireturn, 1) := by decide +kernel
theorem dX7_takesEntry_191 : decode cX7_takesEntry 191 = .ok (.aload_n 0, 1) := by decide +kernel
theorem dX7_takesEntry_192 : decode cX7_takesEntry 192 = .ok (.dup, 1) := by decide +kernel
theorem dX7_takesEntry_193 : decode cX7_takesEntry 193 = .ok (.getfield 267, 3) := by decide +kernel
theorem dX7_takesEntry_196 : decode cX7_takesEntry 196 = .ok (.iconst 1, 1) := by decide +kernel
theorem dX7_takesEntry_197 : decode cX7_takesEntry 197 = .ok (.iadd, 1) := by decide +kernel
theorem dX7_takesEntry_198 : decode cX7_takesEntry 198 = .ok (.putfield 267, 3) := by decide +kernel
theorem dX7_takesEntry_201 : decode cX7_takesEntry 201 = .ok (.iconst 1, 1) := by decide +kernel
theorem dX7_takesEntry_202 : decode cX7_takesEntry 202 = .ok (.ireturn, 1) := by decide +kernel
theorem dX7_takesText_0 : decode cX7_takesText 0 = .ok (.aload_n 0, 1) := by decide +kernel
theorem dX7_takesText_1 : decode cX7_takesText 1 = .ok (.iconst 0, 1) := by decide +kernel
theorem dX7_takesText_2 : decode cX7_takesText 2 = .ok (.putfield 261, 3) := by decide +kernel
theorem dX7_takesText_5 : decode cX7_takesText 5 = .ok (.aload_n 0, 1) := by decide +kernel
theorem dX7_takesText_6 : decode cX7_takesText 6 = .ok (.iconst 0, 1) := by decide +kernel
theorem dX7_takesText_7 : decode cX7_takesText 7 = .ok (.putfield 267, 3) := by decide +kernel
theorem dX7_takesText_10 : decode cX7_takesText 10 = .ok (.aload_n 0, 1) := by decide +kernel
theorem dX7_takesText_11 : decode cX7_takesText 11 = .ok (.invokevirtual 276, 3) := by decide +kernel
theorem dX7_takesText_14 : decode cX7_takesText 14 = .ok (.ifCond .ne 5, 3) := by decide +kernel
theorem dX7_takesText_17 : decode cX7_takesText 17 = .ok (.iconst 0, 1) := by decide +kernel
theorem dX7_takesText_18 : decode cX7_takesText 18 = .ok (.ireturn, 1) := by decide +kernel
theorem dX7_takesText_19 : decode cX7_takesText 19 = .ok (.aload_n 0, 1) := by decide +kernel
theorem dX7_takesText_20 : decode cX7_takesText 20 = .ok (.getfield 261, 3) := by decide +kernel
theorem dX7_takesText_23 : decode cX7_takesText 23 = .ok (.aload_n 0, 1) := by decide +kernel
theorem dX7_takesText_24 : decode cX7_takesText 24 = .ok (.getfield 258, 3) := by decide +kernel
theorem dX7_takesText_27 : decode cX7_takesText 27 = .ok (.if_icmp .lt (-17), 3) := by decide +kernel
theorem dX7_takesText_30 : decode cX7_takesText 30 = .ok (.iconst 1, 1) := by decide +kernel
theorem dX7_takesText_31 : decode cX7_takesText 31 = .ok (.ireturn, 1) := by decide +kernel
theorem dX7_does_0 : decode cX7_does 0 = .ok (.aload_n 0, 1) := by decide +kernel
theorem dX7_does_1 : decode cX7_does 1 = .ok (.getfield 65, 3) := by decide +kernel
theorem dX7_does_4 : decode cX7_does 4 = .ok (.iconst 4, 1) := by decide +kernel
theorem dX7_does_5 : decode cX7_does 5 = .ok (.iload_n 1, 1) := by decide +kernel
theorem dX7_does_6 : decode cX7_does 6 = .ok (.imul, 1) := by decide +kernel
theorem dX7_does_7 : decode cX7_does 7 = .ok (.iaload, 1) := by decide +kernel
theorem dX7_does_8 : decode cX7_does 8 = .ok (.istore_n 2, 1) := by decide +kernel
theorem dX7_does_9 : decode cX7_does 9 = .ok (.aload_n 0, 1) := by decide +kernel
theorem dX7_does_10 : decode cX7_does 10 = .ok (.getfield 65, 3) := by decide +kernel
theorem dX7_does_13 : decode cX7_does 13 = .ok (.iconst 4, 1) := by decide +kernel
theorem dX7_does_14 : decode cX7_does 14 = .ok (.iload_n 1, 1) := by decide +kernel
theorem dX7_does_15 : decode cX7_does 15 = .ok (.imul, 1) := by decide +kernel
theorem dX7_does_16 : decode cX7_does 16 = .ok (.iconst 1, 1) := by decide +kernel
theorem dX7_does_17 : decode cX7_does 17 = .ok (.iadd, 1) := by decide +kernel
theorem dX7_does_18 : decode cX7_does 18 = .ok (.iaload, 1) := by decide +kernel
theorem dX7_does_19 : decode cX7_does 19 = .ok (.istore_n 3, 1) := by decide +kernel
theorem dX7_does_20 : decode cX7_does 20 = .ok (.aload_n 0, 1) := by decide +kernel
theorem dX7_does_21 : decode cX7_does 21 = .ok (.getfield 65, 3) := by decide +kernel
theorem dX7_does_24 : decode cX7_does 24 = .ok (.iconst 4, 1) := by decide +kernel
theorem dX7_does_25 : decode cX7_does 25 = .ok (.iload_n 1, 1) := by decide +kernel
theorem dX7_does_26 : decode cX7_does 26 = .ok (.imul, 1) := by decide +kernel
theorem dX7_does_27 : decode cX7_does 27 = .ok (.iconst 2, 1) := by decide +kernel
theorem dX7_does_28 : decode cX7_does 28 = .ok (.iadd, 1) := by decide +kernel
theorem dX7_does_29 : decode cX7_does 29 = .ok (.iaload, 1) := by decide +kernel
theorem dX7_does_30 : decode cX7_does 30 = .ok (.istore 4, 2) := by decide +kernel
theorem dX7_does_32 : decode cX7_does 32 = .ok (.aload_n 0, 1) := by decide +kernel
theorem dX7_does_33 : decode cX7_does 33 = .ok (.getfield 65, 3) := by decide +kernel
theorem dX7_does_36 : decode cX7_does 36 = .ok (.iconst 4, 1) := by decide +kernel
theorem dX7_does_37 : decode cX7_does 37 = .ok (.iload_n 1, 1) := by decide +kernel
theorem dX7_does_38 : decode cX7_does 38 = .ok (.imul, 1) := by decide +kernel
theorem dX7_does_39 : decode cX7_does 39 = .ok (.iconst 3, 1) := by decide +kernel
theorem dX7_does_40 : decode cX7_does 40 = .ok (.iadd, 1) := by decide +kernel
theorem dX7_does_41 : decode cX7_does 41 = .ok (.iaload, 1) := by decide +kernel
theorem dX7_does_42 : decode cX7_does 42 = .ok (.istore 5, 2) := by decide +kernel
theorem dX7_does_44 : decode cX7_does 44 = .ok (.aload_n 0, 1) := by decide +kernel
theorem dX7_does_45 : decode cX7_does 45 = .ok (.getfield 62, 3) := by decide +kernel
theorem dX7_does_48 : decode cX7_does 48 = .ok (.iload_n 1, 1) := by decide +kernel
theorem dX7_does_49 : decode cX7_does 49 = .ok (.caload, 1) := by decide +kernel
theorem dX7_does_50 : decode cX7_does 50 = .ok (.bipush 106, 2) := by decide +kernel
theorem dX7_does_52 : decode cX7_does 52 = .ok (.if_icmp .ne 12, 3) := by decide +kernel
theorem dX7_does_55 : decode cX7_does 55 = .ok (.aload_n 0, 1) := by decide +kernel
theorem dX7_does_56 : decode cX7_does 56 = .ok (.iload_n 2, 1) := by decide +kernel
theorem dX7_does_57 : decode cX7_does 57 = .ok (.iload_n 3, 1) := by decide +kernel
theorem dX7_does_58 : decode cX7_does 58 = .ok (.invokevirtual 280, 3) := by decide +kernel
theorem dX7_does_61 : decode cX7_does 61 = .ok (.goto 71, 3) := by decide +kernel
theorem dX7_does_64 : decode cX7_does 64 = .ok (.aload_n 0, 1) := by decide +kernel
theorem dX7_does_65 : decode cX7_does 65 = .ok (.getfield 62, 3) := by decide +kernel
theorem dX7_does_68 : decode cX7_does 68 = .ok (.iload_n 1, 1) := by decide +kernel
theorem dX7_does_69 : decode cX7_does 69 = .ok (.caload, 1) := by decide +kernel
theorem dX7_does_70 : decode cX7_does 70 = .ok (.bipush 108, 2) := by decide +kernel
theorem dX7_does_72 : decode cX7_does 72 = .ok (.if_icmp .ne 12, 3) := by decide +kernel
theorem dX7_does_75 : decode cX7_does 75 = .ok (.aload_n 0, 1) := by decide +kernel
theorem dX7_does_76 : decode cX7_does 76 = .ok (.iload_n 2, 1) := by decide +kernel
theorem dX7_does_77 : decode cX7_does 77 = .ok (.iload_n 3, 1) := by decide +kernel
theorem dX7_does_78 : decode cX7_does 78 = .ok (.invokevirtual 283, 3) := by decide +kernel
theorem dX7_does_81 : decode cX7_does 81 = .ok (.goto 51, 3) := by decide +kernel
theorem dX7_does_84 : decode cX7_does 84 = .ok (.aload_n 0, 1) := by decide +kernel
theorem dX7_does_85 : decode cX7_does 85 = .ok (.getfield 62, 3) := by decide +kernel
theorem dX7_does_88 : decode cX7_does 88 = .ok (.iload_n 1, 1) := by decide +kernel
theorem dX7_does_89 : decode cX7_does 89 = .ok (.caload, 1) := by decide +kernel
theorem dX7_does_90 : decode cX7_does 90 = .ok (.bipush 112, 2) := by decide +kernel
theorem dX7_does_92 : decode cX7_does 92 = .ok (.if_icmp .ne 16, 3) := by decide +kernel
theorem dX7_does_95 : decode cX7_does 95 = .ok (.aload_n 0, 1) := by decide +kernel
theorem dX7_does_96 : decode cX7_does 96 = .ok (.iload_n 2, 1) := by decide +kernel
theorem dX7_does_97 : decode cX7_does 97 = .ok (.iload_n 3, 1) := by decide +kernel
theorem dX7_does_98 : decode cX7_does 98 = .ok (.iload 4, 2) := by decide +kernel
theorem dX7_does_100 : decode cX7_does 100 = .ok (.iload 5, 2) := by decide +kernel
theorem dX7_does_102 : decode cX7_does 102 = .ok (.invokevirtual 286, 3) := by decide +kernel
theorem dX7_does_105 : decode cX7_does 105 = .ok (.goto 27, 3) := by decide +kernel
theorem dX7_does_108 : decode cX7_does 108 = .ok (.aload_n 0, 1) := by decide +kernel
theorem dX7_does_109 : decode cX7_does 109 = .ok (.getfield 62, 3) := by decide +kernel
theorem dX7_does_112 : decode cX7_does 112 = .ok (.iload_n 1, 1) := by decide +kernel
theorem dX7_does_113 : decode cX7_does 113 = .ok (.caload, 1) := by decide +kernel
theorem dX7_does_114 : decode cX7_does 114 = .ok (.bipush 110, 2) := by decide +kernel
theorem dX7_does_116 : decode cX7_does 116 = .ok (.if_icmp .ne 11, 3) := by decide +kernel
theorem dX7_does_119 : decode cX7_does 119 = .ok (.aload_n 0, 1) := by decide +kernel
theorem dX7_does_120 : decode cX7_does 120 = .ok (.iload_n 2, 1) := by decide +kernel
theorem dX7_does_121 : decode cX7_does 121 = .ok (.invokevirtual 289, 3) := by decide +kernel
theorem dX7_does_124 : decode cX7_does 124 = .ok (.goto 8, 3) := by decide +kernel
theorem dX7_does_127 : decode cX7_does 127 = .ok (.aload_n 0, 1) := by decide +kernel
theorem dX7_does_128 : decode cX7_does 128 = .ok (.iload_n 2, 1) := by decide +kernel
theorem dX7_does_129 : decode cX7_does 129 = .ok (.invokevirtual 292, 3) := by decide +kernel
theorem dX7_does_132 : decode cX7_does 132 = .ok (.istore 6, 2) := by decide +kernel
theorem dX7_does_134 : decode cX7_does 134 = .ok (.iload 6, 2) := by decide +kernel
theorem dX7_does_136 : decode cX7_does 136 = .ok (.sipush (-400), 3) := by decide +kernel
theorem dX7_does_139 : decode cX7_does 139 = .ok (.if_icmp .ge 7, 3) := by decide +kernel
theorem dX7_does_142 : decode cX7_does 142 = .ok (.iconst 0, 1) := by decide +kernel
theorem dX7_does_143 : decode cX7_does 143 = .ok (.goto 7, 3) := by decide +kernel
theorem dX7_does_146 : decode cX7_does 146 = .ok (.aload_n 0, 1) := by decide +kernel
theorem dX7_does_147 : decode cX7_does 147 = .ok (.getfield 81, 3) := by decide +kernel
theorem dX7_does_150 : decode cX7_does 150 = .ok (.ireturn, 1) := by decide +kernel
theorem dX7_read_0 : decode cX7_read 0 = .ok (.aload_n 0, 1) := by decide +kernel
theorem dX7_read_1 : decode cX7_read 1 = .ok (.invokevirtual 295, 3) := by decide +kernel
theorem dX7_read_4 : decode cX7_read 4 = .ok (.istore_n 1, 1) := by decide +kernel
theorem dX7_read_5 : decode cX7_read 5 = .ok (.aload_n 0, 1) := by decide +kernel
theorem dX7_read_6 : decode cX7_read 6 = .ok (.iconst 0, 1) := by decide +kernel
theorem dX7_read_7 : decode cX7_read 7 = .ok (.putfield 258, 3) := by decide +kernel
theorem dX7_read_10 : decode cX7_read 10 = .ok (.iload_n 1, 1) := by decide +kernel
theorem dX7_read_11 : decode cX7_read 11 = .ok (.ifCond .ne 17, 3) := by decide +kernel
theorem dX7_read_14 : decode cX7_read 14 = .ok (.aload_n 0, 1) := by decide +kernel
theorem dX7_read_15 : decode cX7_read 15 = .ok (.aload_n 0, 1) := by decide +kernel
theorem dX7_read_16 : decode cX7_read 16 = .ok (.getfield 261, 3) := by decide +kernel
theorem dX7_read_19 : decode cX7_read 19 = .ok (.putfield 68, 3) := by decide +kernel
theorem dX7_read_22 : decode cX7_read 22 = .ok (.aload_n 0, 1) := by decide +kernel
theorem dX7_read_23 : decode cX7_read 23 = .ok (.iconst 1, 1) := by decide +kernel
theorem dX7_read_24 : decode cX7_read 24 = .ok (.invokevirtual 168, 3) := by decide +kernel
theorem dX7_read_27 : decode cX7_read 27 = .ok (.ireturn, 1) := by decide +kernel
theorem dX7_read_28 : decode cX7_read 28 = .ok (.aload_n 0, 1) := by decide +kernel
theorem dX7_read_29 : decode cX7_read 29 = .ok (.aload_n 0, 1) := by decide +kernel
theorem dX7_read_30 : decode cX7_read 30 = .ok (.getfield 78, 3) := by decide +kernel
theorem dX7_read_33 : decode cX7_read 33 = .ok (.iconst 0, 1) := by decide +kernel
theorem dX7_read_34 : decode cX7_read 34 = .ok (.iconst 1, 1) := by decide +kernel
theorem dX7_read_35 : decode cX7_read 35 = .ok (.invokevirtual 298, 3) := by decide +kernel
theorem dX7_read_38 : decode cX7_read 38 = .ok (.aload_n 0, 1) := by decide +kernel
theorem dX7_read_39 : decode cX7_read 39 = .ok (.iconst 1, 1) := by decide +kernel
theorem dX7_read_40 : decode cX7_read 40 = .ok (.putfield 302, 3) := by decide +kernel
theorem dX7_read_43 : decode cX7_read 43 = .ok (.iconst 0, 1) := by decide +kernel
theorem dX7_read_44 : decode cX7_read 44 = .ok (.istore_n 2, 1) := by decide +kernel
theorem dX7_read_45 : decode cX7_read 45 = .ok (.iload_n 2, 1) := by decide +kernel
theorem dX7_read_46 : decode cX7_read 46 = .ok (.aload_n 0, 1) := by decide +kernel
theorem dX7_read_47 : decode cX7_read 47 = .ok (.getfield 267, 3) := by decide +kernel
theorem dX7_read_50 : decode cX7_read 50 = .ok (.if_icmp .ge 17, 3) := by decide +kernel
theorem dX7_read_53 : decode cX7_read 53 = .ok (.aload_n 0, 1) := by decide +kernel
theorem dX7_read_54 : decode cX7_read 54 = .ok (.iload_n 2, 1) := by decide +kernel
theorem dX7_read_55 : decode cX7_read 55 = .ok (.invokevirtual 306, 3) := by decide +kernel
theorem dX7_read_58 : decode cX7_read 58 = .ok (.ifCond .ne 9, 3) := by decide +kernel
theorem dX7_read_61 : decode cX7_read 61 = .ok (.iinc 2 1, 3) := by decide +kernel
theorem dX7_read_64 : decode cX7_read 64 = .ok (.goto (-19), 3) := by decide +kernel
theorem dX7_read_67 : decode cX7_read 67 = .ok (.aload_n 0, 1) := by decide +kernel
theorem dX7_read_68 : decode cX7_read 68 = .ok (.iconst 0, 1) := by decide +kernel
theorem dX7_read_69 : decode cX7_read 69 = .ok (.putfield 302, 3) := by decide +kernel
theorem dX7_read_72 : decode cX7_read 72 = .ok (.iload_n 2, 1) := by decide +kernel
theorem dX7_read_73 : decode cX7_read 73 = .ok (.aload_n 0, 1) := by decide +kernel
theorem dX7_read_74 : decode cX7_read 74 = .ok (.getfield 267, 3) := by decide +kernel
theorem dX7_read_77 : decode cX7_read 77 = .ok (.if_icmp .ge 19, 3) := by decide +kernel
theorem dX7_read_80 : decode cX7_read 80 = .ok (.aload_n 0, 1) := by decide +kernel
theorem dX7_read_81 : decode cX7_read 81 = .ok (.aload_n 0, 1) := by decide +kernel
theorem dX7_read_82 : decode cX7_read 82 = .ok (.getfield 78, 3) := by decide +kernel
theorem dX7_read_85 : decode cX7_read 85 = .ok (.iconst 0, 1) := by decide +kernel
theorem dX7_read_86 : decode cX7_read 86 = .ok (.iconst 0, 1) := by decide +kernel
theorem dX7_read_87 : decode cX7_read 87 = .ok (.invokevirtual 298, 3) := by decide +kernel
theorem dX7_read_90 : decode cX7_read 90 = .ok (.aload_n 0, 1) := by decide +kernel
theorem dX7_read_91 : decode cX7_read 91 = .ok (.iconst 2, 1) := by decide +kernel
theorem dX7_read_92 : decode cX7_read 92 = .ok (.invokevirtual 168, 3) := by decide +kernel
theorem dX7_read_95 : decode cX7_read 95 = .ok (.ireturn, 1) := by decide +kernel
theorem dX7_read_96 : decode cX7_read 96 = .ok (.aload_n 0, 1) := by decide +kernel
theorem dX7_read_97 : decode cX7_read 97 = .ok (.iconst 0, 1) := by decide +kernel
theorem dX7_read_98 : decode cX7_read 98 = .ok (.putfield 81, 3) := by decide +kernel
theorem dX7_read_101 : decode cX7_read 101 = .ok (.aload_n 0, 1) := by decide +kernel
theorem dX7_read_102 : decode cX7_read 102 = .ok (.invokevirtual 309, 3) := by decide +kernel
theorem dX7_read_105 : decode cX7_read 105 = .ok (.iconst 0, 1) := by decide +kernel
theorem dX7_read_106 : decode cX7_read 106 = .ok (.istore_n 3, 1) := by decide +kernel
theorem dX7_read_107 : decode cX7_read 107 = .ok (.iload_n 3, 1) := by decide +kernel
theorem dX7_read_108 : decode cX7_read 108 = .ok (.sipush 1569, 3) := by decide +kernel
theorem dX7_read_111 : decode cX7_read 111 = .ok (.if_icmp .ge 30, 3) := by decide +kernel
theorem dX7_read_114 : decode cX7_read 114 = .ok (.aload_n 0, 1) := by decide +kernel
theorem dX7_read_115 : decode cX7_read 115 = .ok (.getfield 72, 3) := by decide +kernel
theorem dX7_read_118 : decode cX7_read 118 = .ok (.sipush 1569, 3) := by decide +kernel
theorem dX7_read_121 : decode cX7_read 121 = .ok (.aload_n 0, 1) := by decide +kernel
theorem dX7_read_122 : decode cX7_read 122 = .ok (.getfield 165, 3) := by decide +kernel
theorem dX7_read_125 : decode cX7_read 125 = .ok (.imul, 1) := by decide +kernel
theorem dX7_read_126 : decode cX7_read 126 = .ok (.iload_n 3, 1) := by decide +kernel
theorem dX7_read_127 : decode cX7_read 127 = .ok (.iadd, 1) := by decide +kernel
theorem dX7_read_128 : decode cX7_read 128 = .ok (.aload_n 0, 1) := by decide +kernel
theorem dX7_read_129 : decode cX7_read 129 = .ok (.getfield 78, 3) := by decide +kernel
theorem dX7_read_132 : decode cX7_read 132 = .ok (.iload_n 3, 1) := by decide +kernel
theorem dX7_read_133 : decode cX7_read 133 = .ok (.iaload, 1) := by decide +kernel
theorem dX7_read_134 : decode cX7_read 134 = .ok (.iastore, 1) := by decide +kernel
theorem dX7_read_135 : decode cX7_read 135 = .ok (.iinc 3 1, 3) := by decide +kernel
theorem dX7_read_138 : decode cX7_read 138 = .ok (.goto (-31), 3) := by decide +kernel
theorem dX7_read_141 : decode cX7_read 141 = .ok (.aload_n 0, 1) := by decide +kernel
theorem dX7_read_142 : decode cX7_read 142 = .ok (.dup, 1) := by decide +kernel
theorem dX7_read_143 : decode cX7_read 143 = .ok (.getfield 165, 3) := by decide +kernel
theorem dX7_read_146 : decode cX7_read 146 = .ok (.iconst 1, 1) := by decide +kernel
theorem dX7_read_147 : decode cX7_read 147 = .ok (.iadd, 1) := by decide +kernel
theorem dX7_read_148 : decode cX7_read 148 = .ok (.putfield 165, 3) := by decide +kernel
theorem dX7_read_151 : decode cX7_read 151 = .ok (.aload_n 0, 1) := by decide +kernel
theorem dX7_read_152 : decode cX7_read 152 = .ok (.getfield 267, 3) := by decide +kernel
theorem dX7_read_155 : decode cX7_read 155 = .ok (.ireturn, 1) := by decide +kernel
theorem dX7_errorPosition_0 : decode cX7_errorPosition 0 = .ok (.aload_n 0, 1) := by decide +kernel
theorem dX7_errorPosition_1 : decode cX7_errorPosition 1 = .ok (.getfield 68, 3) := by decide +kernel
theorem dX7_errorPosition_4 : decode cX7_errorPosition 4 = .ok (.ifCond .ge 9, 3) := by decide +kernel
theorem dX7_errorPosition_7 : decode cX7_errorPosition 7 = .ok (.aload_n 0, 1) := by decide +kernel
theorem dX7_errorPosition_8 : decode cX7_errorPosition 8 = .ok (.iconst 1, 1) := by decide +kernel
theorem dX7_errorPosition_9 : decode cX7_errorPosition 9 = .ok (.invokevirtual 168, 3) := by decide +kernel
theorem dX7_errorPosition_12 : decode cX7_errorPosition 12 = .ok (.ireturn, 1) := by decide +kernel
theorem dX7_errorPosition_13 : decode cX7_errorPosition 13 = .ok (.aload_n 0, 1) := by decide +kernel
theorem dX7_errorPosition_14 : decode cX7_errorPosition 14 = .ok (.iconst 0, 1) := by decide +kernel
theorem dX7_errorPosition_15 : decode cX7_errorPosition 15 = .ok (.putfield 81, 3) := by decide +kernel
theorem dX7_errorPosition_18 : decode cX7_errorPosition 18 = .ok (.aload_n 0, 1) := by decide +kernel
theorem dX7_errorPosition_19 : decode cX7_errorPosition 19 = .ok (.getfield 68, 3) := by decide +kernel
theorem dX7_errorPosition_22 : decode cX7_errorPosition 22 = .ok (.ireturn, 1) := by decide +kernel
theorem dX7_moves_0 : decode cX7_moves 0 = .ok (.iconst 0, 1) := by decide +kernel
theorem dX7_moves_1 : decode cX7_moves 1 = .ok (.istore_n 3, 1) := by decide +kernel
theorem dX7_moves_2 : decode cX7_moves 2 = .ok (.iload_n 3, 1) := by decide +kernel
theorem dX7_moves_3 : decode cX7_moves 3 = .ok (.aload_n 1, 1) := by decide +kernel
theorem dX7_moves_4 : decode cX7_moves 4 = .ok (.arraylength, 1) := by decide +kernel
theorem dX7_moves_5 : decode cX7_moves 5 = .ok (.if_icmp .ge 47, 3) := by decide +kernel
theorem dX7_moves_8 : decode cX7_moves 8 = .ok (.aload_n 0, 1) := by decide +kernel
theorem dX7_moves_9 : decode cX7_moves 9 = .ok (.getfield 312, 3) := by decide +kernel
theorem dX7_moves_12 : decode cX7_moves 12 = .ok (.ifCond .eq 15, 3) := by decide +kernel
theorem dX7_moves_15 : decode cX7_moves 15 = .ok (.aload_n 2, 1) := by decide +kernel
theorem dX7_moves_16 : decode cX7_moves 16 = .ok (.aload_n 0, 1) := by decide +kernel
theorem dX7_moves_17 : decode cX7_moves 17 = .ok (.getfield 315, 3) := by decide +kernel
theorem dX7_moves_20 : decode cX7_moves 20 = .ok (.aload_n 1, 1) := by decide +kernel
theorem dX7_moves_21 : decode cX7_moves 21 = .ok (.iload_n 3, 1) := by decide +kernel
theorem dX7_moves_22 : decode cX7_moves 22 = .ok (.iaload, 1) := by decide +kernel
theorem dX7_moves_23 : decode cX7_moves 23 = .ok (.iastore, 1) := by decide +kernel
theorem dX7_moves_24 : decode cX7_moves 24 = .ok (.goto 12, 3) := by decide +kernel
theorem dX7_moves_27 : decode cX7_moves 27 = .ok (.aload_n 1, 1) := by decide +kernel
theorem dX7_moves_28 : decode cX7_moves 28 = .ok (.iload_n 3, 1) := by decide +kernel
theorem dX7_moves_29 : decode cX7_moves 29 = .ok (.aload_n 2, 1) := by decide +kernel
theorem dX7_moves_30 : decode cX7_moves 30 = .ok (.aload_n 0, 1) := by decide +kernel
theorem dX7_moves_31 : decode cX7_moves 31 = .ok (.getfield 315, 3) := by decide +kernel
theorem dX7_moves_34 : decode cX7_moves 34 = .ok (.iaload, 1) := by decide +kernel
theorem dX7_moves_35 : decode cX7_moves 35 = .ok (.iastore, 1) := by decide +kernel
theorem dX7_moves_36 : decode cX7_moves 36 = .ok (.aload_n 0, 1) := by decide +kernel
theorem dX7_moves_37 : decode cX7_moves 37 = .ok (.dup, 1) := by decide +kernel
theorem dX7_moves_38 : decode cX7_moves 38 = .ok (.getfield 315, 3) := by decide +kernel
theorem dX7_moves_41 : decode cX7_moves 41 = .ok (.iconst 1, 1) := by decide +kernel
theorem dX7_moves_42 : decode cX7_moves 42 = .ok (.iadd, 1) := by decide +kernel
theorem dX7_moves_43 : decode cX7_moves 43 = .ok (.putfield 315, 3) := by decide +kernel
theorem dX7_moves_46 : decode cX7_moves 46 = .ok (.iinc 3 1, 3) := by decide +kernel
theorem dX7_moves_49 : decode cX7_moves 49 = .ok (.goto (-47), 3) := by decide +kernel
theorem dX7_moves_52 : decode cX7_moves 52 = .ok (.return_, 1) := by decide +kernel
theorem dX7_move_0 : decode cX7_move 0 = .ok (.aload_n 0, 1) := by decide +kernel
theorem dX7_move_1 : decode cX7_move 1 = .ok (.getfield 312, 3) := by decide +kernel
theorem dX7_move_4 : decode cX7_move 4 = .ok (.ifCond .eq 7, 3) := by decide +kernel
theorem dX7_move_7 : decode cX7_move 7 = .ok (.iload_n 1, 1) := by decide +kernel
theorem dX7_move_8 : decode cX7_move 8 = .ok (.goto 9, 3) := by decide +kernel
theorem dX7_move_11 : decode cX7_move 11 = .ok (.aload_n 2, 1) := by decide +kernel
theorem dX7_move_12 : decode cX7_move 12 = .ok (.aload_n 0, 1) := by decide +kernel
theorem dX7_move_13 : decode cX7_move 13 = .ok (.getfield 315, 3) := by decide +kernel
theorem dX7_move_16 : decode cX7_move 16 = .ok (.iaload, 1) := by decide +kernel
theorem dX7_move_17 : decode cX7_move 17 = .ok (.istore_n 3, 1) := by decide +kernel
theorem dX7_move_18 : decode cX7_move 18 = .ok (.aload_n 2, 1) := by decide +kernel
theorem dX7_move_19 : decode cX7_move 19 = .ok (.aload_n 0, 1) := by decide +kernel
theorem dX7_move_20 : decode cX7_move 20 = .ok (.getfield 315, 3) := by decide +kernel
theorem dX7_move_23 : decode cX7_move 23 = .ok (.iload_n 3, 1) := by decide +kernel
theorem dX7_move_24 : decode cX7_move 24 = .ok (.iastore, 1) := by decide +kernel
theorem dX7_move_25 : decode cX7_move 25 = .ok (.aload_n 0, 1) := by decide +kernel
theorem dX7_move_26 : decode cX7_move 26 = .ok (.dup, 1) := by decide +kernel
theorem dX7_move_27 : decode cX7_move 27 = .ok (.getfield 315, 3) := by decide +kernel
theorem dX7_move_30 : decode cX7_move 30 = .ok (.iconst 1, 1) := by decide +kernel
theorem dX7_move_31 : decode cX7_move 31 = .ok (.iadd, 1) := by decide +kernel
theorem dX7_move_32 : decode cX7_move 32 = .ok (.putfield 315, 3) := by decide +kernel
theorem dX7_move_35 : decode cX7_move 35 = .ok (.iload_n 3, 1) := by decide +kernel
theorem dX7_move_36 : decode cX7_move 36 = .ok (.ireturn, 1) := by decide +kernel
theorem dX7_passAll_0 : decode cX7_passAll 0 = .ok (.aload_n 0, 1) := by decide +kernel
theorem dX7_passAll_1 : decode cX7_passAll 1 = .ok (.iload_n 3, 1) := by decide +kernel
theorem dX7_passAll_2 : decode cX7_passAll 2 = .ok (.putfield 312, 3) := by decide +kernel
theorem dX7_passAll_5 : decode cX7_passAll 5 = .ok (.aload_n 0, 1) := by decide +kernel
theorem dX7_passAll_6 : decode cX7_passAll 6 = .ok (.iload_n 2, 1) := by decide +kernel
theorem dX7_passAll_7 : decode cX7_passAll 7 = .ok (.putfield 315, 3) := by decide +kernel
theorem dX7_passAll_10 : decode cX7_passAll 10 = .ok (.aload_n 0, 1) := by decide +kernel
theorem dX7_passAll_11 : decode cX7_passAll 11 = .ok (.aload_n 0, 1) := by decide +kernel
theorem dX7_passAll_12 : decode cX7_passAll 12 = .ok (.getfield 7, 3) := by decide +kernel
theorem dX7_passAll_15 : decode cX7_passAll 15 = .ok (.aload_n 1, 1) := by decide +kernel
theorem dX7_passAll_16 : decode cX7_passAll 16 = .ok (.invokevirtual 318, 3) := by decide +kernel
theorem dX7_passAll_19 : decode cX7_passAll 19 = .ok (.aload_n 0, 1) := by decide +kernel
theorem dX7_passAll_20 : decode cX7_passAll 20 = .ok (.aload_n 0, 1) := by decide +kernel
theorem dX7_passAll_21 : decode cX7_passAll 21 = .ok (.getfield 13, 3) := by decide +kernel
theorem dX7_passAll_24 : decode cX7_passAll 24 = .ok (.aload_n 1, 1) := by decide +kernel
theorem dX7_passAll_25 : decode cX7_passAll 25 = .ok (.invokevirtual 318, 3) := by decide +kernel
theorem dX7_passAll_28 : decode cX7_passAll 28 = .ok (.aload_n 0, 1) := by decide +kernel
theorem dX7_passAll_29 : decode cX7_passAll 29 = .ok (.aload_n 0, 1) := by decide +kernel
theorem dX7_passAll_30 : decode cX7_passAll 30 = .ok (.getfield 16, 3) := by decide +kernel
theorem dX7_passAll_33 : decode cX7_passAll 33 = .ok (.aload_n 1, 1) := by decide +kernel
theorem dX7_passAll_34 : decode cX7_passAll 34 = .ok (.invokevirtual 318, 3) := by decide +kernel
theorem dX7_passAll_37 : decode cX7_passAll 37 = .ok (.aload_n 0, 1) := by decide +kernel
theorem dX7_passAll_38 : decode cX7_passAll 38 = .ok (.aload_n 0, 1) := by decide +kernel
theorem dX7_passAll_39 : decode cX7_passAll 39 = .ok (.getfield 19, 3) := by decide +kernel
theorem dX7_passAll_42 : decode cX7_passAll 42 = .ok (.aload_n 1, 1) := by decide +kernel
theorem dX7_passAll_43 : decode cX7_passAll 43 = .ok (.invokevirtual 318, 3) := by decide +kernel
theorem dX7_passAll_46 : decode cX7_passAll 46 = .ok (.aload_n 0, 1) := by decide +kernel
theorem dX7_passAll_47 : decode cX7_passAll 47 = .ok (.aload_n 0, 1) := by decide +kernel
theorem dX7_passAll_48 : decode cX7_passAll 48 = .ok (.getfield 22, 3) := by decide +kernel
theorem dX7_passAll_51 : decode cX7_passAll 51 = .ok (.aload_n 1, 1) := by decide +kernel
theorem dX7_passAll_52 : decode cX7_passAll 52 = .ok (.invokevirtual 318, 3) := by decide +kernel
theorem dX7_passAll_55 : decode cX7_passAll 55 = .ok (.aload_n 0, 1) := by decide +kernel
theorem dX7_passAll_56 : decode cX7_passAll 56 = .ok (.aload_n 0, 1) := by decide +kernel
theorem dX7_passAll_57 : decode cX7_passAll 57 = .ok (.getfield 25, 3) := by decide +kernel
theorem dX7_passAll_60 : decode cX7_passAll 60 = .ok (.aload_n 1, 1) := by decide +kernel
theorem dX7_passAll_61 : decode cX7_passAll 61 = .ok (.invokevirtual 318, 3) := by decide +kernel
theorem dX7_passAll_64 : decode cX7_passAll 64 = .ok (.aload_n 0, 1) := by decide +kernel
theorem dX7_passAll_65 : decode cX7_passAll 65 = .ok (.aload_n 0, 1) := by decide +kernel
theorem dX7_passAll_66 : decode cX7_passAll 66 = .ok (.getfield 28, 3) := by decide +kernel
theorem dX7_passAll_69 : decode cX7_passAll 69 = .ok (.aload_n 1, 1) := by decide +kernel
theorem dX7_passAll_70 : decode cX7_passAll 70 = .ok (.invokevirtual 318, 3) := by decide +kernel
theorem dX7_passAll_73 : decode cX7_passAll 73 = .ok (.aload_n 0, 1) := by decide +kernel
theorem dX7_passAll_74 : decode cX7_passAll 74 = .ok (.aload_n 0, 1) := by decide +kernel
theorem dX7_passAll_75 : decode cX7_passAll 75 = .ok (.getfield 31, 3) := by decide +kernel
theorem dX7_passAll_78 : decode cX7_passAll 78 = .ok (.aload_n 1, 1) := by decide +kernel
theorem dX7_passAll_79 : decode cX7_passAll 79 = .ok (.invokevirtual 318, 3) := by decide +kernel
theorem dX7_passAll_82 : decode cX7_passAll 82 = .ok (.aload_n 0, 1) := by decide +kernel
theorem dX7_passAll_83 : decode cX7_passAll 83 = .ok (.aload_n 0, 1) := by decide +kernel
theorem dX7_passAll_84 : decode cX7_passAll 84 = .ok (.getfield 34, 3) := by decide +kernel
theorem dX7_passAll_87 : decode cX7_passAll 87 = .ok (.aload_n 1, 1) := by decide +kernel
theorem dX7_passAll_88 : decode cX7_passAll 88 = .ok (.invokevirtual 318, 3) := by decide +kernel
theorem dX7_passAll_91 : decode cX7_passAll 91 = .ok (.aload_n 0, 1) := by decide +kernel
theorem dX7_passAll_92 : decode cX7_passAll 92 = .ok (.aload_n 0, 1) := by decide +kernel
theorem dX7_passAll_93 : decode cX7_passAll 93 = .ok (.getfield 37, 3) := by decide +kernel
theorem dX7_passAll_96 : decode cX7_passAll 96 = .ok (.aload_n 1, 1) := by decide +kernel
theorem dX7_passAll_97 : decode cX7_passAll 97 = .ok (.invokevirtual 318, 3) := by decide +kernel
theorem dX7_passAll_100 : decode cX7_passAll 100 = .ok (.aload_n 0, 1) := by decide +kernel
theorem dX7_passAll_101 : decode cX7_passAll 101 = .ok (.aload_n 0, 1) := by decide +kernel
theorem dX7_passAll_102 : decode cX7_passAll 102 = .ok (.getfield 40, 3) := by decide +kernel
theorem dX7_passAll_105 : decode cX7_passAll 105 = .ok (.aload_n 1, 1) := by decide +kernel
theorem dX7_passAll_106 : decode cX7_passAll 106 = .ok (.invokevirtual 318, 3) := by decide +kernel
theorem dX7_passAll_109 : decode cX7_passAll 109 = .ok (.aload_n 0, 1) := by decide +kernel
theorem dX7_passAll_110 : decode cX7_passAll 110 = .ok (.aload_n 0, 1) := by decide +kernel
theorem dX7_passAll_111 : decode cX7_passAll 111 = .ok (.getfield 43, 3) := by decide +kernel
theorem dX7_passAll_114 : decode cX7_passAll 114 = .ok (.aload_n 1, 1) := by decide +kernel
theorem dX7_passAll_115 : decode cX7_passAll 115 = .ok (.invokevirtual 318, 3) := by decide +kernel
theorem dX7_passAll_118 : decode cX7_passAll 118 = .ok (.aload_n 0, 1) := by decide +kernel
theorem dX7_passAll_119 : decode cX7_passAll 119 = .ok (.aload_n 0, 1) := by decide +kernel
theorem dX7_passAll_120 : decode cX7_passAll 120 = .ok (.getfield 46, 3) := by decide +kernel
theorem dX7_passAll_123 : decode cX7_passAll 123 = .ok (.aload_n 1, 1) := by decide +kernel
theorem dX7_passAll_124 : decode cX7_passAll 124 = .ok (.invokevirtual 318, 3) := by decide +kernel
theorem dX7_passAll_127 : decode cX7_passAll 127 = .ok (.aload_n 0, 1) := by decide +kernel
theorem dX7_passAll_128 : decode cX7_passAll 128 = .ok (.aload_n 0, 1) := by decide +kernel
theorem dX7_passAll_129 : decode cX7_passAll 129 = .ok (.getfield 49, 3) := by decide +kernel
theorem dX7_passAll_132 : decode cX7_passAll 132 = .ok (.aload_n 1, 1) := by decide +kernel
theorem dX7_passAll_133 : decode cX7_passAll 133 = .ok (.invokevirtual 318, 3) := by decide +kernel
theorem dX7_passAll_136 : decode cX7_passAll 136 = .ok (.aload_n 0, 1) := by decide +kernel
theorem dX7_passAll_137 : decode cX7_passAll 137 = .ok (.aload_n 0, 1) := by decide +kernel
theorem dX7_passAll_138 : decode cX7_passAll 138 = .ok (.getfield 52, 3) := by decide +kernel
theorem dX7_passAll_141 : decode cX7_passAll 141 = .ok (.aload_n 1, 1) := by decide +kernel
theorem dX7_passAll_142 : decode cX7_passAll 142 = .ok (.invokevirtual 318, 3) := by decide +kernel
theorem dX7_passAll_145 : decode cX7_passAll 145 = .ok (.aload_n 0, 1) := by decide +kernel
theorem dX7_passAll_146 : decode cX7_passAll 146 = .ok (.aload_n 0, 1) := by decide +kernel
theorem dX7_passAll_147 : decode cX7_passAll 147 = .ok (.getfield 55, 3) := by decide +kernel
theorem dX7_passAll_150 : decode cX7_passAll 150 = .ok (.aload_n 1, 1) := by decide +kernel
theorem dX7_passAll_151 : decode cX7_passAll 151 = .ok (.invokevirtual 318, 3) := by decide +kernel
theorem dX7_passAll_154 : decode cX7_passAll 154 = .ok (.aload_n 0, 1) := by decide +kernel
theorem dX7_passAll_155 : decode cX7_passAll 155 = .ok (.aload_n 0, 1) := by decide +kernel
theorem dX7_passAll_156 : decode cX7_passAll 156 = .ok (.aload_n 0, 1) := by decide +kernel
theorem dX7_passAll_157 : decode cX7_passAll 157 = .ok (.getfield 84, 3) := by decide +kernel
theorem dX7_passAll_160 : decode cX7_passAll 160 = .ok (.aload_n 1, 1) := by decide +kernel
theorem dX7_passAll_161 : decode cX7_passAll 161 = .ok (.invokevirtual 322, 3) := by decide +kernel
theorem dX7_passAll_164 : decode cX7_passAll 164 = .ok (.putfield 84, 3) := by decide +kernel
theorem dX7_passAll_167 : decode cX7_passAll 167 = .ok (.aload_n 0, 1) := by decide +kernel
theorem dX7_passAll_168 : decode cX7_passAll 168 = .ok (.aload_n 0, 1) := by decide +kernel
theorem dX7_passAll_169 : decode cX7_passAll 169 = .ok (.aload_n 0, 1) := by decide +kernel
theorem dX7_passAll_170 : decode cX7_passAll 170 = .ok (.getfield 152, 3) := by decide +kernel
theorem dX7_passAll_173 : decode cX7_passAll 173 = .ok (.aload_n 1, 1) := by decide +kernel
theorem dX7_passAll_174 : decode cX7_passAll 174 = .ok (.invokevirtual 322, 3) := by decide +kernel
theorem dX7_passAll_177 : decode cX7_passAll 177 = .ok (.putfield 152, 3) := by decide +kernel
theorem dX7_passAll_180 : decode cX7_passAll 180 = .ok (.aload_n 0, 1) := by decide +kernel
theorem dX7_passAll_181 : decode cX7_passAll 181 = .ok (.aload_n 0, 1) := by decide +kernel
theorem dX7_passAll_182 : decode cX7_passAll 182 = .ok (.aload_n 0, 1) := by decide +kernel
theorem dX7_passAll_183 : decode cX7_passAll 183 = .ok (.getfield 91, 3) := by decide +kernel
theorem dX7_passAll_186 : decode cX7_passAll 186 = .ok (.aload_n 1, 1) := by decide +kernel
theorem dX7_passAll_187 : decode cX7_passAll 187 = .ok (.invokevirtual 322, 3) := by decide +kernel
theorem dX7_passAll_190 : decode cX7_passAll 190 = .ok (.putfield 91, 3) := by decide +kernel
theorem dX7_passAll_193 : decode cX7_passAll 193 = .ok (.aload_n 0, 1) := by decide +kernel
theorem dX7_passAll_194 : decode cX7_passAll 194 = .ok (.aload_n 0, 1) := by decide +kernel
theorem dX7_passAll_195 : decode cX7_passAll 195 = .ok (.aload_n 0, 1) := by decide +kernel
theorem dX7_passAll_196 : decode cX7_passAll 196 = .ok (.getfield 159, 3) := by decide +kernel
theorem dX7_passAll_199 : decode cX7_passAll 199 = .ok (.aload_n 1, 1) := by decide +kernel
theorem dX7_passAll_200 : decode cX7_passAll 200 = .ok (.invokevirtual 322, 3) := by decide +kernel
theorem dX7_passAll_203 : decode cX7_passAll 203 = .ok (.putfield 159, 3) := by decide +kernel
theorem dX7_passAll_206 : decode cX7_passAll 206 = .ok (.aload_n 0, 1) := by decide +kernel
theorem dX7_passAll_207 : decode cX7_passAll 207 = .ok (.aload_n 0, 1) := by decide +kernel
theorem dX7_passAll_208 : decode cX7_passAll 208 = .ok (.aload_n 0, 1) := by decide +kernel
theorem dX7_passAll_209 : decode cX7_passAll 209 = .ok (.getfield 162, 3) := by decide +kernel
theorem dX7_passAll_212 : decode cX7_passAll 212 = .ok (.aload_n 1, 1) := by decide +kernel
theorem dX7_passAll_213 : decode cX7_passAll 213 = .ok (.invokevirtual 322, 3) := by decide +kernel
theorem dX7_passAll_216 : decode cX7_passAll 216 = .ok (.putfield 162, 3) := by decide +kernel
theorem dX7_passAll_219 : decode cX7_passAll 219 = .ok (.return_, 1) := by decide +kernel
theorem dX7_makesRoom_0 : decode cX7_makesRoom 0 = .ok (.aload_n 0, 1) := by decide +kernel
theorem dX7_makesRoom_1 : decode cX7_makesRoom 1 = .ok (.getfield 165, 3) := by decide +kernel
theorem dX7_makesRoom_4 : decode cX7_makesRoom 4 = .ok (.bipush 6, 2) := by decide +kernel
theorem dX7_makesRoom_6 : decode cX7_makesRoom 6 = .ok (.if_icmp .ge 4, 3) := by decide +kernel
theorem dX7_makesRoom_9 : decode cX7_makesRoom 9 = .ok (.return_, 1) := by decide +kernel
theorem dX7_makesRoom_10 : decode cX7_makesRoom 10 = .ok (.iconst 0, 1) := by decide +kernel
theorem dX7_makesRoom_11 : decode cX7_makesRoom 11 = .ok (.istore_n 1, 1) := by decide +kernel
theorem dX7_makesRoom_12 : decode cX7_makesRoom 12 = .ok (.iload_n 1, 1) := by decide +kernel
theorem dX7_makesRoom_13 : decode cX7_makesRoom 13 = .ok (.sipush 7845, 3) := by decide +kernel
theorem dX7_makesRoom_16 : decode cX7_makesRoom 16 = .ok (.if_icmp .ge 25, 3) := by decide +kernel
theorem dX7_makesRoom_19 : decode cX7_makesRoom 19 = .ok (.aload_n 0, 1) := by decide +kernel
theorem dX7_makesRoom_20 : decode cX7_makesRoom 20 = .ok (.getfield 72, 3) := by decide +kernel
theorem dX7_makesRoom_23 : decode cX7_makesRoom 23 = .ok (.iload_n 1, 1) := by decide +kernel
theorem dX7_makesRoom_24 : decode cX7_makesRoom 24 = .ok (.aload_n 0, 1) := by decide +kernel
theorem dX7_makesRoom_25 : decode cX7_makesRoom 25 = .ok (.getfield 72, 3) := by decide +kernel
theorem dX7_makesRoom_28 : decode cX7_makesRoom 28 = .ok (.iload_n 1, 1) := by decide +kernel
theorem dX7_makesRoom_29 : decode cX7_makesRoom 29 = .ok (.sipush 1569, 3) := by decide +kernel
theorem dX7_makesRoom_32 : decode cX7_makesRoom 32 = .ok (.iadd, 1) := by decide +kernel
theorem dX7_makesRoom_33 : decode cX7_makesRoom 33 = .ok (.iaload, 1) := by decide +kernel
theorem dX7_makesRoom_34 : decode cX7_makesRoom 34 = .ok (.iastore, 1) := by decide +kernel
theorem dX7_makesRoom_35 : decode cX7_makesRoom 35 = .ok (.iinc 1 1, 3) := by decide +kernel
theorem dX7_makesRoom_38 : decode cX7_makesRoom 38 = .ok (.goto (-26), 3) := by decide +kernel
theorem dX7_makesRoom_41 : decode cX7_makesRoom 41 = .ok (.aload_n 0, 1) := by decide +kernel
theorem dX7_makesRoom_42 : decode cX7_makesRoom 42 = .ok (.dup, 1) := by decide +kernel
theorem dX7_makesRoom_43 : decode cX7_makesRoom 43 = .ok (.getfield 165, 3) := by decide +kernel
theorem dX7_makesRoom_46 : decode cX7_makesRoom 46 = .ok (.iconst 1, 1) := by decide +kernel
theorem dX7_makesRoom_47 : decode cX7_makesRoom 47 = .ok (.isub, 1) := by decide +kernel
theorem dX7_makesRoom_48 : decode cX7_makesRoom 48 = .ok (.putfield 165, 3) := by decide +kernel
theorem dX7_makesRoom_51 : decode cX7_makesRoom 51 = .ok (.return_, 1) := by decide +kernel
theorem dX7_remembers_0 : decode cX7_remembers 0 = .ok (.aload_n 0, 1) := by decide +kernel
theorem dX7_remembers_1 : decode cX7_remembers 1 = .ok (.getfield 302, 3) := by decide +kernel
theorem dX7_remembers_4 : decode cX7_remembers 4 = .ok (.ifCond .eq 4, 3) := by decide +kernel
theorem dX7_remembers_7 : decode cX7_remembers 7 = .ok (.return_, 1) := by decide +kernel
theorem dX7_remembers_8 : decode cX7_remembers 8 = .ok (.aload_n 0, 1) := by decide +kernel
theorem dX7_remembers_9 : decode cX7_remembers 9 = .ok (.invokevirtual 309, 3) := by decide +kernel
theorem dX7_remembers_12 : decode cX7_remembers 12 = .ok (.aload_n 0, 1) := by decide +kernel
theorem dX7_remembers_13 : decode cX7_remembers 13 = .ok (.aload_n 0, 1) := by decide +kernel
theorem dX7_remembers_14 : decode cX7_remembers 14 = .ok (.getfield 72, 3) := by decide +kernel
theorem dX7_remembers_17 : decode cX7_remembers 17 = .ok (.sipush 1569, 3) := by decide +kernel
theorem dX7_remembers_20 : decode cX7_remembers 20 = .ok (.aload_n 0, 1) := by decide +kernel
theorem dX7_remembers_21 : decode cX7_remembers 21 = .ok (.getfield 165, 3) := by decide +kernel
theorem dX7_remembers_24 : decode cX7_remembers 24 = .ok (.imul, 1) := by decide +kernel
theorem dX7_remembers_25 : decode cX7_remembers 25 = .ok (.iconst 1, 1) := by decide +kernel
theorem dX7_remembers_26 : decode cX7_remembers 26 = .ok (.invokevirtual 298, 3) := by decide +kernel
theorem dX7_remembers_29 : decode cX7_remembers 29 = .ok (.aload_n 0, 1) := by decide +kernel
theorem dX7_remembers_30 : decode cX7_remembers 30 = .ok (.dup, 1) := by decide +kernel
theorem dX7_remembers_31 : decode cX7_remembers 31 = .ok (.getfield 165, 3) := by decide +kernel
theorem dX7_remembers_34 : decode cX7_remembers 34 = .ok (.iconst 1, 1) := by decide +kernel
theorem dX7_remembers_35 : decode cX7_remembers 35 = .ok (.iadd, 1) := by decide +kernel
theorem dX7_remembers_36 : decode cX7_remembers 36 = .ok (.putfield 165, 3) := by decide +kernel
theorem dX7_remembers_39 : decode cX7_remembers 39 = .ok (.return_, 1) := by decide +kernel
theorem dX7_undo_0 : decode cX7_undo 0 = .ok (.aload_n 0, 1) := by decide +kernel
theorem dX7_undo_1 : decode cX7_undo 1 = .ok (.getfield 165, 3) := by decide +kernel
theorem dX7_undo_4 : decode cX7_undo 4 = .ok (.ifCond .ne 9, 3) := by decide +kernel
theorem dX7_undo_7 : decode cX7_undo 7 = .ok (.aload_n 0, 1) := by decide +kernel
theorem dX7_undo_8 : decode cX7_undo 8 = .ok (.iconst 1, 1) := by decide +kernel
theorem dX7_undo_9 : decode cX7_undo 9 = .ok (.invokevirtual 168, 3) := by decide +kernel
theorem dX7_undo_12 : decode cX7_undo 12 = .ok (.ireturn, 1) := by decide +kernel
theorem dX7_undo_13 : decode cX7_undo 13 = .ok (.aload_n 0, 1) := by decide +kernel
theorem dX7_undo_14 : decode cX7_undo 14 = .ok (.iconst 0, 1) := by decide +kernel
theorem dX7_undo_15 : decode cX7_undo 15 = .ok (.putfield 81, 3) := by decide +kernel
theorem dX7_undo_18 : decode cX7_undo 18 = .ok (.aload_n 0, 1) := by decide +kernel
theorem dX7_undo_19 : decode cX7_undo 19 = .ok (.dup, 1) := by decide +kernel
theorem dX7_undo_20 : decode cX7_undo 20 = .ok (.getfield 165, 3) := by decide +kernel
theorem dX7_undo_23 : decode cX7_undo 23 = .ok (.iconst 1, 1) := by decide +kernel
theorem dX7_undo_24 : decode cX7_undo 24 = .ok (.isub, 1) := by decide +kernel
theorem dX7_undo_25 : decode cX7_undo 25 = .ok (.putfield 165, 3) := by decide +kernel
theorem dX7_undo_28 : decode cX7_undo 28 = .ok (.aload_n 0, 1) := by decide +kernel
theorem dX7_undo_29 : decode cX7_undo 29 = .ok (.aload_n 0, 1) := by decide +kernel
theorem dX7_undo_30 : decode cX7_undo 30 = .ok (.getfield 72, 3) := by decide +kernel
theorem dX7_undo_33 : decode cX7_undo 33 = .ok (.sipush 1569, 3) := by decide +kernel
theorem dX7_undo_36 : decode cX7_undo 36 = .ok (.aload_n 0, 1) := by decide +kernel
theorem dX7_undo_37 : decode cX7_undo 37 = .ok (.getfield 165, 3) := by decide +kernel
theorem dX7_undo_40 : decode cX7_undo 40 = .ok (.imul, 1) := by decide +kernel
theorem dX7_undo_41 : decode cX7_undo 41 = .ok (.iconst 0, 1) := by decide +kernel
theorem dX7_undo_42 : decode cX7_undo 42 = .ok (.invokevirtual 298, 3) := by decide +kernel
theorem dX7_undo_45 : decode cX7_undo 45 = .ok (.aload_n 0, 1) := by decide +kernel
theorem dX7_undo_46 : decode cX7_undo 46 = .ok (.getfield 165, 3) := by decide +kernel
theorem dX7_undo_49 : decode cX7_undo 49 = .ok (.ireturn, 1) := by decide +kernel
theorem dX7_save_0 : decode cX7_save 0 = .ok (.aload_n 0, 1) := by decide +kernel
theorem dX7_save_1 : decode cX7_save 1 = .ok (.iconst 0, 1) := by decide +kernel
theorem dX7_save_2 : decode cX7_save 2 = .ok (.putfield 81, 3) := by decide +kernel
theorem dX7_save_5 : decode cX7_save 5 = .ok (.aload_n 0, 1) := by decide +kernel
theorem dX7_save_6 : decode cX7_save 6 = .ok (.iconst 1, 1) := by decide +kernel
theorem dX7_save_7 : decode cX7_save 7 = .ok (.putfield 326, 3) := by decide +kernel
theorem dX7_save_10 : decode cX7_save 10 = .ok (.aload_n 0, 1) := by decide +kernel
theorem dX7_save_11 : decode cX7_save 11 = .ok (.aload_n 0, 1) := by decide +kernel
theorem dX7_save_12 : decode cX7_save 12 = .ok (.getfield 75, 3) := by decide +kernel
theorem dX7_save_15 : decode cX7_save 15 = .ok (.iconst 0, 1) := by decide +kernel
theorem dX7_save_16 : decode cX7_save 16 = .ok (.iconst 1, 1) := by decide +kernel
theorem dX7_save_17 : decode cX7_save 17 = .ok (.invokevirtual 298, 3) := by decide +kernel
theorem dX7_save_20 : decode cX7_save 20 = .ok (.aload_n 0, 1) := by decide +kernel
theorem dX7_save_21 : decode cX7_save 21 = .ok (.getfield 91, 3) := by decide +kernel
theorem dX7_save_24 : decode cX7_save 24 = .ok (.ireturn, 1) := by decide +kernel
theorem dX7_restore_0 : decode cX7_restore 0 = .ok (.aload_n 0, 1) := by decide +kernel
theorem dX7_restore_1 : decode cX7_restore 1 = .ok (.getfield 326, 3) := by decide +kernel
theorem dX7_restore_4 : decode cX7_restore 4 = .ok (.ifCond .ne 9, 3) := by decide +kernel
theorem dX7_restore_7 : decode cX7_restore 7 = .ok (.aload_n 0, 1) := by decide +kernel
theorem dX7_restore_8 : decode cX7_restore 8 = .ok (.iconst 1, 1) := by decide +kernel
theorem dX7_restore_9 : decode cX7_restore 9 = .ok (.invokevirtual 168, 3) := by decide +kernel
theorem dX7_restore_12 : decode cX7_restore 12 = .ok (.ireturn, 1) := by decide +kernel
theorem dX7_restore_13 : decode cX7_restore 13 = .ok (.aload_n 0, 1) := by decide +kernel
theorem dX7_restore_14 : decode cX7_restore 14 = .ok (.iconst 0, 1) := by decide +kernel
theorem dX7_restore_15 : decode cX7_restore 15 = .ok (.putfield 81, 3) := by decide +kernel
theorem dX7_restore_18 : decode cX7_restore 18 = .ok (.aload_n 0, 1) := by decide +kernel
theorem dX7_restore_19 : decode cX7_restore 19 = .ok (.aload_n 0, 1) := by decide +kernel
theorem dX7_restore_20 : decode cX7_restore 20 = .ok (.getfield 75, 3) := by decide +kernel
theorem dX7_restore_23 : decode cX7_restore 23 = .ok (.iconst 0, 1) := by decide +kernel
theorem dX7_restore_24 : decode cX7_restore 24 = .ok (.iconst 0, 1) := by decide +kernel
theorem dX7_restore_25 : decode cX7_restore 25 = .ok (.invokevirtual 298, 3) := by decide +kernel
theorem dX7_restore_28 : decode cX7_restore 28 = .ok (.aload_n 0, 1) := by decide +kernel
theorem dX7_restore_29 : decode cX7_restore 29 = .ok (.iconst 0, 1) := by decide +kernel
theorem dX7_restore_30 : decode cX7_restore 30 = .ok (.putfield 165, 3) := by decide +kernel
theorem dX7_restore_33 : decode cX7_restore 33 = .ok (.aload_n 0, 1) := by decide +kernel
theorem dX7_restore_34 : decode cX7_restore 34 = .ok (.getfield 91, 3) := by decide +kernel
theorem dX7_restore_37 : decode cX7_restore 37 = .ok (.ireturn, 1) := by decide +kernel
theorem dJx00060_init_a7421_0 : decode cJx00060_init_a7421 0 = .ok (.aload_n 0, 1) := by decide +kernel
theorem dJx00060_init_a7421_1 : decode cJx00060_init_a7421 1 = .ok (.aload_n 1, 1) := by decide +kernel
theorem dJx00060_init_a7421_2 : decode cJx00060_init_a7421 2 = .ok (.invokespecial 7, 3) := by decide +kernel
theorem dJx00060_init_a7421_5 : decode cJx00060_init_a7421 5 = .ok (.return_, 1) := by decide +kernel
theorem dJ6_bitCount_0f7a4_0 : decode cJ6_bitCount_0f7a4 0 = .ok (.iload_n 0, 1) := by decide +kernel
theorem dJ6_bitCount_0f7a4_1 : decode cJ6_bitCount_0f7a4 1 = .ok (.iload_n 0, 1) := by decide +kernel
theorem dJ6_bitCount_0f7a4_2 : decode cJ6_bitCount_0f7a4 2 = .ok (.iconst 1, 1) := by decide +kernel
theorem dJ6_bitCount_0f7a4_3 : decode cJ6_bitCount_0f7a4 3 = .ok (.iushr, 1) := by decide +kernel
theorem dJ6_bitCount_0f7a4_4 : decode cJ6_bitCount_0f7a4 4 = .ok (.ldc_w 265, 3) := by decide +kernel
theorem dJ6_bitCount_0f7a4_7 : decode cJ6_bitCount_0f7a4 7 = .ok (.iand, 1) := by decide +kernel
theorem dJ6_bitCount_0f7a4_8 : decode cJ6_bitCount_0f7a4 8 = .ok (.isub, 1) := by decide +kernel
theorem dJ6_bitCount_0f7a4_9 : decode cJ6_bitCount_0f7a4 9 = .ok (.istore_n 0, 1) := by decide +kernel
theorem dJ6_bitCount_0f7a4_10 : decode cJ6_bitCount_0f7a4 10 = .ok (.iload_n 0, 1) := by decide +kernel
theorem dJ6_bitCount_0f7a4_11 : decode cJ6_bitCount_0f7a4 11 = .ok (.ldc_w 266, 3) := by decide +kernel
theorem dJ6_bitCount_0f7a4_14 : decode cJ6_bitCount_0f7a4 14 = .ok (.iand, 1) := by decide +kernel
theorem dJ6_bitCount_0f7a4_15 : decode cJ6_bitCount_0f7a4 15 = .ok (.iload_n 0, 1) := by decide +kernel
theorem dJ6_bitCount_0f7a4_16 : decode cJ6_bitCount_0f7a4 16 = .ok (.iconst 2, 1) := by decide +kernel
theorem dJ6_bitCount_0f7a4_17 : decode cJ6_bitCount_0f7a4 17 = .ok (.iushr, 1) := by decide +kernel
theorem dJ6_bitCount_0f7a4_18 : decode cJ6_bitCount_0f7a4 18 = .ok (.ldc_w 266, 3) := by decide +kernel
theorem dJ6_bitCount_0f7a4_21 : decode cJ6_bitCount_0f7a4 21 = .ok (.iand, 1) := by decide +kernel
theorem dJ6_bitCount_0f7a4_22 : decode cJ6_bitCount_0f7a4 22 = .ok (.iadd, 1) := by decide +kernel
theorem dJ6_bitCount_0f7a4_23 : decode cJ6_bitCount_0f7a4 23 = .ok (.istore_n 0, 1) := by decide +kernel
theorem dJ6_bitCount_0f7a4_24 : decode cJ6_bitCount_0f7a4 24 = .ok (.iload_n 0, 1) := by decide +kernel
theorem dJ6_bitCount_0f7a4_25 : decode cJ6_bitCount_0f7a4 25 = .ok (.iload_n 0, 1) := by decide +kernel
theorem dJ6_bitCount_0f7a4_26 : decode cJ6_bitCount_0f7a4 26 = .ok (.iconst 4, 1) := by decide +kernel
theorem dJ6_bitCount_0f7a4_27 : decode cJ6_bitCount_0f7a4 27 = .ok (.iushr, 1) := by decide +kernel
theorem dJ6_bitCount_0f7a4_28 : decode cJ6_bitCount_0f7a4 28 = .ok (.iadd, 1) := by decide +kernel
theorem dJ6_bitCount_0f7a4_29 : decode cJ6_bitCount_0f7a4 29 = .ok (.ldc_w 267, 3) := by decide +kernel
theorem dJ6_bitCount_0f7a4_32 : decode cJ6_bitCount_0f7a4 32 = .ok (.iand, 1) := by decide +kernel
theorem dJ6_bitCount_0f7a4_33 : decode cJ6_bitCount_0f7a4 33 = .ok (.istore_n 0, 1) := by decide +kernel
theorem dJ6_bitCount_0f7a4_34 : decode cJ6_bitCount_0f7a4 34 = .ok (.iload_n 0, 1) := by decide +kernel
theorem dJ6_bitCount_0f7a4_35 : decode cJ6_bitCount_0f7a4 35 = .ok (.iload_n 0, 1) := by decide +kernel
theorem dJ6_bitCount_0f7a4_36 : decode cJ6_bitCount_0f7a4 36 = .ok (.bipush 8, 2) := by decide +kernel
theorem dJ6_bitCount_0f7a4_38 : decode cJ6_bitCount_0f7a4 38 = .ok (.iushr, 1) := by decide +kernel
theorem dJ6_bitCount_0f7a4_39 : decode cJ6_bitCount_0f7a4 39 = .ok (.iadd, 1) := by decide +kernel
theorem dJ6_bitCount_0f7a4_40 : decode cJ6_bitCount_0f7a4 40 = .ok (.istore_n 0, 1) := by decide +kernel
theorem dJ6_bitCount_0f7a4_41 : decode cJ6_bitCount_0f7a4 41 = .ok (.iload_n 0, 1) := by decide +kernel
theorem dJ6_bitCount_0f7a4_42 : decode cJ6_bitCount_0f7a4 42 = .ok (.iload_n 0, 1) := by decide +kernel
theorem dJ6_bitCount_0f7a4_43 : decode cJ6_bitCount_0f7a4 43 = .ok (.bipush 16, 2) := by decide +kernel
theorem dJ6_bitCount_0f7a4_45 : decode cJ6_bitCount_0f7a4 45 = .ok (.iushr, 1) := by decide +kernel
theorem dJ6_bitCount_0f7a4_46 : decode cJ6_bitCount_0f7a4 46 = .ok (.iadd, 1) := by decide +kernel
theorem dJ6_bitCount_0f7a4_47 : decode cJ6_bitCount_0f7a4 47 = .ok (.istore_n 0, 1) := by decide +kernel
theorem dJ6_bitCount_0f7a4_48 : decode cJ6_bitCount_0f7a4 48 = .ok (.iload_n 0, 1) := by decide +kernel
theorem dJ6_bitCount_0f7a4_49 : decode cJ6_bitCount_0f7a4 49 = .ok (.bipush 63, 2) := by decide +kernel
theorem dJ6_bitCount_0f7a4_51 : decode cJ6_bitCount_0f7a4 51 = .ok (.iand, 1) := by decide +kernel
theorem dJ6_bitCount_0f7a4_52 : decode cJ6_bitCount_0f7a4 52 = .ok (.ireturn, 1) := by decide +kernel
theorem dJ9_max_7cf53_0 : decode cJ9_max_7cf53 0 = .ok (.iload_n 0, 1) := by decide +kernel
theorem dJ9_max_7cf53_1 : decode cJ9_max_7cf53 1 = .ok (.iload_n 1, 1) := by decide +kernel
theorem dJ9_max_7cf53_2 : decode cJ9_max_7cf53 2 = .ok (.if_icmp .lt 7, 3) := by decide +kernel
theorem dJ9_max_7cf53_5 : decode cJ9_max_7cf53 5 = .ok (.iload_n 0, 1) := by decide +kernel
theorem dJ9_max_7cf53_6 : decode cJ9_max_7cf53 6 = .ok (.goto 4, 3) := by decide +kernel
theorem dJ9_max_7cf53_9 : decode cJ9_max_7cf53 9 = .ok (.iload_n 1, 1) := by decide +kernel
theorem dJ9_max_7cf53_10 : decode cJ9_max_7cf53 10 = .ok (.ireturn, 1) := by decide +kernel
theorem dJ9_min_7cf53_0 : decode cJ9_min_7cf53 0 = .ok (.iload_n 0, 1) := by decide +kernel
theorem dJ9_min_7cf53_1 : decode cJ9_min_7cf53 1 = .ok (.iload_n 1, 1) := by decide +kernel
theorem dJ9_min_7cf53_2 : decode cJ9_min_7cf53 2 = .ok (.if_icmp .gt 7, 3) := by decide +kernel
theorem dJ9_min_7cf53_5 : decode cJ9_min_7cf53 5 = .ok (.iload_n 0, 1) := by decide +kernel
theorem dJ9_min_7cf53_6 : decode cJ9_min_7cf53 6 = .ok (.goto 4, 3) := by decide +kernel
theorem dJ9_min_7cf53_9 : decode cJ9_min_7cf53 9 = .ok (.iload_n 1, 1) := by decide +kernel
theorem dJ9_min_7cf53_10 : decode cJ9_min_7cf53 10 = .ok (.ireturn, 1) := by decide +kernel
theorem dJ0_length_8abf5_0 : decode cJ0_length_8abf5 0 = .ok (.aload_n 0, 1) := by decide +kernel
theorem dJ0_length_8abf5_1 : decode cJ0_length_8abf5 1 = .ok (.getfield 9, 3) := by decide +kernel
theorem dJ0_length_8abf5_4 : decode cJ0_length_8abf5 4 = .ok (.arraylength, 1) := by decide +kernel
theorem dJ0_length_8abf5_5 : decode cJ0_length_8abf5 5 = .ok (.aload_n 0, 1) := by decide +kernel
theorem dJ0_length_8abf5_6 : decode cJ0_length_8abf5 6 = .ok (.invokevirtual 335, 3) := by decide +kernel
theorem dJ0_length_8abf5_9 : decode cJ0_length_8abf5 9 = .ok (.ishr, 1) := by decide +kernel
theorem dJ0_length_8abf5_10 : decode cJ0_length_8abf5 10 = .ok (.ireturn, 1) := by decide +kernel
theorem dJ0_isEmpty_aae02_0 : decode cJ0_isEmpty_aae02 0 = .ok (.aload_n 0, 1) := by decide +kernel
theorem dJ0_isEmpty_aae02_1 : decode cJ0_isEmpty_aae02 1 = .ok (.getfield 9, 3) := by decide +kernel
theorem dJ0_isEmpty_aae02_4 : decode cJ0_isEmpty_aae02 4 = .ok (.arraylength, 1) := by decide +kernel
theorem dJ0_isEmpty_aae02_5 : decode cJ0_isEmpty_aae02 5 = .ok (.ifCond .ne 7, 3) := by decide +kernel
theorem dJ0_isEmpty_aae02_8 : decode cJ0_isEmpty_aae02 8 = .ok (.iconst 1, 1) := by decide +kernel
theorem dJ0_isEmpty_aae02_9 : decode cJ0_isEmpty_aae02 9 = .ok (.goto 4, 3) := by decide +kernel
theorem dJ0_isEmpty_aae02_12 : decode cJ0_isEmpty_aae02 12 = .ok (.iconst 0, 1) := by decide +kernel
theorem dJ0_isEmpty_aae02_13 : decode cJ0_isEmpty_aae02 13 = .ok (.ireturn, 1) := by decide +kernel
theorem dJ0_charAt_5068e_0 : decode cJ0_charAt_5068e 0 = .ok (.aload_n 0, 1) := by decide +kernel
theorem dJ0_charAt_5068e_1 : decode cJ0_charAt_5068e 1 = .ok (.invokevirtual 492, 3) := by decide +kernel
theorem dJ0_charAt_5068e_4 : decode cJ0_charAt_5068e 4 = .ok (.ifCond .eq 12, 3) := by decide +kernel
theorem dJ0_charAt_5068e_7 : decode cJ0_charAt_5068e 7 = .ok (.aload_n 0, 1) := by decide +kernel
theorem dJ0_charAt_5068e_8 : decode cJ0_charAt_5068e 8 = .ok (.getfield 9, 3) := by decide +kernel
theorem dJ0_charAt_5068e_11 : decode cJ0_charAt_5068e 11 = .ok (.iload_n 1, 1) := by decide +kernel
theorem dJ0_charAt_5068e_12 : decode cJ0_charAt_5068e 12 = .ok (.invokestatic 495, 3) := by decide +kernel
theorem dJ0_charAt_5068e_15 : decode cJ0_charAt_5068e 15 = .ok (.ireturn, 1) := by decide +kernel
theorem dJ0_charAt_5068e_16 : decode cJ0_charAt_5068e 16 = .ok (.aload_n 0, 1) := by decide +kernel
theorem dJ0_charAt_5068e_17 : decode cJ0_charAt_5068e 17 = .ok (.getfield 9, 3) := by decide +kernel
theorem dJ0_charAt_5068e_20 : decode cJ0_charAt_5068e 20 = .ok (.iload_n 1, 1) := by decide +kernel
theorem dJ0_charAt_5068e_21 : decode cJ0_charAt_5068e 21 = .ok (.invokestatic 498, 3) := by decide +kernel
theorem dJ0_charAt_5068e_24 : decode cJ0_charAt_5068e 24 = .ok (.ireturn, 1) := by decide +kernel
theorem dJ0_coder_7d493_0 : decode cJ0_coder_7d493 0 = .ok (.getstatic 38, 3) := by decide +kernel
theorem dJ0_coder_7d493_3 : decode cJ0_coder_7d493 3 = .ok (.ifCond .eq 10, 3) := by decide +kernel
theorem dJ0_coder_7d493_6 : decode cJ0_coder_7d493 6 = .ok (.aload_n 0, 1) := by decide +kernel
theorem dJ0_coder_7d493_7 : decode cJ0_coder_7d493 7 = .ok (.getfield 15, 3) := by decide +kernel
theorem dJ0_coder_7d493_10 : decode cJ0_coder_7d493 10 = .ok (.goto 4, 3) := by decide +kernel
theorem dJ0_coder_7d493_13 : decode cJ0_coder_7d493 13 = .ok (.iconst 1, 1) := by decide +kernel
theorem dJ0_coder_7d493_14 : decode cJ0_coder_7d493 14 = .ok (.ireturn, 1) := by decide +kernel
theorem dJ0_isLatin1_aae02_0 : decode cJ0_isLatin1_aae02 0 = .ok (.getstatic 38, 3) := by decide +kernel
theorem dJ0_isLatin1_aae02_3 : decode cJ0_isLatin1_aae02 3 = .ok (.ifCond .eq 14, 3) := by decide +kernel
theorem dJ0_isLatin1_aae02_6 : decode cJ0_isLatin1_aae02 6 = .ok (.aload_n 0, 1) := by decide +kernel
theorem dJ0_isLatin1_aae02_7 : decode cJ0_isLatin1_aae02 7 = .ok (.getfield 15, 3) := by decide +kernel
theorem dJ0_isLatin1_aae02_10 : decode cJ0_isLatin1_aae02 10 = .ok (.ifCond .ne 7, 3) := by decide +kernel
theorem dJ0_isLatin1_aae02_13 : decode cJ0_isLatin1_aae02 13 = .ok (.iconst 1, 1) := by decide +kernel
theorem dJ0_isLatin1_aae02_14 : decode cJ0_isLatin1_aae02 14 = .ok (.goto 4, 3) := by decide +kernel
theorem dJ0_isLatin1_aae02_17 : decode cJ0_isLatin1_aae02 17 = .ok (.iconst 0, 1) := by decide +kernel
theorem dJ0_isLatin1_aae02_18 : decode cJ0_isLatin1_aae02 18 = .ok (.ireturn, 1) := by decide +kernel
theorem dJ0_checkIndex_df160_0 : decode cJ0_checkIndex_df160 0 = .ok (.iload_n 0, 1) := by decide +kernel
theorem dJ0_checkIndex_df160_1 : decode cJ0_checkIndex_df160 1 = .ok (.iload_n 1, 1) := by decide +kernel
theorem dJ0_checkIndex_df160_2 : decode cJ0_checkIndex_df160 2 = .ok (.getstatic 1053, 3) := by decide +kernel
theorem dJ0_checkIndex_df160_5 : decode cJ0_checkIndex_df160 5 = .ok (.invokestatic 1059, 3) := by decide +kernel
theorem dJ0_checkIndex_df160_8 : decode cJ0_checkIndex_df160 8 = .ok (.pop, 1) := by decide +kernel
theorem dJ0_checkIndex_df160_9 : decode cJ0_checkIndex_df160 9 = .ok (.return_, 1) := by decide +kernel
theorem dJ1_charAt_3b067_0 : decode cJ1_charAt_3b067 0 = .ok (.iload_n 1, 1) := by decide +kernel
theorem dJ1_charAt_3b067_1 : decode cJ1_charAt_3b067 1 = .ok (.aload_n 0, 1) := by decide +kernel
theorem dJ1_charAt_3b067_2 : decode cJ1_charAt_3b067 2 = .ok (.arraylength, 1) := by decide +kernel
theorem dJ1_charAt_3b067_3 : decode cJ1_charAt_3b067 3 = .ok (.invokestatic 9, 3) := by decide +kernel
theorem dJ1_charAt_3b067_6 : decode cJ1_charAt_3b067 6 = .ok (.aload_n 0, 1) := by decide +kernel
theorem dJ1_charAt_3b067_7 : decode cJ1_charAt_3b067 7 = .ok (.iload_n 1, 1) := by decide +kernel
theorem dJ1_charAt_3b067_8 : decode cJ1_charAt_3b067 8 = .ok (.baload, 1) := by decide +kernel
theorem dJ1_charAt_3b067_9 : decode cJ1_charAt_3b067 9 = .ok (.sipush 255, 3) := by decide +kernel
theorem dJ1_charAt_3b067_12 : decode cJ1_charAt_3b067 12 = .ok (.iand, 1) := by decide +kernel
theorem dJ1_charAt_3b067_13 : decode cJ1_charAt_3b067 13 = .ok (.i2c, 1) := by decide +kernel
theorem dJ1_charAt_3b067_14 : decode cJ1_charAt_3b067 14 = .ok (.ireturn, 1) := by decide +kernel
theorem dJ2_getChar_3b067_0 : decode cJ2_getChar_3b067 0 = .ok (.getstatic 44, 3) := by decide +kernel
theorem dJ2_getChar_3b067_3 : decode cJ2_getChar_3b067 3 = .ok (.ifCond .ne 25, 3) := by decide +kernel
theorem dJ2_getChar_3b067_6 : decode cJ2_getChar_3b067 6 = .ok (.iload_n 1, 1) := by decide +kernel
theorem dJ2_getChar_3b067_7 : decode cJ2_getChar_3b067 7 = .ok (.ifCond .lt 11, 3) := by decide +kernel
theorem dJ2_getChar_3b067_10 : decode cJ2_getChar_3b067 10 = .ok (.iload_n 1, 1) := by decide +kernel
theorem dJ2_getChar_3b067_11 : decode cJ2_getChar_3b067 11 = .ok (.aload_n 0, 1) := by decide +kernel
theorem dJ2_getChar_3b067_12 : decode cJ2_getChar_3b067 12 = .ok (.invokestatic 48, 3) := by decide +kernel
theorem dJ2_getChar_3b067_15 : decode cJ2_getChar_3b067 15 = .ok (.if_icmp .lt 13, 3) := by decide +kernel
theorem dJ2_getChar_3b067_18 : decode cJ2_getChar_3b067 18 = .ok (.new 52, 3) := by decide +kernel
theorem dJ2_getChar_3b067_21 : decode cJ2_getChar_3b067 21 = .ok (.dup, 1) := by decide +kernel
theorem dJ2_getChar_3b067_22 : decode cJ2_getChar_3b067 22 = .ok (.ldc 54, 2) := by decide +kernel
theorem dJ2_getChar_3b067_24 : decode cJ2_getChar_3b067 24 = .ok (.invokespecial 56, 3) := by decide +kernel
theorem dJ2_getChar_3b067_27 : decode cJ2_getChar_3b067 27 = .ok (.athrow, 1) := by decide +kernel
theorem dJ2_getChar_3b067_28 : decode cJ2_getChar_3b067 28 = .ok (.iload_n 1, 1) := by decide +kernel
theorem dJ2_getChar_3b067_29 : decode cJ2_getChar_3b067 29 = .ok (.iconst 1, 1) := by decide +kernel
theorem dJ2_getChar_3b067_30 : decode cJ2_getChar_3b067 30 = .ok (.ishl, 1) := by decide +kernel
theorem dJ2_getChar_3b067_31 : decode cJ2_getChar_3b067 31 = .ok (.istore_n 1, 1) := by decide +kernel
theorem dJ2_getChar_3b067_32 : decode cJ2_getChar_3b067 32 = .ok (.aload_n 0, 1) := by decide +kernel
theorem dJ2_getChar_3b067_33 : decode cJ2_getChar_3b067 33 = .ok (.iload_n 1, 1) := by decide +kernel
theorem dJ2_getChar_3b067_34 : decode cJ2_getChar_3b067 34 = .ok (.iinc 1 1, 3) := by decide +kernel
theorem dJ2_getChar_3b067_37 : decode cJ2_getChar_3b067 37 = .ok (.baload, 1) := by decide +kernel
theorem dJ2_getChar_3b067_38 : decode cJ2_getChar_3b067 38 = .ok (.sipush 255, 3) := by decide +kernel
theorem dJ2_getChar_3b067_41 : decode cJ2_getChar_3b067 41 = .ok (.iand, 1) := by decide +kernel
theorem dJ2_getChar_3b067_42 : decode cJ2_getChar_3b067 42 = .ok (.getstatic 59, 3) := by decide +kernel
theorem dJ2_getChar_3b067_45 : decode cJ2_getChar_3b067 45 = .ok (.ishl, 1) := by decide +kernel
theorem dJ2_getChar_3b067_46 : decode cJ2_getChar_3b067 46 = .ok (.aload_n 0, 1) := by decide +kernel
theorem dJ2_getChar_3b067_47 : decode cJ2_getChar_3b067 47 = .ok (.iload_n 1, 1) := by decide +kernel
theorem dJ2_getChar_3b067_48 : decode cJ2_getChar_3b067 48 = .ok (.baload, 1) := by decide +kernel
theorem dJ2_getChar_3b067_49 : decode cJ2_getChar_3b067 49 = .ok (.sipush 255, 3) := by decide +kernel
theorem dJ2_getChar_3b067_52 : decode cJ2_getChar_3b067 52 = .ok (.iand, 1) := by decide +kernel
theorem dJ2_getChar_3b067_53 : decode cJ2_getChar_3b067 53 = .ok (.getstatic 63, 3) := by decide +kernel
theorem dJ2_getChar_3b067_56 : decode cJ2_getChar_3b067 56 = .ok (.ishl, 1) := by decide +kernel
theorem dJ2_getChar_3b067_57 : decode cJ2_getChar_3b067 57 = .ok (.ior, 1) := by decide +kernel
theorem dJ2_getChar_3b067_58 : decode cJ2_getChar_3b067 58 = .ok (.i2c, 1) := by decide +kernel
theorem dJ2_getChar_3b067_59 : decode cJ2_getChar_3b067 59 = .ok (.ireturn, 1) := by decide +kernel
theorem dJ2_length_9d52b_0 : decode cJ2_length_9d52b 0 = .ok (.aload_n 0, 1) := by decide +kernel
theorem dJ2_length_9d52b_1 : decode cJ2_length_9d52b 1 = .ok (.arraylength, 1) := by decide +kernel
theorem dJ2_length_9d52b_2 : decode cJ2_length_9d52b 2 = .ok (.iconst 1, 1) := by decide +kernel
theorem dJ2_length_9d52b_3 : decode cJ2_length_9d52b 3 = .ok (.ishr, 1) := by decide +kernel
theorem dJ2_length_9d52b_4 : decode cJ2_length_9d52b 4 = .ok (.ireturn, 1) := by decide +kernel
theorem dJ2_charAt_3b067_0 : decode cJ2_charAt_3b067 0 = .ok (.iload_n 1, 1) := by decide +kernel
theorem dJ2_charAt_3b067_1 : decode cJ2_charAt_3b067 1 = .ok (.aload_n 0, 1) := by decide +kernel
theorem dJ2_charAt_3b067_2 : decode cJ2_charAt_3b067 2 = .ok (.invokestatic 67, 3) := by decide +kernel
theorem dJ2_charAt_3b067_5 : decode cJ2_charAt_3b067 5 = .ok (.aload_n 0, 1) := by decide +kernel
theorem dJ2_charAt_3b067_6 : decode cJ2_charAt_3b067 6 = .ok (.iload_n 1, 1) := by decide +kernel
theorem dJ2_charAt_3b067_7 : decode cJ2_charAt_3b067 7 = .ok (.invokestatic 71, 3) := by decide +kernel
theorem dJ2_charAt_3b067_10 : decode cJ2_charAt_3b067 10 = .ok (.ireturn, 1) := by decide +kernel
theorem dJ2_checkIndex_2214a_0 : decode cJ2_checkIndex_2214a 0 = .ok (.iload_n 0, 1) := by decide +kernel
theorem dJ2_checkIndex_2214a_1 : decode cJ2_checkIndex_2214a 1 = .ok (.aload_n 1, 1) := by decide +kernel
theorem dJ2_checkIndex_2214a_2 : decode cJ2_checkIndex_2214a 2 = .ok (.invokestatic 48, 3) := by decide +kernel
theorem dJ2_checkIndex_2214a_5 : decode cJ2_checkIndex_2214a 5 = .ok (.invokestatic 414, 3) := by decide +kernel
theorem dJ2_checkIndex_2214a_8 : decode cJ2_checkIndex_2214a 8 = .ok (.return_, 1) := by decide +kernel
theorem dJ3_checkIndex_8e157_0 : decode cJ3_checkIndex_8e157 0 = .ok (.iload_n 0, 1) := by decide +kernel
theorem dJ3_checkIndex_8e157_1 : decode cJ3_checkIndex_8e157 1 = .ok (.ifCond .lt 8, 3) := by decide +kernel
theorem dJ3_checkIndex_8e157_4 : decode cJ3_checkIndex_8e157 4 = .ok (.iload_n 0, 1) := by decide +kernel
theorem dJ3_checkIndex_8e157_5 : decode cJ3_checkIndex_8e157 5 = .ok (.iload_n 1, 1) := by decide +kernel
theorem dJ3_checkIndex_8e157_6 : decode cJ3_checkIndex_8e157 6 = .ok (.if_icmp .lt 10, 3) := by decide +kernel
theorem dJ3_checkIndex_8e157_9 : decode cJ3_checkIndex_8e157 9 = .ok (.aload_n 2, 1) := by decide +kernel
theorem dJ3_checkIndex_8e157_10 : decode cJ3_checkIndex_8e157 10 = .ok (.iload_n 0, 1) := by decide +kernel
theorem dJ3_checkIndex_8e157_11 : decode cJ3_checkIndex_8e157 11 = .ok (.iload_n 1, 1) := by decide +kernel
theorem dJ3_checkIndex_8e157_12 : decode cJ3_checkIndex_8e157 12 = .ok (.invokestatic 95, 3) := by decide +kernel
theorem dJ3_checkIndex_8e157_15 : decode cJ3_checkIndex_8e157 15 = .ok (.athrow, 1) := by decide +kernel
theorem dJ3_checkIndex_8e157_16 : decode cJ3_checkIndex_8e157 16 = .ok (.iload_n 0, 1) := by decide +kernel
theorem dJ3_checkIndex_8e157_17 : decode cJ3_checkIndex_8e157 17 = .ok (.ireturn, 1) := by decide +kernel
theorem dL_addPerson_0 : decode cL_addPerson 0 = .ok (.aload 5, 2) := by decide +kernel
theorem dL_addPerson_2 : decode cL_addPerson 2 = .ok (.iconst 0, 1) := by decide +kernel
theorem dL_addPerson_3 : decode cL_addPerson 3 = .ok (.aload_n 0, 1) := by decide +kernel
theorem dL_addPerson_4 : decode cL_addPerson 4 = .ok (.iload_n 1, 1) := by decide +kernel
theorem dL_addPerson_5 : decode cL_addPerson 5 = .ok (.iload_n 2, 1) := by decide +kernel
theorem dL_addPerson_6 : decode cL_addPerson 6 = .ok (.iload_n 3, 1) := by decide +kernel
theorem dL_addPerson_7 : decode cL_addPerson 7 = .ok (.iload 4, 2) := by decide +kernel
theorem dL_addPerson_9 : decode cL_addPerson 9 = .ok (.invokevirtual 7, 3) := by decide +kernel
theorem dL_addPerson_12 : decode cL_addPerson 12 = .ok (.i2l, 1) := by decide +kernel
theorem dL_addPerson_13 : decode cL_addPerson 13 = .ok (.lastore, 1) := by decide +kernel
theorem dL_addPerson_14 : decode cL_addPerson 14 = .ok (.goto 11, 3) := by decide +kernel
theorem dL_addPerson_17 : decode cL_addPerson 17 = .ok (.astore 6, 2) := by decide +kernel
theorem dL_addPerson_19 : decode cL_addPerson 19 = .ok (.iconst 1, 1) := by decide +kernel
theorem dL_addPerson_20 : decode cL_addPerson 20 = .ok (.ireturn, 1) := by decide +kernel
theorem dL_addPerson_21 : decode cL_addPerson 21 = .ok (.astore 6, 2) := by decide +kernel
theorem dL_addPerson_23 : decode cL_addPerson 23 = .ok (.iconst 2, 1) := by decide +kernel
theorem dL_addPerson_24 : decode cL_addPerson 24 = .ok (.ireturn, 1) := by decide +kernel
theorem dL_addPerson_25 : decode cL_addPerson 25 = .ok (.iconst 0, 1) := by decide +kernel
theorem dL_addPerson_26 : decode cL_addPerson 26 = .ok (.ireturn, 1) := by decide +kernel
theorem dL_setConflict_0 : decode cL_setConflict 0 = .ok (.aload 4, 2) := by decide +kernel
theorem dL_setConflict_2 : decode cL_setConflict 2 = .ok (.iconst 0, 1) := by decide +kernel
theorem dL_setConflict_3 : decode cL_setConflict 3 = .ok (.aload_n 0, 1) := by decide +kernel
theorem dL_setConflict_4 : decode cL_setConflict 4 = .ok (.iload_n 1, 1) := by decide +kernel
theorem dL_setConflict_5 : decode cL_setConflict 5 = .ok (.iload_n 2, 1) := by decide +kernel
theorem dL_setConflict_6 : decode cL_setConflict 6 = .ok (.iload_n 3, 1) := by decide +kernel
theorem dL_setConflict_7 : decode cL_setConflict 7 = .ok (.invokevirtual 17, 3) := by decide +kernel
theorem dL_setConflict_10 : decode cL_setConflict 10 = .ok (.ifCond .eq 7, 3) := by decide +kernel
theorem dL_setConflict_13 : decode cL_setConflict 13 = .ok (.lconst 1, 1) := by decide +kernel
theorem dL_setConflict_14 : decode cL_setConflict 14 = .ok (.goto 4, 3) := by decide +kernel
theorem dL_setConflict_17 : decode cL_setConflict 17 = .ok (.lconst 0, 1) := by decide +kernel
theorem dL_setConflict_18 : decode cL_setConflict 18 = .ok (.lastore, 1) := by decide +kernel
theorem dL_setConflict_19 : decode cL_setConflict 19 = .ok (.goto 11, 3) := by decide +kernel
theorem dL_setConflict_22 : decode cL_setConflict 22 = .ok (.astore 5, 2) := by decide +kernel
theorem dL_setConflict_24 : decode cL_setConflict 24 = .ok (.iconst 1, 1) := by decide +kernel
theorem dL_setConflict_25 : decode cL_setConflict 25 = .ok (.ireturn, 1) := by decide +kernel
theorem dL_setConflict_26 : decode cL_setConflict 26 = .ok (.astore 5, 2) := by decide +kernel
theorem dL_setConflict_28 : decode cL_setConflict 28 = .ok (.iconst 2, 1) := by decide +kernel
theorem dL_setConflict_29 : decode cL_setConflict 29 = .ok (.ireturn, 1) := by decide +kernel
theorem dL_setConflict_30 : decode cL_setConflict 30 = .ok (.iconst 0, 1) := by decide +kernel
theorem dL_setConflict_31 : decode cL_setConflict 31 = .ok (.ireturn, 1) := by decide +kernel
theorem dL_setBusy_0 : decode cL_setBusy 0 = .ok (.aload 5, 2) := by decide +kernel
theorem dL_setBusy_2 : decode cL_setBusy 2 = .ok (.iconst 0, 1) := by decide +kernel
theorem dL_setBusy_3 : decode cL_setBusy 3 = .ok (.aload_n 0, 1) := by decide +kernel
theorem dL_setBusy_4 : decode cL_setBusy 4 = .ok (.iload_n 1, 1) := by decide +kernel
theorem dL_setBusy_5 : decode cL_setBusy 5 = .ok (.iload_n 2, 1) := by decide +kernel
theorem dL_setBusy_6 : decode cL_setBusy 6 = .ok (.iload_n 3, 1) := by decide +kernel
theorem dL_setBusy_7 : decode cL_setBusy 7 = .ok (.iload 4, 2) := by decide +kernel
theorem dL_setBusy_9 : decode cL_setBusy 9 = .ok (.invokevirtual 23, 3) := by decide +kernel
theorem dL_setBusy_12 : decode cL_setBusy 12 = .ok (.ifCond .eq 7, 3) := by decide +kernel
theorem dL_setBusy_15 : decode cL_setBusy 15 = .ok (.lconst 1, 1) := by decide +kernel
theorem dL_setBusy_16 : decode cL_setBusy 16 = .ok (.goto 4, 3) := by decide +kernel
theorem dL_setBusy_19 : decode cL_setBusy 19 = .ok (.lconst 0, 1) := by decide +kernel
theorem dL_setBusy_20 : decode cL_setBusy 20 = .ok (.lastore, 1) := by decide +kernel
theorem dL_setBusy_21 : decode cL_setBusy 21 = .ok (.goto 11, 3) := by decide +kernel
theorem dL_setBusy_24 : decode cL_setBusy 24 = .ok (.astore 6, 2) := by decide +kernel
theorem dL_setBusy_26 : decode cL_setBusy 26 = .ok (.iconst 1, 1) := by decide +kernel
theorem dL_setBusy_27 : decode cL_setBusy 27 = .ok (.ireturn, 1) := by decide +kernel
theorem dL_setBusy_28 : decode cL_setBusy 28 = .ok (.astore 6, 2) := by decide +kernel
theorem dL_setBusy_30 : decode cL_setBusy 30 = .ok (.iconst 2, 1) := by decide +kernel
theorem dL_setBusy_31 : decode cL_setBusy 31 = .ok (.ireturn, 1) := by decide +kernel
theorem dL_setBusy_32 : decode cL_setBusy 32 = .ok (.iconst 0, 1) := by decide +kernel
theorem dL_setBusy_33 : decode cL_setBusy 33 = .ok (.ireturn, 1) := by decide +kernel
theorem dL_person_0 : decode cL_person 0 = .ok (.aload_n 3, 1) := by decide +kernel
theorem dL_person_1 : decode cL_person 1 = .ok (.iconst 0, 1) := by decide +kernel
theorem dL_person_2 : decode cL_person 2 = .ok (.aload_n 0, 1) := by decide +kernel
theorem dL_person_3 : decode cL_person 3 = .ok (.iload_n 1, 1) := by decide +kernel
theorem dL_person_4 : decode cL_person 4 = .ok (.iload_n 2, 1) := by decide +kernel
theorem dL_person_5 : decode cL_person 5 = .ok (.invokevirtual 27, 3) := by decide +kernel
theorem dL_person_8 : decode cL_person 8 = .ok (.i2l, 1) := by decide +kernel
theorem dL_person_9 : decode cL_person 9 = .ok (.lastore, 1) := by decide +kernel
theorem dL_person_10 : decode cL_person 10 = .ok (.goto 11, 3) := by decide +kernel
theorem dL_person_13 : decode cL_person 13 = .ok (.astore 4, 2) := by decide +kernel
theorem dL_person_15 : decode cL_person 15 = .ok (.iconst 1, 1) := by decide +kernel
theorem dL_person_16 : decode cL_person 16 = .ok (.ireturn, 1) := by decide +kernel
theorem dL_person_17 : decode cL_person 17 = .ok (.astore 4, 2) := by decide +kernel
theorem dL_person_19 : decode cL_person 19 = .ok (.iconst 2, 1) := by decide +kernel
theorem dL_person_20 : decode cL_person 20 = .ok (.ireturn, 1) := by decide +kernel
theorem dL_person_21 : decode cL_person 21 = .ok (.iconst 0, 1) := by decide +kernel
theorem dL_person_22 : decode cL_person 22 = .ok (.ireturn, 1) := by decide +kernel
theorem dL_isFree_0 : decode cL_isFree 0 = .ok (.aload 4, 2) := by decide +kernel
theorem dL_isFree_2 : decode cL_isFree 2 = .ok (.iconst 0, 1) := by decide +kernel
theorem dL_isFree_3 : decode cL_isFree 3 = .ok (.aload_n 0, 1) := by decide +kernel
theorem dL_isFree_4 : decode cL_isFree 4 = .ok (.iload_n 1, 1) := by decide +kernel
theorem dL_isFree_5 : decode cL_isFree 5 = .ok (.iload_n 2, 1) := by decide +kernel
theorem dL_isFree_6 : decode cL_isFree 6 = .ok (.iload_n 3, 1) := by decide +kernel
theorem dL_isFree_7 : decode cL_isFree 7 = .ok (.invokevirtual 31, 3) := by decide +kernel
theorem dL_isFree_10 : decode cL_isFree 10 = .ok (.ifCond .eq 7, 3) := by decide +kernel
theorem dL_isFree_13 : decode cL_isFree 13 = .ok (.lconst 1, 1) := by decide +kernel
theorem dL_isFree_14 : decode cL_isFree 14 = .ok (.goto 4, 3) := by decide +kernel
theorem dL_isFree_17 : decode cL_isFree 17 = .ok (.lconst 0, 1) := by decide +kernel
theorem dL_isFree_18 : decode cL_isFree 18 = .ok (.lastore, 1) := by decide +kernel
theorem dL_isFree_19 : decode cL_isFree 19 = .ok (.goto 11, 3) := by decide +kernel
theorem dL_isFree_22 : decode cL_isFree 22 = .ok (.astore 5, 2) := by decide +kernel
theorem dL_isFree_24 : decode cL_isFree 24 = .ok (.iconst 1, 1) := by decide +kernel
theorem dL_isFree_25 : decode cL_isFree 25 = .ok (.ireturn, 1) := by decide +kernel
theorem dL_isFree_26 : decode cL_isFree 26 = .ok (.astore 5, 2) := by decide +kernel
theorem dL_isFree_28 : decode cL_isFree 28 = .ok (.iconst 2, 1) := by decide +kernel
theorem dL_isFree_29 : decode cL_isFree 29 = .ok (.ireturn, 1) := by decide +kernel
theorem dL_isFree_30 : decode cL_isFree 30 = .ok (.iconst 0, 1) := by decide +kernel
theorem dL_isFree_31 : decode cL_isFree 31 = .ok (.ireturn, 1) := by decide +kernel
theorem dL_freeDay_0 : decode cL_freeDay 0 = .ok (.aload_n 2, 1) := by decide +kernel
theorem dL_freeDay_1 : decode cL_freeDay 1 = .ok (.iconst 0, 1) := by decide +kernel
theorem dL_freeDay_2 : decode cL_freeDay 2 = .ok (.aload_n 0, 1) := by decide +kernel
theorem dL_freeDay_3 : decode cL_freeDay 3 = .ok (.iload_n 1, 1) := by decide +kernel
theorem dL_freeDay_4 : decode cL_freeDay 4 = .ok (.invokevirtual 35, 3) := by decide +kernel
theorem dL_freeDay_7 : decode cL_freeDay 7 = .ok (.i2l, 1) := by decide +kernel
theorem dL_freeDay_8 : decode cL_freeDay 8 = .ok (.lastore, 1) := by decide +kernel
theorem dL_freeDay_9 : decode cL_freeDay 9 = .ok (.goto 9, 3) := by decide +kernel
theorem dL_freeDay_12 : decode cL_freeDay 12 = .ok (.astore_n 3, 1) := by decide +kernel
theorem dL_freeDay_13 : decode cL_freeDay 13 = .ok (.iconst 1, 1) := by decide +kernel
theorem dL_freeDay_14 : decode cL_freeDay 14 = .ok (.ireturn, 1) := by decide +kernel
theorem dL_freeDay_15 : decode cL_freeDay 15 = .ok (.astore_n 3, 1) := by decide +kernel
theorem dL_freeDay_16 : decode cL_freeDay 16 = .ok (.iconst 2, 1) := by decide +kernel
theorem dL_freeDay_17 : decode cL_freeDay 17 = .ok (.ireturn, 1) := by decide +kernel
theorem dL_freeDay_18 : decode cL_freeDay 18 = .ok (.iconst 0, 1) := by decide +kernel
theorem dL_freeDay_19 : decode cL_freeDay 19 = .ok (.ireturn, 1) := by decide +kernel
theorem dL_addThesis_0 : decode cL_addThesis 0 = .ok (.aload 5, 2) := by decide +kernel
theorem dL_addThesis_2 : decode cL_addThesis 2 = .ok (.iconst 0, 1) := by decide +kernel
theorem dL_addThesis_3 : decode cL_addThesis 3 = .ok (.aload_n 0, 1) := by decide +kernel
theorem dL_addThesis_4 : decode cL_addThesis 4 = .ok (.iload_n 1, 1) := by decide +kernel
theorem dL_addThesis_5 : decode cL_addThesis 5 = .ok (.iload_n 2, 1) := by decide +kernel
theorem dL_addThesis_6 : decode cL_addThesis 6 = .ok (.iload_n 3, 1) := by decide +kernel
theorem dL_addThesis_7 : decode cL_addThesis 7 = .ok (.iload 4, 2) := by decide +kernel
theorem dL_addThesis_9 : decode cL_addThesis 9 = .ok (.invokevirtual 41, 3) := by decide +kernel
theorem dL_addThesis_12 : decode cL_addThesis 12 = .ok (.i2l, 1) := by decide +kernel
theorem dL_addThesis_13 : decode cL_addThesis 13 = .ok (.lastore, 1) := by decide +kernel
theorem dL_addThesis_14 : decode cL_addThesis 14 = .ok (.goto 15, 3) := by decide +kernel
theorem dL_addThesis_17 : decode cL_addThesis 17 = .ok (.astore 6, 2) := by decide +kernel
theorem dL_addThesis_19 : decode cL_addThesis 19 = .ok (.iconst 1, 1) := by decide +kernel
theorem dL_addThesis_20 : decode cL_addThesis 20 = .ok (.ireturn, 1) := by decide +kernel
theorem dL_addThesis_21 : decode cL_addThesis 21 = .ok (.astore 6, 2) := by decide +kernel
theorem dL_addThesis_23 : decode cL_addThesis 23 = .ok (.iconst 2, 1) := by decide +kernel
theorem dL_addThesis_24 : decode cL_addThesis 24 = .ok (.ireturn, 1) := by decide +kernel
theorem dL_addThesis_25 : decode cL_addThesis 25 = .ok (.astore 6, 2) := by decide +kernel
theorem dL_addThesis_27 : decode cL_addThesis 27 = .ok (.iconst 3, 1) := by decide +kernel
theorem dL_addThesis_28 : decode cL_addThesis 28 = .ok (.ireturn, 1) := by decide +kernel
theorem dL_addThesis_29 : decode cL_addThesis 29 = .ok (.iconst 0, 1) := by decide +kernel
theorem dL_addThesis_30 : decode cL_addThesis 30 = .ok (.ireturn, 1) := by decide +kernel
theorem dL_thesis_0 : decode cL_thesis 0 = .ok (.aload_n 3, 1) := by decide +kernel
theorem dL_thesis_1 : decode cL_thesis 1 = .ok (.iconst 0, 1) := by decide +kernel
theorem dL_thesis_2 : decode cL_thesis 2 = .ok (.aload_n 0, 1) := by decide +kernel
theorem dL_thesis_3 : decode cL_thesis 3 = .ok (.iload_n 1, 1) := by decide +kernel
theorem dL_thesis_4 : decode cL_thesis 4 = .ok (.iload_n 2, 1) := by decide +kernel
theorem dL_thesis_5 : decode cL_thesis 5 = .ok (.invokevirtual 44, 3) := by decide +kernel
theorem dL_thesis_8 : decode cL_thesis 8 = .ok (.i2l, 1) := by decide +kernel
theorem dL_thesis_9 : decode cL_thesis 9 = .ok (.lastore, 1) := by decide +kernel
theorem dL_thesis_10 : decode cL_thesis 10 = .ok (.goto 11, 3) := by decide +kernel
theorem dL_thesis_13 : decode cL_thesis 13 = .ok (.astore 4, 2) := by decide +kernel
theorem dL_thesis_15 : decode cL_thesis 15 = .ok (.iconst 1, 1) := by decide +kernel
theorem dL_thesis_16 : decode cL_thesis 16 = .ok (.ireturn, 1) := by decide +kernel
theorem dL_thesis_17 : decode cL_thesis 17 = .ok (.astore 4, 2) := by decide +kernel
theorem dL_thesis_19 : decode cL_thesis 19 = .ok (.iconst 2, 1) := by decide +kernel
theorem dL_thesis_20 : decode cL_thesis 20 = .ok (.ireturn, 1) := by decide +kernel
theorem dL_thesis_21 : decode cL_thesis 21 = .ok (.iconst 0, 1) := by decide +kernel
theorem dL_thesis_22 : decode cL_thesis 22 = .ok (.ireturn, 1) := by decide +kernel
theorem dL_join_0 : decode cL_join 0 = .ok (.aload_n 3, 1) := by decide +kernel
theorem dL_join_1 : decode cL_join 1 = .ok (.iconst 0, 1) := by decide +kernel
theorem dL_join_2 : decode cL_join 2 = .ok (.aload_n 0, 1) := by decide +kernel
theorem dL_join_3 : decode cL_join 3 = .ok (.iload_n 1, 1) := by decide +kernel
theorem dL_join_4 : decode cL_join 4 = .ok (.iload_n 2, 1) := by decide +kernel
theorem dL_join_5 : decode cL_join 5 = .ok (.invokevirtual 47, 3) := by decide +kernel
theorem dL_join_8 : decode cL_join 8 = .ok (.i2l, 1) := by decide +kernel
theorem dL_join_9 : decode cL_join 9 = .ok (.lastore, 1) := by decide +kernel
theorem dL_join_10 : decode cL_join 10 = .ok (.goto 11, 3) := by decide +kernel
theorem dL_join_13 : decode cL_join 13 = .ok (.astore 4, 2) := by decide +kernel
theorem dL_join_15 : decode cL_join 15 = .ok (.iconst 1, 1) := by decide +kernel
theorem dL_join_16 : decode cL_join 16 = .ok (.ireturn, 1) := by decide +kernel
theorem dL_join_17 : decode cL_join 17 = .ok (.astore 4, 2) := by decide +kernel
theorem dL_join_19 : decode cL_join 19 = .ok (.iconst 2, 1) := by decide +kernel
theorem dL_join_20 : decode cL_join 20 = .ok (.ireturn, 1) := by decide +kernel
theorem dL_join_21 : decode cL_join 21 = .ok (.iconst 0, 1) := by decide +kernel
theorem dL_join_22 : decode cL_join 22 = .ok (.ireturn, 1) := by decide +kernel
theorem dL_leave_0 : decode cL_leave 0 = .ok (.aload_n 3, 1) := by decide +kernel
theorem dL_leave_1 : decode cL_leave 1 = .ok (.iconst 0, 1) := by decide +kernel
theorem dL_leave_2 : decode cL_leave 2 = .ok (.aload_n 0, 1) := by decide +kernel
theorem dL_leave_3 : decode cL_leave 3 = .ok (.iload_n 1, 1) := by decide +kernel
theorem dL_leave_4 : decode cL_leave 4 = .ok (.iload_n 2, 1) := by decide +kernel
theorem dL_leave_5 : decode cL_leave 5 = .ok (.invokevirtual 52, 3) := by decide +kernel
theorem dL_leave_8 : decode cL_leave 8 = .ok (.i2l, 1) := by decide +kernel
theorem dL_leave_9 : decode cL_leave 9 = .ok (.lastore, 1) := by decide +kernel
theorem dL_leave_10 : decode cL_leave 10 = .ok (.goto 11, 3) := by decide +kernel
theorem dL_leave_13 : decode cL_leave 13 = .ok (.astore 4, 2) := by decide +kernel
theorem dL_leave_15 : decode cL_leave 15 = .ok (.iconst 1, 1) := by decide +kernel
theorem dL_leave_16 : decode cL_leave 16 = .ok (.ireturn, 1) := by decide +kernel
theorem dL_leave_17 : decode cL_leave 17 = .ok (.astore 4, 2) := by decide +kernel
theorem dL_leave_19 : decode cL_leave 19 = .ok (.iconst 2, 1) := by decide +kernel
theorem dL_leave_20 : decode cL_leave 20 = .ok (.ireturn, 1) := by decide +kernel
theorem dL_leave_21 : decode cL_leave 21 = .ok (.iconst 0, 1) := by decide +kernel
theorem dL_leave_22 : decode cL_leave 22 = .ok (.ireturn, 1) := by decide +kernel
theorem dL_replace_0 : decode cL_replace 0 = .ok (.aload 4, 2) := by decide +kernel
theorem dL_replace_2 : decode cL_replace 2 = .ok (.iconst 0, 1) := by decide +kernel
theorem dL_replace_3 : decode cL_replace 3 = .ok (.aload_n 0, 1) := by decide +kernel
theorem dL_replace_4 : decode cL_replace 4 = .ok (.iload_n 1, 1) := by decide +kernel
theorem dL_replace_5 : decode cL_replace 5 = .ok (.iload_n 2, 1) := by decide +kernel
theorem dL_replace_6 : decode cL_replace 6 = .ok (.iload_n 3, 1) := by decide +kernel
theorem dL_replace_7 : decode cL_replace 7 = .ok (.invokevirtual 55, 3) := by decide +kernel
theorem dL_replace_10 : decode cL_replace 10 = .ok (.i2l, 1) := by decide +kernel
theorem dL_replace_11 : decode cL_replace 11 = .ok (.lastore, 1) := by decide +kernel
theorem dL_replace_12 : decode cL_replace 12 = .ok (.goto 15, 3) := by decide +kernel
theorem dL_replace_15 : decode cL_replace 15 = .ok (.astore 5, 2) := by decide +kernel
theorem dL_replace_17 : decode cL_replace 17 = .ok (.iconst 1, 1) := by decide +kernel
theorem dL_replace_18 : decode cL_replace 18 = .ok (.ireturn, 1) := by decide +kernel
theorem dL_replace_19 : decode cL_replace 19 = .ok (.astore 5, 2) := by decide +kernel
theorem dL_replace_21 : decode cL_replace 21 = .ok (.iconst 2, 1) := by decide +kernel
theorem dL_replace_22 : decode cL_replace 22 = .ok (.ireturn, 1) := by decide +kernel
theorem dL_replace_23 : decode cL_replace 23 = .ok (.astore 5, 2) := by decide +kernel
theorem dL_replace_25 : decode cL_replace 25 = .ok (.iconst 3, 1) := by decide +kernel
theorem dL_replace_26 : decode cL_replace 26 = .ok (.ireturn, 1) := by decide +kernel
theorem dL_replace_27 : decode cL_replace 27 = .ok (.iconst 0, 1) := by decide +kernel
theorem dL_replace_28 : decode cL_replace 28 = .ok (.ireturn, 1) := by decide +kernel
theorem dL_whyNotJoin_0 : decode cL_whyNotJoin 0 = .ok (.aload_n 3, 1) := by decide +kernel
theorem dL_whyNotJoin_1 : decode cL_whyNotJoin 1 = .ok (.iconst 0, 1) := by decide +kernel
theorem dL_whyNotJoin_2 : decode cL_whyNotJoin 2 = .ok (.aload_n 0, 1) := by decide +kernel
theorem dL_whyNotJoin_3 : decode cL_whyNotJoin 3 = .ok (.iload_n 1, 1) := by decide +kernel
theorem dL_whyNotJoin_4 : decode cL_whyNotJoin 4 = .ok (.iload_n 2, 1) := by decide +kernel
theorem dL_whyNotJoin_5 : decode cL_whyNotJoin 5 = .ok (.invokevirtual 59, 3) := by decide +kernel
theorem dL_whyNotJoin_8 : decode cL_whyNotJoin 8 = .ok (.i2l, 1) := by decide +kernel
theorem dL_whyNotJoin_9 : decode cL_whyNotJoin 9 = .ok (.lastore, 1) := by decide +kernel
theorem dL_whyNotJoin_10 : decode cL_whyNotJoin 10 = .ok (.goto 7, 3) := by decide +kernel
theorem dL_whyNotJoin_13 : decode cL_whyNotJoin 13 = .ok (.astore 4, 2) := by decide +kernel
theorem dL_whyNotJoin_15 : decode cL_whyNotJoin 15 = .ok (.iconst 1, 1) := by decide +kernel
theorem dL_whyNotJoin_16 : decode cL_whyNotJoin 16 = .ok (.ireturn, 1) := by decide +kernel
theorem dL_whyNotJoin_17 : decode cL_whyNotJoin 17 = .ok (.iconst 0, 1) := by decide +kernel
theorem dL_whyNotJoin_18 : decode cL_whyNotJoin 18 = .ok (.ireturn, 1) := by decide +kernel
theorem dL_lacks_0 : decode cL_lacks 0 = .ok (.aload_n 3, 1) := by decide +kernel
theorem dL_lacks_1 : decode cL_lacks 1 = .ok (.iconst 0, 1) := by decide +kernel
theorem dL_lacks_2 : decode cL_lacks 2 = .ok (.aload_n 0, 1) := by decide +kernel
theorem dL_lacks_3 : decode cL_lacks 3 = .ok (.iload_n 1, 1) := by decide +kernel
theorem dL_lacks_4 : decode cL_lacks 4 = .ok (.iload_n 2, 1) := by decide +kernel
theorem dL_lacks_5 : decode cL_lacks 5 = .ok (.invokevirtual 62, 3) := by decide +kernel
theorem dL_lacks_8 : decode cL_lacks 8 = .ok (.i2l, 1) := by decide +kernel
theorem dL_lacks_9 : decode cL_lacks 9 = .ok (.lastore, 1) := by decide +kernel
theorem dL_lacks_10 : decode cL_lacks 10 = .ok (.goto 11, 3) := by decide +kernel
theorem dL_lacks_13 : decode cL_lacks 13 = .ok (.astore 4, 2) := by decide +kernel
theorem dL_lacks_15 : decode cL_lacks 15 = .ok (.iconst 1, 1) := by decide +kernel
theorem dL_lacks_16 : decode cL_lacks 16 = .ok (.ireturn, 1) := by decide +kernel
theorem dL_lacks_17 : decode cL_lacks 17 = .ok (.astore 4, 2) := by decide +kernel
theorem dL_lacks_19 : decode cL_lacks 19 = .ok (.iconst 2, 1) := by decide +kernel
theorem dL_lacks_20 : decode cL_lacks 20 = .ok (.ireturn, 1) := by decide +kernel
theorem dL_lacks_21 : decode cL_lacks 21 = .ok (.iconst 0, 1) := by decide +kernel
theorem dL_lacks_22 : decode cL_lacks 22 = .ok (.ireturn, 1) := by decide +kernel
theorem dL_replacements_0 : decode cL_replacements 0 = .ok (.aload_n 3, 1) := by decide +kernel
theorem dL_replacements_1 : decode cL_replacements 1 = .ok (.iconst 0, 1) := by decide +kernel
theorem dL_replacements_2 : decode cL_replacements 2 = .ok (.aload_n 0, 1) := by decide +kernel
theorem dL_replacements_3 : decode cL_replacements 3 = .ok (.iload_n 1, 1) := by decide +kernel
theorem dL_replacements_4 : decode cL_replacements 4 = .ok (.iload_n 2, 1) := by decide +kernel
theorem dL_replacements_5 : decode cL_replacements 5 = .ok (.invokevirtual 65, 3) := by decide +kernel
theorem dL_replacements_8 : decode cL_replacements 8 = .ok (.i2l, 1) := by decide +kernel
theorem dL_replacements_9 : decode cL_replacements 9 = .ok (.lastore, 1) := by decide +kernel
theorem dL_replacements_10 : decode cL_replacements 10 = .ok (.goto 11, 3) := by decide +kernel
theorem dL_replacements_13 : decode cL_replacements 13 = .ok (.astore 4, 2) := by decide +kernel
theorem dL_replacements_15 : decode cL_replacements 15 = .ok (.iconst 1, 1) := by decide +kernel
theorem dL_replacements_16 : decode cL_replacements 16 = .ok (.ireturn, 1) := by decide +kernel
theorem dL_replacements_17 : decode cL_replacements 17 = .ok (.astore 4, 2) := by decide +kernel
theorem dL_replacements_19 : decode cL_replacements 19 = .ok (.iconst 2, 1) := by decide +kernel
theorem dL_replacements_20 : decode cL_replacements 20 = .ok (.ireturn, 1) := by decide +kernel
theorem dL_replacements_21 : decode cL_replacements 21 = .ok (.iconst 0, 1) := by decide +kernel
theorem dL_replacements_22 : decode cL_replacements 22 = .ok (.ireturn, 1) := by decide +kernel
theorem dL_completion_0 : decode cL_completion 0 = .ok (.aload_n 2, 1) := by decide +kernel
theorem dL_completion_1 : decode cL_completion 1 = .ok (.iconst 0, 1) := by decide +kernel
theorem dL_completion_2 : decode cL_completion 2 = .ok (.aload_n 0, 1) := by decide +kernel
theorem dL_completion_3 : decode cL_completion 3 = .ok (.iload_n 1, 1) := by decide +kernel
theorem dL_completion_4 : decode cL_completion 4 = .ok (.invokevirtual 68, 3) := by decide +kernel
theorem dL_completion_7 : decode cL_completion 7 = .ok (.i2l, 1) := by decide +kernel
theorem dL_completion_8 : decode cL_completion 8 = .ok (.lastore, 1) := by decide +kernel
theorem dL_completion_9 : decode cL_completion 9 = .ok (.goto 9, 3) := by decide +kernel
theorem dL_completion_12 : decode cL_completion 12 = .ok (.astore_n 3, 1) := by decide +kernel
theorem dL_completion_13 : decode cL_completion 13 = .ok (.iconst 1, 1) := by decide +kernel
theorem dL_completion_14 : decode cL_completion 14 = .ok (.ireturn, 1) := by decide +kernel
theorem dL_completion_15 : decode cL_completion 15 = .ok (.astore_n 3, 1) := by decide +kernel
theorem dL_completion_16 : decode cL_completion 16 = .ok (.iconst 2, 1) := by decide +kernel
theorem dL_completion_17 : decode cL_completion 17 = .ok (.ireturn, 1) := by decide +kernel
theorem dL_completion_18 : decode cL_completion 18 = .ok (.iconst 0, 1) := by decide +kernel
theorem dL_completion_19 : decode cL_completion 19 = .ok (.ireturn, 1) := by decide +kernel
theorem dL_complete_0 : decode cL_complete 0 = .ok (.aload_n 2, 1) := by decide +kernel
theorem dL_complete_1 : decode cL_complete 1 = .ok (.iconst 0, 1) := by decide +kernel
theorem dL_complete_2 : decode cL_complete 2 = .ok (.aload_n 0, 1) := by decide +kernel
theorem dL_complete_3 : decode cL_complete 3 = .ok (.iload_n 1, 1) := by decide +kernel
theorem dL_complete_4 : decode cL_complete 4 = .ok (.invokevirtual 71, 3) := by decide +kernel
theorem dL_complete_7 : decode cL_complete 7 = .ok (.i2l, 1) := by decide +kernel
theorem dL_complete_8 : decode cL_complete 8 = .ok (.lastore, 1) := by decide +kernel
theorem dL_complete_9 : decode cL_complete 9 = .ok (.goto 9, 3) := by decide +kernel
theorem dL_complete_12 : decode cL_complete 12 = .ok (.astore_n 3, 1) := by decide +kernel
theorem dL_complete_13 : decode cL_complete 13 = .ok (.iconst 1, 1) := by decide +kernel
theorem dL_complete_14 : decode cL_complete 14 = .ok (.ireturn, 1) := by decide +kernel
theorem dL_complete_15 : decode cL_complete 15 = .ok (.astore_n 3, 1) := by decide +kernel
theorem dL_complete_16 : decode cL_complete 16 = .ok (.iconst 2, 1) := by decide +kernel
theorem dL_complete_17 : decode cL_complete 17 = .ok (.ireturn, 1) := by decide +kernel
theorem dL_complete_18 : decode cL_complete 18 = .ok (.iconst 0, 1) := by decide +kernel
theorem dL_complete_19 : decode cL_complete 19 = .ok (.ireturn, 1) := by decide +kernel
theorem dL_reason_0 : decode cL_reason 0 = .ok (.aload_n 1, 1) := by decide +kernel
theorem dL_reason_1 : decode cL_reason 1 = .ok (.iconst 0, 1) := by decide +kernel
theorem dL_reason_2 : decode cL_reason 2 = .ok (.aload_n 0, 1) := by decide +kernel
theorem dL_reason_3 : decode cL_reason 3 = .ok (.invokevirtual 74, 3) := by decide +kernel
theorem dL_reason_6 : decode cL_reason 6 = .ok (.i2l, 1) := by decide +kernel
theorem dL_reason_7 : decode cL_reason 7 = .ok (.lastore, 1) := by decide +kernel
theorem dL_reason_8 : decode cL_reason 8 = .ok (.goto 6, 3) := by decide +kernel
theorem dL_reason_11 : decode cL_reason 11 = .ok (.astore_n 2, 1) := by decide +kernel
theorem dL_reason_12 : decode cL_reason 12 = .ok (.iconst 1, 1) := by decide +kernel
theorem dL_reason_13 : decode cL_reason 13 = .ok (.ireturn, 1) := by decide +kernel
theorem dL_reason_14 : decode cL_reason 14 = .ok (.iconst 0, 1) := by decide +kernel
theorem dL_reason_15 : decode cL_reason 15 = .ok (.ireturn, 1) := by decide +kernel
theorem dL_place_0 : decode cL_place 0 = .ok (.aload 5, 2) := by decide +kernel
theorem dL_place_2 : decode cL_place 2 = .ok (.iconst 0, 1) := by decide +kernel
theorem dL_place_3 : decode cL_place 3 = .ok (.aload_n 0, 1) := by decide +kernel
theorem dL_place_4 : decode cL_place 4 = .ok (.iload_n 1, 1) := by decide +kernel
theorem dL_place_5 : decode cL_place 5 = .ok (.iload_n 2, 1) := by decide +kernel
theorem dL_place_6 : decode cL_place 6 = .ok (.iload_n 3, 1) := by decide +kernel
theorem dL_place_7 : decode cL_place 7 = .ok (.iload 4, 2) := by decide +kernel
theorem dL_place_9 : decode cL_place 9 = .ok (.invokevirtual 78, 3) := by decide +kernel
theorem dL_place_12 : decode cL_place 12 = .ok (.i2l, 1) := by decide +kernel
theorem dL_place_13 : decode cL_place 13 = .ok (.lastore, 1) := by decide +kernel
theorem dL_place_14 : decode cL_place 14 = .ok (.goto 15, 3) := by decide +kernel
theorem dL_place_17 : decode cL_place 17 = .ok (.astore 6, 2) := by decide +kernel
theorem dL_place_19 : decode cL_place 19 = .ok (.iconst 1, 1) := by decide +kernel
theorem dL_place_20 : decode cL_place 20 = .ok (.ireturn, 1) := by decide +kernel
theorem dL_place_21 : decode cL_place 21 = .ok (.astore 6, 2) := by decide +kernel
theorem dL_place_23 : decode cL_place 23 = .ok (.iconst 2, 1) := by decide +kernel
theorem dL_place_24 : decode cL_place 24 = .ok (.ireturn, 1) := by decide +kernel
theorem dL_place_25 : decode cL_place 25 = .ok (.astore 6, 2) := by decide +kernel
theorem dL_place_27 : decode cL_place 27 = .ok (.iconst 3, 1) := by decide +kernel
theorem dL_place_28 : decode cL_place 28 = .ok (.ireturn, 1) := by decide +kernel
theorem dL_place_29 : decode cL_place 29 = .ok (.iconst 0, 1) := by decide +kernel
theorem dL_place_30 : decode cL_place 30 = .ok (.ireturn, 1) := by decide +kernel
theorem dL_takeBack_0 : decode cL_takeBack 0 = .ok (.aload_n 2, 1) := by decide +kernel
theorem dL_takeBack_1 : decode cL_takeBack 1 = .ok (.iconst 0, 1) := by decide +kernel
theorem dL_takeBack_2 : decode cL_takeBack 2 = .ok (.aload_n 0, 1) := by decide +kernel
theorem dL_takeBack_3 : decode cL_takeBack 3 = .ok (.iload_n 1, 1) := by decide +kernel
theorem dL_takeBack_4 : decode cL_takeBack 4 = .ok (.invokevirtual 81, 3) := by decide +kernel
theorem dL_takeBack_7 : decode cL_takeBack 7 = .ok (.i2l, 1) := by decide +kernel
theorem dL_takeBack_8 : decode cL_takeBack 8 = .ok (.lastore, 1) := by decide +kernel
theorem dL_takeBack_9 : decode cL_takeBack 9 = .ok (.goto 9, 3) := by decide +kernel
theorem dL_takeBack_12 : decode cL_takeBack 12 = .ok (.astore_n 3, 1) := by decide +kernel
theorem dL_takeBack_13 : decode cL_takeBack 13 = .ok (.iconst 1, 1) := by decide +kernel
theorem dL_takeBack_14 : decode cL_takeBack 14 = .ok (.ireturn, 1) := by decide +kernel
theorem dL_takeBack_15 : decode cL_takeBack 15 = .ok (.astore_n 3, 1) := by decide +kernel
theorem dL_takeBack_16 : decode cL_takeBack 16 = .ok (.iconst 2, 1) := by decide +kernel
theorem dL_takeBack_17 : decode cL_takeBack 17 = .ok (.ireturn, 1) := by decide +kernel
theorem dL_takeBack_18 : decode cL_takeBack 18 = .ok (.iconst 0, 1) := by decide +kernel
theorem dL_takeBack_19 : decode cL_takeBack 19 = .ok (.ireturn, 1) := by decide +kernel
theorem dL_whyNotPlace_0 : decode cL_whyNotPlace 0 = .ok (.aload 5, 2) := by decide +kernel
theorem dL_whyNotPlace_2 : decode cL_whyNotPlace 2 = .ok (.iconst 0, 1) := by decide +kernel
theorem dL_whyNotPlace_3 : decode cL_whyNotPlace 3 = .ok (.aload_n 0, 1) := by decide +kernel
theorem dL_whyNotPlace_4 : decode cL_whyNotPlace 4 = .ok (.iload_n 1, 1) := by decide +kernel
theorem dL_whyNotPlace_5 : decode cL_whyNotPlace 5 = .ok (.iload_n 2, 1) := by decide +kernel
theorem dL_whyNotPlace_6 : decode cL_whyNotPlace 6 = .ok (.iload_n 3, 1) := by decide +kernel
theorem dL_whyNotPlace_7 : decode cL_whyNotPlace 7 = .ok (.iload 4, 2) := by decide +kernel
theorem dL_whyNotPlace_9 : decode cL_whyNotPlace 9 = .ok (.invokevirtual 84, 3) := by decide +kernel
theorem dL_whyNotPlace_12 : decode cL_whyNotPlace 12 = .ok (.i2l, 1) := by decide +kernel
theorem dL_whyNotPlace_13 : decode cL_whyNotPlace 13 = .ok (.lastore, 1) := by decide +kernel
theorem dL_whyNotPlace_14 : decode cL_whyNotPlace 14 = .ok (.goto 11, 3) := by decide +kernel
theorem dL_whyNotPlace_17 : decode cL_whyNotPlace 17 = .ok (.astore 6, 2) := by decide +kernel
theorem dL_whyNotPlace_19 : decode cL_whyNotPlace 19 = .ok (.iconst 1, 1) := by decide +kernel
theorem dL_whyNotPlace_20 : decode cL_whyNotPlace 20 = .ok (.ireturn, 1) := by decide +kernel
theorem dL_whyNotPlace_21 : decode cL_whyNotPlace 21 = .ok (.astore 6, 2) := by decide +kernel
theorem dL_whyNotPlace_23 : decode cL_whyNotPlace 23 = .ok (.iconst 2, 1) := by decide +kernel
