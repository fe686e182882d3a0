theorem dX7_setConflict_88 : decode cX7_setConflict 88 = .ok (.invokestatic 180, 3) := by decide +kernel
theorem dX7_setConflict_91 : decode cX7_setConflict 91 = .ok (.iastore, 1) := by decide +kernel
theorem dX7_setConflict_92 : decode cX7_setConflict 92 = .ok (.iload 4, 2) := by decide +kernel
theorem dX7_setConflict_94 : decode cX7_setConflict 94 = .ok (.ireturn, 1) := by decide +kernel
theorem dX7_setBusy_0 : decode cX7_setBusy 0 = .ok (.aload_n 0, 1) := by decide +kernel
theorem dX7_setBusy_1 : decode cX7_setBusy 1 = .ok (.iload_n 1, 1) := by decide +kernel
theorem dX7_setBusy_2 : decode cX7_setBusy 2 = .ok (.invokevirtual 174, 3) := by decide +kernel
theorem dX7_setBusy_5 : decode cX7_setBusy 5 = .ok (.ifCond .ne 9, 3) := by decide +kernel
theorem dX7_setBusy_8 : decode cX7_setBusy 8 = .ok (.aload_n 0, 1) := by decide +kernel
theorem dX7_setBusy_9 : decode cX7_setBusy 9 = .ok (.iconst 1, 1) := by decide +kernel
theorem dX7_setBusy_10 : decode cX7_setBusy 10 = .ok (.invokevirtual 177, 3) := by decide +kernel
theorem dX7_setBusy_13 : decode cX7_setBusy 13 = .ok (.ireturn, 1) := by decide +kernel
theorem dX7_setBusy_14 : decode cX7_setBusy 14 = .ok (.iload_n 2, 1) := by decide +kernel
theorem dX7_setBusy_15 : decode cX7_setBusy 15 = .ok (.invokestatic 184, 3) := by decide +kernel
theorem dX7_setBusy_18 : decode cX7_setBusy 18 = .ok (.ifCond .eq 13, 3) := by decide +kernel
theorem dX7_setBusy_21 : decode cX7_setBusy 21 = .ok (.iload_n 3, 1) := by decide +kernel
theorem dX7_setBusy_22 : decode cX7_setBusy 22 = .ok (.iconst 0, 1) := by decide +kernel
theorem dX7_setBusy_23 : decode cX7_setBusy 23 = .ok (.bipush 7, 2) := by decide +kernel
theorem dX7_setBusy_25 : decode cX7_setBusy 25 = .ok (.invokestatic 87, 3) := by decide +kernel
theorem dX7_setBusy_28 : decode cX7_setBusy 28 = .ok (.ifCond .ne 9, 3) := by decide +kernel
theorem dX7_setBusy_31 : decode cX7_setBusy 31 = .ok (.aload_n 0, 1) := by decide +kernel
theorem dX7_setBusy_32 : decode cX7_setBusy 32 = .ok (.iconst 2, 1) := by decide +kernel
theorem dX7_setBusy_33 : decode cX7_setBusy 33 = .ok (.invokevirtual 177, 3) := by decide +kernel
theorem dX7_setBusy_36 : decode cX7_setBusy 36 = .ok (.ireturn, 1) := by decide +kernel
theorem dX7_setBusy_37 : decode cX7_setBusy 37 = .ok (.aload_n 0, 1) := by decide +kernel
theorem dX7_setBusy_38 : decode cX7_setBusy 38 = .ok (.iconst 0, 1) := by decide +kernel
theorem dX7_setBusy_39 : decode cX7_setBusy 39 = .ok (.putfield 81, 3) := by decide +kernel
theorem dX7_setBusy_42 : decode cX7_setBusy 42 = .ok (.aload_n 0, 1) := by decide +kernel
theorem dX7_setBusy_43 : decode cX7_setBusy 43 = .ok (.invokevirtual 171, 3) := by decide +kernel
theorem dX7_setBusy_46 : decode cX7_setBusy 46 = .ok (.aload_n 0, 1) := by decide +kernel
theorem dX7_setBusy_47 : decode cX7_setBusy 47 = .ok (.iload_n 1, 1) := by decide +kernel
theorem dX7_setBusy_48 : decode cX7_setBusy 48 = .ok (.iload_n 2, 1) := by decide +kernel
theorem dX7_setBusy_49 : decode cX7_setBusy 49 = .ok (.invokevirtual 116, 3) := by decide +kernel
theorem dX7_setBusy_52 : decode cX7_setBusy 52 = .ok (.iload_n 3, 1) := by decide +kernel
theorem dX7_setBusy_53 : decode cX7_setBusy 53 = .ok (.ishr, 1) := by decide +kernel
theorem dX7_setBusy_54 : decode cX7_setBusy 54 = .ok (.iconst 1, 1) := by decide +kernel
theorem dX7_setBusy_55 : decode cX7_setBusy 55 = .ok (.iand, 1) := by decide +kernel
theorem dX7_setBusy_56 : decode cX7_setBusy 56 = .ok (.iconst 1, 1) := by decide +kernel
theorem dX7_setBusy_57 : decode cX7_setBusy 57 = .ok (.if_icmp .ne 7, 3) := by decide +kernel
theorem dX7_setBusy_60 : decode cX7_setBusy 60 = .ok (.iconst 1, 1) := by decide +kernel
theorem dX7_setBusy_61 : decode cX7_setBusy 61 = .ok (.goto 4, 3) := by decide +kernel
theorem dX7_setBusy_64 : decode cX7_setBusy 64 = .ok (.iconst 0, 1) := by decide +kernel
theorem dX7_setBusy_65 : decode cX7_setBusy 65 = .ok (.istore 5, 2) := by decide +kernel
theorem dX7_setBusy_67 : decode cX7_setBusy 67 = .ok (.aload_n 0, 1) := by decide +kernel
theorem dX7_setBusy_68 : decode cX7_setBusy 68 = .ok (.getfield 25, 3) := by decide +kernel
theorem dX7_setBusy_71 : decode cX7_setBusy 71 = .ok (.bipush 101, 2) := by decide +kernel
theorem dX7_setBusy_73 : decode cX7_setBusy 73 = .ok (.iload_n 1, 1) := by decide +kernel
theorem dX7_setBusy_74 : decode cX7_setBusy 74 = .ok (.imul, 1) := by decide +kernel
theorem dX7_setBusy_75 : decode cX7_setBusy 75 = .ok (.iload_n 2, 1) := by decide +kernel
theorem dX7_setBusy_76 : decode cX7_setBusy 76 = .ok (.iconst 4, 1) := by decide +kernel
theorem dX7_setBusy_77 : decode cX7_setBusy 77 = .ok (.idiv, 1) := by decide +kernel
theorem dX7_setBusy_78 : decode cX7_setBusy 78 = .ok (.iadd, 1) := by decide +kernel
theorem dX7_setBusy_79 : decode cX7_setBusy 79 = .ok (.aload_n 0, 1) := by decide +kernel
theorem dX7_setBusy_80 : decode cX7_setBusy 80 = .ok (.getfield 25, 3) := by decide +kernel
theorem dX7_setBusy_83 : decode cX7_setBusy 83 = .ok (.bipush 101, 2) := by decide +kernel
theorem dX7_setBusy_85 : decode cX7_setBusy 85 = .ok (.iload_n 1, 1) := by decide +kernel
theorem dX7_setBusy_86 : decode cX7_setBusy 86 = .ok (.imul, 1) := by decide +kernel
theorem dX7_setBusy_87 : decode cX7_setBusy 87 = .ok (.iload_n 2, 1) := by decide +kernel
theorem dX7_setBusy_88 : decode cX7_setBusy 88 = .ok (.iconst 4, 1) := by decide +kernel
theorem dX7_setBusy_89 : decode cX7_setBusy 89 = .ok (.idiv, 1) := by decide +kernel
theorem dX7_setBusy_90 : decode cX7_setBusy 90 = .ok (.iadd, 1) := by decide +kernel
theorem dX7_setBusy_91 : decode cX7_setBusy 91 = .ok (.iaload, 1) := by decide +kernel
theorem dX7_setBusy_92 : decode cX7_setBusy 92 = .ok (.bipush 8, 2) := by decide +kernel
theorem dX7_setBusy_94 : decode cX7_setBusy 94 = .ok (.iload_n 2, 1) := by decide +kernel
theorem dX7_setBusy_95 : decode cX7_setBusy 95 = .ok (.iconst 4, 1) := by decide +kernel
theorem dX7_setBusy_96 : decode cX7_setBusy 96 = .ok (.irem, 1) := by decide +kernel
theorem dX7_setBusy_97 : decode cX7_setBusy 97 = .ok (.imul, 1) := by decide +kernel
theorem dX7_setBusy_98 : decode cX7_setBusy 98 = .ok (.iload_n 3, 1) := by decide +kernel
theorem dX7_setBusy_99 : decode cX7_setBusy 99 = .ok (.iadd, 1) := by decide +kernel
theorem dX7_setBusy_100 : decode cX7_setBusy 100 = .ok (.iload 4, 2) := by decide +kernel
theorem dX7_setBusy_102 : decode cX7_setBusy 102 = .ok (.invokestatic 180, 3) := by decide +kernel
theorem dX7_setBusy_105 : decode cX7_setBusy 105 = .ok (.iastore, 1) := by decide +kernel
theorem dX7_setBusy_106 : decode cX7_setBusy 106 = .ok (.iload 5, 2) := by decide +kernel
theorem dX7_setBusy_108 : decode cX7_setBusy 108 = .ok (.ireturn, 1) := by decide +kernel
theorem dX7_committees_0 : decode cX7_committees 0 = .ok (.iconst 0, 1) := by decide +kernel
theorem dX7_committees_1 : decode cX7_committees 1 = .ok (.istore_n 2, 1) := by decide +kernel
theorem dX7_committees_2 : decode cX7_committees 2 = .ok (.iconst 0, 1) := by decide +kernel
theorem dX7_committees_3 : decode cX7_committees 3 = .ok (.istore_n 3, 1) := by decide +kernel
theorem dX7_committees_4 : decode cX7_committees 4 = .ok (.iload_n 3, 1) := by decide +kernel
theorem dX7_committees_5 : decode cX7_committees 5 = .ok (.aload_n 0, 1) := by decide +kernel
theorem dX7_committees_6 : decode cX7_committees 6 = .ok (.getfield 91, 3) := by decide +kernel
theorem dX7_committees_9 : decode cX7_committees 9 = .ok (.if_icmp .ge 36, 3) := by decide +kernel
theorem dX7_committees_12 : decode cX7_committees 12 = .ok (.iload_n 2, 1) := by decide +kernel
theorem dX7_committees_13 : decode cX7_committees 13 = .ok (.aload_n 0, 1) := by decide +kernel
theorem dX7_committees_14 : decode cX7_committees 14 = .ok (.iload_n 3, 1) := by decide +kernel
theorem dX7_committees_15 : decode cX7_committees 15 = .ok (.iload_n 1, 1) := by decide +kernel
theorem dX7_committees_16 : decode cX7_committees 16 = .ok (.invokevirtual 105, 3) := by decide +kernel
theorem dX7_committees_19 : decode cX7_committees 19 = .ok (.ifCond .eq 17, 3) := by decide +kernel
theorem dX7_committees_22 : decode cX7_committees 22 = .ok (.aload_n 0, 1) := by decide +kernel
theorem dX7_committees_23 : decode cX7_committees 23 = .ok (.iload_n 3, 1) := by decide +kernel
theorem dX7_committees_24 : decode cX7_committees 24 = .ok (.invokevirtual 109, 3) := by decide +kernel
theorem dX7_committees_27 : decode cX7_committees 27 = .ok (.ifCond .ne 9, 3) := by decide +kernel
theorem dX7_committees_30 : decode cX7_committees 30 = .ok (.iconst 1, 1) := by decide +kernel
theorem dX7_committees_31 : decode cX7_committees 31 = .ok (.iload_n 3, 1) := by decide +kernel
theorem dX7_committees_32 : decode cX7_committees 32 = .ok (.ishl, 1) := by decide +kernel
theorem dX7_committees_33 : decode cX7_committees 33 = .ok (.goto 4, 3) := by decide +kernel
theorem dX7_committees_36 : decode cX7_committees 36 = .ok (.iconst 0, 1) := by decide +kernel
theorem dX7_committees_37 : decode cX7_committees 37 = .ok (.ior, 1) := by decide +kernel
theorem dX7_committees_38 : decode cX7_committees 38 = .ok (.istore_n 2, 1) := by decide +kernel
theorem dX7_committees_39 : decode cX7_committees 39 = .ok (.iinc 3 1, 3) := by decide +kernel
theorem dX7_committees_42 : decode cX7_committees 42 = .ok (.goto (-38), 3) := by decide +kernel
theorem dX7_committees_45 : decode cX7_committees 45 = .ok (.iload_n 2, 1) := by decide +kernel
theorem dX7_committees_46 : decode cX7_committees 46 = .ok (.ireturn, 1) := by decide +kernel
theorem dX7_supervised_0 : decode cX7_supervised 0 = .ok (.iconst 0, 1) := by decide +kernel
theorem dX7_supervised_1 : decode cX7_supervised 1 = .ok (.istore_n 2, 1) := by decide +kernel
theorem dX7_supervised_2 : decode cX7_supervised 2 = .ok (.iconst 0, 1) := by decide +kernel
theorem dX7_supervised_3 : decode cX7_supervised 3 = .ok (.istore_n 3, 1) := by decide +kernel
theorem dX7_supervised_4 : decode cX7_supervised 4 = .ok (.iload_n 3, 1) := by decide +kernel
theorem dX7_supervised_5 : decode cX7_supervised 5 = .ok (.aload_n 0, 1) := by decide +kernel
theorem dX7_supervised_6 : decode cX7_supervised 6 = .ok (.getfield 91, 3) := by decide +kernel
theorem dX7_supervised_9 : decode cX7_supervised 9 = .ok (.if_icmp .ge 29, 3) := by decide +kernel
theorem dX7_supervised_12 : decode cX7_supervised 12 = .ok (.iload_n 2, 1) := by decide +kernel
theorem dX7_supervised_13 : decode cX7_supervised 13 = .ok (.aload_n 0, 1) := by decide +kernel
theorem dX7_supervised_14 : decode cX7_supervised 14 = .ok (.getfield 37, 3) := by decide +kernel
theorem dX7_supervised_17 : decode cX7_supervised 17 = .ok (.iload_n 3, 1) := by decide +kernel
theorem dX7_supervised_18 : decode cX7_supervised 18 = .ok (.iaload, 1) := by decide +kernel
theorem dX7_supervised_19 : decode cX7_supervised 19 = .ok (.iload_n 1, 1) := by decide +kernel
theorem dX7_supervised_20 : decode cX7_supervised 20 = .ok (.if_icmp .ne 9, 3) := by decide +kernel
theorem dX7_supervised_23 : decode cX7_supervised 23 = .ok (.iconst 1, 1) := by decide +kernel
theorem dX7_supervised_24 : decode cX7_supervised 24 = .ok (.iload_n 3, 1) := by decide +kernel
theorem dX7_supervised_25 : decode cX7_supervised 25 = .ok (.ishl, 1) := by decide +kernel
theorem dX7_supervised_26 : decode cX7_supervised 26 = .ok (.goto 4, 3) := by decide +kernel
theorem dX7_supervised_29 : decode cX7_supervised 29 = .ok (.iconst 0, 1) := by decide +kernel
theorem dX7_supervised_30 : decode cX7_supervised 30 = .ok (.ior, 1) := by decide +kernel
theorem dX7_supervised_31 : decode cX7_supervised 31 = .ok (.istore_n 2, 1) := by decide +kernel
theorem dX7_supervised_32 : decode cX7_supervised 32 = .ok (.iinc 3 1, 3) := by decide +kernel
theorem dX7_supervised_35 : decode cX7_supervised 35 = .ok (.goto (-31), 3) := by decide +kernel
theorem dX7_supervised_38 : decode cX7_supervised 38 = .ok (.iload_n 2, 1) := by decide +kernel
theorem dX7_supervised_39 : decode cX7_supervised 39 = .ok (.ireturn, 1) := by decide +kernel
theorem dX7_busyHours_0 : decode cX7_busyHours 0 = .ok (.iconst 0, 1) := by decide +kernel
theorem dX7_busyHours_1 : decode cX7_busyHours 1 = .ok (.istore_n 2, 1) := by decide +kernel
theorem dX7_busyHours_2 : decode cX7_busyHours 2 = .ok (.iconst 0, 1) := by decide +kernel
theorem dX7_busyHours_3 : decode cX7_busyHours 3 = .ok (.istore_n 3, 1) := by decide +kernel
theorem dX7_busyHours_4 : decode cX7_busyHours 4 = .ok (.iload_n 3, 1) := by decide +kernel
theorem dX7_busyHours_5 : decode cX7_busyHours 5 = .ok (.sipush 400, 3) := by decide +kernel
theorem dX7_busyHours_8 : decode cX7_busyHours 8 = .ok (.if_icmp .gt 21, 3) := by decide +kernel
theorem dX7_busyHours_11 : decode cX7_busyHours 11 = .ok (.iload_n 2, 1) := by decide +kernel
theorem dX7_busyHours_12 : decode cX7_busyHours 12 = .ok (.aload_n 0, 1) := by decide +kernel
theorem dX7_busyHours_13 : decode cX7_busyHours 13 = .ok (.iload_n 1, 1) := by decide +kernel
theorem dX7_busyHours_14 : decode cX7_busyHours 14 = .ok (.iload_n 3, 1) := by decide +kernel
theorem dX7_busyHours_15 : decode cX7_busyHours 15 = .ok (.invokevirtual 116, 3) := by decide +kernel
theorem dX7_busyHours_18 : decode cX7_busyHours 18 = .ok (.invokestatic 129, 3) := by decide +kernel
theorem dX7_busyHours_21 : decode cX7_busyHours 21 = .ok (.iadd, 1) := by decide +kernel
theorem dX7_busyHours_22 : decode cX7_busyHours 22 = .ok (.istore_n 2, 1) := by decide +kernel
theorem dX7_busyHours_23 : decode cX7_busyHours 23 = .ok (.iinc 3 1, 3) := by decide +kernel
theorem dX7_busyHours_26 : decode cX7_busyHours 26 = .ok (.goto (-22), 3) := by decide +kernel
theorem dX7_busyHours_29 : decode cX7_busyHours 29 = .ok (.iload_n 2, 1) := by decide +kernel
theorem dX7_busyHours_30 : decode cX7_busyHours 30 = .ok (.ireturn, 1) := by decide +kernel
theorem dX7_person_0 : decode cX7_person 0 = .ok (.aload_n 0, 1) := by decide +kernel
theorem dX7_person_1 : decode cX7_person 1 = .ok (.iload_n 1, 1) := by decide +kernel
theorem dX7_person_2 : decode cX7_person 2 = .ok (.invokevirtual 174, 3) := by decide +kernel
theorem dX7_person_5 : decode cX7_person 5 = .ok (.ifCond .ne 9, 3) := by decide +kernel
theorem dX7_person_8 : decode cX7_person 8 = .ok (.aload_n 0, 1) := by decide +kernel
theorem dX7_person_9 : decode cX7_person 9 = .ok (.iconst 1, 1) := by decide +kernel
theorem dX7_person_10 : decode cX7_person 10 = .ok (.invokevirtual 168, 3) := by decide +kernel
theorem dX7_person_13 : decode cX7_person 13 = .ok (.ireturn, 1) := by decide +kernel
theorem dX7_person_14 : decode cX7_person 14 = .ok (.iload_n 2, 1) := by decide +kernel
theorem dX7_person_15 : decode cX7_person 15 = .ok (.iconst 0, 1) := by decide +kernel
theorem dX7_person_16 : decode cX7_person 16 = .ok (.bipush 7, 2) := by decide +kernel
theorem dX7_person_18 : decode cX7_person 18 = .ok (.invokestatic 87, 3) := by decide +kernel
theorem dX7_person_21 : decode cX7_person 21 = .ok (.ifCond .ne 9, 3) := by decide +kernel
theorem dX7_person_24 : decode cX7_person 24 = .ok (.aload_n 0, 1) := by decide +kernel
theorem dX7_person_25 : decode cX7_person 25 = .ok (.iconst 2, 1) := by decide +kernel
theorem dX7_person_26 : decode cX7_person 26 = .ok (.invokevirtual 168, 3) := by decide +kernel
theorem dX7_person_29 : decode cX7_person 29 = .ok (.ireturn, 1) := by decide +kernel
theorem dX7_person_30 : decode cX7_person 30 = .ok (.aload_n 0, 1) := by decide +kernel
theorem dX7_person_31 : decode cX7_person 31 = .ok (.iconst 0, 1) := by decide +kernel
theorem dX7_person_32 : decode cX7_person 32 = .ok (.putfield 81, 3) := by decide +kernel
theorem dX7_person_35 : decode cX7_person 35 = .ok (.iload_n 2, 1) := by decide +kernel
theorem dX7_person_36 : decode cX7_person 36 = .ok (.tableswitch 91 0 6 #[44, 51, 58, 65, 72, 79, 85], 44) := by decide +kernel
theorem dX7_person_80 : decode cX7_person 80 = .ok (.aload_n 0, 1) := by decide +kernel
theorem dX7_person_81 : decode cX7_person 81 = .ok (.getfield 7, 3) := by decide +kernel
theorem dX7_person_84 : decode cX7_person 84 = .ok (.iload_n 1, 1) := by decide +kernel
theorem dX7_person_85 : decode cX7_person 85 = .ok (.iaload, 1) := by decide +kernel
theorem dX7_person_86 : decode cX7_person 86 = .ok (.ireturn, 1) := by decide +kernel
theorem dX7_person_87 : decode cX7_person 87 = .ok (.aload_n 0, 1) := by decide +kernel
theorem dX7_person_88 : decode cX7_person 88 = .ok (.getfield 13, 3) := by decide +kernel
theorem dX7_person_91 : decode cX7_person 91 = .ok (.iload_n 1, 1) := by decide +kernel
theorem dX7_person_92 : decode cX7_person 92 = .ok (.iaload, 1) := by decide +kernel
theorem dX7_person_93 : decode cX7_person 93 = .ok (.ireturn, 1) := by decide +kernel
theorem dX7_person_94 : decode cX7_person 94 = .ok (.aload_n 0, 1) := by decide +kernel
theorem dX7_person_95 : decode cX7_person 95 = .ok (.getfield 16, 3) := by decide +kernel
theorem dX7_person_98 : decode cX7_person 98 = .ok (.iload_n 1, 1) := by decide +kernel
theorem dX7_person_99 : decode cX7_person 99 = .ok (.iaload, 1) := by decide +kernel
theorem dX7_person_100 : decode cX7_person 100 = .ok (.ireturn, 1) := by decide +kernel
theorem dX7_person_101 : decode cX7_person 101 = .ok (.aload_n 0, 1) := by decide +kernel
theorem dX7_person_102 : decode cX7_person 102 = .ok (.getfield 19, 3) := by decide +kernel
theorem dX7_person_105 : decode cX7_person 105 = .ok (.iload_n 1, 1) := by decide +kernel
theorem dX7_person_106 : decode cX7_person 106 = .ok (.iaload, 1) := by decide +kernel
theorem dX7_person_107 : decode cX7_person 107 = .ok (.ireturn, 1) := by decide +kernel
theorem dX7_person_108 : decode cX7_person 108 = .ok (.aload_n 0, 1) := by decide +kernel
theorem dX7_person_109 : decode cX7_person 109 = .ok (.getfield 22, 3) := by decide +kernel
theorem dX7_person_112 : decode cX7_person 112 = .ok (.iload_n 1, 1) := by decide +kernel
theorem dX7_person_113 : decode cX7_person 113 = .ok (.iaload, 1) := by decide +kernel
theorem dX7_person_114 : decode cX7_person 114 = .ok (.ireturn, 1) := by decide +kernel
theorem dX7_person_115 : decode cX7_person 115 = .ok (.aload_n 0, 1) := by decide +kernel
theorem dX7_person_116 : decode cX7_person 116 = .ok (.iload_n 1, 1) := by decide +kernel
theorem dX7_person_117 : decode cX7_person 117 = .ok (.invokevirtual 187, 3) := by decide +kernel
theorem dX7_person_120 : decode cX7_person 120 = .ok (.ireturn, 1) := by decide +kernel
theorem dX7_person_121 : decode cX7_person 121 = .ok (.aload_n 0, 1) := by decide +kernel
theorem dX7_person_122 : decode cX7_person 122 = .ok (.iload_n 1, 1) := by decide +kernel
theorem dX7_person_123 : decode cX7_person 123 = .ok (.invokevirtual 190, 3) := by decide +kernel
theorem dX7_person_126 : decode cX7_person 126 = .ok (.ireturn, 1) := by decide +kernel
theorem dX7_person_127 : decode cX7_person 127 = .ok (.aload_n 0, 1) := by decide +kernel
theorem dX7_person_128 : decode cX7_person 128 = .ok (.iload_n 1, 1) := by decide +kernel
theorem dX7_person_129 : decode cX7_person 129 = .ok (.invokevirtual 193, 3) := by decide +kernel
theorem dX7_person_132 : decode cX7_person 132 = .ok (.ireturn, 1) := by decide +kernel
theorem dX7_isTime_0 : decode cX7_isTime 0 = .ok (.iload_n 0, 1) := by decide +kernel
theorem dX7_isTime_1 : decode cX7_isTime 1 = .ok (.invokestatic 184, 3) := by decide +kernel
theorem dX7_isTime_4 : decode cX7_isTime 4 = .ok (.ifCond .eq 17, 3) := by decide +kernel
theorem dX7_isTime_7 : decode cX7_isTime 7 = .ok (.iload_n 1, 1) := by decide +kernel
theorem dX7_isTime_8 : decode cX7_isTime 8 = .ok (.iconst 0, 1) := by decide +kernel
theorem dX7_isTime_9 : decode cX7_isTime 9 = .ok (.bipush 6, 2) := by decide +kernel
theorem dX7_isTime_11 : decode cX7_isTime 11 = .ok (.invokestatic 87, 3) := by decide +kernel
theorem dX7_isTime_14 : decode cX7_isTime 14 = .ok (.ifCond .eq 7, 3) := by decide +kernel
theorem dX7_isTime_17 : decode cX7_isTime 17 = .ok (.iconst 1, 1) := by decide +kernel
theorem dX7_isTime_18 : decode cX7_isTime 18 = .ok (.goto 4, 3) := by decide +kernel
theorem dX7_isTime_21 : decode cX7_isTime 21 = .ok (.iconst 0, 1) := by decide +kernel
theorem dX7_isTime_22 : decode cX7_isTime 22 = .ok (.ireturn, 1) := by decide +kernel
theorem dX7_isFree_0 : decode cX7_isFree 0 = .ok (.aload_n 0, 1) := by decide +kernel
theorem dX7_isFree_1 : decode cX7_isFree 1 = .ok (.iload_n 1, 1) := by decide +kernel
theorem dX7_isFree_2 : decode cX7_isFree 2 = .ok (.invokevirtual 174, 3) := by decide +kernel
theorem dX7_isFree_5 : decode cX7_isFree 5 = .ok (.ifCond .ne 9, 3) := by decide +kernel
theorem dX7_isFree_8 : decode cX7_isFree 8 = .ok (.aload_n 0, 1) := by decide +kernel
theorem dX7_isFree_9 : decode cX7_isFree 9 = .ok (.iconst 1, 1) := by decide +kernel
theorem dX7_isFree_10 : decode cX7_isFree 10 = .ok (.invokevirtual 177, 3) := by decide +kernel
theorem dX7_isFree_13 : decode cX7_isFree 13 = .ok (.ireturn, 1) := by decide +kernel
theorem dX7_isFree_14 : decode cX7_isFree 14 = .ok (.iload_n 2, 1) := by decide +kernel
theorem dX7_isFree_15 : decode cX7_isFree 15 = .ok (.iload_n 3, 1) := by decide +kernel
theorem dX7_isFree_16 : decode cX7_isFree 16 = .ok (.invokestatic 196, 3) := by decide +kernel
theorem dX7_isFree_19 : decode cX7_isFree 19 = .ok (.ifCond .ne 9, 3) := by decide +kernel
theorem dX7_isFree_22 : decode cX7_isFree 22 = .ok (.aload_n 0, 1) := by decide +kernel
theorem dX7_isFree_23 : decode cX7_isFree 23 = .ok (.iconst 2, 1) := by decide +kernel
theorem dX7_isFree_24 : decode cX7_isFree 24 = .ok (.invokevirtual 177, 3) := by decide +kernel
theorem dX7_isFree_27 : decode cX7_isFree 27 = .ok (.ireturn, 1) := by decide +kernel
theorem dX7_isFree_28 : decode cX7_isFree 28 = .ok (.aload_n 0, 1) := by decide +kernel
theorem dX7_isFree_29 : decode cX7_isFree 29 = .ok (.iconst 0, 1) := by decide +kernel
theorem dX7_isFree_30 : decode cX7_isFree 30 = .ok (.putfield 81, 3) := by decide +kernel
theorem dX7_isFree_33 : decode cX7_isFree 33 = .ok (.aload_n 0, 1) := by decide +kernel
theorem dX7_isFree_34 : decode cX7_isFree 34 = .ok (.iload_n 1, 1) := by decide +kernel
theorem dX7_isFree_35 : decode cX7_isFree 35 = .ok (.iload_n 2, 1) := by decide +kernel
theorem dX7_isFree_36 : decode cX7_isFree 36 = .ok (.iload_n 3, 1) := by decide +kernel
theorem dX7_isFree_37 : decode cX7_isFree 37 = .ok (.iconst (-1), 1) := by decide +kernel
theorem dX7_isFree_38 : decode cX7_isFree 38 = .ok (.invokevirtual 135, 3) := by decide +kernel
theorem dX7_isFree_41 : decode cX7_isFree 41 = .ok (.ireturn, 1) := by decide +kernel
theorem dX7_hasDefence_0 : decode cX7_hasDefence 0 = .ok (.iconst 0, 1) := by decide +kernel
theorem dX7_hasDefence_1 : decode cX7_hasDefence 1 = .ok (.istore_n 3, 1) := by decide +kernel
theorem dX7_hasDefence_2 : decode cX7_hasDefence 2 = .ok (.iload_n 3, 1) := by decide +kernel
theorem dX7_hasDefence_3 : decode cX7_hasDefence 3 = .ok (.aload_n 0, 1) := by decide +kernel
theorem dX7_hasDefence_4 : decode cX7_hasDefence 4 = .ok (.getfield 91, 3) := by decide +kernel
theorem dX7_hasDefence_7 : decode cX7_hasDefence 7 = .ok (.if_icmp .ge 38, 3) := by decide +kernel
theorem dX7_hasDefence_10 : decode cX7_hasDefence 10 = .ok (.aload_n 0, 1) := by decide +kernel
theorem dX7_hasDefence_11 : decode cX7_hasDefence 11 = .ok (.iload_n 3, 1) := by decide +kernel
theorem dX7_hasDefence_12 : decode cX7_hasDefence 12 = .ok (.iload_n 1, 1) := by decide +kernel
theorem dX7_hasDefence_13 : decode cX7_hasDefence 13 = .ok (.invokevirtual 105, 3) := by decide +kernel
theorem dX7_hasDefence_16 : decode cX7_hasDefence 16 = .ok (.ifCond .eq 23, 3) := by decide +kernel
theorem dX7_hasDefence_19 : decode cX7_hasDefence 19 = .ok (.aload_n 0, 1) := by decide +kernel
theorem dX7_hasDefence_20 : decode cX7_hasDefence 20 = .ok (.iload_n 3, 1) := by decide +kernel
theorem dX7_hasDefence_21 : decode cX7_hasDefence 21 = .ok (.invokevirtual 113, 3) := by decide +kernel
theorem dX7_hasDefence_24 : decode cX7_hasDefence 24 = .ok (.ifCond .eq 15, 3) := by decide +kernel
theorem dX7_hasDefence_27 : decode cX7_hasDefence 27 = .ok (.aload_n 0, 1) := by decide +kernel
theorem dX7_hasDefence_28 : decode cX7_hasDefence 28 = .ok (.getfield 49, 3) := by decide +kernel
theorem dX7_hasDefence_31 : decode cX7_hasDefence 31 = .ok (.iload_n 3, 1) := by decide +kernel
theorem dX7_hasDefence_32 : decode cX7_hasDefence 32 = .ok (.iaload, 1) := by decide +kernel
theorem dX7_hasDefence_33 : decode cX7_hasDefence 33 = .ok (.iload_n 2, 1) := by decide +kernel
theorem dX7_hasDefence_34 : decode cX7_hasDefence 34 = .ok (.if_icmp .ne 5, 3) := by decide +kernel
theorem dX7_hasDefence_37 : decode cX7_hasDefence 37 = .ok (.iconst 1, 1) := by decide +kernel
theorem dX7_hasDefence_38 : decode cX7_hasDefence 38 = .ok (.ireturn, 1) := by decide +kernel
theorem dX7_hasDefence_39 : decode cX7_hasDefence 39 = .ok (.iinc 3 1, 3) := by decide +kernel
theorem dX7_hasDefence_42 : decode cX7_hasDefence 42 = .ok (.goto (-40), 3) := by decide +kernel
theorem dX7_hasDefence_45 : decode cX7_hasDefence 45 = .ok (.iconst 0, 1) := by decide +kernel
theorem dX7_hasDefence_46 : decode cX7_hasDefence 46 = .ok (.ireturn, 1) := by decide +kernel
theorem dX7_freeDay_0 : decode cX7_freeDay 0 = .ok (.aload_n 0, 1) := by decide +kernel
theorem dX7_freeDay_1 : decode cX7_freeDay 1 = .ok (.iload_n 1, 1) := by decide +kernel
theorem dX7_freeDay_2 : decode cX7_freeDay 2 = .ok (.invokevirtual 174, 3) := by decide +kernel
theorem dX7_freeDay_5 : decode cX7_freeDay 5 = .ok (.ifCond .ne 9, 3) := by decide +kernel
theorem dX7_freeDay_8 : decode cX7_freeDay 8 = .ok (.aload_n 0, 1) := by decide +kernel
theorem dX7_freeDay_9 : decode cX7_freeDay 9 = .ok (.iconst 1, 1) := by decide +kernel
theorem dX7_freeDay_10 : decode cX7_freeDay 10 = .ok (.invokevirtual 168, 3) := by decide +kernel
theorem dX7_freeDay_13 : decode cX7_freeDay 13 = .ok (.ireturn, 1) := by decide +kernel
theorem dX7_freeDay_14 : decode cX7_freeDay 14 = .ok (.aload_n 0, 1) := by decide +kernel
theorem dX7_freeDay_15 : decode cX7_freeDay 15 = .ok (.getfield 152, 3) := by decide +kernel
theorem dX7_freeDay_18 : decode cX7_freeDay 18 = .ok (.istore_n 2, 1) := by decide +kernel
theorem dX7_freeDay_19 : decode cX7_freeDay 19 = .ok (.iload_n 2, 1) := by decide +kernel
theorem dX7_freeDay_20 : decode cX7_freeDay 20 = .ok (.sipush 400, 3) := by decide +kernel
theorem dX7_freeDay_23 : decode cX7_freeDay 23 = .ok (.if_icmp .gt 27, 3) := by decide +kernel
theorem dX7_freeDay_26 : decode cX7_freeDay 26 = .ok (.aload_n 0, 1) := by decide +kernel
theorem dX7_freeDay_27 : decode cX7_freeDay 27 = .ok (.iload_n 1, 1) := by decide +kernel
theorem dX7_freeDay_28 : decode cX7_freeDay 28 = .ok (.iload_n 2, 1) := by decide +kernel
theorem dX7_freeDay_29 : decode cX7_freeDay 29 = .ok (.invokevirtual 116, 3) := by decide +kernel
theorem dX7_freeDay_32 : decode cX7_freeDay 32 = .ok (.ifCond .ne 12, 3) := by decide +kernel
theorem dX7_freeDay_35 : decode cX7_freeDay 35 = .ok (.aload_n 0, 1) := by decide +kernel
theorem dX7_freeDay_36 : decode cX7_freeDay 36 = .ok (.iload_n 1, 1) := by decide +kernel
theorem dX7_freeDay_37 : decode cX7_freeDay 37 = .ok (.iload_n 2, 1) := by decide +kernel
theorem dX7_freeDay_38 : decode cX7_freeDay 38 = .ok (.invokevirtual 199, 3) := by decide +kernel
theorem dX7_freeDay_41 : decode cX7_freeDay 41 = .ok (.ifCond .eq 9, 3) := by decide +kernel
theorem dX7_freeDay_44 : decode cX7_freeDay 44 = .ok (.iinc 2 1, 3) := by decide +kernel
theorem dX7_freeDay_47 : decode cX7_freeDay 47 = .ok (.goto (-28), 3) := by decide +kernel
theorem dX7_freeDay_50 : decode cX7_freeDay 50 = .ok (.iload_n 2, 1) := by decide +kernel
theorem dX7_freeDay_51 : decode cX7_freeDay 51 = .ok (.sipush 400, 3) := by decide +kernel
theorem dX7_freeDay_54 : decode cX7_freeDay 54 = .ok (.if_icmp .le 9, 3) := by decide +kernel
theorem dX7_freeDay_57 : decode cX7_freeDay 57 = .ok (.aload_n 0, 1) := by decide +kernel
theorem dX7_freeDay_58 : decode cX7_freeDay 58 = .ok (.iconst 2, 1) := by decide +kernel
theorem dX7_freeDay_59 : decode cX7_freeDay 59 = .ok (.invokevirtual 168, 3) := by decide +kernel
theorem dX7_freeDay_62 : decode cX7_freeDay 62 = .ok (.ireturn, 1) := by decide +kernel
theorem dX7_freeDay_63 : decode cX7_freeDay 63 = .ok (.aload_n 0, 1) := by decide +kernel
theorem dX7_freeDay_64 : decode cX7_freeDay 64 = .ok (.iconst 0, 1) := by decide +kernel
theorem dX7_freeDay_65 : decode cX7_freeDay 65 = .ok (.putfield 81, 3) := by decide +kernel
theorem dX7_freeDay_68 : decode cX7_freeDay 68 = .ok (.iload_n 2, 1) := by decide +kernel
theorem dX7_freeDay_69 : decode cX7_freeDay 69 = .ok (.ireturn, 1) := by decide +kernel
theorem dX7_addThesis_0 : decode cX7_addThesis 0 = .ok (.aload_n 0, 1) := by decide +kernel
theorem dX7_addThesis_1 : decode cX7_addThesis 1 = .ok (.iload 4, 2) := by decide +kernel
theorem dX7_addThesis_3 : decode cX7_addThesis 3 = .ok (.invokevirtual 174, 3) := by decide +kernel
theorem dX7_addThesis_6 : decode cX7_addThesis 6 = .ok (.ifCond .ne 9, 3) := by decide +kernel
theorem dX7_addThesis_9 : decode cX7_addThesis 9 = .ok (.aload_n 0, 1) := by decide +kernel
theorem dX7_addThesis_10 : decode cX7_addThesis 10 = .ok (.iconst 1, 1) := by decide +kernel
theorem dX7_addThesis_11 : decode cX7_addThesis 11 = .ok (.invokevirtual 168, 3) := by decide +kernel
theorem dX7_addThesis_14 : decode cX7_addThesis 14 = .ok (.ireturn, 1) := by decide +kernel
theorem dX7_addThesis_15 : decode cX7_addThesis 15 = .ok (.iload_n 1, 1) := by decide +kernel
theorem dX7_addThesis_16 : decode cX7_addThesis 16 = .ok (.iconst 0, 1) := by decide +kernel
theorem dX7_addThesis_17 : decode cX7_addThesis 17 = .ok (.iconst 2, 1) := by decide +kernel
theorem dX7_addThesis_18 : decode cX7_addThesis 18 = .ok (.invokestatic 87, 3) := by decide +kernel
theorem dX7_addThesis_21 : decode cX7_addThesis 21 = .ok (.ifCond .eq 21, 3) := by decide +kernel
theorem dX7_addThesis_24 : decode cX7_addThesis 24 = .ok (.iload_n 2, 1) := by decide +kernel
theorem dX7_addThesis_25 : decode cX7_addThesis 25 = .ok (.iconst 0, 1) := by decide +kernel
theorem dX7_addThesis_26 : decode cX7_addThesis 26 = .ok (.iconst 5, 1) := by decide +kernel
theorem dX7_addThesis_27 : decode cX7_addThesis 27 = .ok (.invokestatic 87, 3) := by decide +kernel
theorem dX7_addThesis_30 : decode cX7_addThesis 30 = .ok (.ifCond .eq 12, 3) := by decide +kernel
theorem dX7_addThesis_33 : decode cX7_addThesis 33 = .ok (.iload_n 3, 1) := by decide +kernel
theorem dX7_addThesis_34 : decode cX7_addThesis 34 = .ok (.iconst 0, 1) := by decide +kernel
theorem dX7_addThesis_35 : decode cX7_addThesis 35 = .ok (.iconst 3, 1) := by decide +kernel
theorem dX7_addThesis_36 : decode cX7_addThesis 36 = .ok (.invokestatic 87, 3) := by decide +kernel
theorem dX7_addThesis_39 : decode cX7_addThesis 39 = .ok (.ifCond .ne 9, 3) := by decide +kernel
theorem dX7_addThesis_42 : decode cX7_addThesis 42 = .ok (.aload_n 0, 1) := by decide +kernel
theorem dX7_addThesis_43 : decode cX7_addThesis 43 = .ok (.iconst 2, 1) := by decide +kernel
theorem dX7_addThesis_44 : decode cX7_addThesis 44 = .ok (.invokevirtual 168, 3) := by decide +kernel
theorem dX7_addThesis_47 : decode cX7_addThesis 47 = .ok (.ireturn, 1) := by decide +kernel
theorem dX7_addThesis_48 : decode cX7_addThesis 48 = .ok (.aload_n 0, 1) := by decide +kernel
theorem dX7_addThesis_49 : decode cX7_addThesis 49 = .ok (.getfield 91, 3) := by decide +kernel
theorem dX7_addThesis_52 : decode cX7_addThesis 52 = .ok (.bipush 8, 2) := by decide +kernel
theorem dX7_addThesis_54 : decode cX7_addThesis 54 = .ok (.if_icmp .ne 9, 3) := by decide +kernel
theorem dX7_addThesis_57 : decode cX7_addThesis 57 = .ok (.aload_n 0, 1) := by decide +kernel
theorem dX7_addThesis_58 : decode cX7_addThesis 58 = .ok (.iconst 3, 1) := by decide +kernel
theorem dX7_addThesis_59 : decode cX7_addThesis 59 = .ok (.invokevirtual 168, 3) := by decide +kernel
theorem dX7_addThesis_62 : decode cX7_addThesis 62 = .ok (.ireturn, 1) := by decide +kernel
theorem dX7_addThesis_63 : decode cX7_addThesis 63 = .ok (.aload_n 0, 1) := by decide +kernel
theorem dX7_addThesis_64 : decode cX7_addThesis 64 = .ok (.iconst 0, 1) := by decide +kernel
theorem dX7_addThesis_65 : decode cX7_addThesis 65 = .ok (.putfield 81, 3) := by decide +kernel
theorem dX7_addThesis_68 : decode cX7_addThesis 68 = .ok (.aload_n 0, 1) := by decide +kernel
theorem dX7_addThesis_69 : decode cX7_addThesis 69 = .ok (.invokevirtual 171, 3) := by decide +kernel
theorem dX7_addThesis_72 : decode cX7_addThesis 72 = .ok (.aload_n 0, 1) := by decide +kernel
theorem dX7_addThesis_73 : decode cX7_addThesis 73 = .ok (.getfield 91, 3) := by decide +kernel
theorem dX7_addThesis_76 : decode cX7_addThesis 76 = .ok (.istore 5, 2) := by decide +kernel
theorem dX7_addThesis_78 : decode cX7_addThesis 78 = .ok (.aload_n 0, 1) := by decide +kernel
theorem dX7_addThesis_79 : decode cX7_addThesis 79 = .ok (.getfield 28, 3) := by decide +kernel
theorem dX7_addThesis_82 : decode cX7_addThesis 82 = .ok (.iload 5, 2) := by decide +kernel
theorem dX7_addThesis_84 : decode cX7_addThesis 84 = .ok (.iload_n 1, 1) := by decide +kernel
theorem dX7_addThesis_85 : decode cX7_addThesis 85 = .ok (.iastore, 1) := by decide +kernel
theorem dX7_addThesis_86 : decode cX7_addThesis 86 = .ok (.aload_n 0, 1) := by decide +kernel
theorem dX7_addThesis_87 : decode cX7_addThesis 87 = .ok (.getfield 31, 3) := by decide +kernel
theorem dX7_addThesis_90 : decode cX7_addThesis 90 = .ok (.iload 5, 2) := by decide +kernel
theorem dX7_addThesis_92 : decode cX7_addThesis 92 = .ok (.iload_n 2, 1) := by decide +kernel
theorem dX7_addThesis_93 : decode cX7_addThesis 93 = .ok (.iastore, 1) := by decide +kernel
theorem dX7_addThesis_94 : decode cX7_addThesis 94 = .ok (.aload_n 0, 1) := by decide +kernel
theorem dX7_addThesis_95 : decode cX7_addThesis 95 = .ok (.getfield 34, 3) := by decide +kernel
theorem dX7_addThesis_98 : decode cX7_addThesis 98 = .ok (.iload 5, 2) := by decide +kernel
theorem dX7_addThesis_100 : decode cX7_addThesis 100 = .ok (.iload_n 3, 1) := by decide +kernel
theorem dX7_addThesis_101 : decode cX7_addThesis 101 = .ok (.iastore, 1) := by decide +kernel
theorem dX7_addThesis_102 : decode cX7_addThesis 102 = .ok (.aload_n 0, 1) := by decide +kernel
theorem dX7_addThesis_103 : decode cX7_addThesis 103 = .ok (.getfield 37, 3) := by decide +kernel
theorem dX7_addThesis_106 : decode cX7_addThesis 106 = .ok (.iload 5, 2) := by decide +kernel
theorem dX7_addThesis_108 : decode cX7_addThesis 108 = .ok (.iload 4, 2) := by decide +kernel
theorem dX7_addThesis_110 : decode cX7_addThesis 110 = .ok (.iastore, 1) := by decide +kernel
theorem dX7_addThesis_111 : decode cX7_addThesis 111 = .ok (.aload_n 0, 1) := by decide +kernel
theorem dX7_addThesis_112 : decode cX7_addThesis 112 = .ok (.getfield 40, 3) := by decide +kernel
theorem dX7_addThesis_115 : decode cX7_addThesis 115 = .ok (.iload 5, 2) := by decide +kernel
theorem dX7_addThesis_117 : decode cX7_addThesis 117 = .ok (.iconst 0, 1) := by decide +kernel
theorem dX7_addThesis_118 : decode cX7_addThesis 118 = .ok (.iastore, 1) := by decide +kernel
theorem dX7_addThesis_119 : decode cX7_addThesis 119 = .ok (.aload_n 0, 1) := by decide +kernel
theorem dX7_addThesis_120 : decode cX7_addThesis 120 = .ok (.getfield 43, 3) := by decide +kernel
theorem dX7_addThesis_123 : decode cX7_addThesis 123 = .ok (.iload 5, 2) := by decide +kernel
theorem dX7_addThesis_125 : decode cX7_addThesis 125 = .ok (.iconst 0, 1) := by decide +kernel
theorem dX7_addThesis_126 : decode cX7_addThesis 126 = .ok (.iastore, 1) := by decide +kernel
theorem dX7_addThesis_127 : decode cX7_addThesis 127 = .ok (.aload_n 0, 1) := by decide +kernel
theorem dX7_addThesis_128 : decode cX7_addThesis 128 = .ok (.iload 5, 2) := by decide +kernel
theorem dX7_addThesis_130 : decode cX7_addThesis 130 = .ok (.invokevirtual 142, 3) := by decide +kernel
theorem dX7_addThesis_133 : decode cX7_addThesis 133 = .ok (.aload_n 0, 1) := by decide +kernel
theorem dX7_addThesis_134 : decode cX7_addThesis 134 = .ok (.dup, 1) := by decide +kernel
theorem dX7_addThesis_135 : decode cX7_addThesis 135 = .ok (.getfield 91, 3) := by decide +kernel
theorem dX7_addThesis_138 : decode cX7_addThesis 138 = .ok (.iconst 1, 1) := by decide +kernel
theorem dX7_addThesis_139 : decode cX7_addThesis 139 = .ok (.iadd, 1) := by decide +kernel
theorem dX7_addThesis_140 : decode cX7_addThesis 140 = .ok (.putfield 91, 3) := by decide +kernel
theorem dX7_addThesis_143 : decode cX7_addThesis 143 = .ok (.iload 5, 2) := by decide +kernel
theorem dX7_addThesis_145 : decode cX7_addThesis 145 = .ok (.ireturn, 1) := by decide +kernel
theorem dX7_placeInLine_0 : decode cX7_placeInLine 0 = .ok (.iconst 0, 1) := by decide +kernel
theorem dX7_placeInLine_1 : decode cX7_placeInLine 1 = .ok (.istore_n 2, 1) := by decide +kernel
theorem dX7_placeInLine_2 : decode cX7_placeInLine 2 = .ok (.iload_n 2, 1) := by decide +kernel
theorem dX7_placeInLine_3 : decode cX7_placeInLine 3 = .ok (.aload_n 0, 1) := by decide +kernel
theorem dX7_placeInLine_4 : decode cX7_placeInLine 4 = .ok (.getfield 159, 3) := by decide +kernel
theorem dX7_placeInLine_7 : decode cX7_placeInLine 7 = .ok (.if_icmp .ge 21, 3) := by decide +kernel
theorem dX7_placeInLine_10 : decode cX7_placeInLine 10 = .ok (.aload_n 0, 1) := by decide +kernel
theorem dX7_placeInLine_11 : decode cX7_placeInLine 11 = .ok (.getfield 55, 3) := by decide +kernel
theorem dX7_placeInLine_14 : decode cX7_placeInLine 14 = .ok (.iload_n 2, 1) := by decide +kernel
theorem dX7_placeInLine_15 : decode cX7_placeInLine 15 = .ok (.iaload, 1) := by decide +kernel
theorem dX7_placeInLine_16 : decode cX7_placeInLine 16 = .ok (.iload_n 1, 1) := by decide +kernel
theorem dX7_placeInLine_17 : decode cX7_placeInLine 17 = .ok (.if_icmp .ne 5, 3) := by decide +kernel
theorem dX7_placeInLine_20 : decode cX7_placeInLine 20 = .ok (.iload_n 2, 1) := by decide +kernel
theorem dX7_placeInLine_21 : decode cX7_placeInLine 21 = .ok (.ireturn, 1) := by decide +kernel
theorem dX7_placeInLine_22 : decode cX7_placeInLine 22 = .ok (.iinc 2 1, 3) := by decide +kernel
theorem dX7_placeInLine_25 : decode cX7_placeInLine 25 = .ok (.goto (-23), 3) := by decide +kernel
theorem dX7_placeInLine_28 : decode cX7_placeInLine 28 = .ok (.iconst (-1), 1) := by decide +kernel
theorem dX7_placeInLine_29 : decode cX7_placeInLine 29 = .ok (.ireturn, 1) := by decide +kernel
theorem dX7_thesis_0 : decode cX7_thesis 0 = .ok (.aload_n 0, 1) := by decide +kernel
theorem dX7_thesis_1 : decode cX7_thesis 1 = .ok (.iload_n 1, 1) := by decide +kernel
theorem dX7_thesis_2 : decode cX7_thesis 2 = .ok (.invokevirtual 202, 3) := by decide +kernel
theorem dX7_thesis_5 : decode cX7_thesis 5 = .ok (.ifCond .ne 9, 3) := by decide +kernel
theorem dX7_thesis_8 : decode cX7_thesis 8 = .ok (.aload_n 0, 1) := by decide +kernel
theorem dX7_thesis_9 : decode cX7_thesis 9 = .ok (.iconst 1, 1) := by decide +kernel
theorem dX7_thesis_10 : decode cX7_thesis 10 = .ok (.invokevirtual 168, 3) := by decide +kernel
theorem dX7_thesis_13 : decode cX7_thesis 13 = .ok (.ireturn, 1) := by decide +kernel
theorem dX7_thesis_14 : decode cX7_thesis 14 = .ok (.iload_n 2, 1) := by decide +kernel
theorem dX7_thesis_15 : decode cX7_thesis 15 = .ok (.iconst 0, 1) := by decide +kernel
theorem dX7_thesis_16 : decode cX7_thesis 16 = .ok (.bipush 10, 2) := by decide +kernel
theorem dX7_thesis_18 : decode cX7_thesis 18 = .ok (.invokestatic 87, 3) := by decide +kernel
theorem dX7_thesis_21 : decode cX7_thesis 21 = .ok (.ifCond .ne 9, 3) := by decide +kernel
theorem dX7_thesis_24 : decode cX7_thesis 24 = .ok (.aload_n 0, 1) := by decide +kernel
theorem dX7_thesis_25 : decode cX7_thesis 25 = .ok (.iconst 2, 1) := by decide +kernel
theorem dX7_thesis_26 : decode cX7_thesis 26 = .ok (.invokevirtual 168, 3) := by decide +kernel
theorem dX7_thesis_29 : decode cX7_thesis 29 = .ok (.ireturn, 1) := by decide +kernel
theorem dX7_thesis_30 : decode cX7_thesis 30 = .ok (.aload_n 0, 1) := by decide +kernel
theorem dX7_thesis_31 : decode cX7_thesis 31 = .ok (.iconst 0, 1) := by decide +kernel
theorem dX7_thesis_32 : decode cX7_thesis 32 = .ok (.putfield 81, 3) := by decide +kernel
theorem dX7_thesis_35 : decode cX7_thesis 35 = .ok (.iload_n 2, 1) := by decide +kernel
theorem dX7_thesis_36 : decode cX7_thesis 36 = .ok (.tableswitch 133 0 9 #[56, 63, 70, 77, 84, 91, 98, 105, 112, 119], 56) := by decide +kernel
theorem dX7_thesis_92 : decode cX7_thesis 92 = .ok (.aload_n 0, 1) := by decide +kernel
theorem dX7_thesis_93 : decode cX7_thesis 93 = .ok (.getfield 28, 3) := by decide +kernel
theorem dX7_thesis_96 : decode cX7_thesis 96 = .ok (.iload_n 1, 1) := by decide +kernel
theorem dX7_thesis_97 : decode cX7_thesis 97 = .ok (.iaload, 1) := by decide +kernel
theorem dX7_thesis_98 : decode cX7_thesis 98 = .ok (.ireturn, 1) := by decide +kernel
theorem dX7_thesis_99 : decode cX7_thesis 99 = .ok (.aload_n 0, 1) := by decide +kernel
theorem dX7_thesis_100 : decode cX7_thesis 100 = .ok (.getfield 31, 3) := by decide +kernel
theorem dX7_thesis_103 : decode cX7_thesis 103 = .ok (.iload_n 1, 1) := by decide +kernel
theorem dX7_thesis_104 : decode cX7_thesis 104 = .ok (.iaload, 1) := by decide +kernel
theorem dX7_thesis_105 : decode cX7_thesis 105 = .ok (.ireturn, 1) := by decide +kernel
theorem dX7_thesis_106 : decode cX7_thesis 106 = .ok (.aload_n 0, 1) := by decide +kernel
theorem dX7_thesis_107 : decode cX7_thesis 107 = .ok (.getfield 34, 3) := by decide +kernel
theorem dX7_thesis_110 : decode cX7_thesis 110 = .ok (.iload_n 1, 1) := by decide +kernel
theorem dX7_thesis_111 : decode cX7_thesis 111 = .ok (.iaload, 1) := by decide +kernel
theorem dX7_thesis_112 : decode cX7_thesis 112 = .ok (.ireturn, 1) := by decide +kernel
theorem dX7_thesis_113 : decode cX7_thesis 113 = .ok (.aload_n 0, 1) := by decide +kernel
theorem dX7_thesis_114 : decode cX7_thesis 114 = .ok (.getfield 37, 3) := by decide +kernel
theorem dX7_thesis_117 : decode cX7_thesis 117 = .ok (.iload_n 1, 1) := by decide +kernel
theorem dX7_thesis_118 : decode cX7_thesis 118 = .ok (.iaload, 1) := by decide +kernel
theorem dX7_thesis_119 : decode cX7_thesis 119 = .ok (.ireturn, 1) := by decide +kernel
theorem dX7_thesis_120 : decode cX7_thesis 120 = .ok (.aload_n 0, 1) := by decide +kernel
theorem dX7_thesis_121 : decode cX7_thesis 121 = .ok (.getfield 40, 3) := by decide +kernel
theorem dX7_thesis_124 : decode cX7_thesis 124 = .ok (.iload_n 1, 1) := by decide +kernel
theorem dX7_thesis_125 : decode cX7_thesis 125 = .ok (.iaload, 1) := by decide +kernel
theorem dX7_thesis_126 : decode cX7_thesis 126 = .ok (.ireturn, 1) := by decide +kernel
theorem dX7_thesis_127 : decode cX7_thesis 127 = .ok (.aload_n 0, 1) := by decide +kernel
theorem dX7_thesis_128 : decode cX7_thesis 128 = .ok (.getfield 43, 3) := by decide +kernel
theorem dX7_thesis_131 : decode cX7_thesis 131 = .ok (.iload_n 1, 1) := by decide +kernel
theorem dX7_thesis_132 : decode cX7_thesis 132 = .ok (.iaload, 1) := by decide +kernel
theorem dX7_thesis_133 : decode cX7_thesis 133 = .ok (.ireturn, 1) := by decide +kernel
theorem dX7_thesis_134 : decode cX7_thesis 134 = .ok (.aload_n 0, 1) := by decide +kernel
theorem dX7_thesis_135 : decode cX7_thesis 135 = .ok (.getfield 46, 3) := by decide +kernel
theorem dX7_thesis_138 : decode cX7_thesis 138 = .ok (.iload_n 1, 1) := by decide +kernel
theorem dX7_thesis_139 : decode cX7_thesis 139 = .ok (.iaload, 1) := by decide +kernel
theorem dX7_thesis_140 : decode cX7_thesis 140 = .ok (.ireturn, 1) := by decide +kernel
theorem dX7_thesis_141 : decode cX7_thesis 141 = .ok (.aload_n 0, 1) := by decide +kernel
theorem dX7_thesis_142 : decode cX7_thesis 142 = .ok (.getfield 49, 3) := by decide +kernel
theorem dX7_thesis_145 : decode cX7_thesis 145 = .ok (.iload_n 1, 1) := by decide +kernel
theorem dX7_thesis_146 : decode cX7_thesis 146 = .ok (.iaload, 1) := by decide +kernel
theorem dX7_thesis_147 : decode cX7_thesis 147 = .ok (.ireturn, 1) := by decide +kernel
theorem dX7_thesis_148 : decode cX7_thesis 148 = .ok (.aload_n 0, 1) := by decide +kernel
theorem dX7_thesis_149 : decode cX7_thesis 149 = .ok (.getfield 52, 3) := by decide +kernel
theorem dX7_thesis_152 : decode cX7_thesis 152 = .ok (.iload_n 1, 1) := by decide +kernel
theorem dX7_thesis_153 : decode cX7_thesis 153 = .ok (.iaload, 1) := by decide +kernel
theorem dX7_thesis_154 : decode cX7_thesis 154 = .ok (.ireturn, 1) := by decide +kernel
theorem dX7_thesis_155 : decode cX7_thesis 155 = .ok (.aload_n 0, 1) := by decide +kernel
theorem dX7_thesis_156 : decode cX7_thesis 156 = .ok (.iload_n 1, 1) := by decide +kernel
theorem dX7_thesis_157 : decode cX7_thesis 157 = .ok (.invokevirtual 205, 3) := by decide +kernel
theorem dX7_thesis_160 : decode cX7_thesis 160 = .ok (.ifCond .ge 7, 3) := by decide +kernel
theorem dX7_thesis_163 : decode cX7_thesis 163 = .ok (.iconst 0, 1) := by decide +kernel
theorem dX7_thesis_164 : decode cX7_thesis 164 = .ok (.goto 4, 3) := by decide +kernel
theorem dX7_thesis_167 : decode cX7_thesis 167 = .ok (.iconst 1, 1) := by decide +kernel
theorem dX7_thesis_168 : decode cX7_thesis 168 = .ok (.ireturn, 1) := by decide +kernel
theorem dX7_thesis_169 : decode cX7_thesis 169 = .ok (.aload_n 0, 1) := by decide +kernel
theorem dX7_thesis_170 : decode cX7_thesis 170 = .ok (.iload_n 1, 1) := by decide +kernel
theorem dX7_thesis_171 : decode cX7_thesis 171 = .ok (.invokevirtual 132, 3) := by decide +kernel
theorem dX7_thesis_174 : decode cX7_thesis 174 = .ok (.ireturn, 1) := by decide +kernel
theorem dX7_refusal_0 : decode cX7_refusal 0 = .ok (.aload_n 0, 1) := by decide +kernel
theorem dX7_refusal_1 : decode cX7_refusal 1 = .ok (.iload_n 1, 1) := by decide +kernel
theorem dX7_refusal_2 : decode cX7_refusal 2 = .ok (.putfield 208, 3) := by decide +kernel
theorem dX7_refusal_5 : decode cX7_refusal 5 = .ok (.aload_n 0, 1) := by decide +kernel
theorem dX7_refusal_6 : decode cX7_refusal 6 = .ok (.iload_n 2, 1) := by decide +kernel
theorem dX7_refusal_7 : decode cX7_refusal 7 = .ok (.invokevirtual 168, 3) := by decide +kernel
theorem dX7_refusal_10 : decode cX7_refusal 10 = .ok (.ireturn, 1) := by decide +kernel
theorem dX7_join_0 : decode cX7_join 0 = .ok (.aload_n 0, 1) := by decide +kernel
theorem dX7_join_1 : decode cX7_join 1 = .ok (.iload_n 1, 1) := by decide +kernel
theorem dX7_join_2 : decode cX7_join 2 = .ok (.invokevirtual 202, 3) := by decide +kernel
theorem dX7_join_5 : decode cX7_join 5 = .ok (.ifCond .eq 11, 3) := by decide +kernel
theorem dX7_join_8 : decode cX7_join 8 = .ok (.aload_n 0, 1) := by decide +kernel
theorem dX7_join_9 : decode cX7_join 9 = .ok (.iload_n 2, 1) := by decide +kernel
theorem dX7_join_10 : decode cX7_join 10 = .ok (.invokevirtual 174, 3) := by decide +kernel
theorem dX7_join_13 : decode cX7_join 13 = .ok (.ifCond .ne 9, 3) := by decide +kernel
theorem dX7_join_16 : decode cX7_join 16 = .ok (.aload_n 0, 1) := by decide +kernel
theorem dX7_join_17 : decode cX7_join 17 = .ok (.iconst 1, 1) := by decide +kernel
theorem dX7_join_18 : decode cX7_join 18 = .ok (.invokevirtual 168, 3) := by decide +kernel
theorem dX7_join_21 : decode cX7_join 21 = .ok (.ireturn, 1) := by decide +kernel
theorem dX7_join_22 : decode cX7_join 22 = .ok (.aload_n 0, 1) := by decide +kernel
theorem dX7_join_23 : decode cX7_join 23 = .ok (.iload_n 1, 1) := by decide +kernel
theorem dX7_join_24 : decode cX7_join 24 = .ok (.iload_n 2, 1) := by decide +kernel
theorem dX7_join_25 : decode cX7_join 25 = .ok (.aload_n 0, 1) := by decide +kernel
theorem dX7_join_26 : decode cX7_join 26 = .ok (.getfield 43, 3) := by decide +kernel
theorem dX7_join_29 : decode cX7_join 29 = .ok (.iload_n 1, 1) := by decide +kernel
theorem dX7_join_30 : decode cX7_join 30 = .ok (.iaload, 1) := by decide +kernel
theorem dX7_join_31 : decode cX7_join 31 = .ok (.invokevirtual 211, 3) := by decide +kernel
theorem dX7_join_34 : decode cX7_join 34 = .ok (.istore_n 3, 1) := by decide +kernel
theorem dX7_join_35 : decode cX7_join 35 = .ok (.iload_n 3, 1) := by decide +kernel
theorem dX7_join_36 : decode cX7_join 36 = .ok (.ifCond .le 10, 3) := by decide +kernel
theorem dX7_join_39 : decode cX7_join 39 = .ok (.aload_n 0, 1) := by decide +kernel
theorem dX7_join_40 : decode cX7_join 40 = .ok (.iload_n 3, 1) := by decide +kernel
theorem dX7_join_41 : decode cX7_join 41 = .ok (.iconst 2, 1) := by decide +kernel
theorem dX7_join_42 : decode cX7_join 42 = .ok (.invokevirtual 214, 3) := by decide +kernel
theorem dX7_join_45 : decode cX7_join 45 = .ok (.ireturn, 1) := by decide +kernel
theorem dX7_join_46 : decode cX7_join 46 = .ok (.aload_n 0, 1) := by decide +kernel
theorem dX7_join_47 : decode cX7_join 47 = .ok (.iconst 0, 1) := by decide +kernel
theorem dX7_join_48 : decode cX7_join 48 = .ok (.putfield 81, 3) := by decide +kernel
theorem dX7_join_51 : decode cX7_join 51 = .ok (.aload_n 0, 1) := by decide +kernel
theorem dX7_join_52 : decode cX7_join 52 = .ok (.invokevirtual 171, 3) := by decide +kernel
theorem dX7_join_55 : decode cX7_join 55 = .ok (.aload_n 0, 1) := by decide +kernel
theorem dX7_join_56 : decode cX7_join 56 = .ok (.getfield 43, 3) := by decide +kernel
theorem dX7_join_59 : decode cX7_join 59 = .ok (.iload_n 1, 1) := by decide +kernel
theorem dX7_join_60 : decode cX7_join 60 = .ok (.dup2, 1) := by decide +kernel
theorem dX7_join_61 : decode cX7_join 61 = .ok (.iaload, 1) := by decide +kernel
theorem dX7_join_62 : decode cX7_join 62 = .ok (.iconst 1, 1) := by decide +kernel
theorem dX7_join_63 : decode cX7_join 63 = .ok (.iload_n 2, 1) := by decide +kernel
theorem dX7_join_64 : decode cX7_join 64 = .ok (.ishl, 1) := by decide +kernel
theorem dX7_join_65 : decode cX7_join 65 = .ok (.ior, 1) := by decide +kernel
theorem dX7_join_66 : decode cX7_join 66 = .ok (.iastore, 1) := by decide +kernel
theorem dX7_join_67 : decode cX7_join 67 = .ok (.aload_n 0, 1) := by decide +kernel
theorem dX7_join_68 : decode cX7_join 68 = .ok (.getfield 43, 3) := by decide +kernel
theorem dX7_join_71 : decode cX7_join 71 = .ok (.iload_n 1, 1) := by decide +kernel
theorem dX7_join_72 : decode cX7_join 72 = .ok (.iaload, 1) := by decide +kernel
theorem dX7_join_73 : decode cX7_join 73 = .ok (.invokestatic 129, 3) := by decide +kernel
theorem dX7_join_76 : decode cX7_join 76 = .ok (.ireturn, 1) := by decide +kernel
theorem dX7_leave_0 : decode cX7_leave 0 = .ok (.aload_n 0, 1) := by decide +kernel
theorem dX7_leave_1 : decode cX7_leave 1 = .ok (.iload_n 1, 1) := by decide +kernel
theorem dX7_leave_2 : decode cX7_leave 2 = .ok (.invokevirtual 202, 3) := by decide +kernel
theorem dX7_leave_5 : decode cX7_leave 5 = .ok (.ifCond .eq 11, 3) := by decide +kernel
theorem dX7_leave_8 : decode cX7_leave 8 = .ok (.aload_n 0, 1) := by decide +kernel
theorem dX7_leave_9 : decode cX7_leave 9 = .ok (.iload_n 2, 1) := by decide +kernel
theorem dX7_leave_10 : decode cX7_leave 10 = .ok (.invokevirtual 174, 3) := by decide +kernel
theorem dX7_leave_13 : decode cX7_leave 13 = .ok (.ifCond .ne 9, 3) := by decide +kernel
theorem dX7_leave_16 : decode cX7_leave 16 = .ok (.aload_n 0, 1) := by decide +kernel
theorem dX7_leave_17 : decode cX7_leave 17 = .ok (.iconst 1, 1) := by decide +kernel
theorem dX7_leave_18 : decode cX7_leave 18 = .ok (.invokevirtual 168, 3) := by decide +kernel
theorem dX7_leave_21 : decode cX7_leave 21 = .ok (.ireturn, 1) := by decide +kernel
theorem dX7_leave_22 : decode cX7_leave 22 = .ok (.aload_n 0, 1) := by decide +kernel
theorem dX7_leave_23 : decode cX7_leave 23 = .ok (.iload_n 1, 1) := by decide +kernel
theorem dX7_leave_24 : decode cX7_leave 24 = .ok (.iload_n 2, 1) := by decide +kernel
theorem dX7_leave_25 : decode cX7_leave 25 = .ok (.invokevirtual 105, 3) := by decide +kernel
theorem dX7_leave_28 : decode cX7_leave 28 = .ok (.ifCond .eq 11, 3) := by decide +kernel
theorem dX7_leave_31 : decode cX7_leave 31 = .ok (.aload_n 0, 1) := by decide +kernel
theorem dX7_leave_32 : decode cX7_leave 32 = .ok (.iload_n 1, 1) := by decide +kernel
theorem dX7_leave_33 : decode cX7_leave 33 = .ok (.invokevirtual 109, 3) := by decide +kernel
theorem dX7_leave_36 : decode cX7_leave 36 = .ok (.ifCond .eq 9, 3) := by decide +kernel
theorem dX7_leave_39 : decode cX7_leave 39 = .ok (.aload_n 0, 1) := by decide +kernel
theorem dX7_leave_40 : decode cX7_leave 40 = .ok (.iconst 2, 1) := by decide +kernel
theorem dX7_leave_41 : decode cX7_leave 41 = .ok (.invokevirtual 168, 3) := by decide +kernel
theorem dX7_leave_44 : decode cX7_leave 44 = .ok (.ireturn, 1) := by decide +kernel
theorem dX7_leave_45 : decode cX7_leave 45 = .ok (.aload_n 0, 1) := by decide +kernel
theorem dX7_leave_46 : decode cX7_leave 46 = .ok (.iconst 0, 1) := by decide +kernel
theorem dX7_leave_47 : decode cX7_leave 47 = .ok (.putfield 81, 3) := by decide +kernel
theorem dX7_leave_50 : decode cX7_leave 50 = .ok (.aload_n 0, 1) := by decide +kernel
theorem dX7_leave_51 : decode cX7_leave 51 = .ok (.invokevirtual 171, 3) := by decide +kernel
theorem dX7_leave_54 : decode cX7_leave 54 = .ok (.aload_n 0, 1) := by decide +kernel
theorem dX7_leave_55 : decode cX7_leave 55 = .ok (.getfield 43, 3) := by decide +kernel
theorem dX7_leave_58 : decode cX7_leave 58 = .ok (.iload_n 1, 1) := by decide +kernel
theorem dX7_leave_59 : decode cX7_leave 59 = .ok (.dup2, 1) := by decide +kernel
theorem dX7_leave_60 : decode cX7_leave 60 = .ok (.iaload, 1) := by decide +kernel
theorem dX7_leave_61 : decode cX7_leave 61 = .ok (.iconst 1, 1) := by decide +kernel
theorem dX7_leave_62 : decode cX7_leave 62 = .ok (.iload_n 2, 1) := by decide +kernel
theorem dX7_leave_63 : decode cX7_leave 63 = .ok (.ishl, 1) := by decide +kernel
theorem dX7_leave_64 : decode cX7_leave 64 = .ok (.iconst (-1), 1) := by decide +kernel
theorem dX7_leave_65 : decode cX7_leave 65 = .ok (.ixor, 1) := by decide +kernel
theorem dX7_leave_66 : decode cX7_leave 66 = .ok (.iand, 1) := by decide +kernel
theorem dX7_leave_67 : decode cX7_leave 67 = .ok (.iastore, 1) := by decide +kernel
theorem dX7_leave_68 : decode cX7_leave 68 = .ok (.aload_n 0, 1) := by decide +kernel
theorem dX7_leave_69 : decode cX7_leave 69 = .ok (.iload_n 1, 1) := by decide +kernel
theorem dX7_leave_70 : decode cX7_leave 70 = .ok (.invokevirtual 217, 3) := by decide +kernel
theorem dX7_leave_73 : decode cX7_leave 73 = .ok (.aload_n 0, 1) := by decide +kernel
theorem dX7_leave_74 : decode cX7_leave 74 = .ok (.getfield 43, 3) := by decide +kernel
theorem dX7_leave_77 : decode cX7_leave 77 = .ok (.iload_n 1, 1) := by decide +kernel
theorem dX7_leave_78 : decode cX7_leave 78 = .ok (.iaload, 1) := by decide +kernel
theorem dX7_leave_79 : decode cX7_leave 79 = .ok (.invokestatic 129, 3) := by decide +kernel
theorem dX7_leave_82 : decode cX7_leave 82 = .ok (.ireturn, 1) := by decide +kernel
theorem dX7_replace_0 : decode cX7_replace 0 = .ok (.aload_n 0, 1) := by decide +kernel
theorem dX7_replace_1 : decode cX7_replace 1 = .ok (.iload_n 1, 1) := by decide +kernel
theorem dX7_replace_2 : decode cX7_replace 2 = .ok (.invokevirtual 202, 3) := by decide +kernel
theorem dX7_replace_5 : decode cX7_replace 5 = .ok (.ifCond .eq 19, 3) := by decide +kernel
theorem dX7_replace_8 : decode cX7_replace 8 = .ok (.aload_n 0, 1) := by decide +kernel
theorem dX7_replace_9 : decode cX7_replace 9 = .ok (.iload_n 2, 1) := by decide +kernel
theorem dX7_replace_10 : decode cX7_replace 10 = .ok (.invokevirtual 174, 3) := by decide +kernel
theorem dX7_replace_13 : decode cX7_replace 13 = .ok (.ifCond .eq 11, 3) := by decide +kernel
theorem dX7_replace_16 : decode cX7_replace 16 = .ok (.aload_n 0, 1) := by decide +kernel
theorem dX7_replace_17 : decode cX7_replace 17 = .ok (.iload_n 3, 1) := by decide +kernel
theorem dX7_replace_18 : decode cX7_replace 18 = .ok (.invokevirtual 174, 3) := by decide +kernel
theorem dX7_replace_21 : decode cX7_replace 21 = .ok (.ifCond .ne 9, 3) := by decide +kernel
theorem dX7_replace_24 : decode cX7_replace 24 = .ok (.aload_n 0, 1) := by decide +kernel
theorem dX7_replace_25 : decode cX7_replace 25 = .ok (.iconst 1, 1) := by decide +kernel
theorem dX7_replace_26 : decode cX7_replace 26 = .ok (.invokevirtual 168, 3) := by decide +kernel
theorem dX7_replace_29 : decode cX7_replace 29 = .ok (.ireturn, 1) := by decide +kernel
theorem dX7_replace_30 : decode cX7_replace 30 = .ok (.aload_n 0, 1) := by decide +kernel
theorem dX7_replace_31 : decode cX7_replace 31 = .ok (.iload_n 1, 1) := by decide +kernel
theorem dX7_replace_32 : decode cX7_replace 32 = .ok (.iload_n 2, 1) := by decide +kernel
theorem dX7_replace_33 : decode cX7_replace 33 = .ok (.invokevirtual 105, 3) := by decide +kernel
theorem dX7_replace_36 : decode cX7_replace 36 = .ok (.ifCond .ne 9, 3) := by decide +kernel
theorem dX7_replace_39 : decode cX7_replace 39 = .ok (.aload_n 0, 1) := by decide +kernel
theorem dX7_replace_40 : decode cX7_replace 40 = .ok (.iconst 2, 1) := by decide +kernel
theorem dX7_replace_41 : decode cX7_replace 41 = .ok (.invokevirtual 168, 3) := by decide +kernel
theorem dX7_replace_44 : decode cX7_replace 44 = .ok (.ireturn, 1) := by decide +kernel
theorem dX7_replace_45 : decode cX7_replace 45 = .ok (.aload_n 0, 1) := by decide +kernel
theorem dX7_replace_46 : decode cX7_replace 46 = .ok (.getfield 43, 3) := by decide +kernel
theorem dX7_replace_49 : decode cX7_replace 49 = .ok (.iload_n 1, 1) := by decide +kernel
theorem dX7_replace_50 : decode cX7_replace 50 = .ok (.iaload, 1) := by decide +kernel
theorem dX7_replace_51 : decode cX7_replace 51 = .ok (.iconst 1, 1) := by decide +kernel
theorem dX7_replace_52 : decode cX7_replace 52 = .ok (.iload_n 2, 1) := by decide +kernel
theorem dX7_replace_53 : decode cX7_replace 53 = .ok (.ishl, 1) := by decide +kernel
theorem dX7_replace_54 : decode cX7_replace 54 = .ok (.iconst (-1), 1) := by decide +kernel
theorem dX7_replace_55 : decode cX7_replace 55 = .ok (.ixor, 1) := by decide +kernel
theorem dX7_replace_56 : decode cX7_replace 56 = .ok (.iand, 1) := by decide +kernel
theorem dX7_replace_57 : decode cX7_replace 57 = .ok (.istore 4, 2) := by decide +kernel
theorem dX7_replace_59 : decode cX7_replace 59 = .ok (.aload_n 0, 1) := by decide +kernel
theorem dX7_replace_60 : decode cX7_replace 60 = .ok (.iload_n 1, 1) := by decide +kernel
theorem dX7_replace_61 : decode cX7_replace 61 = .ok (.iload_n 3, 1) := by decide +kernel
theorem dX7_replace_62 : decode cX7_replace 62 = .ok (.iload 4, 2) := by decide +kernel
theorem dX7_replace_64 : decode cX7_replace 64 = .ok (.invokevirtual 211, 3) := by decide +kernel
theorem dX7_replace_67 : decode cX7_replace 67 = .ok (.istore 5, 2) := by decide +kernel
theorem dX7_replace_69 : decode cX7_replace 69 = .ok (.iload 5, 2) := by decide +kernel
theorem dX7_replace_71 : decode cX7_replace 71 = .ok (.ifCond .le 11, 3) := by decide +kernel
theorem dX7_replace_74 : decode cX7_replace 74 = .ok (.aload_n 0, 1) := by decide +kernel
theorem dX7_replace_75 : decode cX7_replace 75 = .ok (.iload 5, 2) := by decide +kernel
theorem dX7_replace_77 : decode cX7_replace 77 = .ok (.iconst 3, 1) := by decide +kernel
theorem dX7_replace_78 : decode cX7_replace 78 = .ok (.invokevirtual 214, 3) := by decide +kernel
theorem dX7_replace_81 : decode cX7_replace 81 = .ok (.ireturn, 1) := by decide +kernel
theorem dX7_replace_82 : decode cX7_replace 82 = .ok (.aload_n 0, 1) := by decide +kernel
theorem dX7_replace_83 : decode cX7_replace 83 = .ok (.iconst 0, 1) := by decide +kernel
theorem dX7_replace_84 : decode cX7_replace 84 = .ok (.putfield 81, 3) := by decide +kernel
theorem dX7_replace_87 : decode cX7_replace 87 = .ok (.aload_n 0, 1) := by decide +kernel
theorem dX7_replace_88 : decode cX7_replace 88 = .ok (.invokevirtual 171, 3) := by decide +kernel
theorem dX7_replace_91 : decode cX7_replace 91 = .ok (.aload_n 0, 1) := by decide +kernel
theorem dX7_replace_92 : decode cX7_replace 92 = .ok (.getfield 43, 3) := by decide +kernel
theorem dX7_replace_95 : decode cX7_replace 95 = .ok (.iload_n 1, 1) := by decide +kernel
theorem dX7_replace_96 : decode cX7_replace 96 = .ok (.iload 4, 2) := by decide +kernel
theorem dX7_replace_98 : decode cX7_replace 98 = .ok (.iconst 1, 1) := by decide +kernel
theorem dX7_replace_99 : decode cX7_replace 99 = .ok (.iload_n 3, 1) := by decide +kernel
theorem dX7_replace_100 : decode cX7_replace 100 = .ok (.ishl, 1) := by decide +kernel
theorem dX7_replace_101 : decode cX7_replace 101 = .ok (.ior, 1) := by decide +kernel
theorem dX7_replace_102 : decode cX7_replace 102 = .ok (.iastore, 1) := by decide +kernel
theorem dX7_replace_103 : decode cX7_replace 103 = .ok (.aload_n 0, 1) := by decide +kernel
theorem dX7_replace_104 : decode cX7_replace 104 = .ok (.iload_n 1, 1) := by decide +kernel
theorem dX7_replace_105 : decode cX7_replace 105 = .ok (.aload_n 0, 1) := by decide +kernel
theorem dX7_replace_106 : decode cX7_replace 106 = .ok (.getfield 43, 3) := by decide +kernel
theorem dX7_replace_109 : decode cX7_replace 109 = .ok (.iload_n 1, 1) := by decide +kernel
theorem dX7_replace_110 : decode cX7_replace 110 = .ok (.iaload, 1) := by decide +kernel
theorem dX7_replace_111 : decode cX7_replace 111 = .ok (.invokevirtual 139, 3) := by decide +kernel
theorem dX7_replace_114 : decode cX7_replace 114 = .ok (.ifCond .eq 7, 3) := by decide +kernel
theorem dX7_replace_117 : decode cX7_replace 117 = .ok (.iconst 1, 1) := by decide +kernel
theorem dX7_replace_118 : decode cX7_replace 118 = .ok (.goto 4, 3) := by decide +kernel
theorem dX7_replace_121 : decode cX7_replace 121 = .ok (.iconst 0, 1) := by decide +kernel
theorem dX7_replace_122 : decode cX7_replace 122 = .ok (.istore 6, 2) := by decide +kernel
theorem dX7_replace_124 : decode cX7_replace 124 = .ok (.aload_n 0, 1) := by decide +kernel
theorem dX7_replace_125 : decode cX7_replace 125 = .ok (.iload_n 1, 1) := by decide +kernel
theorem dX7_replace_126 : decode cX7_replace 126 = .ok (.invokevirtual 217, 3) := by decide +kernel
theorem dX7_replace_129 : decode cX7_replace 129 = .ok (.iload 6, 2) := by decide +kernel
theorem dX7_replace_131 : decode cX7_replace 131 = .ok (.ireturn, 1) := by decide +kernel
theorem dX7_whyNotJoin_0 : decode cX7_whyNotJoin 0 = .ok (.aload_n 0, 1) := by decide +kernel
theorem dX7_whyNotJoin_1 : decode cX7_whyNotJoin 1 = .ok (.iload_n 1, 1) := by decide +kernel
theorem dX7_whyNotJoin_2 : decode cX7_whyNotJoin 2 = .ok (.invokevirtual 202, 3) := by decide +kernel
theorem dX7_whyNotJoin_5 : decode cX7_whyNotJoin 5 = .ok (.ifCond .eq 11, 3) := by decide +kernel
theorem dX7_whyNotJoin_8 : decode cX7_whyNotJoin 8 = .ok (.aload_n 0, 1) := by decide +kernel
theorem dX7_whyNotJoin_9 : decode cX7_whyNotJoin 9 = .ok (.iload_n 2, 1) := by decide +kernel
theorem dX7_whyNotJoin_10 : decode cX7_whyNotJoin 10 = .ok (.invokevirtual 174, 3) := by decide +kernel
theorem dX7_whyNotJoin_13 : decode cX7_whyNotJoin 13 = .ok (.ifCond .ne 9, 3) := by decide +kernel
theorem dX7_whyNotJoin_16 : decode cX7_whyNotJoin 16 = .ok (.aload_n 0, 1) := by decide +kernel
theorem dX7_whyNotJoin_17 : decode cX7_whyNotJoin 17 = .ok (.iconst 1, 1) := by decide +kernel
theorem dX7_whyNotJoin_18 : decode cX7_whyNotJoin 18 = .ok (.invokevirtual 168, 3) := by decide +kernel
theorem dX7_whyNotJoin_21 : decode cX7_whyNotJoin 21 = .ok (.ireturn, 1) := by decide +kernel
theorem dX7_whyNotJoin_22 : decode cX7_whyNotJoin 22 = .ok (.aload_n 0, 1) := by decide +kernel
theorem dX7_whyNotJoin_23 : decode cX7_whyNotJoin 23 = .ok (.iconst 0, 1) := by decide +kernel
theorem dX7_whyNotJoin_24 : decode cX7_whyNotJoin 24 = .ok (.putfield 81, 3) := by decide +kernel
theorem dX7_whyNotJoin_27 : decode cX7_whyNotJoin 27 = .ok (.aload_n 0, 1) := by decide +kernel
theorem dX7_whyNotJoin_28 : decode cX7_whyNotJoin 28 = .ok (.iload_n 1, 1) := by decide +kernel
theorem dX7_whyNotJoin_29 : decode cX7_whyNotJoin 29 = .ok (.iload_n 2, 1) := by decide +kernel
theorem dX7_whyNotJoin_30 : decode cX7_whyNotJoin 30 = .ok (.aload_n 0, 1) := by decide +kernel
theorem dX7_whyNotJoin_31 : decode cX7_whyNotJoin 31 = .ok (.getfield 43, 3) := by decide +kernel
theorem dX7_whyNotJoin_34 : decode cX7_whyNotJoin 34 = .ok (.iload_n 1, 1) := by decide +kernel
theorem dX7_whyNotJoin_35 : decode cX7_whyNotJoin 35 = .ok (.iaload, 1) := by decide +kernel
theorem dX7_whyNotJoin_36 : decode cX7_whyNotJoin 36 = .ok (.invokevirtual 211, 3) := by decide +kernel
theorem dX7_whyNotJoin_39 : decode cX7_whyNotJoin 39 = .ok (.ireturn, 1) := by decide +kernel
theorem dX7_lacks_0 : decode cX7_lacks 0 = .ok (.aload_n 0, 1) := by decide +kernel
theorem dX7_lacks_1 : decode cX7_lacks 1 = .ok (.iload_n 1, 1) := by decide +kernel
theorem dX7_lacks_2 : decode cX7_lacks 2 = .ok (.invokevirtual 202, 3) := by decide +kernel
theorem dX7_lacks_5 : decode cX7_lacks 5 = .ok (.ifCond .ne 9, 3) := by decide +kernel
theorem dX7_lacks_8 : decode cX7_lacks 8 = .ok (.aload_n 0, 1) := by decide +kernel
theorem dX7_lacks_9 : decode cX7_lacks 9 = .ok (.iconst 1, 1) := by decide +kernel
theorem dX7_lacks_10 : decode cX7_lacks 10 = .ok (.invokevirtual 168, 3) := by decide +kernel
theorem dX7_lacks_13 : decode cX7_lacks 13 = .ok (.ireturn, 1) := by decide +kernel
theorem dX7_lacks_14 : decode cX7_lacks 14 = .ok (.iload_n 2, 1) := by decide +kernel
theorem dX7_lacks_15 : decode cX7_lacks 15 = .ok (.iconst 0, 1) := by decide +kernel
theorem dX7_lacks_16 : decode cX7_lacks 16 = .ok (.iconst 4, 1) := by decide +kernel
theorem dX7_lacks_17 : decode cX7_lacks 17 = .ok (.invokestatic 87, 3) := by decide +kernel
theorem dX7_lacks_20 : decode cX7_lacks 20 = .ok (.ifCond .ne 9, 3) := by decide +kernel
theorem dX7_lacks_23 : decode cX7_lacks 23 = .ok (.aload_n 0, 1) := by decide +kernel
theorem dX7_lacks_24 : decode cX7_lacks 24 = .ok (.iconst 2, 1) := by decide +kernel
theorem dX7_lacks_25 : decode cX7_lacks 25 = .ok (.invokevirtual 168, 3) := by decide +kernel
theorem dX7_lacks_28 : decode cX7_lacks 28 = .ok (.ireturn, 1) := by decide +kernel
theorem dX7_lacks_29 : decode cX7_lacks 29 = .ok (.aload_n 0, 1) := by decide +kernel
theorem dX7_lacks_30 : decode cX7_lacks 30 = .ok (.iconst 0, 1) := by decide +kernel
theorem dX7_lacks_31 : decode cX7_lacks 31 = .ok (.putfield 81, 3) := by decide +kernel
theorem dX7_lacks_34 : decode cX7_lacks 34 = .ok (.aload_n 0, 1) := by decide +kernel
theorem dX7_lacks_35 : decode cX7_lacks 35 = .ok (.iload_n 1, 1) := by decide +kernel
theorem dX7_lacks_36 : decode cX7_lacks 36 = .ok (.iload_n 2, 1) := by decide +kernel
theorem dX7_lacks_37 : decode cX7_lacks 37 = .ok (.invokevirtual 97, 3) := by decide +kernel
theorem dX7_lacks_40 : decode cX7_lacks 40 = .ok (.aload_n 0, 1) := by decide +kernel
theorem dX7_lacks_41 : decode cX7_lacks 41 = .ok (.iload_n 1, 1) := by decide +kernel
theorem dX7_lacks_42 : decode cX7_lacks 42 = .ok (.aload_n 0, 1) := by decide +kernel
theorem dX7_lacks_43 : decode cX7_lacks 43 = .ok (.getfield 43, 3) := by decide +kernel
theorem dX7_lacks_46 : decode cX7_lacks 46 = .ok (.iload_n 1, 1) := by decide +kernel
theorem dX7_lacks_47 : decode cX7_lacks 47 = .ok (.iaload, 1) := by decide +kernel
theorem dX7_lacks_48 : decode cX7_lacks 48 = .ok (.iload_n 2, 1) := by decide +kernel
theorem dX7_lacks_49 : decode cX7_lacks 49 = .ok (.invokevirtual 101, 3) := by decide +kernel
theorem dX7_lacks_52 : decode cX7_lacks 52 = .ok (.isub, 1) := by decide +kernel
theorem dX7_lacks_53 : decode cX7_lacks 53 = .ok (.istore_n 3, 1) := by decide +kernel
theorem dX7_lacks_54 : decode cX7_lacks 54 = .ok (.iload_n 3, 1) := by decide +kernel
theorem dX7_lacks_55 : decode cX7_lacks 55 = .ok (.ifCond .le 7, 3) := by decide +kernel
theorem dX7_lacks_58 : decode cX7_lacks 58 = .ok (.iload_n 3, 1) := by decide +kernel
theorem dX7_lacks_59 : decode cX7_lacks 59 = .ok (.goto 4, 3) := by decide +kernel
theorem dX7_lacks_62 : decode cX7_lacks 62 = .ok (.iconst 0, 1) := by decide +kernel
theorem dX7_lacks_63 : decode cX7_lacks 63 = .ok (.ireturn, 1) := by decide +kernel
theorem dX7_replacements_0 : decode cX7_replacements 0 = .ok (.aload_n 0, 1) := by decide +kernel
theorem dX7_replacements_1 : decode cX7_replacements 1 = .ok (.iload_n 1, 1) := by decide +kernel
theorem dX7_replacements_2 : decode cX7_replacements 2 = .ok (.invokevirtual 202, 3) := by decide +kernel
theorem dX7_replacements_5 : decode cX7_replacements 5 = .ok (.ifCond .eq 11, 3) := by decide +kernel
theorem dX7_replacements_8 : decode cX7_replacements 8 = .ok (.aload_n 0, 1) := by decide +kernel
theorem dX7_replacements_9 : decode cX7_replacements 9 = .ok (.iload_n 2, 1) := by decide +kernel
theorem dX7_replacements_10 : decode cX7_replacements 10 = .ok (.invokevirtual 174, 3) := by decide +kernel
theorem dX7_replacements_13 : decode cX7_replacements 13 = .ok (.ifCond .ne 9, 3) := by decide +kernel
theorem dX7_replacements_16 : decode cX7_replacements 16 = .ok (.aload_n 0, 1) := by decide +kernel
theorem dX7_replacements_17 : decode cX7_replacements 17 = .ok (.iconst 1, 1) := by decide +kernel
theorem dX7_replacements_18 : decode cX7_replacements 18 = .ok (.invokevirtual 168, 3) := by decide +kernel
theorem dX7_replacements_21 : decode cX7_replacements 21 = .ok (.ireturn, 1) := by decide +kernel
theorem dX7_replacements_22 : decode cX7_replacements 22 = .ok (.aload_n 0, 1) := by decide +kernel
theorem dX7_replacements_23 : decode cX7_replacements 23 = .ok (.iload_n 1, 1) := by decide +kernel
theorem dX7_replacements_24 : decode cX7_replacements 24 = .ok (.iload_n 2, 1) := by decide +kernel
theorem dX7_replacements_25 : decode cX7_replacements 25 = .ok (.invokevirtual 105, 3) := by decide +kernel
theorem dX7_replacements_28 : decode cX7_replacements 28 = .ok (.ifCond .ne 9, 3) := by decide +kernel
theorem dX7_replacements_31 : decode cX7_replacements 31 = .ok (.aload_n 0, 1) := by decide +kernel
theorem dX7_replacements_32 : decode cX7_replacements 32 = .ok (.iconst 2, 1) := by decide +kernel
theorem dX7_replacements_33 : decode cX7_replacements 33 = .ok (.invokevirtual 168, 3) := by decide +kernel
theorem dX7_replacements_36 : decode cX7_replacements 36 = .ok (.ireturn, 1) := by decide +kernel
theorem dX7_replacements_37 : decode cX7_replacements 37 = .ok (.aload_n 0, 1) := by decide +kernel
theorem dX7_replacements_38 : decode cX7_replacements 38 = .ok (.iconst 0, 1) := by decide +kernel
theorem dX7_replacements_39 : decode cX7_replacements 39 = .ok (.putfield 81, 3) := by decide +kernel
theorem dX7_replacements_42 : decode cX7_replacements 42 = .ok (.aload_n 0, 1) := by decide +kernel
theorem dX7_replacements_43 : decode cX7_replacements 43 = .ok (.getfield 43, 3) := by decide +kernel
theorem dX7_replacements_46 : decode cX7_replacements 46 = .ok (.iload_n 1, 1) := by decide +kernel
theorem dX7_replacements_47 : decode cX7_replacements 47 = .ok (.iaload, 1) := by decide +kernel
theorem dX7_replacements_48 : decode cX7_replacements 48 = .ok (.iconst 1, 1) := by decide +kernel
theorem dX7_replacements_49 : decode cX7_replacements 49 = .ok (.iload_n 2, 1) := by decide +kernel
theorem dX7_replacements_50 : decode cX7_replacements 50 = .ok (.ishl, 1) := by decide +kernel
theorem dX7_replacements_51 : decode cX7_replacements 51 = .ok (.iconst (-1), 1) := by decide +kernel
theorem dX7_replacements_52 : decode cX7_replacements 52 = .ok (.ixor, 1) := by decide +kernel
theorem dX7_replacements_53 : decode cX7_replacements 53 = .ok (.iand, 1) := by decide +kernel
theorem dX7_replacements_54 : decode cX7_replacements 54 = .ok (.istore_n 3, 1) := by decide +kernel
theorem dX7_replacements_55 : decode cX7_replacements 55 = .ok (.iconst 0, 1) := by decide +kernel
theorem dX7_replacements_56 : decode cX7_replacements 56 = .ok (.istore 4, 2) := by decide +kernel
theorem dX7_replacements_58 : decode cX7_replacements 58 = .ok (.iconst 0, 1) := by decide +kernel
theorem dX7_replacements_59 : decode cX7_replacements 59 = .ok (.istore 5, 2) := by decide +kernel
theorem dX7_replacements_61 : decode cX7_replacements 61 = .ok (.iload 5, 2) := by decide +kernel
theorem dX7_replacements_63 : decode cX7_replacements 63 = .ok (.aload_n 0, 1) := by decide +kernel
theorem dX7_replacements_64 : decode cX7_replacements 64 = .ok (.getfield 84, 3) := by decide +kernel
theorem dX7_replacements_67 : decode cX7_replacements 67 = .ok (.if_icmp .ge 49, 3) := by decide +kernel
theorem dX7_replacements_70 : decode cX7_replacements 70 = .ok (.iload 5, 2) := by decide +kernel
theorem dX7_replacements_72 : decode cX7_replacements 72 = .ok (.iload_n 2, 1) := by decide +kernel
theorem dX7_replacements_73 : decode cX7_replacements 73 = .ok (.if_icmp .eq 37, 3) := by decide +kernel
theorem dX7_replacements_76 : decode cX7_replacements 76 = .ok (.aload_n 0, 1) := by decide +kernel
theorem dX7_replacements_77 : decode cX7_replacements 77 = .ok (.iload_n 1, 1) := by decide +kernel
theorem dX7_replacements_78 : decode cX7_replacements 78 = .ok (.iload 5, 2) := by decide +kernel
theorem dX7_replacements_80 : decode cX7_replacements 80 = .ok (.iload_n 3, 1) := by decide +kernel
theorem dX7_replacements_81 : decode cX7_replacements 81 = .ok (.invokevirtual 211, 3) := by decide +kernel
theorem dX7_replacements_84 : decode cX7_replacements 84 = .ok (.ifCond .ne 26, 3) := by decide +kernel
theorem dX7_replacements_87 : decode cX7_replacements 87 = .ok (.aload_n 0, 1) := by decide +kernel
theorem dX7_replacements_88 : decode cX7_replacements 88 = .ok (.iload_n 1, 1) := by decide +kernel
theorem dX7_replacements_89 : decode cX7_replacements 89 = .ok (.iload_n 3, 1) := by decide +kernel
theorem dX7_replacements_90 : decode cX7_replacements 90 = .ok (.iconst 1, 1) := by decide +kernel
theorem dX7_replacements_91 : decode cX7_replacements 91 = .ok (.iload 5, 2) := by decide +kernel
theorem dX7_replacements_93 : decode cX7_replacements 93 = .ok (.ishl, 1) := by decide +kernel
theorem dX7_replacements_94 : decode cX7_replacements 94 = .ok (.ior, 1) := by decide +kernel
theorem dX7_replacements_95 : decode cX7_replacements 95 = .ok (.invokevirtual 139, 3) := by decide +kernel
theorem dX7_replacements_98 : decode cX7_replacements 98 = .ok (.ifCond .eq 12, 3) := by decide +kernel
theorem dX7_replacements_101 : decode cX7_replacements 101 = .ok (.iload 4, 2) := by decide +kernel
theorem dX7_replacements_103 : decode cX7_replacements 103 = .ok (.iconst 1, 1) := by decide +kernel
theorem dX7_replacements_104 : decode cX7_replacements 104 = .ok (.iload 5, 2) := by decide +kernel
theorem dX7_replacements_106 : decode cX7_replacements 106 = .ok (.ishl, 1) := by decide +kernel
theorem dX7_replacements_107 : decode cX7_replacements 107 = .ok (.ior, 1) := by decide +kernel
theorem dX7_replacements_108 : decode cX7_replacements 108 = .ok (.istore 4, 2) := by decide +kernel
theorem dX7_replacements_110 : decode cX7_replacements 110 = .ok (.iinc 5 1, 3) := by decide +kernel
theorem dX7_replacements_113 : decode cX7_replacements 113 = .ok (.goto (-52), 3) := by decide +kernel
theorem dX7_replacements_116 : decode cX7_replacements 116 = .ok (.iload 4, 2) := by decide +kernel
theorem dX7_replacements_118 : decode cX7_replacements 118 = .ok (.ireturn, 1) := by decide +kernel
theorem dX7_doesComplete_0 : decode cX7_doesComplete 0 = .ok (.aload_n 0, 1) := by decide +kernel
theorem dX7_doesComplete_1 : decode cX7_doesComplete 1 = .ok (.getfield 43, 3) := by decide +kernel
theorem dX7_doesComplete_4 : decode cX7_doesComplete 4 = .ok (.iload_n 1, 1) := by decide +kernel
theorem dX7_doesComplete_5 : decode cX7_doesComplete 5 = .ok (.iaload, 1) := by decide +kernel
theorem dX7_doesComplete_6 : decode cX7_doesComplete 6 = .ok (.istore_n 3, 1) := by decide +kernel
theorem dX7_doesComplete_7 : decode cX7_doesComplete 7 = .ok (.iconst 0, 1) := by decide +kernel
theorem dX7_doesComplete_8 : decode cX7_doesComplete 8 = .ok (.istore 4, 2) := by decide +kernel
theorem dX7_doesComplete_10 : decode cX7_doesComplete 10 = .ok (.iload 4, 2) := by decide +kernel
theorem dX7_doesComplete_12 : decode cX7_doesComplete 12 = .ok (.aload_n 0, 1) := by decide +kernel
theorem dX7_doesComplete_13 : decode cX7_doesComplete 13 = .ok (.getfield 84, 3) := by decide +kernel
theorem dX7_doesComplete_16 : decode cX7_doesComplete 16 = .ok (.if_icmp .ge 41, 3) := by decide +kernel
theorem dX7_doesComplete_19 : decode cX7_doesComplete 19 = .ok (.iload_n 2, 1) := by decide +kernel
theorem dX7_doesComplete_20 : decode cX7_doesComplete 20 = .ok (.iload 4, 2) := by decide +kernel
theorem dX7_doesComplete_22 : decode cX7_doesComplete 22 = .ok (.ishr, 1) := by decide +kernel
theorem dX7_doesComplete_23 : decode cX7_doesComplete 23 = .ok (.iconst 1, 1) := by decide +kernel
theorem dX7_doesComplete_24 : decode cX7_doesComplete 24 = .ok (.iand, 1) := by decide +kernel
theorem dX7_doesComplete_25 : decode cX7_doesComplete 25 = .ok (.ifCond .ne 6, 3) := by decide +kernel
theorem dX7_doesComplete_28 : decode cX7_doesComplete 28 = .ok (.goto 23, 3) := by decide +kernel
theorem dX7_doesComplete_31 : decode cX7_doesComplete 31 = .ok (.aload_n 0, 1) := by decide +kernel
theorem dX7_doesComplete_32 : decode cX7_doesComplete 32 = .ok (.iload_n 1, 1) := by decide +kernel
theorem dX7_doesComplete_33 : decode cX7_doesComplete 33 = .ok (.iload 4, 2) := by decide +kernel
theorem dX7_doesComplete_35 : decode cX7_doesComplete 35 = .ok (.iload_n 3, 1) := by decide +kernel
theorem dX7_doesComplete_36 : decode cX7_doesComplete 36 = .ok (.invokevirtual 211, 3) := by decide +kernel
theorem dX7_doesComplete_39 : decode cX7_doesComplete 39 = .ok (.ifCond .eq 5, 3) := by decide +kernel
theorem dX7_doesComplete_42 : decode cX7_doesComplete 42 = .ok (.iconst 0, 1) := by decide +kernel
theorem dX7_doesComplete_43 : decode cX7_doesComplete 43 = .ok (.ireturn, 1) := by decide +kernel
theorem dX7_doesComplete_44 : decode cX7_doesComplete 44 = .ok (.iload_n 3, 1) := by decide +kernel
theorem dX7_doesComplete_45 : decode cX7_doesComplete 45 = .ok (.iconst 1, 1) := by decide +kernel
theorem dX7_doesComplete_46 : decode cX7_doesComplete 46 = .ok (.iload 4, 2) := by decide +kernel
theorem dX7_doesComplete_48 : decode cX7_doesComplete 48 = .ok (.ishl, 1) := by decide +kernel
theorem dX7_doesComplete_49 : decode cX7_doesComplete 49 = .ok (.ior, 1) := by decide +kernel
theorem dX7_doesComplete_50 : decode cX7_doesComplete 50 = .ok (.istore_n 3, 1) := by decide +kernel
theorem dX7_doesComplete_51 : decode cX7_doesComplete 51 = .ok (.iinc 4 1, 3) := by decide +kernel
theorem dX7_doesComplete_54 : decode cX7_doesComplete 54 = .ok (.goto (-44), 3) := by decide +kernel
theorem dX7_doesComplete_57 : decode cX7_doesComplete 57 = .ok (.aload_n 0, 1) := by decide +kernel
theorem dX7_doesComplete_58 : decode cX7_doesComplete 58 = .ok (.iload_n 1, 1) := by decide +kernel
theorem dX7_doesComplete_59 : decode cX7_doesComplete 59 = .ok (.iload_n 3, 1) := by decide +kernel
theorem dX7_doesComplete_60 : decode cX7_doesComplete 60 = .ok (.invokevirtual 139, 3) := by decide +kernel
theorem dX7_doesComplete_63 : decode cX7_doesComplete 63 = .ok (.ireturn, 1) := by decide +kernel
theorem dX7_isFirst_0 : decode cX7_isFirst 0 = .ok (.iconst 0, 1) := by decide +kernel
theorem dX7_isFirst_1 : decode cX7_isFirst 1 = .ok (.istore_n 2, 1) := by decide +kernel
theorem dX7_isFirst_2 : decode cX7_isFirst 2 = .ok (.iload_n 0, 1) := by decide +kernel
theorem dX7_isFirst_3 : decode cX7_isFirst 3 = .ok (.iload_n 2, 1) := by decide +kernel
theorem dX7_isFirst_4 : decode cX7_isFirst 4 = .ok (.ishr, 1) := by decide +kernel
theorem dX7_isFirst_5 : decode cX7_isFirst 5 = .ok (.iconst 1, 1) := by decide +kernel
theorem dX7_isFirst_6 : decode cX7_isFirst 6 = .ok (.iand, 1) := by decide +kernel
theorem dX7_isFirst_7 : decode cX7_isFirst 7 = .ok (.iload_n 1, 1) := by decide +kernel
theorem dX7_isFirst_8 : decode cX7_isFirst 8 = .ok (.iload_n 2, 1) := by decide +kernel
theorem dX7_isFirst_9 : decode cX7_isFirst 9 = .ok (.ishr, 1) := by decide +kernel
theorem dX7_isFirst_10 : decode cX7_isFirst 10 = .ok (.iconst 1, 1) := by decide +kernel
theorem dX7_isFirst_11 : decode cX7_isFirst 11 = .ok (.iand, 1) := by decide +kernel
theorem dX7_isFirst_12 : decode cX7_isFirst 12 = .ok (.if_icmp .ne 9, 3) := by decide +kernel
theorem dX7_isFirst_15 : decode cX7_isFirst 15 = .ok (.iinc 2 1, 3) := by decide +kernel
theorem dX7_isFirst_18 : decode cX7_isFirst 18 = .ok (.goto (-16), 3) := by decide +kernel
theorem dX7_isFirst_21 : decode cX7_isFirst 21 = .ok (.iload_n 0, 1) := by decide +kernel
theorem dX7_isFirst_22 : decode cX7_isFirst 22 = .ok (.iload_n 2, 1) := by decide +kernel
theorem dX7_isFirst_23 : decode cX7_isFirst 23 = .ok (.ishr, 1) := by decide +kernel
theorem dX7_isFirst_24 : decode cX7_isFirst 24 = .ok (.iconst 1, 1) := by decide +kernel
theorem dX7_isFirst_25 : decode cX7_isFirst 25 = .ok (.iand, 1) := by decide +kernel
theorem dX7_isFirst_26 : decode cX7_isFirst 26 = .ok (.iconst 1, 1) := by decide +kernel
theorem dX7_isFirst_27 : decode cX7_isFirst 27 = .ok (.if_icmp .ne 7, 3) := by decide +kernel
theorem dX7_isFirst_30 : decode cX7_isFirst 30 = .ok (.iconst 1, 1) := by decide +kernel
theorem dX7_isFirst_31 : decode cX7_isFirst 31 = .ok (.goto 4, 3) := by decide +kernel
theorem dX7_isFirst_34 : decode cX7_isFirst 34 = .ok (.iconst 0, 1) := by decide +kernel
theorem dX7_isFirst_35 : decode cX7_isFirst 35 = .ok (.ireturn, 1) := by decide +kernel
theorem dX7_completionOf_0 : decode cX7_completionOf 0 = .ok (.iconst (-1), 1) := by decide +kernel
theorem dX7_completionOf_1 : decode cX7_completionOf 1 = .ok (.istore_n 2, 1) := by decide +kernel
theorem dX7_completionOf_2 : decode cX7_completionOf 2 = .ok (.iconst 0, 1) := by decide +kernel
theorem dX7_completionOf_3 : decode cX7_completionOf 3 = .ok (.istore_n 3, 1) := by decide +kernel
theorem dX7_completionOf_4 : decode cX7_completionOf 4 = .ok (.iload_n 3, 1) := by decide +kernel
theorem dX7_completionOf_5 : decode cX7_completionOf 5 = .ok (.iconst 1, 1) := by decide +kernel
theorem dX7_completionOf_6 : decode cX7_completionOf 6 = .ok (.aload_n 0, 1) := by decide +kernel
theorem dX7_completionOf_7 : decode cX7_completionOf 7 = .ok (.getfield 84, 3) := by decide +kernel
theorem dX7_completionOf_10 : decode cX7_completionOf 10 = .ok (.ishl, 1) := by decide +kernel
theorem dX7_completionOf_11 : decode cX7_completionOf 11 = .ok (.if_icmp .ge 97, 3) := by decide +kernel
theorem dX7_completionOf_14 : decode cX7_completionOf 14 = .ok (.iload_n 3, 1) := by decide +kernel
theorem dX7_completionOf_15 : decode cX7_completionOf 15 = .ok (.aload_n 0, 1) := by decide +kernel
theorem dX7_completionOf_16 : decode cX7_completionOf 16 = .ok (.getfield 43, 3) := by decide +kernel
theorem dX7_completionOf_19 : decode cX7_completionOf 19 = .ok (.iload_n 1, 1) := by decide +kernel
theorem dX7_completionOf_20 : decode cX7_completionOf 20 = .ok (.iaload, 1) := by decide +kernel
theorem dX7_completionOf_21 : decode cX7_completionOf 21 = .ok (.iand, 1) := by decide +kernel
theorem dX7_completionOf_22 : decode cX7_completionOf 22 = .ok (.ifCond .ne 80, 3) := by decide +kernel
theorem dX7_completionOf_25 : decode cX7_completionOf 25 = .ok (.iload_n 3, 1) := by decide +kernel
theorem dX7_completionOf_26 : decode cX7_completionOf 26 = .ok (.invokestatic 129, 3) := by decide +kernel
theorem dX7_completionOf_29 : decode cX7_completionOf 29 = .ok (.aload_n 0, 1) := by decide +kernel
theorem dX7_completionOf_30 : decode cX7_completionOf 30 = .ok (.getfield 43, 3) := by decide +kernel
theorem dX7_completionOf_33 : decode cX7_completionOf 33 = .ok (.iload_n 1, 1) := by decide +kernel
theorem dX7_completionOf_34 : decode cX7_completionOf 34 = .ok (.iaload, 1) := by decide +kernel
theorem dX7_completionOf_35 : decode cX7_completionOf 35 = .ok (.invokestatic 129, 3) := by decide +kernel
theorem dX7_completionOf_38 : decode cX7_completionOf 38 = .ok (.iadd, 1) := by decide +kernel
theorem dX7_completionOf_39 : decode cX7_completionOf 39 = .ok (.aload_n 0, 1) := by decide +kernel
theorem dX7_completionOf_40 : decode cX7_completionOf 40 = .ok (.iload_n 1, 1) := by decide +kernel
theorem dX7_completionOf_41 : decode cX7_completionOf 41 = .ok (.invokevirtual 132, 3) := by decide +kernel
theorem dX7_completionOf_44 : decode cX7_completionOf 44 = .ok (.if_icmp .le 10, 3) := by decide +kernel
theorem dX7_completionOf_47 : decode cX7_completionOf 47 = .ok (.iload_n 3, 1) := by decide +kernel
theorem dX7_completionOf_48 : decode cX7_completionOf 48 = .ok (.ifCond .eq 6, 3) := by decide +kernel
theorem dX7_completionOf_51 : decode cX7_completionOf 51 = .ok (.goto 51, 3) := by decide +kernel
theorem dX7_completionOf_54 : decode cX7_completionOf 54 = .ok (.iload_n 2, 1) := by decide +kernel
theorem dX7_completionOf_55 : decode cX7_completionOf 55 = .ok (.ifCond .lt 36, 3) := by decide +kernel
theorem dX7_completionOf_58 : decode cX7_completionOf 58 = .ok (.iload_n 3, 1) := by decide +kernel
theorem dX7_completionOf_59 : decode cX7_completionOf 59 = .ok (.invokestatic 129, 3) := by decide +kernel
theorem dX7_completionOf_62 : decode cX7_completionOf 62 = .ok (.iload_n 2, 1) := by decide +kernel
theorem dX7_completionOf_63 : decode cX7_completionOf 63 = .ok (.invokestatic 129, 3) := by decide +kernel
theorem dX7_completionOf_66 : decode cX7_completionOf 66 = .ok (.if_icmp .gt 36, 3) := by decide +kernel
theorem dX7_completionOf_69 : decode cX7_completionOf 69 = .ok (.iload_n 3, 1) := by decide +kernel
theorem dX7_completionOf_70 : decode cX7_completionOf 70 = .ok (.invokestatic 129, 3) := by decide +kernel
theorem dX7_completionOf_73 : decode cX7_completionOf 73 = .ok (.iload_n 2, 1) := by decide +kernel
theorem dX7_completionOf_74 : decode cX7_completionOf 74 = .ok (.invokestatic 129, 3) := by decide +kernel
theorem dX7_completionOf_77 : decode cX7_completionOf 77 = .ok (.if_icmp .ne 14, 3) := by decide +kernel
theorem dX7_completionOf_80 : decode cX7_completionOf 80 = .ok (.iload_n 3, 1) := by decide +kernel
theorem dX7_completionOf_81 : decode cX7_completionOf 81 = .ok (.iload_n 2, 1) := by decide +kernel
theorem dX7_completionOf_82 : decode cX7_completionOf 82 = .ok (.invokestatic 220, 3) := by decide +kernel
theorem dX7_completionOf_85 : decode cX7_completionOf 85 = .ok (.ifCond .ne 6, 3) := by decide +kernel
theorem dX7_completionOf_88 : decode cX7_completionOf 88 = .ok (.goto 14, 3) := by decide +kernel
theorem dX7_completionOf_91 : decode cX7_completionOf 91 = .ok (.aload_n 0, 1) := by decide +kernel
theorem dX7_completionOf_92 : decode cX7_completionOf 92 = .ok (.iload_n 1, 1) := by decide +kernel
theorem dX7_completionOf_93 : decode cX7_completionOf 93 = .ok (.iload_n 3, 1) := by decide +kernel
theorem dX7_completionOf_94 : decode cX7_completionOf 94 = .ok (.invokevirtual 223, 3) := by decide +kernel
theorem dX7_completionOf_97 : decode cX7_completionOf 97 = .ok (.ifCond .eq 5, 3) := by decide +kernel
theorem dX7_completionOf_100 : decode cX7_completionOf 100 = .ok (.iload_n 3, 1) := by decide +kernel
theorem dX7_completionOf_101 : decode cX7_completionOf 101 = .ok (.istore_n 2, 1) := by decide +kernel
theorem dX7_completionOf_102 : decode cX7_completionOf 102 = .ok (.iinc 3 1, 3) := by decide +kernel
theorem dX7_completionOf_105 : decode cX7_completionOf 105 = .ok (.goto (-101), 3) := by decide +kernel
theorem dX7_completionOf_108 : decode cX7_completionOf 108 = .ok (.iload_n 2, 1) := by decide +kernel
theorem dX7_completionOf_109 : decode cX7_completionOf 109 = .ok (.ireturn, 1) := by decide +kernel
theorem dX7_completion_0 : decode cX7_completion 0 = .ok (.aload_n 0, 1) := by decide +kernel
theorem dX7_completion_1 : decode cX7_completion 1 = .ok (.iload_n 1, 1) := by decide +kernel
theorem dX7_completion_2 : decode cX7_completion 2 = .ok (.invokevirtual 202, 3) := by decide +kernel
theorem dX7_completion_5 : decode cX7_completion 5 = .ok (.ifCond .ne 9, 3) := by decide +kernel
theorem dX7_completion_8 : decode cX7_completion 8 = .ok (.aload_n 0, 1) := by decide +kernel
theorem dX7_completion_9 : decode cX7_completion 9 = .ok (.iconst 1, 1) := by decide +kernel
theorem dX7_completion_10 : decode cX7_completion 10 = .ok (.invokevirtual 168, 3) := by decide +kernel
theorem dX7_completion_13 : decode cX7_completion 13 = .ok (.ireturn, 1) := by decide +kernel
theorem dX7_completion_14 : decode cX7_completion 14 = .ok (.aload_n 0, 1) := by decide +kernel
theorem dX7_completion_15 : decode cX7_completion 15 = .ok (.iload_n 1, 1) := by decide +kernel
theorem dX7_completion_16 : decode cX7_completion 16 = .ok (.invokevirtual 226, 3) := by decide +kernel
theorem dX7_completion_19 : decode cX7_completion 19 = .ok (.istore_n 2, 1) := by decide +kernel
theorem dX7_completion_20 : decode cX7_completion 20 = .ok (.iload_n 2, 1) := by decide +kernel
theorem dX7_completion_21 : decode cX7_completion 21 = .ok (.ifCond .ge 9, 3) := by decide +kernel
theorem dX7_completion_24 : decode cX7_completion 24 = .ok (.aload_n 0, 1) := by decide +kernel
theorem dX7_completion_25 : decode cX7_completion 25 = .ok (.iconst 2, 1) := by decide +kernel
theorem dX7_completion_26 : decode cX7_completion 26 = .ok (.invokevirtual 168, 3) := by decide +kernel
theorem dX7_completion_29 : decode cX7_completion 29 = .ok (.ireturn, 1) := by decide +kernel
theorem dX7_completion_30 : decode cX7_completion 30 = .ok (.aload_n 0, 1) := by decide +kernel
theorem dX7_completion_31 : decode cX7_completion 31 = .ok (.iconst 0, 1) := by decide +kernel
theorem dX7_completion_32 : decode cX7_completion 32 = .ok (.putfield 81, 3) := by decide +kernel
theorem dX7_completion_35 : decode cX7_completion 35 = .ok (.iload_n 2, 1) := by decide +kernel
theorem dX7_completion_36 : decode cX7_completion 36 = .ok (.ireturn, 1) := by decide +kernel
theorem dX7_complete_0 : decode cX7_complete 0 = .ok (.aload_n 0, 1) := by decide +kernel
theorem dX7_complete_1 : decode cX7_complete 1 = .ok (.iload_n 1, 1) := by decide +kernel
theorem dX7_complete_2 : decode cX7_complete 2 = .ok (.invokevirtual 202, 3) := by decide +kernel
theorem dX7_complete_5 : decode cX7_complete 5 = .ok (.ifCond .ne 9, 3) := by decide +kernel
theorem dX7_complete_8 : decode cX7_complete 8 = .ok (.aload_n 0, 1) := by decide +kernel
theorem dX7_complete_9 : decode cX7_complete 9 = .ok (.iconst 1, 1) := by decide +kernel
theorem dX7_complete_10 : decode cX7_complete 10 = .ok (.invokevirtual 168, 3) := by decide +kernel
theorem dX7_complete_13 : decode cX7_complete 13 = .ok (.ireturn, 1) := by decide +kernel
theorem dX7_complete_14 : decode cX7_complete 14 = .ok (.aload_n 0, 1) := by decide +kernel
theorem dX7_complete_15 : decode cX7_complete 15 = .ok (.iload_n 1, 1) := by decide +kernel
theorem dX7_complete_16 : decode cX7_complete 16 = .ok (.invokevirtual 226, 3) := by decide +kernel
theorem dX7_complete_19 : decode cX7_complete 19 = .ok (.istore_n 2, 1) := by decide +kernel
theorem dX7_complete_20 : decode cX7_complete 20 = .ok (.iload_n 2, 1) := by decide +kernel
theorem dX7_complete_21 : decode cX7_complete 21 = .ok (.ifCond .ge 9, 3) := by decide +kernel
theorem dX7_complete_24 : decode cX7_complete 24 = .ok (.aload_n 0, 1) := by decide +kernel
theorem dX7_complete_25 : decode cX7_complete 25 = .ok (.iconst 2, 1) := by decide +kernel
theorem dX7_complete_26 : decode cX7_complete 26 = .ok (.invokevirtual 168, 3) := by decide +kernel
theorem dX7_complete_29 : decode cX7_complete 29 = .ok (.ireturn, 1) := by decide +kernel
theorem dX7_complete_30 : decode cX7_complete 30 = .ok (.aload_n 0, 1) := by decide +kernel
theorem dX7_complete_31 : decode cX7_complete 31 = .ok (.iconst 0, 1) := by decide +kernel
theorem dX7_complete_32 : decode cX7_complete 32 = .ok (.putfield 81, 3) := by decide +kernel
theorem dX7_complete_35 : decode cX7_complete 35 = .ok (.aload_n 0, 1) := by decide +kernel
theorem dX7_complete_36 : decode cX7_complete 36 = .ok (.invokevirtual 171, 3) := by decide +kernel
theorem dX7_complete_39 : decode cX7_complete 39 = .ok (.aload_n 0, 1) := by decide +kernel
theorem dX7_complete_40 : decode cX7_complete 40 = .ok (.getfield 43, 3) := by decide +kernel
theorem dX7_complete_43 : decode cX7_complete 43 = .ok (.iload_n 1, 1) := by decide +kernel
theorem dX7_complete_44 : decode cX7_complete 44 = .ok (.dup2, 1) := by decide +kernel
theorem dX7_complete_45 : decode cX7_complete 45 = .ok (.iaload, 1) := by decide +kernel
theorem dX7_complete_46 : decode cX7_complete 46 = .ok (.iload_n 2, 1) := by decide +kernel
theorem dX7_complete_47 : decode cX7_complete 47 = .ok (.ior, 1) := by decide +kernel
theorem dX7_complete_48 : decode cX7_complete 48 = .ok (.iastore, 1) := by decide +kernel
theorem dX7_complete_49 : decode cX7_complete 49 = .ok (.iload_n 2, 1) := by decide +kernel
theorem dX7_complete_50 : decode cX7_complete 50 = .ok (.invokestatic 129, 3) := by decide +kernel
theorem dX7_complete_53 : decode cX7_complete 53 = .ok (.ireturn, 1) := by decide +kernel
theorem dX7_reason_0 : decode cX7_reason 0 = .ok (.aload_n 0, 1) := by decide +kernel
theorem dX7_reason_1 : decode cX7_reason 1 = .ok (.getfield 208, 3) := by decide +kernel
theorem dX7_reason_4 : decode cX7_reason 4 = .ok (.ifCond .ne 9, 3) := by decide +kernel
theorem dX7_reason_7 : decode cX7_reason 7 = .ok (.aload_n 0, 1) := by decide +kernel
theorem dX7_reason_8 : decode cX7_reason 8 = .ok (.iconst 1, 1) := by decide +kernel
theorem dX7_reason_9 : decode cX7_reason 9 = .ok (.invokevirtual 168, 3) := by decide +kernel
theorem dX7_reason_12 : decode cX7_reason 12 = .ok (.ireturn, 1) := by decide +kernel
theorem dX7_reason_13 : decode cX7_reason 13 = .ok (.aload_n 0, 1) := by decide +kernel
theorem dX7_reason_14 : decode cX7_reason 14 = .ok (.iconst 0, 1) := by decide +kernel
theorem dX7_reason_15 : decode cX7_reason 15 = .ok (.putfield 81, 3) := by decide +kernel
theorem dX7_reason_18 : decode cX7_reason 18 = .ok (.aload_n 0, 1) := by decide +kernel
theorem dX7_reason_19 : decode cX7_reason 19 = .ok (.getfield 208, 3) := by decide +kernel
theorem dX7_reason_22 : decode cX7_reason 22 = .ok (.ireturn, 1) := by decide +kernel
theorem dX7_isRoom_0 : decode cX7_isRoom 0 = .ok (.iload_n 0, 1) := by decide +kernel
theorem dX7_isRoom_1 : decode cX7_isRoom 1 = .ok (.iconst 0, 1) := by decide +kernel
theorem dX7_isRoom_2 : decode cX7_isRoom 2 = .ok (.iconst 2, 1) := by decide +kernel
theorem dX7_isRoom_3 : decode cX7_isRoom 3 = .ok (.invokestatic 87, 3) := by decide +kernel
theorem dX7_isRoom_6 : decode cX7_isRoom 6 = .ok (.ireturn, 1) := by decide +kernel
theorem dX7_place_0 : decode cX7_place 0 = .ok (.aload_n 0, 1) := by decide +kernel
theorem dX7_place_1 : decode cX7_place 1 = .ok (.iload_n 1, 1) := by decide +kernel
theorem dX7_place_2 : decode cX7_place 2 = .ok (.invokevirtual 202, 3) := by decide +kernel
theorem dX7_place_5 : decode cX7_place 5 = .ok (.ifCond .eq 10, 3) := by decide +kernel
theorem dX7_place_8 : decode cX7_place 8 = .ok (.iload_n 2, 1) := by decide +kernel
theorem dX7_place_9 : decode cX7_place 9 = .ok (.invokestatic 229, 3) := by decide +kernel
theorem dX7_place_12 : decode cX7_place 12 = .ok (.ifCond .ne 9, 3) := by decide +kernel
theorem dX7_place_15 : decode cX7_place 15 = .ok (.aload_n 0, 1) := by decide +kernel
theorem dX7_place_16 : decode cX7_place 16 = .ok (.iconst 1, 1) := by decide +kernel
theorem dX7_place_17 : decode cX7_place 17 = .ok (.invokevirtual 168, 3) := by decide +kernel
theorem dX7_place_20 : decode cX7_place 20 = .ok (.ireturn, 1) := by decide +kernel
theorem dX7_place_21 : decode cX7_place 21 = .ok (.iload_n 3, 1) := by decide +kernel
theorem dX7_place_22 : decode cX7_place 22 = .ok (.iload 4, 2) := by decide +kernel
theorem dX7_place_24 : decode cX7_place 24 = .ok (.invokestatic 196, 3) := by decide +kernel
theorem dX7_place_27 : decode cX7_place 27 = .ok (.ifCond .ne 9, 3) := by decide +kernel
theorem dX7_place_30 : decode cX7_place 30 = .ok (.aload_n 0, 1) := by decide +kernel
theorem dX7_place_31 : decode cX7_place 31 = .ok (.iconst 2, 1) := by decide +kernel
theorem dX7_place_32 : decode cX7_place 32 = .ok (.invokevirtual 168, 3) := by decide +kernel
theorem dX7_place_35 : decode cX7_place 35 = .ok (.ireturn, 1) := by decide +kernel
theorem dX7_place_36 : decode cX7_place 36 = .ok (.aload_n 0, 1) := by decide +kernel
theorem dX7_place_37 : decode cX7_place 37 = .ok (.iload_n 1, 1) := by decide +kernel
theorem dX7_place_38 : decode cX7_place 38 = .ok (.iload_n 2, 1) := by decide +kernel
theorem dX7_place_39 : decode cX7_place 39 = .ok (.iload_n 3, 1) := by decide +kernel
theorem dX7_place_40 : decode cX7_place 40 = .ok (.iload 4, 2) := by decide +kernel
theorem dX7_place_42 : decode cX7_place 42 = .ok (.invokevirtual 155, 3) := by decide +kernel
theorem dX7_place_45 : decode cX7_place 45 = .ok (.istore 5, 2) := by decide +kernel
theorem dX7_place_47 : decode cX7_place 47 = .ok (.iload 5, 2) := by decide +kernel
theorem dX7_place_49 : decode cX7_place 49 = .ok (.ifCond .le 11, 3) := by decide +kernel
theorem dX7_place_52 : decode cX7_place 52 = .ok (.aload_n 0, 1) := by decide +kernel
theorem dX7_place_53 : decode cX7_place 53 = .ok (.iload 5, 2) := by decide +kernel
theorem dX7_place_55 : decode cX7_place 55 = .ok (.iconst 3, 1) := by decide +kernel
theorem dX7_place_56 : decode cX7_place 56 = .ok (.invokevirtual 214, 3) := by decide +kernel
theorem dX7_place_59 : decode cX7_place 59 = .ok (.ireturn, 1) := by decide +kernel
theorem dX7_place_60 : decode cX7_place 60 = .ok (.aload_n 0, 1) := by decide +kernel
theorem dX7_place_61 : decode cX7_place 61 = .ok (.iconst 0, 1) := by decide +kernel
theorem dX7_place_62 : decode cX7_place 62 = .ok (.putfield 81, 3) := by decide +kernel
theorem dX7_place_65 : decode cX7_place 65 = .ok (.aload_n 0, 1) := by decide +kernel
theorem dX7_place_66 : decode cX7_place 66 = .ok (.invokevirtual 171, 3) := by decide +kernel
theorem dX7_place_69 : decode cX7_place 69 = .ok (.aload_n 0, 1) := by decide +kernel
theorem dX7_place_70 : decode cX7_place 70 = .ok (.iload_n 1, 1) := by decide +kernel
theorem dX7_place_71 : decode cX7_place 71 = .ok (.iload_n 2, 1) := by decide +kernel
theorem dX7_place_72 : decode cX7_place 72 = .ok (.iload_n 3, 1) := by decide +kernel
theorem dX7_place_73 : decode cX7_place 73 = .ok (.iload 4, 2) := by decide +kernel
theorem dX7_place_75 : decode cX7_place 75 = .ok (.invokevirtual 232, 3) := by decide +kernel
theorem dX7_place_78 : decode cX7_place 78 = .ok (.aload_n 0, 1) := by decide +kernel
theorem dX7_place_79 : decode cX7_place 79 = .ok (.iload_n 1, 1) := by decide +kernel
theorem dX7_place_80 : decode cX7_place 80 = .ok (.iload_n 3, 1) := by decide +kernel
theorem dX7_place_81 : decode cX7_place 81 = .ok (.aload_n 0, 1) := by decide +kernel
theorem dX7_place_82 : decode cX7_place 82 = .ok (.getfield 40, 3) := by decide +kernel
theorem dX7_place_85 : decode cX7_place 85 = .ok (.iload_n 1, 1) := by decide +kernel
theorem dX7_place_86 : decode cX7_place 86 = .ok (.iaload, 1) := by decide +kernel
theorem dX7_place_87 : decode cX7_place 87 = .ok (.iconst 1, 1) := by decide +kernel
theorem dX7_place_88 : decode cX7_place 88 = .ok (.iadd, 1) := by decide +kernel
theorem dX7_place_89 : decode cX7_place 89 = .ok (.invokevirtual 149, 3) := by decide +kernel
theorem dX7_place_92 : decode cX7_place 92 = .ok (.ireturn, 1) := by decide +kernel
theorem dX7_takeBack_0 : decode cX7_takeBack 0 = .ok (.aload_n 0, 1) := by decide +kernel
theorem dX7_takeBack_1 : decode cX7_takeBack 1 = .ok (.iload_n 1, 1) := by decide +kernel
theorem dX7_takeBack_2 : decode cX7_takeBack 2 = .ok (.invokevirtual 202, 3) := by decide +kernel
theorem dX7_takeBack_5 : decode cX7_takeBack 5 = .ok (.ifCond .ne 9, 3) := by decide +kernel
theorem dX7_takeBack_8 : decode cX7_takeBack 8 = .ok (.aload_n 0, 1) := by decide +kernel
theorem dX7_takeBack_9 : decode cX7_takeBack 9 = .ok (.iconst 1, 1) := by decide +kernel
theorem dX7_takeBack_10 : decode cX7_takeBack 10 = .ok (.invokevirtual 168, 3) := by decide +kernel
theorem dX7_takeBack_13 : decode cX7_takeBack 13 = .ok (.ireturn, 1) := by decide +kernel
theorem dX7_takeBack_14 : decode cX7_takeBack 14 = .ok (.aload_n 0, 1) := by decide +kernel
theorem dX7_takeBack_15 : decode cX7_takeBack 15 = .ok (.iload_n 1, 1) := by decide +kernel
theorem dX7_takeBack_16 : decode cX7_takeBack 16 = .ok (.invokevirtual 113, 3) := by decide +kernel
theorem dX7_takeBack_19 : decode cX7_takeBack 19 = .ok (.ifCond .eq 11, 3) := by decide +kernel
theorem dX7_takeBack_22 : decode cX7_takeBack 22 = .ok (.aload_n 0, 1) := by decide +kernel
theorem dX7_takeBack_23 : decode cX7_takeBack 23 = .ok (.iload_n 1, 1) := by decide +kernel
theorem dX7_takeBack_24 : decode cX7_takeBack 24 = .ok (.invokevirtual 109, 3) := by decide +kernel
theorem dX7_takeBack_27 : decode cX7_takeBack 27 = .ok (.ifCond .eq 9, 3) := by decide +kernel
theorem dX7_takeBack_30 : decode cX7_takeBack 30 = .ok (.aload_n 0, 1) := by decide +kernel
theorem dX7_takeBack_31 : decode cX7_takeBack 31 = .ok (.iconst 2, 1) := by decide +kernel
theorem dX7_takeBack_32 : decode cX7_takeBack 32 = .ok (.invokevirtual 168, 3) := by decide +kernel
theorem dX7_takeBack_35 : decode cX7_takeBack 35 = .ok (.ireturn, 1) := by decide +kernel
theorem dX7_takeBack_36 : decode cX7_takeBack 36 = .ok (.aload_n 0, 1) := by decide +kernel
theorem dX7_takeBack_37 : decode cX7_takeBack 37 = .ok (.iconst 0, 1) := by decide +kernel
theorem dX7_takeBack_38 : decode cX7_takeBack 38 = .ok (.putfield 81, 3) := by decide +kernel
theorem dX7_takeBack_41 : decode cX7_takeBack 41 = .ok (.aload_n 0, 1) := by decide +kernel
theorem dX7_takeBack_42 : decode cX7_takeBack 42 = .ok (.invokevirtual 171, 3) := by decide +kernel
theorem dX7_takeBack_45 : decode cX7_takeBack 45 = .ok (.aload_n 0, 1) := by decide +kernel
theorem dX7_takeBack_46 : decode cX7_takeBack 46 = .ok (.getfield 49, 3) := by decide +kernel
theorem dX7_takeBack_49 : decode cX7_takeBack 49 = .ok (.iload_n 1, 1) := by decide +kernel
theorem dX7_takeBack_50 : decode cX7_takeBack 50 = .ok (.iaload, 1) := by decide +kernel
theorem dX7_takeBack_51 : decode cX7_takeBack 51 = .ok (.istore_n 2, 1) := by decide +kernel
theorem dX7_takeBack_52 : decode cX7_takeBack 52 = .ok (.aload_n 0, 1) := by decide +kernel
theorem dX7_takeBack_53 : decode cX7_takeBack 53 = .ok (.iload_n 1, 1) := by decide +kernel
theorem dX7_takeBack_54 : decode cX7_takeBack 54 = .ok (.invokevirtual 142, 3) := by decide +kernel
theorem dX7_takeBack_57 : decode cX7_takeBack 57 = .ok (.iload_n 2, 1) := by decide +kernel
theorem dX7_takeBack_58 : decode cX7_takeBack 58 = .ok (.ireturn, 1) := by decide +kernel
theorem dX7_whyNotPlace_0 : decode cX7_whyNotPlace 0 = .ok (.aload_n 0, 1) := by decide +kernel
theorem dX7_whyNotPlace_1 : decode cX7_whyNotPlace 1 = .ok (.iload_n 1, 1) := by decide +kernel
theorem dX7_whyNotPlace_2 : decode cX7_whyNotPlace 2 = .ok (.invokevirtual 202, 3) := by decide +kernel
theorem dX7_whyNotPlace_5 : decode cX7_whyNotPlace 5 = .ok (.ifCond .eq 10, 3) := by decide +kernel
theorem dX7_whyNotPlace_8 : decode cX7_whyNotPlace 8 = .ok (.iload_n 2, 1) := by decide +kernel
theorem dX7_whyNotPlace_9 : decode cX7_whyNotPlace 9 = .ok (.invokestatic 229, 3) := by decide +kernel
theorem dX7_whyNotPlace_12 : decode cX7_whyNotPlace 12 = .ok (.ifCond .ne 9, 3) := by decide +kernel
theorem dX7_whyNotPlace_15 : decode cX7_whyNotPlace 15 = .ok (.aload_n 0, 1) := by decide +kernel
theorem dX7_whyNotPlace_16 : decode cX7_whyNotPlace 16 = .ok (.iconst 1, 1) := by decide +kernel
theorem dX7_whyNotPlace_17 : decode cX7_whyNotPlace 17 = .ok (.invokevirtual 168, 3) := by decide +kernel
theorem dX7_whyNotPlace_20 : decode cX7_whyNotPlace 20 = .ok (.ireturn, 1) := by decide +kernel
theorem dX7_whyNotPlace_21 : decode cX7_whyNotPlace 21 = .ok (.iload_n 3, 1) := by decide +kernel
theorem dX7_whyNotPlace_22 : decode cX7_whyNotPlace 22 = .ok (.iload 4, 2) := by decide +kernel
theorem dX7_whyNotPlace_24 : decode cX7_whyNotPlace 24 = .ok (.invokestatic 196, 3) := by decide +kernel
theorem dX7_whyNotPlace_27 : decode cX7_whyNotPlace 27 = .ok (.ifCond .ne 9, 3) := by decide +kernel
theorem dX7_whyNotPlace_30 : decode cX7_whyNotPlace 30 = .ok (.aload_n 0, 1) := by decide +kernel
theorem dX7_whyNotPlace_31 : decode cX7_whyNotPlace 31 = .ok (.iconst 2, 1) := by decide +kernel
theorem dX7_whyNotPlace_32 : decode cX7_whyNotPlace 32 = .ok (.invokevirtual 168, 3) := by decide +kernel
theorem dX7_whyNotPlace_35 : decode cX7_whyNotPlace 35 = .ok (.ireturn, 1) := by decide +kernel
theorem dX7_whyNotPlace_36 : decode cX7_whyNotPlace 36 = .ok (.aload_n 0, 1) := by decide +kernel
theorem dX7_whyNotPlace_37 : decode cX7_whyNotPlace 37 = .ok (.iconst 0, 1) := by decide +kernel
theorem dX7_whyNotPlace_38 : decode cX7_whyNotPlace 38 = .ok (.putfield 81, 3) := by decide +kernel
theorem dX7_whyNotPlace_41 : decode cX7_whyNotPlace 41 = .ok (.aload_n 0, 1) := by decide +kernel
theorem dX7_whyNotPlace_42 : decode cX7_whyNotPlace 42 = .ok (.iload_n 1, 1) := by decide +kernel
theorem dX7_whyNotPlace_43 : decode cX7_whyNotPlace 43 = .ok (.iload_n 2, 1) := by decide +kernel
theorem dX7_whyNotPlace_44 : decode cX7_whyNotPlace 44 = .ok (.iload_n 3, 1) := by decide +kernel
theorem dX7_whyNotPlace_45 : decode cX7_whyNotPlace 45 = .ok (.iload 4, 2) := by decide +kernel
theorem dX7_whyNotPlace_47 : decode cX7_whyNotPlace 47 = .ok (.invokevirtual 155, 3) := by decide +kernel
theorem dX7_whyNotPlace_50 : decode cX7_whyNotPlace 50 = .ok (.ireturn, 1) := by decide +kernel
theorem dX7_earliest_0 : decode cX7_earliest 0 = .ok (.aload_n 0, 1) := by decide +kernel
theorem dX7_earliest_1 : decode cX7_earliest 1 = .ok (.iload_n 1, 1) := by decide +kernel
theorem dX7_earliest_2 : decode cX7_earliest 2 = .ok (.invokevirtual 202, 3) := by decide +kernel
theorem dX7_earliest_5 : decode cX7_earliest 5 = .ok (.ifCond .ne 9, 3) := by decide +kernel
theorem dX7_earliest_8 : decode cX7_earliest 8 = .ok (.aload_n 0, 1) := by decide +kernel
theorem dX7_earliest_9 : decode cX7_earliest 9 = .ok (.iconst 1, 1) := by decide +kernel
theorem dX7_earliest_10 : decode cX7_earliest 10 = .ok (.invokevirtual 168, 3) := by decide +kernel
theorem dX7_earliest_13 : decode cX7_earliest 13 = .ok (.ireturn, 1) := by decide +kernel
theorem dX7_earliest_14 : decode cX7_earliest 14 = .ok (.aload_n 0, 1) := by decide +kernel
theorem dX7_earliest_15 : decode cX7_earliest 15 = .ok (.iload_n 1, 1) := by decide +kernel
theorem dX7_earliest_16 : decode cX7_earliest 16 = .ok (.invokevirtual 236, 3) := by decide +kernel
theorem dX7_earliest_19 : decode cX7_earliest 19 = .ok (.istore_n 2, 1) := by decide +kernel
theorem dX7_earliest_20 : decode cX7_earliest 20 = .ok (.iload_n 2, 1) := by decide +kernel
theorem dX7_earliest_21 : decode cX7_earliest 21 = .ok (.ifCond .ge 9, 3) := by decide +kernel
theorem dX7_earliest_24 : decode cX7_earliest 24 = .ok (.aload_n 0, 1) := by decide +kernel
theorem dX7_earliest_25 : decode cX7_earliest 25 = .ok (.iconst 2, 1) := by decide +kernel
theorem dX7_earliest_26 : decode cX7_earliest 26 = .ok (.invokevirtual 168, 3) := by decide +kernel
theorem dX7_earliest_29 : decode cX7_earliest 29 = .ok (.ireturn, 1) := by decide +kernel
theorem dX7_earliest_30 : decode cX7_earliest 30 = .ok (.aload_n 0, 1) := by decide +kernel
theorem dX7_earliest_31 : decode cX7_earliest 31 = .ok (.iconst 0, 1) := by decide +kernel
theorem dX7_earliest_32 : decode cX7_earliest 32 = .ok (.putfield 81, 3) := by decide +kernel
theorem dX7_earliest_35 : decode cX7_earliest 35 = .ok (.iload_n 2, 1) := by decide +kernel
theorem dX7_earliest_36 : decode cX7_earliest 36 = .ok (.ireturn, 1) := by decide +kernel
theorem dX7_deadline_0 : decode cX7_deadline 0 = .ok (.aload_n 0, 1) := by decide +kernel
theorem dX7_deadline_1 : decode cX7_deadline 1 = .ok (.iload_n 1, 1) := by decide +kernel
theorem dX7_deadline_2 : decode cX7_deadline 2 = .ok (.invokevirtual 202, 3) := by decide +kernel
theorem dX7_deadline_5 : decode cX7_deadline 5 = .ok (.ifCond .ne 9, 3) := by decide +kernel
theorem dX7_deadline_8 : decode cX7_deadline 8 = .ok (.aload_n 0, 1) := by decide +kernel
theorem dX7_deadline_9 : decode cX7_deadline 9 = .ok (.iconst 1, 1) := by decide +kernel
theorem dX7_deadline_10 : decode cX7_deadline 10 = .ok (.invokevirtual 168, 3) := by decide +kernel
theorem dX7_deadline_13 : decode cX7_deadline 13 = .ok (.ireturn, 1) := by decide +kernel
theorem dX7_deadline_14 : decode cX7_deadline 14 = .ok (.iload_n 2, 1) := by decide +kernel
theorem dX7_deadline_15 : decode cX7_deadline 15 = .ok (.iconst 1, 1) := by decide +kernel
theorem dX7_deadline_16 : decode cX7_deadline 16 = .ok (.iconst 4, 1) := by decide +kernel
theorem dX7_deadline_17 : decode cX7_deadline 17 = .ok (.invokestatic 87, 3) := by decide +kernel
theorem dX7_deadline_20 : decode cX7_deadline 20 = .ok (.ifCond .ne 9, 3) := by decide +kernel
theorem dX7_deadline_23 : decode cX7_deadline 23 = .ok (.aload_n 0, 1) := by decide +kernel
theorem dX7_deadline_24 : decode cX7_deadline 24 = .ok (.iconst 2, 1) := by decide +kernel
theorem dX7_deadline_25 : decode cX7_deadline 25 = .ok (.invokevirtual 168, 3) := by decide +kernel
theorem dX7_deadline_28 : decode cX7_deadline 28 = .ok (.ireturn, 1) := by decide +kernel
theorem dX7_deadline_29 : decode cX7_deadline 29 = .ok (.aload_n 0, 1) := by decide +kernel
theorem dX7_deadline_30 : decode cX7_deadline 30 = .ok (.iload_n 1, 1) := by decide +kernel
theorem dX7_deadline_31 : decode cX7_deadline 31 = .ok (.invokevirtual 113, 3) := by decide +kernel
theorem dX7_deadline_34 : decode cX7_deadline 34 = .ok (.ifCond .ne 9, 3) := by decide +kernel
theorem dX7_deadline_37 : decode cX7_deadline 37 = .ok (.aload_n 0, 1) := by decide +kernel
theorem dX7_deadline_38 : decode cX7_deadline 38 = .ok (.iconst 3, 1) := by decide +kernel
theorem dX7_deadline_39 : decode cX7_deadline 39 = .ok (.invokevirtual 168, 3) := by decide +kernel
theorem dX7_deadline_42 : decode cX7_deadline 42 = .ok (.ireturn, 1) := by decide +kernel
theorem dX7_deadline_43 : decode cX7_deadline 43 = .ok (.aload_n 0, 1) := by decide +kernel
theorem dX7_deadline_44 : decode cX7_deadline 44 = .ok (.iconst 0, 1) := by decide +kernel
theorem dX7_deadline_45 : decode cX7_deadline 45 = .ok (.putfield 81, 3) := by decide +kernel
theorem dX7_deadline_48 : decode cX7_deadline 48 = .ok (.aload_n 0, 1) := by decide +kernel
theorem dX7_deadline_49 : decode cX7_deadline 49 = .ok (.iload_n 1, 1) := by decide +kernel
theorem dX7_deadline_50 : decode cX7_deadline 50 = .ok (.aload_n 0, 1) := by decide +kernel
theorem dX7_deadline_51 : decode cX7_deadline 51 = .ok (.getfield 49, 3) := by decide +kernel
theorem dX7_deadline_54 : decode cX7_deadline 54 = .ok (.iload_n 1, 1) := by decide +kernel
theorem dX7_deadline_55 : decode cX7_deadline 55 = .ok (.iaload, 1) := by decide +kernel
theorem dX7_deadline_56 : decode cX7_deadline 56 = .ok (.iload_n 2, 1) := by decide +kernel
theorem dX7_deadline_57 : decode cX7_deadline 57 = .ok (.invokevirtual 149, 3) := by decide +kernel
theorem dX7_deadline_60 : decode cX7_deadline 60 = .ok (.ireturn, 1) := by decide +kernel
theorem dX7_canGoOn_0 : decode cX7_canGoOn 0 = .ok (.aload_n 0, 1) := by decide +kernel
theorem dX7_canGoOn_1 : decode cX7_canGoOn 1 = .ok (.iload_n 1, 1) := by decide +kernel
theorem dX7_canGoOn_2 : decode cX7_canGoOn 2 = .ok (.invokevirtual 109, 3) := by decide +kernel
theorem dX7_canGoOn_5 : decode cX7_canGoOn 5 = .ok (.ifCond .ne 38, 3) := by decide +kernel
theorem dX7_canGoOn_8 : decode cX7_canGoOn 8 = .ok (.aload_n 0, 1) := by decide +kernel
theorem dX7_canGoOn_9 : decode cX7_canGoOn 9 = .ok (.iload_n 1, 1) := by decide +kernel
theorem dX7_canGoOn_10 : decode cX7_canGoOn 10 = .ok (.invokevirtual 113, 3) := by decide +kernel
theorem dX7_canGoOn_13 : decode cX7_canGoOn 13 = .ok (.ifCond .eq 30, 3) := by decide +kernel
theorem dX7_canGoOn_16 : decode cX7_canGoOn 16 = .ok (.aload_n 0, 1) := by decide +kernel
theorem dX7_canGoOn_17 : decode cX7_canGoOn 17 = .ok (.getfield 40, 3) := by decide +kernel
theorem dX7_canGoOn_20 : decode cX7_canGoOn 20 = .ok (.iload_n 1, 1) := by decide +kernel
theorem dX7_canGoOn_21 : decode cX7_canGoOn 21 = .ok (.iaload, 1) := by decide +kernel
theorem dX7_canGoOn_22 : decode cX7_canGoOn 22 = .ok (.iconst 3, 1) := by decide +kernel
theorem dX7_canGoOn_23 : decode cX7_canGoOn 23 = .ok (.if_icmp .lt 16, 3) := by decide +kernel
theorem dX7_canGoOn_26 : decode cX7_canGoOn 26 = .ok (.aload_n 0, 1) := by decide +kernel
theorem dX7_canGoOn_27 : decode cX7_canGoOn 27 = .ok (.getfield 49, 3) := by decide +kernel
theorem dX7_canGoOn_30 : decode cX7_canGoOn 30 = .ok (.iload_n 1, 1) := by decide +kernel
theorem dX7_canGoOn_31 : decode cX7_canGoOn 31 = .ok (.iaload, 1) := by decide +kernel
theorem dX7_canGoOn_32 : decode cX7_canGoOn 32 = .ok (.aload_n 0, 1) := by decide +kernel
theorem dX7_canGoOn_33 : decode cX7_canGoOn 33 = .ok (.getfield 152, 3) := by decide +kernel
theorem dX7_canGoOn_36 : decode cX7_canGoOn 36 = .ok (.if_icmp .ne 7, 3) := by decide +kernel
theorem dX7_canGoOn_39 : decode cX7_canGoOn 39 = .ok (.iconst 1, 1) := by decide +kernel
theorem dX7_canGoOn_40 : decode cX7_canGoOn 40 = .ok (.goto 4, 3) := by decide +kernel
theorem dX7_canGoOn_43 : decode cX7_canGoOn 43 = .ok (.iconst 0, 1) := by decide +kernel
theorem dX7_canGoOn_44 : decode cX7_canGoOn 44 = .ok (.ireturn, 1) := by decide +kernel
theorem dX7_goOn_0 : decode cX7_goOn 0 = .ok (.aload_n 0, 1) := by decide +kernel
theorem dX7_goOn_1 : decode cX7_goOn 1 = .ok (.iload_n 1, 1) := by decide +kernel
theorem dX7_goOn_2 : decode cX7_goOn 2 = .ok (.invokevirtual 202, 3) := by decide +kernel
theorem dX7_goOn_5 : decode cX7_goOn 5 = .ok (.ifCond .ne 9, 3) := by decide +kernel
theorem dX7_goOn_8 : decode cX7_goOn 8 = .ok (.aload_n 0, 1) := by decide +kernel
theorem dX7_goOn_9 : decode cX7_goOn 9 = .ok (.iconst 1, 1) := by decide +kernel
theorem dX7_goOn_10 : decode cX7_goOn 10 = .ok (.invokevirtual 168, 3) := by decide +kernel
theorem dX7_goOn_13 : decode cX7_goOn 13 = .ok (.ireturn, 1) := by decide +kernel
theorem dX7_goOn_14 : decode cX7_goOn 14 = .ok (.aload_n 0, 1) := by decide +kernel
theorem dX7_goOn_15 : decode cX7_goOn 15 = .ok (.iload_n 1, 1) := by decide +kernel
theorem dX7_goOn_16 : decode cX7_goOn 16 = .ok (.invokevirtual 239, 3) := by decide +kernel
theorem dX7_goOn_19 : decode cX7_goOn 19 = .ok (.ifCond .ne 9, 3) := by decide +kernel
theorem dX7_goOn_22 : decode cX7_goOn 22 = .ok (.aload_n 0, 1) := by decide +kernel
theorem dX7_goOn_23 : decode cX7_goOn 23 = .ok (.iconst 2, 1) := by decide +kernel
theorem dX7_goOn_24 : decode cX7_goOn 24 = .ok (.invokevirtual 168, 3) := by decide +kernel
theorem dX7_goOn_27 : decode cX7_goOn 27 = .ok (.ireturn, 1) := by decide +kernel
theorem dX7_goOn_28 : decode cX7_goOn 28 = .ok (.aload_n 0, 1) := by decide +kernel
theorem dX7_goOn_29 : decode cX7_goOn 29 = .ok (.iconst 0, 1) := by decide +kernel
theorem dX7_goOn_30 : decode cX7_goOn 30 = .ok (.putfield 81, 3) := by decide +kernel
theorem dX7_goOn_33 : decode cX7_goOn 33 = .ok (.aload_n 0, 1) := by decide +kernel
theorem dX7_goOn_34 : decode cX7_goOn 34 = .ok (.invokevirtual 171, 3) := by decide +kernel
theorem dX7_goOn_37 : decode cX7_goOn 37 = .ok (.aload_n 0, 1) := by decide +kernel
theorem dX7_goOn_38 : decode cX7_goOn 38 = .ok (.getfield 40, 3) := by decide +kernel
theorem dX7_goOn_41 : decode cX7_goOn 41 = .ok (.iload_n 1, 1) := by decide +kernel
theorem dX7_goOn_42 : decode cX7_goOn 42 = .ok (.dup2, 1) := by decide +kernel
theorem dX7_goOn_43 : decode cX7_goOn 43 = .ok (.iaload, 1) := by decide +kernel
theorem dX7_goOn_44 : decode cX7_goOn 44 = .ok (.iconst 1, 1) := by decide +kernel
theorem dX7_goOn_45 : decode cX7_goOn 45 = .ok (.iadd, 1) := by decide +kernel
theorem dX7_goOn_46 : decode cX7_goOn 46 = .ok (.iastore, 1) := by decide +kernel
theorem dX7_goOn_47 : decode cX7_goOn 47 = .ok (.aload_n 0, 1) := by decide +kernel
theorem dX7_goOn_48 : decode cX7_goOn 48 = .ok (.getfield 40, 3) := by decide +kernel
theorem dX7_goOn_51 : decode cX7_goOn 51 = .ok (.iload_n 1, 1) := by decide +kernel
theorem dX7_goOn_52 : decode cX7_goOn 52 = .ok (.iaload, 1) := by decide +kernel
theorem dX7_goOn_53 : decode cX7_goOn 53 = .ok (.ireturn, 1) := by decide +kernel
theorem dX7_isAhead_0 : decode cX7_isAhead 0 = .ok (.aload_n 0, 1) := by decide +kernel
theorem dX7_isAhead_1 : decode cX7_isAhead 1 = .ok (.iload_n 1, 1) := by decide +kernel
theorem dX7_isAhead_2 : decode cX7_isAhead 2 = .ok (.invokevirtual 113, 3) := by decide +kernel
theorem dX7_isAhead_5 : decode cX7_isAhead 5 = .ok (.ifCond .eq 15, 3) := by decide +kernel
theorem dX7_isAhead_8 : decode cX7_isAhead 8 = .ok (.aload_n 0, 1) := by decide +kernel
theorem dX7_isAhead_9 : decode cX7_isAhead 9 = .ok (.iload_n 1, 1) := by decide +kernel
theorem dX7_isAhead_10 : decode cX7_isAhead 10 = .ok (.invokevirtual 109, 3) := by decide +kernel
theorem dX7_isAhead_13 : decode cX7_isAhead 13 = .ok (.ifCond .ne 7, 3) := by decide +kernel
theorem dX7_isAhead_16 : decode cX7_isAhead 16 = .ok (.iconst 1, 1) := by decide +kernel
theorem dX7_isAhead_17 : decode cX7_isAhead 17 = .ok (.goto 4, 3) := by decide +kernel
theorem dX7_isAhead_20 : decode cX7_isAhead 20 = .ok (.iconst 0, 1) := by decide +kernel
theorem dX7_isAhead_21 : decode cX7_isAhead 21 = .ok (.ireturn, 1) := by decide +kernel
theorem dX7_nextDeadline_0 : decode cX7_nextDeadline 0 = .ok (.aload_n 0, 1) := by decide +kernel
theorem dX7_nextDeadline_1 : decode cX7_nextDeadline 1 = .ok (.iload_n 1, 1) := by decide +kernel
theorem dX7_nextDeadline_2 : decode cX7_nextDeadline 2 = .ok (.aload_n 0, 1) := by decide +kernel
theorem dX7_nextDeadline_3 : decode cX7_nextDeadline 3 = .ok (.getfield 49, 3) := by decide +kernel
theorem dX7_nextDeadline_6 : decode cX7_nextDeadline 6 = .ok (.iload_n 1, 1) := by decide +kernel
theorem dX7_nextDeadline_7 : decode cX7_nextDeadline 7 = .ok (.iaload, 1) := by decide +kernel
theorem dX7_nextDeadline_8 : decode cX7_nextDeadline 8 = .ok (.aload_n 0, 1) := by decide +kernel
theorem dX7_nextDeadline_9 : decode cX7_nextDeadline 9 = .ok (.getfield 40, 3) := by decide +kernel
theorem dX7_nextDeadline_12 : decode cX7_nextDeadline 12 = .ok (.iload_n 1, 1) := by decide +kernel
theorem dX7_nextDeadline_13 : decode cX7_nextDeadline 13 = .ok (.iaload, 1) := by decide +kernel
theorem dX7_nextDeadline_14 : decode cX7_nextDeadline 14 = .ok (.iconst 1, 1) := by decide +kernel
theorem dX7_nextDeadline_15 : decode cX7_nextDeadline 15 = .ok (.iadd, 1) := by decide +kernel
theorem dX7_nextDeadline_16 : decode cX7_nextDeadline 16 = .ok (.invokevirtual 149, 3) := by decide +kernel
theorem dX7_nextDeadline_19 : decode cX7_nextDeadline 19 = .ok (.ireturn, 1) := by decide +kernel
theorem dX7_mostUrgent_0 : decode cX7_mostUrgent 0 = .ok (.iconst (-1), 1) := by decide +kernel
theorem dX7_mostUrgent_1 : decode cX7_mostUrgent 1 = .ok (.istore_n 1, 1) := by decide +kernel
theorem dX7_mostUrgent_2 : decode cX7_mostUrgent 2 = .ok (.iconst 0, 1) := by decide +kernel
theorem dX7_mostUrgent_3 : decode cX7_mostUrgent 3 = .ok (.istore_n 2, 1) := by decide +kernel
theorem dX7_mostUrgent_4 : decode cX7_mostUrgent 4 = .ok (.iload_n 2, 1) := by decide +kernel
theorem dX7_mostUrgent_5 : decode cX7_mostUrgent 5 = .ok (.aload_n 0, 1) := by decide +kernel
theorem dX7_mostUrgent_6 : decode cX7_mostUrgent 6 = .ok (.getfield 91, 3) := by decide +kernel
theorem dX7_mostUrgent_9 : decode cX7_mostUrgent 9 = .ok (.if_icmp .ge 36, 3) := by decide +kernel
theorem dX7_mostUrgent_12 : decode cX7_mostUrgent 12 = .ok (.aload_n 0, 1) := by decide +kernel
theorem dX7_mostUrgent_13 : decode cX7_mostUrgent 13 = .ok (.iload_n 2, 1) := by decide +kernel
theorem dX7_mostUrgent_14 : decode cX7_mostUrgent 14 = .ok (.invokevirtual 242, 3) := by decide +kernel
theorem dX7_mostUrgent_17 : decode cX7_mostUrgent 17 = .ok (.ifCond .eq 22, 3) := by decide +kernel
theorem dX7_mostUrgent_20 : decode cX7_mostUrgent 20 = .ok (.iload_n 1, 1) := by decide +kernel
theorem dX7_mostUrgent_21 : decode cX7_mostUrgent 21 = .ok (.ifCond .lt 16, 3) := by decide +kernel
theorem dX7_mostUrgent_24 : decode cX7_mostUrgent 24 = .ok (.aload_n 0, 1) := by decide +kernel
theorem dX7_mostUrgent_25 : decode cX7_mostUrgent 25 = .ok (.iload_n 2, 1) := by decide +kernel
theorem dX7_mostUrgent_26 : decode cX7_mostUrgent 26 = .ok (.invokevirtual 245, 3) := by decide +kernel
theorem dX7_mostUrgent_29 : decode cX7_mostUrgent 29 = .ok (.aload_n 0, 1) := by decide +kernel
theorem dX7_mostUrgent_30 : decode cX7_mostUrgent 30 = .ok (.iload_n 1, 1) := by decide +kernel
theorem dX7_mostUrgent_31 : decode cX7_mostUrgent 31 = .ok (.invokevirtual 245, 3) := by decide +kernel
theorem dX7_mostUrgent_34 : decode cX7_mostUrgent 34 = .ok (.if_icmp .ge 5, 3) := by decide +kernel
theorem dX7_mostUrgent_37 : decode cX7_mostUrgent 37 = .ok (.iload_n 2, 1) := by decide +kernel
theorem dX7_mostUrgent_38 : decode cX7_mostUrgent 38 = .ok (.istore_n 1, 1) := by decide +kernel
theorem dX7_mostUrgent_39 : decode cX7_mostUrgent 39 = .ok (.iinc 2 1, 3) := by decide +kernel
theorem dX7_mostUrgent_42 : decode cX7_mostUrgent 42 = .ok (.goto (-38), 3) := by decide +kernel
theorem dX7_mostUrgent_45 : decode cX7_mostUrgent 45 = .ok (.iload_n 1, 1) := by decide +kernel
theorem dX7_mostUrgent_46 : decode cX7_mostUrgent 46 = .ok (.ifCond .ge 9, 3) := by decide +kernel
theorem dX7_mostUrgent_49 : decode cX7_mostUrgent 49 = .ok (.aload_n 0, 1) := by decide +kernel
theorem dX7_mostUrgent_50 : decode cX7_mostUrgent 50 = .ok (.iconst 1, 1) := by decide +kernel
theorem dX7_mostUrgent_51 : decode cX7_mostUrgent 51 = .ok (.invokevirtual 168, 3) := by decide +kernel
theorem dX7_mostUrgent_54 : decode cX7_mostUrgent 54 = .ok (.ireturn, 1) := by decide +kernel
theorem dX7_mostUrgent_55 : decode cX7_mostUrgent 55 = .ok (.aload_n 0, 1) := by decide +kernel
theorem dX7_mostUrgent_56 : decode cX7_mostUrgent 56 = .ok (.iconst 0, 1) := by decide +kernel
theorem dX7_mostUrgent_57 : decode cX7_mostUrgent 57 = .ok (.putfield 81, 3) := by decide +kernel
theorem dX7_mostUrgent_60 : decode cX7_mostUrgent 60 = .ok (.aload_n 0, 1) := by decide +kernel
theorem dX7_mostUrgent_61 : decode cX7_mostUrgent 61 = .ok (.iload_n 1, 1) := by decide +kernel
theorem dX7_mostUrgent_62 : decode cX7_mostUrgent 62 = .ok (.invokevirtual 245, 3) := by decide +kernel
theorem dX7_mostUrgent_65 : decode cX7_mostUrgent 65 = .ok (.aload_n 0, 1) := by decide +kernel
theorem dX7_mostUrgent_66 : decode cX7_mostUrgent 66 = .ok (.getfield 152, 3) := by decide +kernel
theorem dX7_mostUrgent_69 : decode cX7_mostUrgent 69 = .ok (.isub, 1) := by decide +kernel
theorem dX7_mostUrgent_70 : decode cX7_mostUrgent 70 = .ok (.ireturn, 1) := by decide +kernel
theorem dX7_inRoom_0 : decode cX7_inRoom 0 = .ok (.iload_n 1, 1) := by decide +kernel
theorem dX7_inRoom_1 : decode cX7_inRoom 1 = .ok (.invokestatic 229, 3) := by decide +kernel
theorem dX7_inRoom_4 : decode cX7_inRoom 4 = .ok (.ifCond .ne 9, 3) := by decide +kernel
theorem dX7_inRoom_7 : decode cX7_inRoom 7 = .ok (.aload_n 0, 1) := by decide +kernel
theorem dX7_inRoom_8 : decode cX7_inRoom 8 = .ok (.iconst 1, 1) := by decide +kernel
theorem dX7_inRoom_9 : decode cX7_inRoom 9 = .ok (.invokevirtual 168, 3) := by decide +kernel
theorem dX7_inRoom_12 : decode cX7_inRoom 12 = .ok (.ireturn, 1) := by decide +kernel
theorem dX7_inRoom_13 : decode cX7_inRoom 13 = .ok (.iload_n 2, 1) := by decide +kernel
theorem dX7_inRoom_14 : decode cX7_inRoom 14 = .ok (.invokestatic 184, 3) := by decide +kernel
theorem dX7_inRoom_17 : decode cX7_inRoom 17 = .ok (.ifCond .eq 13, 3) := by decide +kernel
theorem dX7_inRoom_20 : decode cX7_inRoom 20 = .ok (.iload_n 3, 1) := by decide +kernel
theorem dX7_inRoom_21 : decode cX7_inRoom 21 = .ok (.iconst 0, 1) := by decide +kernel
theorem dX7_inRoom_22 : decode cX7_inRoom 22 = .ok (.bipush 7, 2) := by decide +kernel
theorem dX7_inRoom_24 : decode cX7_inRoom 24 = .ok (.invokestatic 87, 3) := by decide +kernel
theorem dX7_inRoom_27 : decode cX7_inRoom 27 = .ok (.ifCond .ne 9, 3) := by decide +kernel
theorem dX7_inRoom_30 : decode cX7_inRoom 30 = .ok (.aload_n 0, 1) := by decide +kernel
theorem dX7_inRoom_31 : decode cX7_inRoom 31 = .ok (.iconst 2, 1) := by decide +kernel
theorem dX7_inRoom_32 : decode cX7_inRoom 32 = .ok (.invokevirtual 168, 3) := by decide +kernel
theorem dX7_inRoom_35 : decode cX7_inRoom 35 = .ok (.ireturn, 1) := by decide +kernel
theorem dX7_inRoom_36 : decode cX7_inRoom 36 = .ok (.iconst 0, 1) := by decide +kernel
theorem dX7_inRoom_37 : decode cX7_inRoom 37 = .ok (.istore 4, 2) := by decide +kernel
theorem dX7_inRoom_39 : decode cX7_inRoom 39 = .ok (.iload 4, 2) := by decide +kernel
theorem dX7_inRoom_41 : decode cX7_inRoom 41 = .ok (.aload_n 0, 1) := by decide +kernel
theorem dX7_inRoom_42 : decode cX7_inRoom 42 = .ok (.getfield 91, 3) := by decide +kernel
theorem dX7_inRoom_45 : decode cX7_inRoom 45 = .ok (.if_icmp .ge 56, 3) := by decide +kernel
theorem dX7_inRoom_48 : decode cX7_inRoom 48 = .ok (.aload_n 0, 1) := by decide +kernel
theorem dX7_inRoom_49 : decode cX7_inRoom 49 = .ok (.getfield 46, 3) := by decide +kernel
theorem dX7_inRoom_52 : decode cX7_inRoom 52 = .ok (.iload 4, 2) := by decide +kernel
theorem dX7_inRoom_54 : decode cX7_inRoom 54 = .ok (.iaload, 1) := by decide +kernel
theorem dX7_inRoom_55 : decode cX7_inRoom 55 = .ok (.iload_n 1, 1) := by decide +kernel
theorem dX7_inRoom_56 : decode cX7_inRoom 56 = .ok (.if_icmp .ne 39, 3) := by decide +kernel
theorem dX7_inRoom_59 : decode cX7_inRoom 59 = .ok (.aload_n 0, 1) := by decide +kernel
theorem dX7_inRoom_60 : decode cX7_inRoom 60 = .ok (.getfield 49, 3) := by decide +kernel
theorem dX7_inRoom_63 : decode cX7_inRoom 63 = .ok (.iload 4, 2) := by decide +kernel
theorem dX7_inRoom_65 : decode cX7_inRoom 65 = .ok (.iaload, 1) := by decide +kernel
theorem dX7_inRoom_66 : decode cX7_inRoom 66 = .ok (.iload_n 2, 1) := by decide +kernel
theorem dX7_inRoom_67 : decode cX7_inRoom 67 = .ok (.if_icmp .ne 28, 3) := by decide +kernel
theorem dX7_inRoom_70 : decode cX7_inRoom 70 = .ok (.iload_n 3, 1) := by decide +kernel
theorem dX7_inRoom_71 : decode cX7_inRoom 71 = .ok (.aload_n 0, 1) := by decide +kernel
theorem dX7_inRoom_72 : decode cX7_inRoom 72 = .ok (.getfield 52, 3) := by decide +kernel
theorem dX7_inRoom_75 : decode cX7_inRoom 75 = .ok (.iload 4, 2) := by decide +kernel
theorem dX7_inRoom_77 : decode cX7_inRoom 77 = .ok (.iaload, 1) := by decide +kernel
theorem dX7_inRoom_78 : decode cX7_inRoom 78 = .ok (.isub, 1) := by decide +kernel
theorem dX7_inRoom_79 : decode cX7_inRoom 79 = .ok (.iconst 0, 1) := by decide +kernel
theorem dX7_inRoom_80 : decode cX7_inRoom 80 = .ok (.iconst 1, 1) := by decide +kernel
theorem dX7_inRoom_81 : decode cX7_inRoom 81 = .ok (.invokestatic 87, 3) := by decide +kernel
theorem dX7_inRoom_84 : decode cX7_inRoom 84 = .ok (.ifCond .eq 11, 3) := by decide +kernel
theorem dX7_inRoom_87 : decode cX7_inRoom 87 = .ok (.aload_n 0, 1) := by decide +kernel
theorem dX7_inRoom_88 : decode cX7_inRoom 88 = .ok (.iconst 0, 1) := by decide +kernel
theorem dX7_inRoom_89 : decode cX7_inRoom 89 = .ok (.putfield 81, 3) := by decide +kernel
theorem dX7_inRoom_92 : decode cX7_inRoom 92 = .ok (.iload 4, 2) := by decide +kernel
theorem dX7_inRoom_94 : decode cX7_inRoom 94 = .ok (.ireturn, 1) := by decide +kernel
theorem dX7_inRoom_95 : decode cX7_inRoom 95 = .ok (.iinc 4 1, 3) := by decide +kernel
theorem dX7_inRoom_98 : decode cX7_inRoom 98 = .ok (.goto (-59), 3) := by decide +kernel
theorem dX7_inRoom_101 : decode cX7_inRoom 101 = .ok (.aload_n 0, 1) := by decide +kernel
theorem dX7_inRoom_102 : decode cX7_inRoom 102 = .ok (.iconst 3, 1) := by decide +kernel
theorem dX7_inRoom_103 : decode cX7_inRoom 103 = .ok (.invokevirtual 168, 3) := by decide +kernel
theorem dX7_inRoom_106 : decode cX7_inRoom 106 = .ok (.ireturn, 1) := by decide +kernel
theorem dX7_await_0 : decode cX7_await 0 = .ok (.aload_n 0, 1) := by decide +kernel
theorem dX7_await_1 : decode cX7_await 1 = .ok (.iload_n 1, 1) := by decide +kernel
theorem dX7_await_2 : decode cX7_await 2 = .ok (.invokevirtual 202, 3) := by decide +kernel
theorem dX7_await_5 : decode cX7_await 5 = .ok (.ifCond .ne 9, 3) := by decide +kernel
theorem dX7_await_8 : decode cX7_await 8 = .ok (.aload_n 0, 1) := by decide +kernel
theorem dX7_await_9 : decode cX7_await 9 = .ok (.iconst 1, 1) := by decide +kernel
theorem dX7_await_10 : decode cX7_await 10 = .ok (.invokevirtual 168, 3) := by decide +kernel
theorem dX7_await_13 : decode cX7_await 13 = .ok (.ireturn, 1) := by decide +kernel
theorem dX7_await_14 : decode cX7_await 14 = .ok (.aload_n 0, 1) := by decide +kernel
theorem dX7_await_15 : decode cX7_await 15 = .ok (.iload_n 1, 1) := by decide +kernel
theorem dX7_await_16 : decode cX7_await 16 = .ok (.invokevirtual 109, 3) := by decide +kernel
theorem dX7_await_19 : decode cX7_await 19 = .ok (.ifCond .ne 11, 3) := by decide +kernel
theorem dX7_await_22 : decode cX7_await 22 = .ok (.aload_n 0, 1) := by decide +kernel
theorem dX7_await_23 : decode cX7_await 23 = .ok (.iload_n 1, 1) := by decide +kernel
theorem dX7_await_24 : decode cX7_await 24 = .ok (.invokevirtual 113, 3) := by decide +kernel
theorem dX7_await_27 : decode cX7_await 27 = .ok (.ifCond .eq 9, 3) := by decide +kernel
theorem dX7_await_30 : decode cX7_await 30 = .ok (.aload_n 0, 1) := by decide +kernel
theorem dX7_await_31 : decode cX7_await 31 = .ok (.iconst 2, 1) := by decide +kernel
theorem dX7_await_32 : decode cX7_await 32 = .ok (.invokevirtual 168, 3) := by decide +kernel
theorem dX7_await_35 : decode cX7_await 35 = .ok (.ireturn, 1) := by decide +kernel
theorem dX7_await_36 : decode cX7_await 36 = .ok (.aload_n 0, 1) := by decide +kernel
theorem dX7_await_37 : decode cX7_await 37 = .ok (.iconst 0, 1) := by decide +kernel
theorem dX7_await_38 : decode cX7_await 38 = .ok (.putfield 81, 3) := by decide +kernel
theorem dX7_await_41 : decode cX7_await 41 = .ok (.aload_n 0, 1) := by decide +kernel
theorem dX7_await_42 : decode cX7_await 42 = .ok (.invokevirtual 171, 3) := by decide +kernel
theorem dX7_await_45 : decode cX7_await 45 = .ok (.aload_n 0, 1) := by decide +kernel
theorem dX7_await_46 : decode cX7_await 46 = .ok (.iload_n 1, 1) := by decide +kernel
theorem dX7_await_47 : decode cX7_await 47 = .ok (.invokevirtual 205, 3) := by decide +kernel
theorem dX7_await_50 : decode cX7_await 50 = .ok (.ifCond .ge 23, 3) := by decide +kernel
theorem dX7_await_53 : decode cX7_await 53 = .ok (.aload_n 0, 1) := by decide +kernel
theorem dX7_await_54 : decode cX7_await 54 = .ok (.getfield 55, 3) := by decide +kernel
theorem dX7_await_57 : decode cX7_await 57 = .ok (.aload_n 0, 1) := by decide +kernel
theorem dX7_await_58 : decode cX7_await 58 = .ok (.getfield 159, 3) := by decide +kernel
theorem dX7_await_61 : decode cX7_await 61 = .ok (.iload_n 1, 1) := by decide +kernel
theorem dX7_await_62 : decode cX7_await 62 = .ok (.iastore, 1) := by decide +kernel
theorem dX7_await_63 : decode cX7_await 63 = .ok (.aload_n 0, 1) := by decide +kernel
theorem dX7_await_64 : decode cX7_await 64 = .ok (.dup, 1) := by decide +kernel
theorem dX7_await_65 : decode cX7_await 65 = .ok (.getfield 159, 3) := by decide +kernel
theorem dX7_await_68 : decode cX7_await 68 = .ok (.iconst 1, 1) := by decide +kernel
theorem dX7_await_69 : decode cX7_await 69 = .ok (.iadd, 1) := by decide +kernel
theorem dX7_await_70 : decode cX7_await 70 = .ok (.putfield 159, 3) := by decide +kernel
theorem dX7_await_73 : decode cX7_await 73 = .ok (.aload_n 0, 1) := by decide +kernel
theorem dX7_await_74 : decode cX7_await 74 = .ok (.iload_n 1, 1) := by decide +kernel
theorem dX7_await_75 : decode cX7_await 75 = .ok (.invokevirtual 205, 3) := by decide +kernel
theorem dX7_await_78 : decode cX7_await 78 = .ok (.ireturn, 1) := by decide +kernel
theorem dX7_serve_0 : decode cX7_serve 0 = .ok (.aload_n 0, 1) := by decide +kernel
theorem dX7_serve_1 : decode cX7_serve 1 = .ok (.iconst 0, 1) := by decide +kernel
theorem dX7_serve_2 : decode cX7_serve 2 = .ok (.putfield 81, 3) := by decide +kernel
theorem dX7_serve_5 : decode cX7_serve 5 = .ok (.aload_n 0, 1) := by decide +kernel
theorem dX7_serve_6 : decode cX7_serve 6 = .ok (.invokevirtual 171, 3) := by decide +kernel
theorem dX7_serve_9 : decode cX7_serve 9 = .ok (.iconst 0, 1) := by decide +kernel
theorem dX7_serve_10 : decode cX7_serve 10 = .ok (.istore_n 1, 1) := by decide +kernel
theorem dX7_serve_11 : decode cX7_serve 11 = .ok (.iconst 0, 1) := by decide +kernel
theorem dX7_serve_12 : decode cX7_serve 12 = .ok (.istore_n 2, 1) := by decide +kernel
theorem dX7_serve_13 : decode cX7_serve 13 = .ok (.aload_n 0, 1) := by decide +kernel
theorem dX7_serve_14 : decode cX7_serve 14 = .ok (.getfield 159, 3) := by decide +kernel
theorem dX7_serve_17 : decode cX7_serve 17 = .ok (.istore_n 3, 1) := by decide +kernel
theorem dX7_serve_18 : decode cX7_serve 18 = .ok (.iconst 0, 1) := by decide +kernel
theorem dX7_serve_19 : decode cX7_serve 19 = .ok (.istore 4, 2) := by decide +kernel
theorem dX7_serve_21 : decode cX7_serve 21 = .ok (.iload 4, 2) := by decide +kernel
theorem dX7_serve_23 : decode cX7_serve 23 = .ok (.iload_n 3, 1) := by decide +kernel
theorem dX7_serve_24 : decode cX7_serve 24 = .ok (.if_icmp .ge 72, 3) := by decide +kernel
theorem dX7_serve_27 : decode cX7_serve 27 = .ok (.aload_n 0, 1) := by decide +kernel
theorem dX7_serve_28 : decode cX7_serve 28 = .ok (.getfield 55, 3) := by decide +kernel
theorem dX7_serve_31 : decode cX7_serve 31 = .ok (.iload 4, 2) := by decide +kernel
theorem dX7_serve_33 : decode cX7_serve 33 = .ok (.iaload, 1) := by decide +kernel
theorem dX7_serve_34 : decode cX7_serve 34 = .ok (.istore 5, 2) := by decide +kernel
theorem dX7_serve_36 : decode cX7_serve 36 = .ok (.aload_n 0, 1) := by decide +kernel
theorem dX7_serve_37 : decode cX7_serve 37 = .ok (.iload 5, 2) := by decide +kernel
theorem dX7_serve_39 : decode cX7_serve 39 = .ok (.invokevirtual 236, 3) := by decide +kernel
theorem dX7_serve_42 : decode cX7_serve 42 = .ok (.istore 6, 2) := by decide +kernel
theorem dX7_serve_44 : decode cX7_serve 44 = .ok (.iload 6, 2) := by decide +kernel
theorem dX7_serve_46 : decode cX7_serve 46 = .ok (.ifCond .lt 33, 3) := by decide +kernel
theorem dX7_serve_49 : decode cX7_serve 49 = .ok (.aload_n 0, 1) := by decide +kernel
theorem dX7_serve_50 : decode cX7_serve 50 = .ok (.iload 5, 2) := by decide +kernel
theorem dX7_serve_52 : decode cX7_serve 52 = .ok (.iload 6, 2) := by decide +kernel
theorem dX7_serve_54 : decode cX7_serve 54 = .ok (.bipush 10, 2) := by decide +kernel
theorem dX7_serve_56 : decode cX7_serve 56 = .ok (.irem, 1) := by decide +kernel
theorem dX7_serve_57 : decode cX7_serve 57 = .ok (.iload 6, 2) := by decide +kernel
theorem dX7_serve_59 : decode cX7_serve 59 = .ok (.bipush 100, 2) := by decide +kernel
theorem dX7_serve_61 : decode cX7_serve 61 = .ok (.idiv, 1) := by decide +kernel
theorem dX7_serve_62 : decode cX7_serve 62 = .ok (.iload 6, 2) := by decide +kernel
theorem dX7_serve_64 : decode cX7_serve 64 = .ok (.bipush 10, 2) := by decide +kernel
theorem dX7_serve_66 : decode cX7_serve 66 = .ok (.idiv, 1) := by decide +kernel
theorem dX7_serve_67 : decode cX7_serve 67 = .ok (.bipush 10, 2) := by decide +kernel
theorem dX7_serve_69 : decode cX7_serve 69 = .ok (.irem, 1) := by decide +kernel
theorem dX7_serve_70 : decode cX7_serve 70 = .ok (.invokevirtual 232, 3) := by decide +kernel
theorem dX7_serve_73 : decode cX7_serve 73 = .ok (.iinc 1 1, 3) := by decide +kernel
theorem dX7_serve_76 : decode cX7_serve 76 = .ok (.goto 14, 3) := by decide +kernel
theorem dX7_serve_79 : decode cX7_serve 79 = .ok (.aload_n 0, 1) := by decide +kernel
theorem dX7_serve_80 : decode cX7_serve 80 = .ok (.getfield 55, 3) := by decide +kernel
theorem dX7_serve_83 : decode cX7_serve 83 = .ok (.iload_n 2, 1) := by decide +kernel
theorem dX7_serve_84 : decode cX7_serve 84 = .ok (.iload 5, 2) := by decide +kernel
theorem dX7_serve_86 : decode cX7_serve 86 = .ok (.iastore, 1) := by decide +kernel
theorem dX7_serve_87 : decode cX7_serve 87 = .ok (.iinc 2 1, 3) := by decide +kernel
theorem dX7_serve_90 : decode cX7_serve 90 = .ok (.iinc 4 1, 3) := by decide +kernel
theorem dX7_serve_93 : decode cX7_serve 93 = .ok (.goto (-72), 3) := by decide +kernel
theorem dX7_serve_96 : decode cX7_serve 96 = .ok (.aload_n 0, 1) := by decide +kernel
theorem dX7_serve_97 : decode cX7_serve 97 = .ok (.iload_n 2, 1) := by decide +kernel
theorem dX7_serve_98 : decode cX7_serve 98 = .ok (.putfield 159, 3) := by decide +kernel
theorem dX7_serve_101 : decode cX7_serve 101 = .ok (.iload_n 1, 1) := by decide +kernel
theorem dX7_serve_102 : decode cX7_serve 102 = .ok (.ireturn, 1) := by decide +kernel
theorem dX7_waiting_0 : decode cX7_waiting 0 = .ok (.iload_n 1, 1) := by decide +kernel
theorem dX7_waiting_1 : decode cX7_waiting 1 = .ok (.iconst 0, 1) := by decide +kernel
theorem dX7_waiting_2 : decode cX7_waiting 2 = .ok (.aload_n 0, 1) := by decide +kernel
theorem dX7_waiting_3 : decode cX7_waiting 3 = .ok (.getfield 159, 3) := by decide +kernel
theorem dX7_waiting_6 : decode cX7_waiting 6 = .ok (.iconst 1, 1) := by decide +kernel
theorem dX7_waiting_7 : decode cX7_waiting 7 = .ok (.isub, 1) := by decide +kernel
theorem dX7_waiting_8 : decode cX7_waiting 8 = .ok (.invokestatic 87, 3) := by decide +kernel
theorem dX7_waiting_11 : decode cX7_waiting 11 = .ok (.ifCond .ne 9, 3) := by decide +kernel
theorem dX7_waiting_14 : decode cX7_waiting 14 = .ok (.aload_n 0, 1) := by decide +kernel
theorem dX7_waiting_15 : decode cX7_waiting 15 = .ok (.iconst 1, 1) := by decide +kernel
theorem dX7_waiting_16 : decode cX7_waiting 16 = .ok (.invokevirtual 168, 3) := by decide +kernel
theorem dX7_waiting_19 : decode cX7_waiting 19 = .ok (.ireturn, 1) := by decide +kernel
theorem dX7_waiting_20 : decode cX7_waiting 20 = .ok (.aload_n 0, 1) := by decide +kernel
theorem dX7_waiting_21 : decode cX7_waiting 21 = .ok (.iconst 0, 1) := by decide +kernel
theorem dX7_waiting_22 : decode cX7_waiting 22 = .ok (.putfield 81, 3) := by decide +kernel
theorem dX7_waiting_25 : decode cX7_waiting 25 = .ok (.aload_n 0, 1) := by decide +kernel
theorem dX7_waiting_26 : decode cX7_waiting 26 = .ok (.getfield 55, 3) := by decide +kernel
theorem dX7_waiting_29 : decode cX7_waiting 29 = .ok (.iload_n 1, 1) := by decide +kernel
theorem dX7_waiting_30 : decode cX7_waiting 30 = .ok (.iaload, 1) := by decide +kernel
theorem dX7_waiting_31 : decode cX7_waiting 31 = .ok (.ireturn, 1) := by decide +kernel
theorem dX7_passes_0 : decode cX7_passes 0 = .ok (.iconst 0, 1) := by decide +kernel
theorem dX7_passes_1 : decode cX7_passes 1 = .ok (.istore_n 2, 1) := by decide +kernel
