theorem dX8_drinks_1 : decode cX8_drinks 1 = .ok (.getfield 19, 3) := by decide +kernel
theorem dX8_drinks_4 : decode cX8_drinks 4 = .ok (.iload_n 1, 1) := by decide +kernel
theorem dX8_drinks_5 : decode cX8_drinks 5 = .ok (.invokevirtual 120, 3) := by decide +kernel
theorem dX8_drinks_8 : decode cX8_drinks 8 = .ok (.ifCond .eq 13, 3) := by decide +kernel
theorem dX8_drinks_11 : decode cX8_drinks 11 = .ok (.iload_n 2, 1) := by decide +kernel
theorem dX8_drinks_12 : decode cX8_drinks 12 = .ok (.iconst 1, 1) := by decide +kernel
theorem dX8_drinks_13 : decode cX8_drinks 13 = .ok (.bipush 20, 2) := by decide +kernel
theorem dX8_drinks_15 : decode cX8_drinks 15 = .ok (.invokestatic 67, 3) := by decide +kernel
theorem dX8_drinks_18 : decode cX8_drinks 18 = .ok (.ifCond .ne 5, 3) := by decide +kernel
theorem dX8_drinks_21 : decode cX8_drinks 21 = .ok (.iconst (-1), 1) := by decide +kernel
theorem dX8_drinks_22 : decode cX8_drinks 22 = .ok (.ireturn, 1) := by decide +kernel
theorem dX8_drinks_23 : decode cX8_drinks 23 = .ok (.aload_n 0, 1) := by decide +kernel
theorem dX8_drinks_24 : decode cX8_drinks 24 = .ok (.getfield 29, 3) := by decide +kernel
theorem dX8_drinks_27 : decode cX8_drinks 27 = .ok (.getfield 123, 3) := by decide +kernel
theorem dX8_drinks_30 : decode cX8_drinks 30 = .ok (.astore_n 3, 1) := by decide +kernel
theorem dX8_drinks_31 : decode cX8_drinks 31 = .ok (.iload_n 2, 1) := by decide +kernel
theorem dX8_drinks_32 : decode cX8_drinks 32 = .ok (.aload_n 3, 1) := by decide +kernel
theorem dX8_drinks_33 : decode cX8_drinks 33 = .ok (.iload_n 1, 1) := by decide +kernel
theorem dX8_drinks_34 : decode cX8_drinks 34 = .ok (.invokevirtual 137, 3) := by decide +kernel
theorem dX8_drinks_37 : decode cX8_drinks 37 = .ok (.if_icmp .gt 12, 3) := by decide +kernel
theorem dX8_drinks_40 : decode cX8_drinks 40 = .ok (.aload_n 0, 1) := by decide +kernel
theorem dX8_drinks_41 : decode cX8_drinks 41 = .ok (.iload_n 1, 1) := by decide +kernel
theorem dX8_drinks_42 : decode cX8_drinks 42 = .ok (.iload_n 2, 1) := by decide +kernel
theorem dX8_drinks_43 : decode cX8_drinks 43 = .ok (.invokevirtual 201, 3) := by decide +kernel
theorem dX8_drinks_46 : decode cX8_drinks 46 = .ok (.ifCond .ne 6, 3) := by decide +kernel
theorem dX8_drinks_49 : decode cX8_drinks 49 = .ok (.bipush (-2), 2) := by decide +kernel
theorem dX8_drinks_51 : decode cX8_drinks 51 = .ok (.ireturn, 1) := by decide +kernel
theorem dX8_drinks_52 : decode cX8_drinks 52 = .ok (.aload_n 0, 1) := by decide +kernel
theorem dX8_drinks_53 : decode cX8_drinks 53 = .ok (.getfield 29, 3) := by decide +kernel
theorem dX8_drinks_56 : decode cX8_drinks 56 = .ok (.invokevirtual 172, 3) := by decide +kernel
theorem dX8_drinks_59 : decode cX8_drinks 59 = .ok (.aload_n 3, 1) := by decide +kernel
theorem dX8_drinks_60 : decode cX8_drinks 60 = .ok (.iload_n 1, 1) := by decide +kernel
theorem dX8_drinks_61 : decode cX8_drinks 61 = .ok (.aload_n 3, 1) := by decide +kernel
theorem dX8_drinks_62 : decode cX8_drinks 62 = .ok (.iload_n 1, 1) := by decide +kernel
theorem dX8_drinks_63 : decode cX8_drinks 63 = .ok (.invokevirtual 137, 3) := by decide +kernel
theorem dX8_drinks_66 : decode cX8_drinks 66 = .ok (.iload_n 2, 1) := by decide +kernel
theorem dX8_drinks_67 : decode cX8_drinks 67 = .ok (.isub, 1) := by decide +kernel
theorem dX8_drinks_68 : decode cX8_drinks 68 = .ok (.invokevirtual 182, 3) := by decide +kernel
theorem dX8_drinks_71 : decode cX8_drinks 71 = .ok (.aload_n 0, 1) := by decide +kernel
theorem dX8_drinks_72 : decode cX8_drinks 72 = .ok (.iload_n 1, 1) := by decide +kernel
theorem dX8_drinks_73 : decode cX8_drinks 73 = .ok (.iload_n 2, 1) := by decide +kernel
theorem dX8_drinks_74 : decode cX8_drinks 74 = .ok (.invokevirtual 205, 3) := by decide +kernel
theorem dX8_drinks_77 : decode cX8_drinks 77 = .ok (.ireturn, 1) := by decide +kernel
theorem dX8_fills_0 : decode cX8_fills 0 = .ok (.aload_n 0, 1) := by decide +kernel
theorem dX8_fills_1 : decode cX8_fills 1 = .ok (.getfield 19, 3) := by decide +kernel
theorem dX8_fills_4 : decode cX8_fills 4 = .ok (.iload_n 1, 1) := by decide +kernel
theorem dX8_fills_5 : decode cX8_fills 5 = .ok (.invokevirtual 120, 3) := by decide +kernel
theorem dX8_fills_8 : decode cX8_fills 8 = .ok (.ifCond .eq 13, 3) := by decide +kernel
theorem dX8_fills_11 : decode cX8_fills 11 = .ok (.iload_n 2, 1) := by decide +kernel
theorem dX8_fills_12 : decode cX8_fills 12 = .ok (.iconst 1, 1) := by decide +kernel
theorem dX8_fills_13 : decode cX8_fills 13 = .ok (.bipush 20, 2) := by decide +kernel
theorem dX8_fills_15 : decode cX8_fills 15 = .ok (.invokestatic 67, 3) := by decide +kernel
theorem dX8_fills_18 : decode cX8_fills 18 = .ok (.ifCond .ne 5, 3) := by decide +kernel
theorem dX8_fills_21 : decode cX8_fills 21 = .ok (.iconst (-1), 1) := by decide +kernel
theorem dX8_fills_22 : decode cX8_fills 22 = .ok (.ireturn, 1) := by decide +kernel
theorem dX8_fills_23 : decode cX8_fills 23 = .ok (.aload_n 0, 1) := by decide +kernel
theorem dX8_fills_24 : decode cX8_fills 24 = .ok (.getfield 29, 3) := by decide +kernel
theorem dX8_fills_27 : decode cX8_fills 27 = .ok (.getfield 123, 3) := by decide +kernel
theorem dX8_fills_30 : decode cX8_fills 30 = .ok (.astore_n 3, 1) := by decide +kernel
theorem dX8_fills_31 : decode cX8_fills 31 = .ok (.aload_n 3, 1) := by decide +kernel
theorem dX8_fills_32 : decode cX8_fills 32 = .ok (.iload_n 1, 1) := by decide +kernel
theorem dX8_fills_33 : decode cX8_fills 33 = .ok (.invokevirtual 131, 3) := by decide +kernel
theorem dX8_fills_36 : decode cX8_fills 36 = .ok (.iload_n 2, 1) := by decide +kernel
theorem dX8_fills_37 : decode cX8_fills 37 = .ok (.iadd, 1) := by decide +kernel
theorem dX8_fills_38 : decode cX8_fills 38 = .ok (.bipush 20, 2) := by decide +kernel
theorem dX8_fills_40 : decode cX8_fills 40 = .ok (.if_icmp .gt 12, 3) := by decide +kernel
theorem dX8_fills_43 : decode cX8_fills 43 = .ok (.aload_n 0, 1) := by decide +kernel
theorem dX8_fills_44 : decode cX8_fills 44 = .ok (.iload_n 1, 1) := by decide +kernel
theorem dX8_fills_45 : decode cX8_fills 45 = .ok (.iload_n 2, 1) := by decide +kernel
theorem dX8_fills_46 : decode cX8_fills 46 = .ok (.invokevirtual 201, 3) := by decide +kernel
theorem dX8_fills_49 : decode cX8_fills 49 = .ok (.ifCond .ne 6, 3) := by decide +kernel
theorem dX8_fills_52 : decode cX8_fills 52 = .ok (.bipush (-2), 2) := by decide +kernel
theorem dX8_fills_54 : decode cX8_fills 54 = .ok (.ireturn, 1) := by decide +kernel
theorem dX8_fills_55 : decode cX8_fills 55 = .ok (.aload_n 0, 1) := by decide +kernel
theorem dX8_fills_56 : decode cX8_fills 56 = .ok (.getfield 29, 3) := by decide +kernel
theorem dX8_fills_59 : decode cX8_fills 59 = .ok (.invokevirtual 172, 3) := by decide +kernel
theorem dX8_fills_62 : decode cX8_fills 62 = .ok (.aload_n 3, 1) := by decide +kernel
theorem dX8_fills_63 : decode cX8_fills 63 = .ok (.iload_n 1, 1) := by decide +kernel
theorem dX8_fills_64 : decode cX8_fills 64 = .ok (.aload_n 3, 1) := by decide +kernel
theorem dX8_fills_65 : decode cX8_fills 65 = .ok (.iload_n 1, 1) := by decide +kernel
theorem dX8_fills_66 : decode cX8_fills 66 = .ok (.invokevirtual 131, 3) := by decide +kernel
theorem dX8_fills_69 : decode cX8_fills 69 = .ok (.iload_n 2, 1) := by decide +kernel
theorem dX8_fills_70 : decode cX8_fills 70 = .ok (.iadd, 1) := by decide +kernel
theorem dX8_fills_71 : decode cX8_fills 71 = .ok (.invokevirtual 175, 3) := by decide +kernel
theorem dX8_fills_74 : decode cX8_fills 74 = .ok (.aload_n 0, 1) := by decide +kernel
theorem dX8_fills_75 : decode cX8_fills 75 = .ok (.iload_n 1, 1) := by decide +kernel
theorem dX8_fills_76 : decode cX8_fills 76 = .ok (.iload_n 2, 1) := by decide +kernel
theorem dX8_fills_77 : decode cX8_fills 77 = .ok (.invokevirtual 205, 3) := by decide +kernel
theorem dX8_fills_80 : decode cX8_fills 80 = .ok (.ireturn, 1) := by decide +kernel
theorem dX8_hands_0 : decode cX8_hands 0 = .ok (.aload_n 0, 1) := by decide +kernel
theorem dX8_hands_1 : decode cX8_hands 1 = .ok (.getfield 19, 3) := by decide +kernel
theorem dX8_hands_4 : decode cX8_hands 4 = .ok (.iload_n 1, 1) := by decide +kernel
theorem dX8_hands_5 : decode cX8_hands 5 = .ok (.invokevirtual 120, 3) := by decide +kernel
theorem dX8_hands_8 : decode cX8_hands 8 = .ok (.ifCond .eq 19, 3) := by decide +kernel
theorem dX8_hands_11 : decode cX8_hands 11 = .ok (.aload_n 0, 1) := by decide +kernel
theorem dX8_hands_12 : decode cX8_hands 12 = .ok (.getfield 19, 3) := by decide +kernel
theorem dX8_hands_15 : decode cX8_hands 15 = .ok (.iload_n 2, 1) := by decide +kernel
theorem dX8_hands_16 : decode cX8_hands 16 = .ok (.invokevirtual 120, 3) := by decide +kernel
theorem dX8_hands_19 : decode cX8_hands 19 = .ok (.ifCond .eq 8, 3) := by decide +kernel
theorem dX8_hands_22 : decode cX8_hands 22 = .ok (.iload_n 1, 1) := by decide +kernel
theorem dX8_hands_23 : decode cX8_hands 23 = .ok (.iload_n 2, 1) := by decide +kernel
theorem dX8_hands_24 : decode cX8_hands 24 = .ok (.if_icmp .ne 5, 3) := by decide +kernel
theorem dX8_hands_27 : decode cX8_hands 27 = .ok (.iconst (-1), 1) := by decide +kernel
theorem dX8_hands_28 : decode cX8_hands 28 = .ok (.ireturn, 1) := by decide +kernel
theorem dX8_hands_29 : decode cX8_hands 29 = .ok (.aload_n 0, 1) := by decide +kernel
theorem dX8_hands_30 : decode cX8_hands 30 = .ok (.getfield 19, 3) := by decide +kernel
theorem dX8_hands_33 : decode cX8_hands 33 = .ok (.iload_n 3, 1) := by decide +kernel
theorem dX8_hands_34 : decode cX8_hands 34 = .ok (.invokevirtual 146, 3) := by decide +kernel
theorem dX8_hands_37 : decode cX8_hands 37 = .ok (.ifCond .eq 14, 3) := by decide +kernel
theorem dX8_hands_40 : decode cX8_hands 40 = .ok (.iload 4, 2) := by decide +kernel
theorem dX8_hands_42 : decode cX8_hands 42 = .ok (.iconst 1, 1) := by decide +kernel
theorem dX8_hands_43 : decode cX8_hands 43 = .ok (.bipush 99, 2) := by decide +kernel
theorem dX8_hands_45 : decode cX8_hands 45 = .ok (.invokestatic 67, 3) := by decide +kernel
theorem dX8_hands_48 : decode cX8_hands 48 = .ok (.ifCond .ne 5, 3) := by decide +kernel
theorem dX8_hands_51 : decode cX8_hands 51 = .ok (.iconst (-1), 1) := by decide +kernel
theorem dX8_hands_52 : decode cX8_hands 52 = .ok (.ireturn, 1) := by decide +kernel
theorem dX8_hands_53 : decode cX8_hands 53 = .ok (.aload_n 0, 1) := by decide +kernel
theorem dX8_hands_54 : decode cX8_hands 54 = .ok (.getfield 29, 3) := by decide +kernel
theorem dX8_hands_57 : decode cX8_hands 57 = .ok (.getfield 123, 3) := by decide +kernel
theorem dX8_hands_60 : decode cX8_hands 60 = .ok (.astore 5, 2) := by decide +kernel
theorem dX8_hands_62 : decode cX8_hands 62 = .ok (.aload 5, 2) := by decide +kernel
theorem dX8_hands_64 : decode cX8_hands 64 = .ok (.iload_n 1, 1) := by decide +kernel
theorem dX8_hands_65 : decode cX8_hands 65 = .ok (.iload_n 3, 1) := by decide +kernel
theorem dX8_hands_66 : decode cX8_hands 66 = .ok (.invokevirtual 162, 3) := by decide +kernel
theorem dX8_hands_69 : decode cX8_hands 69 = .ok (.iload 4, 2) := by decide +kernel
theorem dX8_hands_71 : decode cX8_hands 71 = .ok (.isub, 1) := by decide +kernel
theorem dX8_hands_72 : decode cX8_hands 72 = .ok (.istore 6, 2) := by decide +kernel
theorem dX8_hands_74 : decode cX8_hands 74 = .ok (.aload 5, 2) := by decide +kernel
theorem dX8_hands_76 : decode cX8_hands 76 = .ok (.iload_n 2, 1) := by decide +kernel
theorem dX8_hands_77 : decode cX8_hands 77 = .ok (.iload_n 3, 1) := by decide +kernel
theorem dX8_hands_78 : decode cX8_hands 78 = .ok (.invokevirtual 162, 3) := by decide +kernel
theorem dX8_hands_81 : decode cX8_hands 81 = .ok (.iload 4, 2) := by decide +kernel
theorem dX8_hands_83 : decode cX8_hands 83 = .ok (.iadd, 1) := by decide +kernel
theorem dX8_hands_84 : decode cX8_hands 84 = .ok (.istore 7, 2) := by decide +kernel
theorem dX8_hands_86 : decode cX8_hands 86 = .ok (.aload 5, 2) := by decide +kernel
theorem dX8_hands_88 : decode cX8_hands 88 = .ok (.iload_n 1, 1) := by decide +kernel
theorem dX8_hands_89 : decode cX8_hands 89 = .ok (.invokevirtual 140, 3) := by decide +kernel
theorem dX8_hands_92 : decode cX8_hands 92 = .ok (.ifCond .eq 24, 3) := by decide +kernel
theorem dX8_hands_95 : decode cX8_hands 95 = .ok (.aload 5, 2) := by decide +kernel
theorem dX8_hands_97 : decode cX8_hands 97 = .ok (.iload_n 2, 1) := by decide +kernel
theorem dX8_hands_98 : decode cX8_hands 98 = .ok (.invokevirtual 140, 3) := by decide +kernel
theorem dX8_hands_101 : decode cX8_hands 101 = .ok (.ifCond .eq 15, 3) := by decide +kernel
theorem dX8_hands_104 : decode cX8_hands 104 = .ok (.iload 6, 2) := by decide +kernel
theorem dX8_hands_106 : decode cX8_hands 106 = .ok (.ifCond .lt 10, 3) := by decide +kernel
theorem dX8_hands_109 : decode cX8_hands 109 = .ok (.iload 7, 2) := by decide +kernel
theorem dX8_hands_111 : decode cX8_hands 111 = .ok (.bipush 99, 2) := by decide +kernel
theorem dX8_hands_113 : decode cX8_hands 113 = .ok (.if_icmp .le 6, 3) := by decide +kernel
theorem dX8_hands_116 : decode cX8_hands 116 = .ok (.bipush (-2), 2) := by decide +kernel
theorem dX8_hands_118 : decode cX8_hands 118 = .ok (.ireturn, 1) := by decide +kernel
theorem dX8_hands_119 : decode cX8_hands 119 = .ok (.aload_n 0, 1) := by decide +kernel
theorem dX8_hands_120 : decode cX8_hands 120 = .ok (.getfield 29, 3) := by decide +kernel
theorem dX8_hands_123 : decode cX8_hands 123 = .ok (.invokevirtual 172, 3) := by decide +kernel
theorem dX8_hands_126 : decode cX8_hands 126 = .ok (.aload 5, 2) := by decide +kernel
theorem dX8_hands_128 : decode cX8_hands 128 = .ok (.iload_n 1, 1) := by decide +kernel
theorem dX8_hands_129 : decode cX8_hands 129 = .ok (.iload_n 3, 1) := by decide +kernel
theorem dX8_hands_130 : decode cX8_hands 130 = .ok (.iload 6, 2) := by decide +kernel
theorem dX8_hands_132 : decode cX8_hands 132 = .ok (.invokevirtual 197, 3) := by decide +kernel
theorem dX8_hands_135 : decode cX8_hands 135 = .ok (.aload 5, 2) := by decide +kernel
theorem dX8_hands_137 : decode cX8_hands 137 = .ok (.iload_n 2, 1) := by decide +kernel
theorem dX8_hands_138 : decode cX8_hands 138 = .ok (.iload_n 3, 1) := by decide +kernel
theorem dX8_hands_139 : decode cX8_hands 139 = .ok (.iload 7, 2) := by decide +kernel
theorem dX8_hands_141 : decode cX8_hands 141 = .ok (.invokevirtual 197, 3) := by decide +kernel
theorem dX8_hands_144 : decode cX8_hands 144 = .ok (.iload 7, 2) := by decide +kernel
theorem dX8_hands_146 : decode cX8_hands 146 = .ok (.ireturn, 1) := by decide +kernel
theorem dX8_strikes_0 : decode cX8_strikes 0 = .ok (.aload_n 0, 1) := by decide +kernel
theorem dX8_strikes_1 : decode cX8_strikes 1 = .ok (.getfield 29, 3) := by decide +kernel
theorem dX8_strikes_4 : decode cX8_strikes 4 = .ok (.getfield 123, 3) := by decide +kernel
theorem dX8_strikes_7 : decode cX8_strikes 7 = .ok (.astore_n 1, 1) := by decide +kernel
theorem dX8_strikes_8 : decode cX8_strikes 8 = .ok (.aload_n 0, 1) := by decide +kernel
theorem dX8_strikes_9 : decode cX8_strikes 9 = .ok (.getfield 49, 3) := by decide +kernel
theorem dX8_strikes_12 : decode cX8_strikes 12 = .ok (.aload_n 1, 1) := by decide +kernel
theorem dX8_strikes_13 : decode cX8_strikes 13 = .ok (.aload_n 0, 1) := by decide +kernel
theorem dX8_strikes_14 : decode cX8_strikes 14 = .ok (.getfield 19, 3) := by decide +kernel
theorem dX8_strikes_17 : decode cX8_strikes 17 = .ok (.getfield 208, 3) := by decide +kernel
theorem dX8_strikes_20 : decode cX8_strikes 20 = .ok (.invokevirtual 211, 3) := by decide +kernel
theorem dX8_strikes_23 : decode cX8_strikes 23 = .ok (.aload_n 0, 1) := by decide +kernel
theorem dX8_strikes_24 : decode cX8_strikes 24 = .ok (.getfield 49, 3) := by decide +kernel
theorem dX8_strikes_27 : decode cX8_strikes 27 = .ok (.getfield 215, 3) := by decide +kernel
theorem dX8_strikes_30 : decode cX8_strikes 30 = .ok (.ifCond .ne 6, 3) := by decide +kernel
theorem dX8_strikes_33 : decode cX8_strikes 33 = .ok (.bipush (-2), 2) := by decide +kernel
theorem dX8_strikes_35 : decode cX8_strikes 35 = .ok (.ireturn, 1) := by decide +kernel
theorem dX8_strikes_36 : decode cX8_strikes 36 = .ok (.aload_n 0, 1) := by decide +kernel
theorem dX8_strikes_37 : decode cX8_strikes 37 = .ok (.getfield 29, 3) := by decide +kernel
theorem dX8_strikes_40 : decode cX8_strikes 40 = .ok (.invokevirtual 172, 3) := by decide +kernel
theorem dX8_strikes_43 : decode cX8_strikes 43 = .ok (.iconst 0, 1) := by decide +kernel
theorem dX8_strikes_44 : decode cX8_strikes 44 = .ok (.istore_n 2, 1) := by decide +kernel
theorem dX8_strikes_45 : decode cX8_strikes 45 = .ok (.iload_n 2, 1) := by decide +kernel
theorem dX8_strikes_46 : decode cX8_strikes 46 = .ok (.aload_n 0, 1) := by decide +kernel
theorem dX8_strikes_47 : decode cX8_strikes 47 = .ok (.getfield 49, 3) := by decide +kernel
theorem dX8_strikes_50 : decode cX8_strikes 50 = .ok (.getfield 215, 3) := by decide +kernel
theorem dX8_strikes_53 : decode cX8_strikes 53 = .ok (.if_icmp .ge 69, 3) := by decide +kernel
theorem dX8_strikes_56 : decode cX8_strikes 56 = .ok (.aload_n 0, 1) := by decide +kernel
theorem dX8_strikes_57 : decode cX8_strikes 57 = .ok (.getfield 49, 3) := by decide +kernel
theorem dX8_strikes_60 : decode cX8_strikes 60 = .ok (.iload_n 2, 1) := by decide +kernel
theorem dX8_strikes_61 : decode cX8_strikes 61 = .ok (.invokevirtual 217, 3) := by decide +kernel
theorem dX8_strikes_64 : decode cX8_strikes 64 = .ok (.istore_n 3, 1) := by decide +kernel
theorem dX8_strikes_65 : decode cX8_strikes 65 = .ok (.aload_n 0, 1) := by decide +kernel
theorem dX8_strikes_66 : decode cX8_strikes 66 = .ok (.getfield 49, 3) := by decide +kernel
theorem dX8_strikes_69 : decode cX8_strikes 69 = .ok (.iload_n 2, 1) := by decide +kernel
theorem dX8_strikes_70 : decode cX8_strikes 70 = .ok (.iconst 1, 1) := by decide +kernel
theorem dX8_strikes_71 : decode cX8_strikes 71 = .ok (.iadd, 1) := by decide +kernel
theorem dX8_strikes_72 : decode cX8_strikes 72 = .ok (.aload_n 0, 1) := by decide +kernel
theorem dX8_strikes_73 : decode cX8_strikes 73 = .ok (.getfield 49, 3) := by decide +kernel
theorem dX8_strikes_76 : decode cX8_strikes 76 = .ok (.getfield 215, 3) := by decide +kernel
theorem dX8_strikes_79 : decode cX8_strikes 79 = .ok (.if_icmp .ge 9, 3) := by decide +kernel
theorem dX8_strikes_82 : decode cX8_strikes 82 = .ok (.iload_n 2, 1) := by decide +kernel
theorem dX8_strikes_83 : decode cX8_strikes 83 = .ok (.iconst 1, 1) := by decide +kernel
theorem dX8_strikes_84 : decode cX8_strikes 84 = .ok (.iadd, 1) := by decide +kernel
theorem dX8_strikes_85 : decode cX8_strikes 85 = .ok (.goto 4, 3) := by decide +kernel
theorem dX8_strikes_88 : decode cX8_strikes 88 = .ok (.iconst 0, 1) := by decide +kernel
theorem dX8_strikes_89 : decode cX8_strikes 89 = .ok (.invokevirtual 217, 3) := by decide +kernel
theorem dX8_strikes_92 : decode cX8_strikes 92 = .ok (.istore 4, 2) := by decide +kernel
theorem dX8_strikes_94 : decode cX8_strikes 94 = .ok (.aload_n 1, 1) := by decide +kernel
theorem dX8_strikes_95 : decode cX8_strikes 95 = .ok (.iload_n 3, 1) := by decide +kernel
theorem dX8_strikes_96 : decode cX8_strikes 96 = .ok (.iload 4, 2) := by decide +kernel
theorem dX8_strikes_98 : decode cX8_strikes 98 = .ok (.aload_n 1, 1) := by decide +kernel
theorem dX8_strikes_99 : decode cX8_strikes 99 = .ok (.iload_n 3, 1) := by decide +kernel
theorem dX8_strikes_100 : decode cX8_strikes 100 = .ok (.iload 4, 2) := by decide +kernel
theorem dX8_strikes_102 : decode cX8_strikes 102 = .ok (.invokevirtual 166, 3) := by decide +kernel
theorem dX8_strikes_105 : decode cX8_strikes 105 = .ok (.aload_n 0, 1) := by decide +kernel
theorem dX8_strikes_106 : decode cX8_strikes 106 = .ok (.getfield 49, 3) := by decide +kernel
theorem dX8_strikes_109 : decode cX8_strikes 109 = .ok (.getfield 220, 3) := by decide +kernel
theorem dX8_strikes_112 : decode cX8_strikes 112 = .ok (.isub, 1) := by decide +kernel
theorem dX8_strikes_113 : decode cX8_strikes 113 = .ok (.invokevirtual 223, 3) := by decide +kernel
theorem dX8_strikes_116 : decode cX8_strikes 116 = .ok (.iinc 2 1, 3) := by decide +kernel
theorem dX8_strikes_119 : decode cX8_strikes 119 = .ok (.goto (-74), 3) := by decide +kernel
theorem dX8_strikes_122 : decode cX8_strikes 122 = .ok (.aload_n 0, 1) := by decide +kernel
theorem dX8_strikes_123 : decode cX8_strikes 123 = .ok (.getfield 49, 3) := by decide +kernel
theorem dX8_strikes_126 : decode cX8_strikes 126 = .ok (.getfield 215, 3) := by decide +kernel
theorem dX8_strikes_129 : decode cX8_strikes 129 = .ok (.aload_n 0, 1) := by decide +kernel
theorem dX8_strikes_130 : decode cX8_strikes 130 = .ok (.getfield 49, 3) := by decide +kernel
theorem dX8_strikes_133 : decode cX8_strikes 133 = .ok (.getfield 220, 3) := by decide +kernel
theorem dX8_strikes_136 : decode cX8_strikes 136 = .ok (.imul, 1) := by decide +kernel
theorem dX8_strikes_137 : decode cX8_strikes 137 = .ok (.ireturn, 1) := by decide +kernel
theorem dX8_undo_0 : decode cX8_undo 0 = .ok (.aload_n 0, 1) := by decide +kernel
theorem dX8_undo_1 : decode cX8_undo 1 = .ok (.getfield 29, 3) := by decide +kernel
theorem dX8_undo_4 : decode cX8_undo 4 = .ok (.invokevirtual 226, 3) := by decide +kernel
theorem dX8_undo_7 : decode cX8_undo 7 = .ok (.ifCond .eq 13, 3) := by decide +kernel
theorem dX8_undo_10 : decode cX8_undo 10 = .ok (.aload_n 0, 1) := by decide +kernel
theorem dX8_undo_11 : decode cX8_undo 11 = .ok (.getfield 29, 3) := by decide +kernel
theorem dX8_undo_14 : decode cX8_undo 14 = .ok (.getfield 230, 3) := by decide +kernel
theorem dX8_undo_17 : decode cX8_undo 17 = .ok (.goto 5, 3) := by decide +kernel
theorem dX8_undo_20 : decode cX8_undo 20 = .ok (.bipush (-2), 2) := by decide +kernel
theorem dX8_undo_22 : decode cX8_undo 22 = .ok (.ireturn, 1) := by decide +kernel
theorem dX8_now_0 : decode cX8_now 0 = .ok (.aload_n 0, 1) := by decide +kernel
theorem dX8_now_1 : decode cX8_now 1 = .ok (.getfield 29, 3) := by decide +kernel
theorem dX8_now_4 : decode cX8_now 4 = .ok (.getfield 123, 3) := by decide +kernel
theorem dX8_now_7 : decode cX8_now 7 = .ok (.astore_n 2, 1) := by decide +kernel
theorem dX8_now_8 : decode cX8_now 8 = .ok (.iload_n 1, 1) := by decide +kernel
theorem dX8_now_9 : decode cX8_now 9 = .ok (.tableswitch 83 0 5 #[39, 44, 49, 54, 59, 75], 39) := by decide +kernel
theorem dX8_now_48 : decode cX8_now 48 = .ok (.aload_n 2, 1) := by decide +kernel
theorem dX8_now_49 : decode cX8_now 49 = .ok (.invokevirtual 233, 3) := by decide +kernel
theorem dX8_now_52 : decode cX8_now 52 = .ok (.ireturn, 1) := by decide +kernel
theorem dX8_now_53 : decode cX8_now 53 = .ok (.aload_n 2, 1) := by decide +kernel
theorem dX8_now_54 : decode cX8_now 54 = .ok (.invokevirtual 236, 3) := by decide +kernel
theorem dX8_now_57 : decode cX8_now 57 = .ok (.ireturn, 1) := by decide +kernel
theorem dX8_now_58 : decode cX8_now 58 = .ok (.aload_n 2, 1) := by decide +kernel
theorem dX8_now_59 : decode cX8_now 59 = .ok (.invokevirtual 239, 3) := by decide +kernel
theorem dX8_now_62 : decode cX8_now 62 = .ok (.ireturn, 1) := by decide +kernel
theorem dX8_now_63 : decode cX8_now 63 = .ok (.aload_n 2, 1) := by decide +kernel
theorem dX8_now_64 : decode cX8_now 64 = .ok (.invokevirtual 242, 3) := by decide +kernel
theorem dX8_now_67 : decode cX8_now 67 = .ok (.ireturn, 1) := by decide +kernel
theorem dX8_now_68 : decode cX8_now 68 = .ok (.aload_n 0, 1) := by decide +kernel
theorem dX8_now_69 : decode cX8_now 69 = .ok (.getfield 63, 3) := by decide +kernel
theorem dX8_now_72 : decode cX8_now 72 = .ok (.aload_n 2, 1) := by decide +kernel
theorem dX8_now_73 : decode cX8_now 73 = .ok (.aload_n 0, 1) := by decide +kernel
theorem dX8_now_74 : decode cX8_now 74 = .ok (.getfield 19, 3) := by decide +kernel
theorem dX8_now_77 : decode cX8_now 77 = .ok (.getfield 208, 3) := by decide +kernel
theorem dX8_now_80 : decode cX8_now 80 = .ok (.invokevirtual 245, 3) := by decide +kernel
theorem dX8_now_83 : decode cX8_now 83 = .ok (.ireturn, 1) := by decide +kernel
theorem dX8_now_84 : decode cX8_now 84 = .ok (.aload_n 0, 1) := by decide +kernel
theorem dX8_now_85 : decode cX8_now 85 = .ok (.getfield 19, 3) := by decide +kernel
theorem dX8_now_88 : decode cX8_now 88 = .ok (.invokevirtual 249, 3) := by decide +kernel
theorem dX8_now_91 : decode cX8_now 91 = .ok (.ireturn, 1) := by decide +kernel
theorem dX8_now_92 : decode cX8_now 92 = .ok (.iconst (-1), 1) := by decide +kernel
theorem dX8_now_93 : decode cX8_now 93 = .ok (.ireturn, 1) := by decide +kernel
theorem dX8_pass_0 : decode cX8_pass 0 = .ok (.aload_n 0, 1) := by decide +kernel
theorem dX8_pass_1 : decode cX8_pass 1 = .ok (.getfield 19, 3) := by decide +kernel
theorem dX8_pass_4 : decode cX8_pass 4 = .ok (.iload_n 1, 1) := by decide +kernel
theorem dX8_pass_5 : decode cX8_pass 5 = .ok (.invokevirtual 120, 3) := by decide +kernel
theorem dX8_pass_8 : decode cX8_pass 8 = .ok (.ifCond .eq 23, 3) := by decide +kernel
theorem dX8_pass_11 : decode cX8_pass 11 = .ok (.aload_n 0, 1) := by decide +kernel
theorem dX8_pass_12 : decode cX8_pass 12 = .ok (.getfield 19, 3) := by decide +kernel
theorem dX8_pass_15 : decode cX8_pass 15 = .ok (.iload_n 2, 1) := by decide +kernel
theorem dX8_pass_16 : decode cX8_pass 16 = .ok (.invokevirtual 146, 3) := by decide +kernel
theorem dX8_pass_19 : decode cX8_pass 19 = .ok (.ifCond .eq 12, 3) := by decide +kernel
theorem dX8_pass_22 : decode cX8_pass 22 = .ok (.iload_n 3, 1) := by decide +kernel
theorem dX8_pass_23 : decode cX8_pass 23 = .ok (.iconst 0, 1) := by decide +kernel
theorem dX8_pass_24 : decode cX8_pass 24 = .ok (.iconst 2, 1) := by decide +kernel
theorem dX8_pass_25 : decode cX8_pass 25 = .ok (.invokestatic 67, 3) := by decide +kernel
theorem dX8_pass_28 : decode cX8_pass 28 = .ok (.ifCond .ne 5, 3) := by decide +kernel
theorem dX8_pass_31 : decode cX8_pass 31 = .ok (.iconst (-1), 1) := by decide +kernel
theorem dX8_pass_32 : decode cX8_pass 32 = .ok (.ireturn, 1) := by decide +kernel
theorem dX8_pass_33 : decode cX8_pass 33 = .ok (.aload_n 0, 1) := by decide +kernel
theorem dX8_pass_34 : decode cX8_pass 34 = .ok (.getfield 29, 3) := by decide +kernel
theorem dX8_pass_37 : decode cX8_pass 37 = .ok (.getfield 123, 3) := by decide +kernel
theorem dX8_pass_40 : decode cX8_pass 40 = .ok (.iload_n 1, 1) := by decide +kernel
theorem dX8_pass_41 : decode cX8_pass 41 = .ok (.invokevirtual 140, 3) := by decide +kernel
theorem dX8_pass_44 : decode cX8_pass 44 = .ok (.ifCond .ne 6, 3) := by decide +kernel
theorem dX8_pass_47 : decode cX8_pass 47 = .ok (.bipush (-2), 2) := by decide +kernel
theorem dX8_pass_49 : decode cX8_pass 49 = .ok (.ireturn, 1) := by decide +kernel
theorem dX8_pass_50 : decode cX8_pass 50 = .ok (.aload_n 0, 1) := by decide +kernel
theorem dX8_pass_51 : decode cX8_pass 51 = .ok (.getfield 56, 3) := by decide +kernel
theorem dX8_pass_54 : decode cX8_pass 54 = .ok (.aload_n 0, 1) := by decide +kernel
theorem dX8_pass_55 : decode cX8_pass 55 = .ok (.getfield 19, 3) := by decide +kernel
theorem dX8_pass_58 : decode cX8_pass 58 = .ok (.aload_n 0, 1) := by decide +kernel
theorem dX8_pass_59 : decode cX8_pass 59 = .ok (.getfield 29, 3) := by decide +kernel
theorem dX8_pass_62 : decode cX8_pass 62 = .ok (.getfield 123, 3) := by decide +kernel
theorem dX8_pass_65 : decode cX8_pass 65 = .ok (.iload_n 1, 1) := by decide +kernel
theorem dX8_pass_66 : decode cX8_pass 66 = .ok (.iload_n 2, 1) := by decide +kernel
theorem dX8_pass_67 : decode cX8_pass 67 = .ok (.invokevirtual 252, 3) := by decide +kernel
theorem dX8_pass_70 : decode cX8_pass 70 = .ok (.iload_n 3, 1) := by decide +kernel
theorem dX8_pass_71 : decode cX8_pass 71 = .ok (.lookupswitch 41 #[(0, 25), (1, 33)], 25) := by decide +kernel
theorem dX8_pass_96 : decode cX8_pass 96 = .ok (.aload_n 0, 1) := by decide +kernel
theorem dX8_pass_97 : decode cX8_pass 97 = .ok (.getfield 56, 3) := by decide +kernel
theorem dX8_pass_100 : decode cX8_pass 100 = .ok (.getfield 255, 3) := by decide +kernel
theorem dX8_pass_103 : decode cX8_pass 103 = .ok (.ireturn, 1) := by decide +kernel
theorem dX8_pass_104 : decode cX8_pass 104 = .ok (.aload_n 0, 1) := by decide +kernel
theorem dX8_pass_105 : decode cX8_pass 105 = .ok (.getfield 56, 3) := by decide +kernel
theorem dX8_pass_108 : decode cX8_pass 108 = .ok (.getfield 258, 3) := by decide +kernel
theorem dX8_pass_111 : decode cX8_pass 111 = .ok (.ireturn, 1) := by decide +kernel
theorem dX8_pass_112 : decode cX8_pass 112 = .ok (.aload_n 0, 1) := by decide +kernel
theorem dX8_pass_113 : decode cX8_pass 113 = .ok (.getfield 56, 3) := by decide +kernel
theorem dX8_pass_116 : decode cX8_pass 116 = .ok (.getfield 261, 3) := by decide +kernel
theorem dX8_pass_119 : decode cX8_pass 119 = .ok (.ireturn, 1) := by decide +kernel
theorem dX8_ring_0 : decode cX8_ring 0 = .ok (.iload_n 1, 1) := by decide +kernel
theorem dX8_ring_1 : decode cX8_ring 1 = .ok (.bipush (-2), 2) := by decide +kernel
theorem dX8_ring_3 : decode cX8_ring 3 = .ok (.iconst 5, 1) := by decide +kernel
theorem dX8_ring_4 : decode cX8_ring 4 = .ok (.invokestatic 67, 3) := by decide +kernel
theorem dX8_ring_7 : decode cX8_ring 7 = .ok (.ifCond .ne 5, 3) := by decide +kernel
theorem dX8_ring_10 : decode cX8_ring 10 = .ok (.iconst (-1), 1) := by decide +kernel
theorem dX8_ring_11 : decode cX8_ring 11 = .ok (.ireturn, 1) := by decide +kernel
theorem dX8_ring_12 : decode cX8_ring 12 = .ok (.aload_n 0, 1) := by decide +kernel
theorem dX8_ring_13 : decode cX8_ring 13 = .ok (.getfield 49, 3) := by decide +kernel
theorem dX8_ring_16 : decode cX8_ring 16 = .ok (.aload_n 0, 1) := by decide +kernel
theorem dX8_ring_17 : decode cX8_ring 17 = .ok (.getfield 29, 3) := by decide +kernel
theorem dX8_ring_20 : decode cX8_ring 20 = .ok (.getfield 123, 3) := by decide +kernel
theorem dX8_ring_23 : decode cX8_ring 23 = .ok (.aload_n 0, 1) := by decide +kernel
theorem dX8_ring_24 : decode cX8_ring 24 = .ok (.getfield 19, 3) := by decide +kernel
theorem dX8_ring_27 : decode cX8_ring 27 = .ok (.getfield 208, 3) := by decide +kernel
theorem dX8_ring_30 : decode cX8_ring 30 = .ok (.invokevirtual 211, 3) := by decide +kernel
theorem dX8_ring_33 : decode cX8_ring 33 = .ok (.aload_n 0, 1) := by decide +kernel
theorem dX8_ring_34 : decode cX8_ring 34 = .ok (.getfield 49, 3) := by decide +kernel
theorem dX8_ring_37 : decode cX8_ring 37 = .ok (.getfield 215, 3) := by decide +kernel
theorem dX8_ring_40 : decode cX8_ring 40 = .ok (.ifCond .ne 6, 3) := by decide +kernel
theorem dX8_ring_43 : decode cX8_ring 43 = .ok (.bipush (-9), 2) := by decide +kernel
theorem dX8_ring_45 : decode cX8_ring 45 = .ok (.ireturn, 1) := by decide +kernel
theorem dX8_ring_46 : decode cX8_ring 46 = .ok (.iload_n 1, 1) := by decide +kernel
theorem dX8_ring_47 : decode cX8_ring 47 = .ok (.lookupswitch 41 #[(-2, 25), (-1, 33)], 25) := by decide +kernel
theorem dX8_ring_72 : decode cX8_ring 72 = .ok (.aload_n 0, 1) := by decide +kernel
theorem dX8_ring_73 : decode cX8_ring 73 = .ok (.getfield 49, 3) := by decide +kernel
theorem dX8_ring_76 : decode cX8_ring 76 = .ok (.getfield 220, 3) := by decide +kernel
theorem dX8_ring_79 : decode cX8_ring 79 = .ok (.ireturn, 1) := by decide +kernel
theorem dX8_ring_80 : decode cX8_ring 80 = .ok (.aload_n 0, 1) := by decide +kernel
theorem dX8_ring_81 : decode cX8_ring 81 = .ok (.getfield 49, 3) := by decide +kernel
theorem dX8_ring_84 : decode cX8_ring 84 = .ok (.getfield 215, 3) := by decide +kernel
theorem dX8_ring_87 : decode cX8_ring 87 = .ok (.ireturn, 1) := by decide +kernel
theorem dX8_ring_88 : decode cX8_ring 88 = .ok (.aload_n 0, 1) := by decide +kernel
theorem dX8_ring_89 : decode cX8_ring 89 = .ok (.getfield 49, 3) := by decide +kernel
theorem dX8_ring_92 : decode cX8_ring 92 = .ok (.iload_n 1, 1) := by decide +kernel
theorem dX8_ring_93 : decode cX8_ring 93 = .ok (.invokevirtual 217, 3) := by decide +kernel
theorem dX8_ring_96 : decode cX8_ring 96 = .ok (.ireturn, 1) := by decide +kernel
theorem dX8_safe_0 : decode cX8_safe 0 = .ok (.aload_n 0, 1) := by decide +kernel
theorem dX8_safe_1 : decode cX8_safe 1 = .ok (.getfield 19, 3) := by decide +kernel
theorem dX8_safe_4 : decode cX8_safe 4 = .ok (.iload_n 1, 1) := by decide +kernel
theorem dX8_safe_5 : decode cX8_safe 5 = .ok (.invokevirtual 120, 3) := by decide +kernel
theorem dX8_safe_8 : decode cX8_safe 8 = .ok (.ifCond .eq 23, 3) := by decide +kernel
theorem dX8_safe_11 : decode cX8_safe 11 = .ok (.iload_n 2, 1) := by decide +kernel
theorem dX8_safe_12 : decode cX8_safe 12 = .ok (.iconst 0, 1) := by decide +kernel
theorem dX8_safe_13 : decode cX8_safe 13 = .ok (.bipush 9, 2) := by decide +kernel
theorem dX8_safe_15 : decode cX8_safe 15 = .ok (.invokestatic 67, 3) := by decide +kernel
theorem dX8_safe_18 : decode cX8_safe 18 = .ok (.ifCond .eq 13, 3) := by decide +kernel
theorem dX8_safe_21 : decode cX8_safe 21 = .ok (.iload_n 3, 1) := by decide +kernel
theorem dX8_safe_22 : decode cX8_safe 22 = .ok (.iconst 0, 1) := by decide +kernel
theorem dX8_safe_23 : decode cX8_safe 23 = .ok (.bipush 9, 2) := by decide +kernel
theorem dX8_safe_25 : decode cX8_safe 25 = .ok (.invokestatic 67, 3) := by decide +kernel
theorem dX8_safe_28 : decode cX8_safe 28 = .ok (.ifCond .ne 5, 3) := by decide +kernel
theorem dX8_safe_31 : decode cX8_safe 31 = .ok (.iconst (-1), 1) := by decide +kernel
theorem dX8_safe_32 : decode cX8_safe 32 = .ok (.ireturn, 1) := by decide +kernel
theorem dX8_safe_33 : decode cX8_safe 33 = .ok (.iload 4, 2) := by decide +kernel
theorem dX8_safe_35 : decode cX8_safe 35 = .ok (.iconst 0, 1) := by decide +kernel
theorem dX8_safe_36 : decode cX8_safe 36 = .ok (.bipush 6, 2) := by decide +kernel
theorem dX8_safe_38 : decode cX8_safe 38 = .ok (.invokestatic 67, 3) := by decide +kernel
theorem dX8_safe_41 : decode cX8_safe 41 = .ok (.ifCond .eq 24, 3) := by decide +kernel
theorem dX8_safe_44 : decode cX8_safe 44 = .ok (.iload 5, 2) := by decide +kernel
theorem dX8_safe_46 : decode cX8_safe 46 = .ok (.iconst 0, 1) := by decide +kernel
theorem dX8_safe_47 : decode cX8_safe 47 = .ok (.bipush 10, 2) := by decide +kernel
theorem dX8_safe_49 : decode cX8_safe 49 = .ok (.invokestatic 67, 3) := by decide +kernel
theorem dX8_safe_52 : decode cX8_safe 52 = .ok (.ifCond .eq 13, 3) := by decide +kernel
theorem dX8_safe_55 : decode cX8_safe 55 = .ok (.iload 6, 2) := by decide +kernel
theorem dX8_safe_57 : decode cX8_safe 57 = .ok (.iconst 0, 1) := by decide +kernel
theorem dX8_safe_58 : decode cX8_safe 58 = .ok (.iconst 1, 1) := by decide +kernel
theorem dX8_safe_59 : decode cX8_safe 59 = .ok (.invokestatic 67, 3) := by decide +kernel
theorem dX8_safe_62 : decode cX8_safe 62 = .ok (.ifCond .ne 5, 3) := by decide +kernel
theorem dX8_safe_65 : decode cX8_safe 65 = .ok (.iconst (-1), 1) := by decide +kernel
theorem dX8_safe_66 : decode cX8_safe 66 = .ok (.ireturn, 1) := by decide +kernel
theorem dX8_safe_67 : decode cX8_safe 67 = .ok (.aload_n 0, 1) := by decide +kernel
theorem dX8_safe_68 : decode cX8_safe 68 = .ok (.getfield 29, 3) := by decide +kernel
theorem dX8_safe_71 : decode cX8_safe 71 = .ok (.getfield 123, 3) := by decide +kernel
theorem dX8_safe_74 : decode cX8_safe 74 = .ok (.iload_n 1, 1) := by decide +kernel
theorem dX8_safe_75 : decode cX8_safe 75 = .ok (.invokevirtual 140, 3) := by decide +kernel
theorem dX8_safe_78 : decode cX8_safe 78 = .ok (.ifCond .ne 6, 3) := by decide +kernel
theorem dX8_safe_81 : decode cX8_safe 81 = .ok (.bipush (-2), 2) := by decide +kernel
theorem dX8_safe_83 : decode cX8_safe 83 = .ok (.ireturn, 1) := by decide +kernel
theorem dX8_safe_84 : decode cX8_safe 84 = .ok (.aload_n 0, 1) := by decide +kernel
theorem dX8_safe_85 : decode cX8_safe 85 = .ok (.getfield 19, 3) := by decide +kernel
theorem dX8_safe_88 : decode cX8_safe 88 = .ok (.iload_n 1, 1) := by decide +kernel
theorem dX8_safe_89 : decode cX8_safe 89 = .ok (.invokevirtual 134, 3) := by decide +kernel
theorem dX8_safe_92 : decode cX8_safe 92 = .ok (.aload_n 0, 1) := by decide +kernel
theorem dX8_safe_93 : decode cX8_safe 93 = .ok (.getfield 29, 3) := by decide +kernel
theorem dX8_safe_96 : decode cX8_safe 96 = .ok (.getfield 123, 3) := by decide +kernel
theorem dX8_safe_99 : decode cX8_safe 99 = .ok (.iload_n 1, 1) := by decide +kernel
theorem dX8_safe_100 : decode cX8_safe 100 = .ok (.invokevirtual 137, 3) := by decide +kernel
theorem dX8_safe_103 : decode cX8_safe 103 = .ok (.isub, 1) := by decide +kernel
theorem dX8_safe_104 : decode cX8_safe 104 = .ok (.istore 7, 2) := by decide +kernel
theorem dX8_safe_106 : decode cX8_safe 106 = .ok (.iload 4, 2) := by decide +kernel
theorem dX8_safe_108 : decode cX8_safe 108 = .ok (.iload 7, 2) := by decide +kernel
theorem dX8_safe_110 : decode cX8_safe 110 = .ok (.iload_n 2, 1) := by decide +kernel
theorem dX8_safe_111 : decode cX8_safe 111 = .ok (.iload_n 3, 1) := by decide +kernel
theorem dX8_safe_112 : decode cX8_safe 112 = .ok (.iload 5, 2) := by decide +kernel
theorem dX8_safe_114 : decode cX8_safe 114 = .ok (.invokestatic 264, 3) := by decide +kernel
theorem dX8_safe_117 : decode cX8_safe 117 = .ok (.istore 8, 2) := by decide +kernel
theorem dX8_safe_119 : decode cX8_safe 119 = .ok (.iconst 1, 1) := by decide +kernel
theorem dX8_safe_120 : decode cX8_safe 120 = .ok (.istore 9, 2) := by decide +kernel
theorem dX8_safe_122 : decode cX8_safe 122 = .ok (.iconst 0, 1) := by decide +kernel
theorem dX8_safe_123 : decode cX8_safe 123 = .ok (.istore 10, 2) := by decide +kernel
theorem dX8_safe_125 : decode cX8_safe 125 = .ok (.iload 10, 2) := by decide +kernel
theorem dX8_safe_127 : decode cX8_safe 127 = .ok (.iload 4, 2) := by decide +kernel
theorem dX8_safe_129 : decode cX8_safe 129 = .ok (.if_icmp .ge 16, 3) := by decide +kernel
theorem dX8_safe_132 : decode cX8_safe 132 = .ok (.iload 9, 2) := by decide +kernel
theorem dX8_safe_134 : decode cX8_safe 134 = .ok (.bipush 10, 2) := by decide +kernel
theorem dX8_safe_136 : decode cX8_safe 136 = .ok (.imul, 1) := by decide +kernel
theorem dX8_safe_137 : decode cX8_safe 137 = .ok (.istore 9, 2) := by decide +kernel
theorem dX8_safe_139 : decode cX8_safe 139 = .ok (.iinc 10 1, 3) := by decide +kernel
theorem dX8_safe_142 : decode cX8_safe 142 = .ok (.goto (-17), 3) := by decide +kernel
theorem dX8_safe_145 : decode cX8_safe 145 = .ok (.iconst 0, 1) := by decide +kernel
theorem dX8_safe_146 : decode cX8_safe 146 = .ok (.istore 10, 2) := by decide +kernel
theorem dX8_safe_148 : decode cX8_safe 148 = .ok (.iload 10, 2) := by decide +kernel
theorem dX8_safe_150 : decode cX8_safe 150 = .ok (.iload 4, 2) := by decide +kernel
theorem dX8_safe_152 : decode cX8_safe 152 = .ok (.if_icmp .ge 47, 3) := by decide +kernel
theorem dX8_safe_155 : decode cX8_safe 155 = .ok (.iload 8, 2) := by decide +kernel
theorem dX8_safe_157 : decode cX8_safe 157 = .ok (.iconst 2, 1) := by decide +kernel
theorem dX8_safe_158 : decode cX8_safe 158 = .ok (.irem, 1) := by decide +kernel
theorem dX8_safe_159 : decode cX8_safe 159 = .ok (.ifCond .ne 15, 3) := by decide +kernel
theorem dX8_safe_162 : decode cX8_safe 162 = .ok (.iload 8, 2) := by decide +kernel
theorem dX8_safe_164 : decode cX8_safe 164 = .ok (.iconst 2, 1) := by decide +kernel
theorem dX8_safe_165 : decode cX8_safe 165 = .ok (.idiv, 1) := by decide +kernel
theorem dX8_safe_166 : decode cX8_safe 166 = .ok (.istore 8, 2) := by decide +kernel
theorem dX8_safe_168 : decode cX8_safe 168 = .ok (.iload 9, 2) := by decide +kernel
theorem dX8_safe_170 : decode cX8_safe 170 = .ok (.iconst 2, 1) := by decide +kernel
theorem dX8_safe_171 : decode cX8_safe 171 = .ok (.idiv, 1) := by decide +kernel
theorem dX8_safe_172 : decode cX8_safe 172 = .ok (.istore 9, 2) := by decide +kernel
theorem dX8_safe_174 : decode cX8_safe 174 = .ok (.iload 8, 2) := by decide +kernel
theorem dX8_safe_176 : decode cX8_safe 176 = .ok (.iconst 5, 1) := by decide +kernel
theorem dX8_safe_177 : decode cX8_safe 177 = .ok (.irem, 1) := by decide +kernel
theorem dX8_safe_178 : decode cX8_safe 178 = .ok (.ifCond .ne 15, 3) := by decide +kernel
theorem dX8_safe_181 : decode cX8_safe 181 = .ok (.iload 8, 2) := by decide +kernel
theorem dX8_safe_183 : decode cX8_safe 183 = .ok (.iconst 5, 1) := by decide +kernel
theorem dX8_safe_184 : decode cX8_safe 184 = .ok (.idiv, 1) := by decide +kernel
theorem dX8_safe_185 : decode cX8_safe 185 = .ok (.istore 8, 2) := by decide +kernel
theorem dX8_safe_187 : decode cX8_safe 187 = .ok (.iload 9, 2) := by decide +kernel
theorem dX8_safe_189 : decode cX8_safe 189 = .ok (.iconst 5, 1) := by decide +kernel
theorem dX8_safe_190 : decode cX8_safe 190 = .ok (.idiv, 1) := by decide +kernel
theorem dX8_safe_191 : decode cX8_safe 191 = .ok (.istore 9, 2) := by decide +kernel
theorem dX8_safe_193 : decode cX8_safe 193 = .ok (.iinc 10 1, 3) := by decide +kernel
theorem dX8_safe_196 : decode cX8_safe 196 = .ok (.goto (-48), 3) := by decide +kernel
theorem dX8_safe_199 : decode cX8_safe 199 = .ok (.iload 6, 2) := by decide +kernel
theorem dX8_safe_201 : decode cX8_safe 201 = .ok (.ifCond .ne 8, 3) := by decide +kernel
theorem dX8_safe_204 : decode cX8_safe 204 = .ok (.iload 8, 2) := by decide +kernel
theorem dX8_safe_206 : decode cX8_safe 206 = .ok (.goto 5, 3) := by decide +kernel
theorem dX8_safe_209 : decode cX8_safe 209 = .ok (.iload 9, 2) := by decide +kernel
theorem dX8_safe_211 : decode cX8_safe 211 = .ok (.ireturn, 1) := by decide +kernel
theorem dX8_hears_0 : decode cX8_hears 0 = .ok (.aload_n 0, 1) := by decide +kernel
theorem dX8_hears_1 : decode cX8_hears 1 = .ok (.getfield 19, 3) := by decide +kernel
theorem dX8_hears_4 : decode cX8_hears 4 = .ok (.iload_n 1, 1) := by decide +kernel
theorem dX8_hears_5 : decode cX8_hears 5 = .ok (.invokevirtual 120, 3) := by decide +kernel
theorem dX8_hears_8 : decode cX8_hears 8 = .ok (.ifCond .eq 14, 3) := by decide +kernel
theorem dX8_hears_11 : decode cX8_hears 11 = .ok (.aload_n 0, 1) := by decide +kernel
theorem dX8_hears_12 : decode cX8_hears 12 = .ok (.getfield 19, 3) := by decide +kernel
theorem dX8_hears_15 : decode cX8_hears 15 = .ok (.iload_n 2, 1) := by decide +kernel
theorem dX8_hears_16 : decode cX8_hears 16 = .ok (.invokevirtual 101, 3) := by decide +kernel
theorem dX8_hears_19 : decode cX8_hears 19 = .ok (.ifCond .ne 5, 3) := by decide +kernel
theorem dX8_hears_22 : decode cX8_hears 22 = .ok (.iconst (-1), 1) := by decide +kernel
theorem dX8_hears_23 : decode cX8_hears 23 = .ok (.ireturn, 1) := by decide +kernel
theorem dX8_hears_24 : decode cX8_hears 24 = .ok (.iload_n 3, 1) := by decide +kernel
theorem dX8_hears_25 : decode cX8_hears 25 = .ok (.iconst 0, 1) := by decide +kernel
theorem dX8_hears_26 : decode cX8_hears 26 = .ok (.bipush 9, 2) := by decide +kernel
theorem dX8_hears_28 : decode cX8_hears 28 = .ok (.invokestatic 67, 3) := by decide +kernel
theorem dX8_hears_31 : decode cX8_hears 31 = .ok (.ifCond .eq 14, 3) := by decide +kernel
theorem dX8_hears_34 : decode cX8_hears 34 = .ok (.iload 4, 2) := by decide +kernel
theorem dX8_hears_36 : decode cX8_hears 36 = .ok (.iconst 0, 1) := by decide +kernel
theorem dX8_hears_37 : decode cX8_hears 37 = .ok (.bipush 9, 2) := by decide +kernel
theorem dX8_hears_39 : decode cX8_hears 39 = .ok (.invokestatic 67, 3) := by decide +kernel
theorem dX8_hears_42 : decode cX8_hears 42 = .ok (.ifCond .ne 5, 3) := by decide +kernel
theorem dX8_hears_45 : decode cX8_hears 45 = .ok (.iconst (-1), 1) := by decide +kernel
theorem dX8_hears_46 : decode cX8_hears 46 = .ok (.ireturn, 1) := by decide +kernel
theorem dX8_hears_47 : decode cX8_hears 47 = .ok (.aload_n 0, 1) := by decide +kernel
theorem dX8_hears_48 : decode cX8_hears 48 = .ok (.getfield 42, 3) := by decide +kernel
theorem dX8_hears_51 : decode cX8_hears 51 = .ok (.iload_n 1, 1) := by decide +kernel
theorem dX8_hears_52 : decode cX8_hears 52 = .ok (.aload_n 0, 1) := by decide +kernel
theorem dX8_hears_53 : decode cX8_hears 53 = .ok (.getfield 19, 3) := by decide +kernel
theorem dX8_hears_56 : decode cX8_hears 56 = .ok (.iload_n 2, 1) := by decide +kernel
theorem dX8_hears_57 : decode cX8_hears 57 = .ok (.invokevirtual 111, 3) := by decide +kernel
theorem dX8_hears_60 : decode cX8_hears 60 = .ok (.iload_n 3, 1) := by decide +kernel
theorem dX8_hears_61 : decode cX8_hears 61 = .ok (.isub, 1) := by decide +kernel
theorem dX8_hears_62 : decode cX8_hears 62 = .ok (.iload 4, 2) := by decide +kernel
theorem dX8_hears_64 : decode cX8_hears 64 = .ok (.isub, 1) := by decide +kernel
theorem dX8_hears_65 : decode cX8_hears 65 = .ok (.invokevirtual 268, 3) := by decide +kernel
theorem dX8_hears_68 : decode cX8_hears 68 = .ok (.ifCond .eq 13, 3) := by decide +kernel
theorem dX8_hears_71 : decode cX8_hears 71 = .ok (.aload_n 0, 1) := by decide +kernel
theorem dX8_hears_72 : decode cX8_hears 72 = .ok (.getfield 42, 3) := by decide +kernel
theorem dX8_hears_75 : decode cX8_hears 75 = .ok (.getfield 270, 3) := by decide +kernel
theorem dX8_hears_78 : decode cX8_hears 78 = .ok (.goto 5, 3) := by decide +kernel
theorem dX8_hears_81 : decode cX8_hears 81 = .ok (.bipush (-3), 2) := by decide +kernel
theorem dX8_hears_83 : decode cX8_hears 83 = .ok (.ireturn, 1) := by decide +kernel
theorem dX8_forget_0 : decode cX8_forget 0 = .ok (.aload_n 0, 1) := by decide +kernel
theorem dX8_forget_1 : decode cX8_forget 1 = .ok (.getfield 42, 3) := by decide +kernel
theorem dX8_forget_4 : decode cX8_forget 4 = .ok (.invokevirtual 94, 3) := by decide +kernel
theorem dX8_forget_7 : decode cX8_forget 7 = .ok (.ireturn, 1) := by decide +kernel
theorem dX8_stones_0 : decode cX8_stones 0 = .ok (.iload_n 1, 1) := by decide +kernel
theorem dX8_stones_1 : decode cX8_stones 1 = .ok (.lookupswitch 43 #[(0, 27), (1, 35)], 27) := by decide +kernel
theorem dX8_stones_28 : decode cX8_stones 28 = .ok (.aload_n 0, 1) := by decide +kernel
theorem dX8_stones_29 : decode cX8_stones 29 = .ok (.getfield 42, 3) := by decide +kernel
theorem dX8_stones_32 : decode cX8_stones 32 = .ok (.invokevirtual 271, 3) := by decide +kernel
theorem dX8_stones_35 : decode cX8_stones 35 = .ok (.ireturn, 1) := by decide +kernel
theorem dX8_stones_36 : decode cX8_stones 36 = .ok (.aload_n 0, 1) := by decide +kernel
theorem dX8_stones_37 : decode cX8_stones 37 = .ok (.getfield 42, 3) := by decide +kernel
theorem dX8_stones_40 : decode cX8_stones 40 = .ok (.invokevirtual 274, 3) := by decide +kernel
theorem dX8_stones_43 : decode cX8_stones 43 = .ok (.ireturn, 1) := by decide +kernel
theorem dX8_stones_44 : decode cX8_stones 44 = .ok (.iconst (-1), 1) := by decide +kernel
theorem dX8_stones_45 : decode cX8_stones 45 = .ok (.ireturn, 1) := by decide +kernel
theorem dX8_mark_0 : decode cX8_mark 0 = .ok (.aload_n 0, 1) := by decide +kernel
theorem dX8_mark_1 : decode cX8_mark 1 = .ok (.getfield 19, 3) := by decide +kernel
theorem dX8_mark_4 : decode cX8_mark 4 = .ok (.iload_n 2, 1) := by decide +kernel
theorem dX8_mark_5 : decode cX8_mark 5 = .ok (.invokevirtual 146, 3) := by decide +kernel
theorem dX8_mark_8 : decode cX8_mark 8 = .ok (.ifCond .ne 6, 3) := by decide +kernel
theorem dX8_mark_11 : decode cX8_mark 11 = .ok (.ldc 149, 2) := by decide +kernel
theorem dX8_mark_13 : decode cX8_mark 13 = .ok (.ireturn, 1) := by decide +kernel
theorem dX8_mark_14 : decode cX8_mark 14 = .ok (.iload_n 1, 1) := by decide +kernel
theorem dX8_mark_15 : decode cX8_mark 15 = .ok (.tableswitch 73 0 5 #[37, 43, 49, 55, 61, 67], 37) := by decide +kernel
theorem dX8_mark_52 : decode cX8_mark 52 = .ok (.aload_n 0, 1) := by decide +kernel
theorem dX8_mark_53 : decode cX8_mark 53 = .ok (.iload_n 2, 1) := by decide +kernel
theorem dX8_mark_54 : decode cX8_mark 54 = .ok (.invokevirtual 277, 3) := by decide +kernel
theorem dX8_mark_57 : decode cX8_mark 57 = .ok (.ireturn, 1) := by decide +kernel
theorem dX8_mark_58 : decode cX8_mark 58 = .ok (.aload_n 0, 1) := by decide +kernel
theorem dX8_mark_59 : decode cX8_mark 59 = .ok (.iload_n 2, 1) := by decide +kernel
theorem dX8_mark_60 : decode cX8_mark 60 = .ok (.invokevirtual 280, 3) := by decide +kernel
theorem dX8_mark_63 : decode cX8_mark 63 = .ok (.ireturn, 1) := by decide +kernel
theorem dX8_mark_64 : decode cX8_mark 64 = .ok (.aload_n 0, 1) := by decide +kernel
theorem dX8_mark_65 : decode cX8_mark 65 = .ok (.iload_n 2, 1) := by decide +kernel
theorem dX8_mark_66 : decode cX8_mark 66 = .ok (.invokevirtual 283, 3) := by decide +kernel
theorem dX8_mark_69 : decode cX8_mark 69 = .ok (.ireturn, 1) := by decide +kernel
theorem dX8_mark_70 : decode cX8_mark 70 = .ok (.aload_n 0, 1) := by decide +kernel
theorem dX8_mark_71 : decode cX8_mark 71 = .ok (.iload_n 2, 1) := by decide +kernel
theorem dX8_mark_72 : decode cX8_mark 72 = .ok (.invokevirtual 286, 3) := by decide +kernel
theorem dX8_mark_75 : decode cX8_mark 75 = .ok (.ireturn, 1) := by decide +kernel
theorem dX8_mark_76 : decode cX8_mark 76 = .ok (.aload_n 0, 1) := by decide +kernel
theorem dX8_mark_77 : decode cX8_mark 77 = .ok (.iload_n 2, 1) := by decide +kernel
theorem dX8_mark_78 : decode cX8_mark 78 = .ok (.invokevirtual 289, 3) := by decide +kernel
theorem dX8_mark_81 : decode cX8_mark 81 = .ok (.ireturn, 1) := by decide +kernel
theorem dX8_mark_82 : decode cX8_mark 82 = .ok (.aload_n 0, 1) := by decide +kernel
theorem dX8_mark_83 : decode cX8_mark 83 = .ok (.iload_n 2, 1) := by decide +kernel
theorem dX8_mark_84 : decode cX8_mark 84 = .ok (.invokevirtual 292, 3) := by decide +kernel
theorem dX8_mark_87 : decode cX8_mark 87 = .ok (.ireturn, 1) := by decide +kernel
theorem dX8_mark_88 : decode cX8_mark 88 = .ok (.ldc 149, 2) := by decide +kernel
theorem dX8_mark_90 : decode cX8_mark 90 = .ok (.ireturn, 1) := by decide +kernel
theorem dX8_keep_0 : decode cX8_keep 0 = .ok (.iload_n 1, 1) := by decide +kernel
theorem dX8_keep_1 : decode cX8_keep 1 = .ok (.iconst 0, 1) := by decide +kernel
theorem dX8_keep_2 : decode cX8_keep 2 = .ok (.iconst 1, 1) := by decide +kernel
theorem dX8_keep_3 : decode cX8_keep 3 = .ok (.invokestatic 67, 3) := by decide +kernel
theorem dX8_keep_6 : decode cX8_keep 6 = .ok (.ifCond .ne 5, 3) := by decide +kernel
theorem dX8_keep_9 : decode cX8_keep 9 = .ok (.iconst (-1), 1) := by decide +kernel
theorem dX8_keep_10 : decode cX8_keep 10 = .ok (.ireturn, 1) := by decide +kernel
theorem dX8_keep_11 : decode cX8_keep 11 = .ok (.aload_n 0, 1) := by decide +kernel
theorem dX8_keep_12 : decode cX8_keep 12 = .ok (.iload_n 1, 1) := by decide +kernel
theorem dX8_keep_13 : decode cX8_keep 13 = .ok (.invokevirtual 295, 3) := by decide +kernel
theorem dX8_keep_16 : decode cX8_keep 16 = .ok (.aload_n 0, 1) := by decide +kernel
theorem dX8_keep_17 : decode cX8_keep 17 = .ok (.getfield 29, 3) := by decide +kernel
theorem dX8_keep_20 : decode cX8_keep 20 = .ok (.invokevirtual 299, 3) := by decide +kernel
theorem dX8_keep_23 : decode cX8_keep 23 = .ok (.aload_n 0, 1) := by decide +kernel
theorem dX8_keep_24 : decode cX8_keep 24 = .ok (.dup, 1) := by decide +kernel
theorem dX8_keep_25 : decode cX8_keep 25 = .ok (.getfield 97, 3) := by decide +kernel
theorem dX8_keep_28 : decode cX8_keep 28 = .ok (.iconst 1, 1) := by decide +kernel
theorem dX8_keep_29 : decode cX8_keep 29 = .ok (.iload_n 1, 1) := by decide +kernel
theorem dX8_keep_30 : decode cX8_keep 30 = .ok (.ishl, 1) := by decide +kernel
theorem dX8_keep_31 : decode cX8_keep 31 = .ok (.ior, 1) := by decide +kernel
theorem dX8_keep_32 : decode cX8_keep 32 = .ok (.putfield 97, 3) := by decide +kernel
theorem dX8_keep_35 : decode cX8_keep 35 = .ok (.aload_n 0, 1) := by decide +kernel
theorem dX8_keep_36 : decode cX8_keep 36 = .ok (.getfield 29, 3) := by decide +kernel
theorem dX8_keep_39 : decode cX8_keep 39 = .ok (.getfield 123, 3) := by decide +kernel
theorem dX8_keep_42 : decode cX8_keep 42 = .ok (.invokevirtual 233, 3) := by decide +kernel
theorem dX8_keep_45 : decode cX8_keep 45 = .ok (.ireturn, 1) := by decide +kernel
theorem dX8_back_0 : decode cX8_back 0 = .ok (.iload_n 1, 1) := by decide +kernel
theorem dX8_back_1 : decode cX8_back 1 = .ok (.iconst 0, 1) := by decide +kernel
theorem dX8_back_2 : decode cX8_back 2 = .ok (.iconst 1, 1) := by decide +kernel
theorem dX8_back_3 : decode cX8_back 3 = .ok (.invokestatic 67, 3) := by decide +kernel
theorem dX8_back_6 : decode cX8_back 6 = .ok (.ifCond .ne 5, 3) := by decide +kernel
theorem dX8_back_9 : decode cX8_back 9 = .ok (.iconst (-1), 1) := by decide +kernel
theorem dX8_back_10 : decode cX8_back 10 = .ok (.ireturn, 1) := by decide +kernel
theorem dX8_back_11 : decode cX8_back 11 = .ok (.aload_n 0, 1) := by decide +kernel
theorem dX8_back_12 : decode cX8_back 12 = .ok (.getfield 97, 3) := by decide +kernel
theorem dX8_back_15 : decode cX8_back 15 = .ok (.iload_n 1, 1) := by decide +kernel
theorem dX8_back_16 : decode cX8_back 16 = .ok (.invokestatic 303, 3) := by decide +kernel
theorem dX8_back_19 : decode cX8_back 19 = .ok (.ifCond .ne 6, 3) := by decide +kernel
theorem dX8_back_22 : decode cX8_back 22 = .ok (.bipush (-2), 2) := by decide +kernel
theorem dX8_back_24 : decode cX8_back 24 = .ok (.ireturn, 1) := by decide +kernel
theorem dX8_back_25 : decode cX8_back 25 = .ok (.aload_n 0, 1) := by decide +kernel
theorem dX8_back_26 : decode cX8_back 26 = .ok (.getfield 29, 3) := by decide +kernel
theorem dX8_back_29 : decode cX8_back 29 = .ok (.aload_n 0, 1) := by decide +kernel
theorem dX8_back_30 : decode cX8_back 30 = .ok (.iload_n 1, 1) := by decide +kernel
theorem dX8_back_31 : decode cX8_back 31 = .ok (.invokevirtual 295, 3) := by decide +kernel
theorem dX8_back_34 : decode cX8_back 34 = .ok (.invokevirtual 299, 3) := by decide +kernel
theorem dX8_back_37 : decode cX8_back 37 = .ok (.aload_n 0, 1) := by decide +kernel
theorem dX8_back_38 : decode cX8_back 38 = .ok (.getfield 29, 3) := by decide +kernel
theorem dX8_back_41 : decode cX8_back 41 = .ok (.getfield 123, 3) := by decide +kernel
theorem dX8_back_44 : decode cX8_back 44 = .ok (.invokevirtual 233, 3) := by decide +kernel
theorem dX8_back_47 : decode cX8_back 47 = .ok (.ireturn, 1) := by decide +kernel
theorem dX8_count_0 : decode cX8_count 0 = .ok (.iload_n 1, 1) := by decide +kernel
theorem dX8_count_1 : decode cX8_count 1 = .ok (.tableswitch 87 0 5 #[39, 47, 55, 63, 71, 79], 39) := by decide +kernel
theorem dX8_count_40 : decode cX8_count 40 = .ok (.aload_n 0, 1) := by decide +kernel
theorem dX8_count_41 : decode cX8_count 41 = .ok (.getfield 19, 3) := by decide +kernel
theorem dX8_count_44 : decode cX8_count 44 = .ok (.getfield 208, 3) := by decide +kernel
theorem dX8_count_47 : decode cX8_count 47 = .ok (.ireturn, 1) := by decide +kernel
theorem dX8_count_48 : decode cX8_count 48 = .ok (.aload_n 0, 1) := by decide +kernel
theorem dX8_count_49 : decode cX8_count 49 = .ok (.getfield 19, 3) := by decide +kernel
theorem dX8_count_52 : decode cX8_count 52 = .ok (.getfield 306, 3) := by decide +kernel
theorem dX8_count_55 : decode cX8_count 55 = .ok (.ireturn, 1) := by decide +kernel
theorem dX8_count_56 : decode cX8_count 56 = .ok (.aload_n 0, 1) := by decide +kernel
theorem dX8_count_57 : decode cX8_count 57 = .ok (.getfield 19, 3) := by decide +kernel
theorem dX8_count_60 : decode cX8_count 60 = .ok (.getfield 309, 3) := by decide +kernel
theorem dX8_count_63 : decode cX8_count 63 = .ok (.ireturn, 1) := by decide +kernel
theorem dX8_count_64 : decode cX8_count 64 = .ok (.aload_n 0, 1) := by decide +kernel
theorem dX8_count_65 : decode cX8_count 65 = .ok (.getfield 42, 3) := by decide +kernel
theorem dX8_count_68 : decode cX8_count 68 = .ok (.getfield 270, 3) := by decide +kernel
theorem dX8_count_71 : decode cX8_count 71 = .ok (.ireturn, 1) := by decide +kernel
theorem dX8_count_72 : decode cX8_count 72 = .ok (.aload_n 0, 1) := by decide +kernel
theorem dX8_count_73 : decode cX8_count 73 = .ok (.getfield 29, 3) := by decide +kernel
theorem dX8_count_76 : decode cX8_count 76 = .ok (.getfield 230, 3) := by decide +kernel
theorem dX8_count_79 : decode cX8_count 79 = .ok (.ireturn, 1) := by decide +kernel
theorem dX8_count_80 : decode cX8_count 80 = .ok (.aload_n 0, 1) := by decide +kernel
theorem dX8_count_81 : decode cX8_count 81 = .ok (.getfield 10, 3) := by decide +kernel
theorem dX8_count_84 : decode cX8_count 84 = .ok (.invokevirtual 75, 3) := by decide +kernel
theorem dX8_count_87 : decode cX8_count 87 = .ok (.ireturn, 1) := by decide +kernel
theorem dX8_count_88 : decode cX8_count 88 = .ok (.iconst (-1), 1) := by decide +kernel
theorem dX8_count_89 : decode cX8_count 89 = .ok (.ireturn, 1) := by decide +kernel
theorem dX8_trace_0 : decode cX8_trace 0 = .ok (.aload_n 0, 1) := by decide +kernel
theorem dX8_trace_1 : decode cX8_trace 1 = .ok (.getfield 312, 3) := by decide +kernel
theorem dX8_trace_4 : decode cX8_trace 4 = .ok (.lreturn, 1) := by decide +kernel
theorem dX8_within_0 : decode cX8_within 0 = .ok (.iload_n 1, 1) := by decide +kernel
theorem dX8_within_1 : decode cX8_within 1 = .ok (.iload_n 0, 1) := by decide +kernel
theorem dX8_within_2 : decode cX8_within 2 = .ok (.if_icmp .gt 12, 3) := by decide +kernel
theorem dX8_within_5 : decode cX8_within 5 = .ok (.iload_n 0, 1) := by decide +kernel
theorem dX8_within_6 : decode cX8_within 6 = .ok (.iload_n 2, 1) := by decide +kernel
theorem dX8_within_7 : decode cX8_within 7 = .ok (.if_icmp .gt 7, 3) := by decide +kernel
theorem dX8_within_10 : decode cX8_within 10 = .ok (.iconst 1, 1) := by decide +kernel
theorem dX8_within_11 : decode cX8_within 11 = .ok (.goto 4, 3) := by decide +kernel
theorem dX8_within_14 : decode cX8_within 14 = .ok (.iconst 0, 1) := by decide +kernel
theorem dX8_within_15 : decode cX8_within 15 = .ok (.ireturn, 1) := by decide +kernel
theorem dX8_hasBit_0 : decode cX8_hasBit 0 = .ok (.iload_n 0, 1) := by decide +kernel
theorem dX8_hasBit_1 : decode cX8_hasBit 1 = .ok (.iload_n 1, 1) := by decide +kernel
theorem dX8_hasBit_2 : decode cX8_hasBit 2 = .ok (.ishr, 1) := by decide +kernel
theorem dX8_hasBit_3 : decode cX8_hasBit 3 = .ok (.iconst 1, 1) := by decide +kernel
theorem dX8_hasBit_4 : decode cX8_hasBit 4 = .ok (.iand, 1) := by decide +kernel
theorem dX8_hasBit_5 : decode cX8_hasBit 5 = .ok (.iconst 1, 1) := by decide +kernel
theorem dX8_hasBit_6 : decode cX8_hasBit 6 = .ok (.if_icmp .ne 7, 3) := by decide +kernel
theorem dX8_hasBit_9 : decode cX8_hasBit 9 = .ok (.iconst 1, 1) := by decide +kernel
theorem dX8_hasBit_10 : decode cX8_hasBit 10 = .ok (.goto 4, 3) := by decide +kernel
theorem dX8_hasBit_13 : decode cX8_hasBit 13 = .ok (.iconst 0, 1) := by decide +kernel
theorem dX8_hasBit_14 : decode cX8_hasBit 14 = .ok (.ireturn, 1) := by decide +kernel
theorem dX8_canBorrow_0 : decode cX8_canBorrow 0 = .ok (.aload_n 0, 1) := by decide +kernel
theorem dX8_canBorrow_1 : decode cX8_canBorrow 1 = .ok (.getfield 29, 3) := by decide +kernel
theorem dX8_canBorrow_4 : decode cX8_canBorrow 4 = .ok (.getfield 123, 3) := by decide +kernel
theorem dX8_canBorrow_7 : decode cX8_canBorrow 7 = .ok (.astore_n 3, 1) := by decide +kernel
theorem dX8_canBorrow_8 : decode cX8_canBorrow 8 = .ok (.aload_n 3, 1) := by decide +kernel
theorem dX8_canBorrow_9 : decode cX8_canBorrow 9 = .ok (.iload_n 1, 1) := by decide +kernel
theorem dX8_canBorrow_10 : decode cX8_canBorrow 10 = .ok (.invokevirtual 140, 3) := by decide +kernel
theorem dX8_canBorrow_13 : decode cX8_canBorrow 13 = .ok (.ifCond .eq 24, 3) := by decide +kernel
theorem dX8_canBorrow_16 : decode cX8_canBorrow 16 = .ok (.aload_n 3, 1) := by decide +kernel
theorem dX8_canBorrow_17 : decode cX8_canBorrow 17 = .ok (.iload_n 1, 1) := by decide +kernel
theorem dX8_canBorrow_18 : decode cX8_canBorrow 18 = .ok (.aload_n 3, 1) := by decide +kernel
theorem dX8_canBorrow_19 : decode cX8_canBorrow 19 = .ok (.iload_n 1, 1) := by decide +kernel
theorem dX8_canBorrow_20 : decode cX8_canBorrow 20 = .ok (.invokevirtual 126, 3) := by decide +kernel
theorem dX8_canBorrow_23 : decode cX8_canBorrow 23 = .ok (.invokevirtual 162, 3) := by decide +kernel
theorem dX8_canBorrow_26 : decode cX8_canBorrow 26 = .ok (.iload_n 2, 1) := by decide +kernel
theorem dX8_canBorrow_27 : decode cX8_canBorrow 27 = .ok (.iadd, 1) := by decide +kernel
theorem dX8_canBorrow_28 : decode cX8_canBorrow 28 = .ok (.bipush 99, 2) := by decide +kernel
theorem dX8_canBorrow_30 : decode cX8_canBorrow 30 = .ok (.if_icmp .gt 7, 3) := by decide +kernel
theorem dX8_canBorrow_33 : decode cX8_canBorrow 33 = .ok (.iconst 1, 1) := by decide +kernel
theorem dX8_canBorrow_34 : decode cX8_canBorrow 34 = .ok (.goto 4, 3) := by decide +kernel
theorem dX8_canBorrow_37 : decode cX8_canBorrow 37 = .ok (.iconst 0, 1) := by decide +kernel
theorem dX8_canBorrow_38 : decode cX8_canBorrow 38 = .ok (.ireturn, 1) := by decide +kernel
theorem dX8_borrow_0 : decode cX8_borrow 0 = .ok (.aload_n 0, 1) := by decide +kernel
theorem dX8_borrow_1 : decode cX8_borrow 1 = .ok (.getfield 29, 3) := by decide +kernel
theorem dX8_borrow_4 : decode cX8_borrow 4 = .ok (.getfield 123, 3) := by decide +kernel
theorem dX8_borrow_7 : decode cX8_borrow 7 = .ok (.astore_n 3, 1) := by decide +kernel
theorem dX8_borrow_8 : decode cX8_borrow 8 = .ok (.aload_n 3, 1) := by decide +kernel
theorem dX8_borrow_9 : decode cX8_borrow 9 = .ok (.iload_n 1, 1) := by decide +kernel
theorem dX8_borrow_10 : decode cX8_borrow 10 = .ok (.invokevirtual 126, 3) := by decide +kernel
theorem dX8_borrow_13 : decode cX8_borrow 13 = .ok (.istore 4, 2) := by decide +kernel
theorem dX8_borrow_15 : decode cX8_borrow 15 = .ok (.aload_n 3, 1) := by decide +kernel
theorem dX8_borrow_16 : decode cX8_borrow 16 = .ok (.iload_n 1, 1) := by decide +kernel
theorem dX8_borrow_17 : decode cX8_borrow 17 = .ok (.iload 4, 2) := by decide +kernel
theorem dX8_borrow_19 : decode cX8_borrow 19 = .ok (.invokevirtual 162, 3) := by decide +kernel
theorem dX8_borrow_22 : decode cX8_borrow 22 = .ok (.iload_n 2, 1) := by decide +kernel
theorem dX8_borrow_23 : decode cX8_borrow 23 = .ok (.iadd, 1) := by decide +kernel
theorem dX8_borrow_24 : decode cX8_borrow 24 = .ok (.istore 5, 2) := by decide +kernel
theorem dX8_borrow_26 : decode cX8_borrow 26 = .ok (.aload_n 3, 1) := by decide +kernel
theorem dX8_borrow_27 : decode cX8_borrow 27 = .ok (.iload_n 1, 1) := by decide +kernel
theorem dX8_borrow_28 : decode cX8_borrow 28 = .ok (.iload 4, 2) := by decide +kernel
theorem dX8_borrow_30 : decode cX8_borrow 30 = .ok (.iload 5, 2) := by decide +kernel
theorem dX8_borrow_32 : decode cX8_borrow 32 = .ok (.invokevirtual 197, 3) := by decide +kernel
theorem dX8_borrow_35 : decode cX8_borrow 35 = .ok (.iload 5, 2) := by decide +kernel
theorem dX8_borrow_37 : decode cX8_borrow 37 = .ok (.ireturn, 1) := by decide +kernel
theorem dX8_chancesAlive_0 : decode cX8_chancesAlive 0 = .ok (.iload_n 1, 1) := by decide +kernel
theorem dX8_chancesAlive_1 : decode cX8_chancesAlive 1 = .ok (.ifCond .ge 5, 3) := by decide +kernel
theorem dX8_chancesAlive_4 : decode cX8_chancesAlive 4 = .ok (.iconst 0, 1) := by decide +kernel
theorem dX8_chancesAlive_5 : decode cX8_chancesAlive 5 = .ok (.ireturn, 1) := by decide +kernel
theorem dX8_chancesAlive_6 : decode cX8_chancesAlive 6 = .ok (.iload_n 0, 1) := by decide +kernel
theorem dX8_chancesAlive_7 : decode cX8_chancesAlive 7 = .ok (.ifCond .gt 5, 3) := by decide +kernel
theorem dX8_chancesAlive_10 : decode cX8_chancesAlive 10 = .ok (.iconst 1, 1) := by decide +kernel
theorem dX8_chancesAlive_11 : decode cX8_chancesAlive 11 = .ok (.ireturn, 1) := by decide +kernel
theorem dX8_chancesAlive_12 : decode cX8_chancesAlive 12 = .ok (.iload 4, 2) := by decide +kernel
theorem dX8_chancesAlive_14 : decode cX8_chancesAlive 14 = .ok (.iload_n 0, 1) := by decide +kernel
theorem dX8_chancesAlive_15 : decode cX8_chancesAlive 15 = .ok (.iconst 1, 1) := by decide +kernel
theorem dX8_chancesAlive_16 : decode cX8_chancesAlive 16 = .ok (.isub, 1) := by decide +kernel
theorem dX8_chancesAlive_17 : decode cX8_chancesAlive 17 = .ok (.iload_n 1, 1) := by decide +kernel
theorem dX8_chancesAlive_18 : decode cX8_chancesAlive 18 = .ok (.iload_n 2, 1) := by decide +kernel
theorem dX8_chancesAlive_19 : decode cX8_chancesAlive 19 = .ok (.isub, 1) := by decide +kernel
theorem dX8_chancesAlive_20 : decode cX8_chancesAlive 20 = .ok (.iload_n 3, 1) := by decide +kernel
theorem dX8_chancesAlive_21 : decode cX8_chancesAlive 21 = .ok (.isub, 1) := by decide +kernel
theorem dX8_chancesAlive_22 : decode cX8_chancesAlive 22 = .ok (.iload_n 2, 1) := by decide +kernel
theorem dX8_chancesAlive_23 : decode cX8_chancesAlive 23 = .ok (.iload_n 3, 1) := by decide +kernel
theorem dX8_chancesAlive_24 : decode cX8_chancesAlive 24 = .ok (.iload 4, 2) := by decide +kernel
theorem dX8_chancesAlive_26 : decode cX8_chancesAlive 26 = .ok (.invokestatic 264, 3) := by decide +kernel
theorem dX8_chancesAlive_29 : decode cX8_chancesAlive 29 = .ok (.imul, 1) := by decide +kernel
theorem dX8_chancesAlive_30 : decode cX8_chancesAlive 30 = .ok (.bipush 10, 2) := by decide +kernel
theorem dX8_chancesAlive_32 : decode cX8_chancesAlive 32 = .ok (.iload 4, 2) := by decide +kernel
theorem dX8_chancesAlive_34 : decode cX8_chancesAlive 34 = .ok (.isub, 1) := by decide +kernel
theorem dX8_chancesAlive_35 : decode cX8_chancesAlive 35 = .ok (.iload_n 0, 1) := by decide +kernel
theorem dX8_chancesAlive_36 : decode cX8_chancesAlive 36 = .ok (.iconst 1, 1) := by decide +kernel
theorem dX8_chancesAlive_37 : decode cX8_chancesAlive 37 = .ok (.isub, 1) := by decide +kernel
theorem dX8_chancesAlive_38 : decode cX8_chancesAlive 38 = .ok (.iload_n 1, 1) := by decide +kernel
theorem dX8_chancesAlive_39 : decode cX8_chancesAlive 39 = .ok (.iload_n 2, 1) := by decide +kernel
theorem dX8_chancesAlive_40 : decode cX8_chancesAlive 40 = .ok (.isub, 1) := by decide +kernel
theorem dX8_chancesAlive_41 : decode cX8_chancesAlive 41 = .ok (.iload_n 2, 1) := by decide +kernel
theorem dX8_chancesAlive_42 : decode cX8_chancesAlive 42 = .ok (.iload_n 3, 1) := by decide +kernel
theorem dX8_chancesAlive_43 : decode cX8_chancesAlive 43 = .ok (.iload 4, 2) := by decide +kernel
theorem dX8_chancesAlive_45 : decode cX8_chancesAlive 45 = .ok (.invokestatic 264, 3) := by decide +kernel
theorem dX8_chancesAlive_48 : decode cX8_chancesAlive 48 = .ok (.imul, 1) := by decide +kernel
theorem dX8_chancesAlive_49 : decode cX8_chancesAlive 49 = .ok (.iadd, 1) := by decide +kernel
theorem dX8_chancesAlive_50 : decode cX8_chancesAlive 50 = .ok (.ireturn, 1) := by decide +kernel
theorem dX8_markAsWell_0 : decode cX8_markAsWell 0 = .ok (.aload_n 0, 1) := by decide +kernel
theorem dX8_markAsWell_1 : decode cX8_markAsWell 1 = .ok (.dup, 1) := by decide +kernel
theorem dX8_markAsWell_2 : decode cX8_markAsWell 2 = .ok (.getfield 312, 3) := by decide +kernel
theorem dX8_markAsWell_5 : decode cX8_markAsWell 5 = .ok (.lconst 1, 1) := by decide +kernel
theorem dX8_markAsWell_6 : decode cX8_markAsWell 6 = .ok (.ladd, 1) := by decide +kernel
theorem dX8_markAsWell_7 : decode cX8_markAsWell 7 = .ok (.putfield 312, 3) := by decide +kernel
theorem dX8_markAsWell_10 : decode cX8_markAsWell 10 = .ok (.aload_n 0, 1) := by decide +kernel
theorem dX8_markAsWell_11 : decode cX8_markAsWell 11 = .ok (.getfield 29, 3) := by decide +kernel
theorem dX8_markAsWell_14 : decode cX8_markAsWell 14 = .ok (.getfield 123, 3) := by decide +kernel
theorem dX8_markAsWell_17 : decode cX8_markAsWell 17 = .ok (.iload_n 1, 1) := by decide +kernel
theorem dX8_markAsWell_18 : decode cX8_markAsWell 18 = .ok (.invokevirtual 153, 3) := by decide +kernel
theorem dX8_markAsWell_21 : decode cX8_markAsWell 21 = .ok (.ireturn, 1) := by decide +kernel
theorem dX8_markAsKnot_0 : decode cX8_markAsKnot 0 = .ok (.aload_n 0, 1) := by decide +kernel
theorem dX8_markAsKnot_1 : decode cX8_markAsKnot 1 = .ok (.dup, 1) := by decide +kernel
theorem dX8_markAsKnot_2 : decode cX8_markAsKnot 2 = .ok (.getfield 312, 3) := by decide +kernel
theorem dX8_markAsKnot_5 : decode cX8_markAsKnot 5 = .ok (.ldc2_w 316, 3) := by decide +kernel
theorem dX8_markAsKnot_8 : decode cX8_markAsKnot 8 = .ok (.ladd, 1) := by decide +kernel
theorem dX8_markAsKnot_9 : decode cX8_markAsKnot 9 = .ok (.putfield 312, 3) := by decide +kernel
theorem dX8_markAsKnot_12 : decode cX8_markAsKnot 12 = .ok (.aload_n 0, 1) := by decide +kernel
theorem dX8_markAsKnot_13 : decode cX8_markAsKnot 13 = .ok (.iload_n 1, 1) := by decide +kernel
theorem dX8_markAsKnot_14 : decode cX8_markAsKnot 14 = .ok (.invokevirtual 277, 3) := by decide +kernel
theorem dX8_markAsKnot_17 : decode cX8_markAsKnot 17 = .ok (.aload_n 0, 1) := by decide +kernel
theorem dX8_markAsKnot_18 : decode cX8_markAsKnot 18 = .ok (.getfield 19, 3) := by decide +kernel
theorem dX8_markAsKnot_21 : decode cX8_markAsKnot 21 = .ok (.iload_n 1, 1) := by decide +kernel
theorem dX8_markAsKnot_22 : decode cX8_markAsKnot 22 = .ok (.invokevirtual 318, 3) := by decide +kernel
theorem dX8_markAsKnot_25 : decode cX8_markAsKnot 25 = .ok (.iadd, 1) := by decide +kernel
theorem dX8_markAsKnot_26 : decode cX8_markAsKnot 26 = .ok (.ireturn, 1) := by decide +kernel
theorem dX8_markAsDew_0 : decode cX8_markAsDew 0 = .ok (.aload_n 0, 1) := by decide +kernel
theorem dX8_markAsDew_1 : decode cX8_markAsDew 1 = .ok (.dup, 1) := by decide +kernel
theorem dX8_markAsDew_2 : decode cX8_markAsDew 2 = .ok (.getfield 312, 3) := by decide +kernel
theorem dX8_markAsDew_5 : decode cX8_markAsDew 5 = .ok (.ldc2_w 321, 3) := by decide +kernel
theorem dX8_markAsDew_8 : decode cX8_markAsDew 8 = .ok (.ladd, 1) := by decide +kernel
theorem dX8_markAsDew_9 : decode cX8_markAsDew 9 = .ok (.putfield 312, 3) := by decide +kernel
theorem dX8_markAsDew_12 : decode cX8_markAsDew 12 = .ok (.aload_n 0, 1) := by decide +kernel
theorem dX8_markAsDew_13 : decode cX8_markAsDew 13 = .ok (.iload_n 1, 1) := by decide +kernel
theorem dX8_markAsDew_14 : decode cX8_markAsDew 14 = .ok (.invokevirtual 277, 3) := by decide +kernel
theorem dX8_markAsDew_17 : decode cX8_markAsDew 17 = .ok (.aload_n 0, 1) := by decide +kernel
theorem dX8_markAsDew_18 : decode cX8_markAsDew 18 = .ok (.getfield 29, 3) := by decide +kernel
theorem dX8_markAsDew_21 : decode cX8_markAsDew 21 = .ok (.getfield 123, 3) := by decide +kernel
theorem dX8_markAsDew_24 : decode cX8_markAsDew 24 = .ok (.iload_n 1, 1) := by decide +kernel
theorem dX8_markAsDew_25 : decode cX8_markAsDew 25 = .ok (.invokevirtual 156, 3) := by decide +kernel
theorem dX8_markAsDew_28 : decode cX8_markAsDew 28 = .ok (.isub, 1) := by decide +kernel
theorem dX8_markAsDew_29 : decode cX8_markAsDew 29 = .ok (.ireturn, 1) := by decide +kernel
theorem dX8_markAsChild_0 : decode cX8_markAsChild 0 = .ok (.aload_n 0, 1) := by decide +kernel
theorem dX8_markAsChild_1 : decode cX8_markAsChild 1 = .ok (.dup, 1) := by decide +kernel
theorem dX8_markAsChild_2 : decode cX8_markAsChild 2 = .ok (.getfield 312, 3) := by decide +kernel
theorem dX8_markAsChild_5 : decode cX8_markAsChild 5 = .ok (.ldc2_w 323, 3) := by decide +kernel
theorem dX8_markAsChild_8 : decode cX8_markAsChild 8 = .ok (.ladd, 1) := by decide +kernel
theorem dX8_markAsChild_9 : decode cX8_markAsChild 9 = .ok (.putfield 312, 3) := by decide +kernel
theorem dX8_markAsChild_12 : decode cX8_markAsChild 12 = .ok (.aload_n 0, 1) := by decide +kernel
theorem dX8_markAsChild_13 : decode cX8_markAsChild 13 = .ok (.iload_n 1, 1) := by decide +kernel
theorem dX8_markAsChild_14 : decode cX8_markAsChild 14 = .ok (.invokevirtual 280, 3) := by decide +kernel
theorem dX8_markAsChild_17 : decode cX8_markAsChild 17 = .ok (.iconst 2, 1) := by decide +kernel
theorem dX8_markAsChild_18 : decode cX8_markAsChild 18 = .ok (.imul, 1) := by decide +kernel
theorem dX8_markAsChild_19 : decode cX8_markAsChild 19 = .ok (.ireturn, 1) := by decide +kernel
theorem dX8_markAsCamel_0 : decode cX8_markAsCamel 0 = .ok (.aload_n 0, 1) := by decide +kernel
theorem dX8_markAsCamel_1 : decode cX8_markAsCamel 1 = .ok (.dup, 1) := by decide +kernel
theorem dX8_markAsCamel_2 : decode cX8_markAsCamel 2 = .ok (.getfield 312, 3) := by decide +kernel
theorem dX8_markAsCamel_5 : decode cX8_markAsCamel 5 = .ok (.ldc2_w 325, 3) := by decide +kernel
theorem dX8_markAsCamel_8 : decode cX8_markAsCamel 8 = .ok (.ladd, 1) := by decide +kernel
theorem dX8_markAsCamel_9 : decode cX8_markAsCamel 9 = .ok (.putfield 312, 3) := by decide +kernel
theorem dX8_markAsCamel_12 : decode cX8_markAsCamel 12 = .ok (.aload_n 0, 1) := by decide +kernel
theorem dX8_markAsCamel_13 : decode cX8_markAsCamel 13 = .ok (.iload_n 1, 1) := by decide +kernel
theorem dX8_markAsCamel_14 : decode cX8_markAsCamel 14 = .ok (.invokevirtual 283, 3) := by decide +kernel
theorem dX8_markAsCamel_17 : decode cX8_markAsCamel 17 = .ok (.iload_n 1, 1) := by decide +kernel
theorem dX8_markAsCamel_18 : decode cX8_markAsCamel 18 = .ok (.iadd, 1) := by decide +kernel
theorem dX8_markAsCamel_19 : decode cX8_markAsCamel 19 = .ok (.ireturn, 1) := by decide +kernel
theorem dX8_markAsMirage_0 : decode cX8_markAsMirage 0 = .ok (.aload_n 0, 1) := by decide +kernel
theorem dX8_markAsMirage_1 : decode cX8_markAsMirage 1 = .ok (.dup, 1) := by decide +kernel
theorem dX8_markAsMirage_2 : decode cX8_markAsMirage 2 = .ok (.getfield 312, 3) := by decide +kernel
theorem dX8_markAsMirage_5 : decode cX8_markAsMirage 5 = .ok (.ldc2_w 327, 3) := by decide +kernel
theorem dX8_markAsMirage_8 : decode cX8_markAsMirage 8 = .ok (.ladd, 1) := by decide +kernel
theorem dX8_markAsMirage_9 : decode cX8_markAsMirage 9 = .ok (.putfield 312, 3) := by decide +kernel
theorem dX8_markAsMirage_12 : decode cX8_markAsMirage 12 = .ok (.aload_n 0, 1) := by decide +kernel
theorem dX8_markAsMirage_13 : decode cX8_markAsMirage 13 = .ok (.iload_n 1, 1) := by decide +kernel
theorem dX8_markAsMirage_14 : decode cX8_markAsMirage 14 = .ok (.invokevirtual 277, 3) := by decide +kernel
theorem dX8_markAsMirage_17 : decode cX8_markAsMirage 17 = .ok (.aload_n 0, 1) := by decide +kernel
theorem dX8_markAsMirage_18 : decode cX8_markAsMirage 18 = .ok (.getfield 29, 3) := by decide +kernel
theorem dX8_markAsMirage_21 : decode cX8_markAsMirage 21 = .ok (.getfield 123, 3) := by decide +kernel
theorem dX8_markAsMirage_24 : decode cX8_markAsMirage 24 = .ok (.invokevirtual 233, 3) := by decide +kernel
theorem dX8_markAsMirage_27 : decode cX8_markAsMirage 27 = .ok (.iadd, 1) := by decide +kernel
theorem dX8_markAsMirage_28 : decode cX8_markAsMirage 28 = .ok (.ireturn, 1) := by decide +kernel
theorem dX8_imageOf_0 : decode cX8_imageOf 0 = .ok (.iload_n 1, 1) := by decide +kernel
theorem dX8_imageOf_1 : decode cX8_imageOf 1 = .ok (.ifCond .ne 10, 3) := by decide +kernel
theorem dX8_imageOf_4 : decode cX8_imageOf 4 = .ok (.aload_n 0, 1) := by decide +kernel
theorem dX8_imageOf_5 : decode cX8_imageOf 5 = .ok (.getfield 33, 3) := by decide +kernel
theorem dX8_imageOf_8 : decode cX8_imageOf 8 = .ok (.goto 7, 3) := by decide +kernel
theorem dX8_imageOf_11 : decode cX8_imageOf 11 = .ok (.aload_n 0, 1) := by decide +kernel
theorem dX8_imageOf_12 : decode cX8_imageOf 12 = .ok (.getfield 36, 3) := by decide +kernel
theorem dX8_imageOf_15 : decode cX8_imageOf 15 = .ok (.areturn, 1) := by decide +kernel
theorem dX9_init_0 : decode cX9_init 0 = .ok (.aload_n 0, 1) := by decide +kernel
theorem dX9_init_1 : decode cX9_init 1 = .ok (.invokespecial 1, 3) := by decide +kernel
theorem dX9_init_4 : decode cX9_init 4 = .ok (.aload_n 0, 1) := by decide +kernel
theorem dX9_init_5 : decode cX9_init 5 = .ok (.sipush 200, 3) := by decide +kernel
theorem dX9_init_8 : decode cX9_init 8 = .ok (.newarray .int, 2) := by decide +kernel
theorem dX9_init_10 : decode cX9_init 10 = .ok (.putfield 7, 3) := by decide +kernel
theorem dX9_init_13 : decode cX9_init 13 = .ok (.aload_n 0, 1) := by decide +kernel
theorem dX9_init_14 : decode cX9_init 14 = .ok (.bipush 54, 2) := by decide +kernel
theorem dX9_init_16 : decode cX9_init 16 = .ok (.newarray .int, 2) := by decide +kernel
theorem dX9_init_18 : decode cX9_init 18 = .ok (.putfield 13, 3) := by decide +kernel
theorem dX9_init_21 : decode cX9_init 21 = .ok (.aload_n 0, 1) := by decide +kernel
theorem dX9_init_22 : decode cX9_init 22 = .ok (.bipush 54, 2) := by decide +kernel
theorem dX9_init_24 : decode cX9_init 24 = .ok (.newarray .int, 2) := by decide +kernel
theorem dX9_init_26 : decode cX9_init 26 = .ok (.putfield 16, 3) := by decide +kernel
theorem dX9_init_29 : decode cX9_init 29 = .ok (.aload_n 0, 1) := by decide +kernel
theorem dX9_init_30 : decode cX9_init 30 = .ok (.bipush 74, 2) := by decide +kernel
theorem dX9_init_32 : decode cX9_init 32 = .ok (.newarray .int, 2) := by decide +kernel
theorem dX9_init_34 : decode cX9_init 34 = .ok (.putfield 19, 3) := by decide +kernel
theorem dX9_init_37 : decode cX9_init 37 = .ok (.aload_n 0, 1) := by decide +kernel
theorem dX9_init_38 : decode cX9_init 38 = .ok (.sipush 815, 3) := by decide +kernel
theorem dX9_init_41 : decode cX9_init 41 = .ok (.newarray .int, 2) := by decide +kernel
theorem dX9_init_43 : decode cX9_init 43 = .ok (.putfield 22, 3) := by decide +kernel
theorem dX9_init_46 : decode cX9_init 46 = .ok (.aload_n 0, 1) := by decide +kernel
theorem dX9_init_47 : decode cX9_init 47 = .ok (.sipush 1630, 3) := by decide +kernel
theorem dX9_init_50 : decode cX9_init 50 = .ok (.newarray .int, 2) := by decide +kernel
theorem dX9_init_52 : decode cX9_init 52 = .ok (.putfield 25, 3) := by decide +kernel
theorem dX9_init_55 : decode cX9_init 55 = .ok (.aload_n 0, 1) := by decide +kernel
theorem dX9_init_56 : decode cX9_init 56 = .ok (.iconst 2, 1) := by decide +kernel
theorem dX9_init_57 : decode cX9_init 57 = .ok (.newarray .boolean, 2) := by decide +kernel
theorem dX9_init_59 : decode cX9_init 59 = .ok (.putfield 28, 3) := by decide +kernel
theorem dX9_init_62 : decode cX9_init 62 = .ok (.aload_n 0, 1) := by decide +kernel
theorem dX9_init_63 : decode cX9_init 63 = .ok (.bipush 6, 2) := by decide +kernel
theorem dX9_init_65 : decode cX9_init 65 = .ok (.newarray .int, 2) := by decide +kernel
theorem dX9_init_67 : decode cX9_init 67 = .ok (.putfield 32, 3) := by decide +kernel
theorem dX9_init_70 : decode cX9_init 70 = .ok (.aload_n 0, 1) := by decide +kernel
theorem dX9_init_71 : decode cX9_init 71 = .ok (.bipush 6, 2) := by decide +kernel
theorem dX9_init_73 : decode cX9_init 73 = .ok (.newarray .int, 2) := by decide +kernel
theorem dX9_init_75 : decode cX9_init 75 = .ok (.putfield 35, 3) := by decide +kernel
theorem dX9_init_78 : decode cX9_init 78 = .ok (.aload_n 0, 1) := by decide +kernel
theorem dX9_init_79 : decode cX9_init 79 = .ok (.bipush 6, 2) := by decide +kernel
theorem dX9_init_81 : decode cX9_init 81 = .ok (.newarray .int, 2) := by decide +kernel
theorem dX9_init_83 : decode cX9_init 83 = .ok (.putfield 38, 3) := by decide +kernel
theorem dX9_init_86 : decode cX9_init 86 = .ok (.aload_n 0, 1) := by decide +kernel
theorem dX9_init_87 : decode cX9_init 87 = .ok (.bipush 64, 2) := by decide +kernel
theorem dX9_init_89 : decode cX9_init 89 = .ok (.newarray .int, 2) := by decide +kernel
theorem dX9_init_91 : decode cX9_init 91 = .ok (.putfield 41, 3) := by decide +kernel
theorem dX9_init_94 : decode cX9_init 94 = .ok (.aload_n 0, 1) := by decide +kernel
theorem dX9_init_95 : decode cX9_init 95 = .ok (.bipush 42, 2) := by decide +kernel
theorem dX9_init_97 : decode cX9_init 97 = .ok (.newarray .int, 2) := by decide +kernel
theorem dX9_init_99 : decode cX9_init 99 = .ok (.putfield 44, 3) := by decide +kernel
theorem dX9_init_102 : decode cX9_init 102 = .ok (.aload_n 0, 1) := by decide +kernel
theorem dX9_init_103 : decode cX9_init 103 = .ok (.invokevirtual 47, 3) := by decide +kernel
theorem dX9_init_106 : decode cX9_init 106 = .ok (.pop, 1) := by decide +kernel
theorem dX9_init_107 : decode cX9_init 107 = .ok (.aload_n 0, 1) := by decide +kernel
theorem dX9_init_108 : decode cX9_init 108 = .ok (.invokevirtual 51, 3) := by decide +kernel
theorem dX9_init_111 : decode cX9_init 111 = .ok (.return_, 1) := by decide +kernel
theorem dX9_in_0 : decode cX9_in 0 = .ok (.iload_n 0, 1) := by decide +kernel
theorem dX9_in_1 : decode cX9_in 1 = .ok (.iload_n 1, 1) := by decide +kernel
theorem dX9_in_2 : decode cX9_in 2 = .ok (.if_icmp .lt 12, 3) := by decide +kernel
theorem dX9_in_5 : decode cX9_in 5 = .ok (.iload_n 0, 1) := by decide +kernel
theorem dX9_in_6 : decode cX9_in 6 = .ok (.iload_n 2, 1) := by decide +kernel
theorem dX9_in_7 : decode cX9_in 7 = .ok (.if_icmp .gt 7, 3) := by decide +kernel
theorem dX9_in_10 : decode cX9_in 10 = .ok (.iconst 1, 1) := by decide +kernel
theorem dX9_in_11 : decode cX9_in 11 = .ok (.goto 4, 3) := by decide +kernel
theorem dX9_in_14 : decode cX9_in 14 = .ok (.iconst 0, 1) := by decide +kernel
theorem dX9_in_15 : decode cX9_in 15 = .ok (.ireturn, 1) := by decide +kernel
theorem dX9_has_0 : decode cX9_has 0 = .ok (.iload_n 0, 1) := by decide +kernel
theorem dX9_has_1 : decode cX9_has 1 = .ok (.iload_n 1, 1) := by decide +kernel
theorem dX9_has_2 : decode cX9_has 2 = .ok (.ishr, 1) := by decide +kernel
theorem dX9_has_3 : decode cX9_has 3 = .ok (.iconst 1, 1) := by decide +kernel
theorem dX9_has_4 : decode cX9_has 4 = .ok (.iand, 1) := by decide +kernel
theorem dX9_has_5 : decode cX9_has 5 = .ok (.iconst 1, 1) := by decide +kernel
theorem dX9_has_6 : decode cX9_has 6 = .ok (.if_icmp .ne 7, 3) := by decide +kernel
theorem dX9_has_9 : decode cX9_has 9 = .ok (.iconst 1, 1) := by decide +kernel
theorem dX9_has_10 : decode cX9_has 10 = .ok (.goto 4, 3) := by decide +kernel
theorem dX9_has_13 : decode cX9_has 13 = .ok (.iconst 0, 1) := by decide +kernel
theorem dX9_has_14 : decode cX9_has 14 = .ok (.ireturn, 1) := by decide +kernel
theorem dX9_ones_0 : decode cX9_ones 0 = .ok (.iconst 0, 1) := by decide +kernel
theorem dX9_ones_1 : decode cX9_ones 1 = .ok (.istore_n 1, 1) := by decide +kernel
theorem dX9_ones_2 : decode cX9_ones 2 = .ok (.iconst 0, 1) := by decide +kernel
theorem dX9_ones_3 : decode cX9_ones 3 = .ok (.istore_n 2, 1) := by decide +kernel
theorem dX9_ones_4 : decode cX9_ones 4 = .ok (.iload_n 2, 1) := by decide +kernel
theorem dX9_ones_5 : decode cX9_ones 5 = .ok (.bipush 6, 2) := by decide +kernel
theorem dX9_ones_7 : decode cX9_ones 7 = .ok (.if_icmp .ge 17, 3) := by decide +kernel
theorem dX9_ones_10 : decode cX9_ones 10 = .ok (.iload_n 1, 1) := by decide +kernel
theorem dX9_ones_11 : decode cX9_ones 11 = .ok (.iload_n 0, 1) := by decide +kernel
theorem dX9_ones_12 : decode cX9_ones 12 = .ok (.iload_n 2, 1) := by decide +kernel
theorem dX9_ones_13 : decode cX9_ones 13 = .ok (.ishr, 1) := by decide +kernel
theorem dX9_ones_14 : decode cX9_ones 14 = .ok (.iconst 1, 1) := by decide +kernel
theorem dX9_ones_15 : decode cX9_ones 15 = .ok (.iand, 1) := by decide +kernel
theorem dX9_ones_16 : decode cX9_ones 16 = .ok (.iadd, 1) := by decide +kernel
theorem dX9_ones_17 : decode cX9_ones 17 = .ok (.istore_n 1, 1) := by decide +kernel
theorem dX9_ones_18 : decode cX9_ones 18 = .ok (.iinc 2 1, 3) := by decide +kernel
theorem dX9_ones_21 : decode cX9_ones 21 = .ok (.goto (-17), 3) := by decide +kernel
theorem dX9_ones_24 : decode cX9_ones 24 = .ok (.iload_n 1, 1) := by decide +kernel
theorem dX9_ones_25 : decode cX9_ones 25 = .ok (.ireturn, 1) := by decide +kernel
theorem dX9_isWell_0 : decode cX9_isWell 0 = .ok (.iload_n 1, 1) := by decide +kernel
theorem dX9_isWell_1 : decode cX9_isWell 1 = .ok (.iconst 0, 1) := by decide +kernel
theorem dX9_isWell_2 : decode cX9_isWell 2 = .ok (.aload_n 0, 1) := by decide +kernel
theorem dX9_isWell_3 : decode cX9_isWell 3 = .ok (.getfield 13, 3) := by decide +kernel
theorem dX9_isWell_6 : decode cX9_isWell 6 = .ok (.iconst 0, 1) := by decide +kernel
theorem dX9_isWell_7 : decode cX9_isWell 7 = .ok (.iaload, 1) := by decide +kernel
theorem dX9_isWell_8 : decode cX9_isWell 8 = .ok (.iconst 1, 1) := by decide +kernel
theorem dX9_isWell_9 : decode cX9_isWell 9 = .ok (.isub, 1) := by decide +kernel
theorem dX9_isWell_10 : decode cX9_isWell 10 = .ok (.invokestatic 54, 3) := by decide +kernel
theorem dX9_isWell_13 : decode cX9_isWell 13 = .ok (.ireturn, 1) := by decide +kernel
theorem dX9_isStage_0 : decode cX9_isStage 0 = .ok (.iload_n 1, 1) := by decide +kernel
theorem dX9_isStage_1 : decode cX9_isStage 1 = .ok (.iconst 0, 1) := by decide +kernel
theorem dX9_isStage_2 : decode cX9_isStage 2 = .ok (.aload_n 0, 1) := by decide +kernel
theorem dX9_isStage_3 : decode cX9_isStage 3 = .ok (.getfield 13, 3) := by decide +kernel
theorem dX9_isStage_6 : decode cX9_isStage 6 = .ok (.iconst 1, 1) := by decide +kernel
theorem dX9_isStage_7 : decode cX9_isStage 7 = .ok (.iaload, 1) := by decide +kernel
theorem dX9_isStage_8 : decode cX9_isStage 8 = .ok (.iconst 1, 1) := by decide +kernel
theorem dX9_isStage_9 : decode cX9_isStage 9 = .ok (.isub, 1) := by decide +kernel
theorem dX9_isStage_10 : decode cX9_isStage 10 = .ok (.invokestatic 54, 3) := by decide +kernel
theorem dX9_isStage_13 : decode cX9_isStage 13 = .ok (.ireturn, 1) := by decide +kernel
theorem dX9_isCaravan_0 : decode cX9_isCaravan 0 = .ok (.iload_n 1, 1) := by decide +kernel
theorem dX9_isCaravan_1 : decode cX9_isCaravan 1 = .ok (.iconst 0, 1) := by decide +kernel
theorem dX9_isCaravan_2 : decode cX9_isCaravan 2 = .ok (.aload_n 0, 1) := by decide +kernel
theorem dX9_isCaravan_3 : decode cX9_isCaravan 3 = .ok (.getfield 13, 3) := by decide +kernel
theorem dX9_isCaravan_6 : decode cX9_isCaravan 6 = .ok (.iconst 2, 1) := by decide +kernel
theorem dX9_isCaravan_7 : decode cX9_isCaravan 7 = .ok (.iaload, 1) := by decide +kernel
theorem dX9_isCaravan_8 : decode cX9_isCaravan 8 = .ok (.iconst 1, 1) := by decide +kernel
theorem dX9_isCaravan_9 : decode cX9_isCaravan 9 = .ok (.isub, 1) := by decide +kernel
theorem dX9_isCaravan_10 : decode cX9_isCaravan 10 = .ok (.invokestatic 54, 3) := by decide +kernel
theorem dX9_isCaravan_13 : decode cX9_isCaravan 13 = .ok (.ireturn, 1) := by decide +kernel
theorem dX9_type_0 : decode cX9_type 0 = .ok (.iload_n 1, 1) := by decide +kernel
theorem dX9_type_1 : decode cX9_type 1 = .ok (.iconst 0, 1) := by decide +kernel
theorem dX9_type_2 : decode cX9_type 2 = .ok (.sipush 255, 3) := by decide +kernel
theorem dX9_type_5 : decode cX9_type 5 = .ok (.invokestatic 54, 3) := by decide +kernel
theorem dX9_type_8 : decode cX9_type 8 = .ok (.ifCond .ne 5, 3) := by decide +kernel
theorem dX9_type_11 : decode cX9_type 11 = .ok (.iconst (-1), 1) := by decide +kernel
theorem dX9_type_12 : decode cX9_type 12 = .ok (.ireturn, 1) := by decide +kernel
theorem dX9_type_13 : decode cX9_type 13 = .ok (.aload_n 0, 1) := by decide +kernel
theorem dX9_type_14 : decode cX9_type 14 = .ok (.getfield 58, 3) := by decide +kernel
theorem dX9_type_17 : decode cX9_type 17 = .ok (.sipush 200, 3) := by decide +kernel
theorem dX9_type_20 : decode cX9_type 20 = .ok (.if_icmp .ne 6, 3) := by decide +kernel
theorem dX9_type_23 : decode cX9_type 23 = .ok (.bipush (-3), 2) := by decide +kernel
theorem dX9_type_25 : decode cX9_type 25 = .ok (.ireturn, 1) := by decide +kernel
theorem dX9_type_26 : decode cX9_type 26 = .ok (.aload_n 0, 1) := by decide +kernel
theorem dX9_type_27 : decode cX9_type 27 = .ok (.getfield 7, 3) := by decide +kernel
theorem dX9_type_30 : decode cX9_type 30 = .ok (.aload_n 0, 1) := by decide +kernel
theorem dX9_type_31 : decode cX9_type 31 = .ok (.getfield 58, 3) := by decide +kernel
theorem dX9_type_34 : decode cX9_type 34 = .ok (.iload_n 1, 1) := by decide +kernel
theorem dX9_type_35 : decode cX9_type 35 = .ok (.iastore, 1) := by decide +kernel
theorem dX9_type_36 : decode cX9_type 36 = .ok (.aload_n 0, 1) := by decide +kernel
theorem dX9_type_37 : decode cX9_type 37 = .ok (.dup, 1) := by decide +kernel
theorem dX9_type_38 : decode cX9_type 38 = .ok (.getfield 58, 3) := by decide +kernel
theorem dX9_type_41 : decode cX9_type 41 = .ok (.iconst 1, 1) := by decide +kernel
theorem dX9_type_42 : decode cX9_type 42 = .ok (.iadd, 1) := by decide +kernel
theorem dX9_type_43 : decode cX9_type 43 = .ok (.putfield 58, 3) := by decide +kernel
theorem dX9_type_46 : decode cX9_type 46 = .ok (.aload_n 0, 1) := by decide +kernel
theorem dX9_type_47 : decode cX9_type 47 = .ok (.getfield 58, 3) := by decide +kernel
theorem dX9_type_50 : decode cX9_type 50 = .ok (.ireturn, 1) := by decide +kernel
theorem dX9_clear_0 : decode cX9_clear 0 = .ok (.aload_n 0, 1) := by decide +kernel
theorem dX9_clear_1 : decode cX9_clear 1 = .ok (.getfield 58, 3) := by decide +kernel
theorem dX9_clear_4 : decode cX9_clear 4 = .ok (.istore_n 1, 1) := by decide +kernel
theorem dX9_clear_5 : decode cX9_clear 5 = .ok (.aload_n 0, 1) := by decide +kernel
theorem dX9_clear_6 : decode cX9_clear 6 = .ok (.iconst 0, 1) := by decide +kernel
theorem dX9_clear_7 : decode cX9_clear 7 = .ok (.putfield 58, 3) := by decide +kernel
theorem dX9_clear_10 : decode cX9_clear 10 = .ok (.iload_n 1, 1) := by decide +kernel
theorem dX9_clear_11 : decode cX9_clear 11 = .ok (.ireturn, 1) := by decide +kernel
theorem dX9_letterAt_0 : decode cX9_letterAt 0 = .ok (.iload_n 1, 1) := by decide +kernel
theorem dX9_letterAt_1 : decode cX9_letterAt 1 = .ok (.aload_n 0, 1) := by decide +kernel
theorem dX9_letterAt_2 : decode cX9_letterAt 2 = .ok (.getfield 58, 3) := by decide +kernel
theorem dX9_letterAt_5 : decode cX9_letterAt 5 = .ok (.if_icmp .ge 12, 3) := by decide +kernel
theorem dX9_letterAt_8 : decode cX9_letterAt 8 = .ok (.aload_n 0, 1) := by decide +kernel
theorem dX9_letterAt_9 : decode cX9_letterAt 9 = .ok (.getfield 7, 3) := by decide +kernel
theorem dX9_letterAt_12 : decode cX9_letterAt 12 = .ok (.iload_n 1, 1) := by decide +kernel
theorem dX9_letterAt_13 : decode cX9_letterAt 13 = .ok (.iaload, 1) := by decide +kernel
theorem dX9_letterAt_14 : decode cX9_letterAt 14 = .ok (.goto 4, 3) := by decide +kernel
theorem dX9_letterAt_17 : decode cX9_letterAt 17 = .ok (.iconst (-1), 1) := by decide +kernel
theorem dX9_letterAt_18 : decode cX9_letterAt 18 = .ok (.ireturn, 1) := by decide +kernel
theorem dX9_isLetter_0 : decode cX9_isLetter 0 = .ok (.iload_n 0, 1) := by decide +kernel
theorem dX9_isLetter_1 : decode cX9_isLetter 1 = .ok (.bipush 97, 2) := by decide +kernel
theorem dX9_isLetter_3 : decode cX9_isLetter 3 = .ok (.bipush 122, 2) := by decide +kernel
theorem dX9_isLetter_5 : decode cX9_isLetter 5 = .ok (.invokestatic 54, 3) := by decide +kernel
theorem dX9_isLetter_8 : decode cX9_isLetter 8 = .ok (.ireturn, 1) := by decide +kernel
theorem dX9_isDigit_0 : decode cX9_isDigit 0 = .ok (.iload_n 0, 1) := by decide +kernel
theorem dX9_isDigit_1 : decode cX9_isDigit 1 = .ok (.bipush 48, 2) := by decide +kernel
theorem dX9_isDigit_3 : decode cX9_isDigit 3 = .ok (.bipush 57, 2) := by decide +kernel
theorem dX9_isDigit_5 : decode cX9_isDigit 5 = .ok (.invokestatic 54, 3) := by decide +kernel
theorem dX9_isDigit_8 : decode cX9_isDigit 8 = .ok (.ireturn, 1) := by decide +kernel
theorem dX9_token_0 : decode cX9_token 0 = .ok (.aload_n 0, 1) := by decide +kernel
theorem dX9_token_1 : decode cX9_token 1 = .ok (.aload_n 0, 1) := by decide +kernel
theorem dX9_token_2 : decode cX9_token 2 = .ok (.getfield 62, 3) := by decide +kernel
theorem dX9_token_5 : decode cX9_token 5 = .ok (.invokevirtual 65, 3) := by decide +kernel
theorem dX9_token_8 : decode cX9_token 8 = .ok (.bipush 32, 2) := by decide +kernel
theorem dX9_token_10 : decode cX9_token 10 = .ok (.if_icmp .ne 16, 3) := by decide +kernel
theorem dX9_token_13 : decode cX9_token 13 = .ok (.aload_n 0, 1) := by decide +kernel
theorem dX9_token_14 : decode cX9_token 14 = .ok (.dup, 1) := by decide +kernel
theorem dX9_token_15 : decode cX9_token 15 = .ok (.getfield 62, 3) := by decide +kernel
theorem dX9_token_18 : decode cX9_token 18 = .ok (.iconst 1, 1) := by decide +kernel
theorem dX9_token_19 : decode cX9_token 19 = .ok (.iadd, 1) := by decide +kernel
theorem dX9_token_20 : decode cX9_token 20 = .ok (.putfield 62, 3) := by decide +kernel
theorem dX9_token_23 : decode cX9_token 23 = .ok (.goto (-23), 3) := by decide +kernel
theorem dX9_token_26 : decode cX9_token 26 = .ok (.aload_n 0, 1) := by decide +kernel
theorem dX9_token_27 : decode cX9_token 27 = .ok (.aload_n 0, 1) := by decide +kernel
theorem dX9_token_28 : decode cX9_token 28 = .ok (.getfield 62, 3) := by decide +kernel
theorem dX9_token_31 : decode cX9_token 31 = .ok (.putfield 69, 3) := by decide +kernel
theorem dX9_token_34 : decode cX9_token 34 = .ok (.aload_n 0, 1) := by decide +kernel
theorem dX9_token_35 : decode cX9_token 35 = .ok (.aload_n 0, 1) := by decide +kernel
theorem dX9_token_36 : decode cX9_token 36 = .ok (.getfield 62, 3) := by decide +kernel
theorem dX9_token_39 : decode cX9_token 39 = .ok (.invokevirtual 65, 3) := by decide +kernel
theorem dX9_token_42 : decode cX9_token 42 = .ok (.istore_n 1, 1) := by decide +kernel
theorem dX9_token_43 : decode cX9_token 43 = .ok (.aload_n 0, 1) := by decide +kernel
theorem dX9_token_44 : decode cX9_token 44 = .ok (.iload_n 1, 1) := by decide +kernel
theorem dX9_token_45 : decode cX9_token 45 = .ok (.ifCond .ge 7, 3) := by decide +kernel
theorem dX9_token_48 : decode cX9_token 48 = .ok (.iconst 0, 1) := by decide +kernel
theorem dX9_token_49 : decode cX9_token 49 = .ok (.goto 36, 3) := by decide +kernel
theorem dX9_token_52 : decode cX9_token 52 = .ok (.iload_n 1, 1) := by decide +kernel
theorem dX9_token_53 : decode cX9_token 53 = .ok (.invokestatic 72, 3) := by decide +kernel
theorem dX9_token_56 : decode cX9_token 56 = .ok (.ifCond .eq 7, 3) := by decide +kernel
theorem dX9_token_59 : decode cX9_token 59 = .ok (.iconst 1, 1) := by decide +kernel
theorem dX9_token_60 : decode cX9_token 60 = .ok (.goto 25, 3) := by decide +kernel
theorem dX9_token_63 : decode cX9_token 63 = .ok (.iload_n 1, 1) := by decide +kernel
theorem dX9_token_64 : decode cX9_token 64 = .ok (.invokestatic 76, 3) := by decide +kernel
theorem dX9_token_67 : decode cX9_token 67 = .ok (.ifCond .eq 7, 3) := by decide +kernel
theorem dX9_token_70 : decode cX9_token 70 = .ok (.iconst 2, 1) := by decide +kernel
theorem dX9_token_71 : decode cX9_token 71 = .ok (.goto 14, 3) := by decide +kernel
theorem dX9_token_74 : decode cX9_token 74 = .ok (.iload_n 1, 1) := by decide +kernel
theorem dX9_token_75 : decode cX9_token 75 = .ok (.bipush 59, 2) := by decide +kernel
theorem dX9_token_77 : decode cX9_token 77 = .ok (.if_icmp .ne 7, 3) := by decide +kernel
theorem dX9_token_80 : decode cX9_token 80 = .ok (.iconst 3, 1) := by decide +kernel
theorem dX9_token_81 : decode cX9_token 81 = .ok (.goto 4, 3) := by decide +kernel
theorem dX9_token_84 : decode cX9_token 84 = .ok (.iconst 4, 1) := by decide +kernel
theorem dX9_token_85 : decode cX9_token 85 = .ok (.putfield 79, 3) := by decide +kernel
theorem dX9_token_88 : decode cX9_token 88 = .ok (.aload_n 0, 1) := by decide +kernel
theorem dX9_token_89 : decode cX9_token 89 = .ok (.iload_n 1, 1) := by decide +kernel
theorem dX9_token_90 : decode cX9_token 90 = .ok (.putfield 82, 3) := by decide +kernel
theorem dX9_token_93 : decode cX9_token 93 = .ok (.aload_n 0, 1) := by decide +kernel
theorem dX9_token_94 : decode cX9_token 94 = .ok (.dup, 1) := by decide +kernel
theorem dX9_token_95 : decode cX9_token 95 = .ok (.getfield 62, 3) := by decide +kernel
theorem dX9_token_98 : decode cX9_token 98 = .ok (.aload_n 0, 1) := by decide +kernel
theorem dX9_token_99 : decode cX9_token 99 = .ok (.getfield 79, 3) := by decide +kernel
theorem dX9_token_102 : decode cX9_token 102 = .ok (.ifCond .ne 7, 3) := by decide +kernel
theorem dX9_token_105 : decode cX9_token 105 = .ok (.iconst 0, 1) := by decide +kernel
theorem dX9_token_106 : decode cX9_token 106 = .ok (.goto 4, 3) := by decide +kernel
theorem dX9_token_109 : decode cX9_token 109 = .ok (.iconst 1, 1) := by decide +kernel
theorem dX9_token_110 : decode cX9_token 110 = .ok (.iadd, 1) := by decide +kernel
theorem dX9_token_111 : decode cX9_token 111 = .ok (.putfield 62, 3) := by decide +kernel
theorem dX9_token_114 : decode cX9_token 114 = .ok (.aload_n 0, 1) := by decide +kernel
theorem dX9_token_115 : decode cX9_token 115 = .ok (.getfield 79, 3) := by decide +kernel
theorem dX9_token_118 : decode cX9_token 118 = .ok (.iconst 1, 1) := by decide +kernel
theorem dX9_token_119 : decode cX9_token 119 = .ok (.if_icmp .ne 35, 3) := by decide +kernel
theorem dX9_token_122 : decode cX9_token 122 = .ok (.aload_n 0, 1) := by decide +kernel
theorem dX9_token_123 : decode cX9_token 123 = .ok (.aload_n 0, 1) := by decide +kernel
theorem dX9_token_124 : decode cX9_token 124 = .ok (.getfield 62, 3) := by decide +kernel
theorem dX9_token_127 : decode cX9_token 127 = .ok (.invokevirtual 65, 3) := by decide +kernel
theorem dX9_token_130 : decode cX9_token 130 = .ok (.invokestatic 72, 3) := by decide +kernel
theorem dX9_token_133 : decode cX9_token 133 = .ok (.ifCond .eq 21, 3) := by decide +kernel
theorem dX9_token_136 : decode cX9_token 136 = .ok (.aload_n 0, 1) := by decide +kernel
theorem dX9_token_137 : decode cX9_token 137 = .ok (.iconst 0, 1) := by decide +kernel
theorem dX9_token_138 : decode cX9_token 138 = .ok (.putfield 82, 3) := by decide +kernel
theorem dX9_token_141 : decode cX9_token 141 = .ok (.aload_n 0, 1) := by decide +kernel
theorem dX9_token_142 : decode cX9_token 142 = .ok (.dup, 1) := by decide +kernel
theorem dX9_token_143 : decode cX9_token 143 = .ok (.getfield 62, 3) := by decide +kernel
theorem dX9_token_146 : decode cX9_token 146 = .ok (.iconst 1, 1) := by decide +kernel
theorem dX9_token_147 : decode cX9_token 147 = .ok (.iadd, 1) := by decide +kernel
theorem dX9_token_148 : decode cX9_token 148 = .ok (.putfield 62, 3) := by decide +kernel
theorem dX9_token_151 : decode cX9_token 151 = .ok (.goto (-37), 3) := by decide +kernel
theorem dX9_token_154 : decode cX9_token 154 = .ok (.aload_n 0, 1) := by decide +kernel
theorem dX9_token_155 : decode cX9_token 155 = .ok (.getfield 79, 3) := by decide +kernel
theorem dX9_token_158 : decode cX9_token 158 = .ok (.iconst 2, 1) := by decide +kernel
theorem dX9_token_159 : decode cX9_token 159 = .ok (.if_icmp .ne 83, 3) := by decide +kernel
theorem dX9_token_162 : decode cX9_token 162 = .ok (.aload_n 0, 1) := by decide +kernel
theorem dX9_token_163 : decode cX9_token 163 = .ok (.iload_n 1, 1) := by decide +kernel
theorem dX9_token_164 : decode cX9_token 164 = .ok (.bipush 48, 2) := by decide +kernel
theorem dX9_token_166 : decode cX9_token 166 = .ok (.isub, 1) := by decide +kernel
theorem dX9_token_167 : decode cX9_token 167 = .ok (.putfield 82, 3) := by decide +kernel
theorem dX9_token_170 : decode cX9_token 170 = .ok (.aload_n 0, 1) := by decide +kernel
theorem dX9_token_171 : decode cX9_token 171 = .ok (.aload_n 0, 1) := by decide +kernel
theorem dX9_token_172 : decode cX9_token 172 = .ok (.getfield 62, 3) := by decide +kernel
theorem dX9_token_175 : decode cX9_token 175 = .ok (.invokevirtual 65, 3) := by decide +kernel
theorem dX9_token_178 : decode cX9_token 178 = .ok (.invokestatic 76, 3) := by decide +kernel
theorem dX9_token_181 : decode cX9_token 181 = .ok (.ifCond .eq 61, 3) := by decide +kernel
theorem dX9_token_184 : decode cX9_token 184 = .ok (.aload_n 0, 1) := by decide +kernel
theorem dX9_token_185 : decode cX9_token 185 = .ok (.iload_n 1, 1) := by decide +kernel
theorem dX9_token_186 : decode cX9_token 186 = .ok (.bipush 48, 2) := by decide +kernel
theorem dX9_token_188 : decode cX9_token 188 = .ok (.if_icmp .eq 12, 3) := by decide +kernel
theorem dX9_token_191 : decode cX9_token 191 = .ok (.aload_n 0, 1) := by decide +kernel
theorem dX9_token_192 : decode cX9_token 192 = .ok (.getfield 82, 3) := by decide +kernel
theorem dX9_token_195 : decode cX9_token 195 = .ok (.bipush 99, 2) := by decide +kernel
theorem dX9_token_197 : decode cX9_token 197 = .ok (.if_icmp .le 9, 3) := by decide +kernel
theorem dX9_token_200 : decode cX9_token 200 = .ok (.sipush 1000, 3) := by decide +kernel
theorem dX9_token_203 : decode cX9_token 203 = .ok (.goto 23, 3) := by decide +kernel
theorem dX9_token_206 : decode cX9_token 206 = .ok (.bipush 10, 2) := by decide +kernel
theorem dX9_token_208 : decode cX9_token 208 = .ok (.aload_n 0, 1) := by decide +kernel
theorem dX9_token_209 : decode cX9_token 209 = .ok (.getfield 82, 3) := by decide +kernel
theorem dX9_token_212 : decode cX9_token 212 = .ok (.imul, 1) := by decide +kernel
theorem dX9_token_213 : decode cX9_token 213 = .ok (.aload_n 0, 1) := by decide +kernel
theorem dX9_token_214 : decode cX9_token 214 = .ok (.getfield 7, 3) := by decide +kernel
theorem dX9_token_217 : decode cX9_token 217 = .ok (.aload_n 0, 1) := by decide +kernel
theorem dX9_token_218 : decode cX9_token 218 = .ok (.getfield 62, 3) := by decide +kernel
theorem dX9_token_221 : decode cX9_token 221 = .ok (.iaload, 1) := by decide +kernel
theorem dX9_token_222 : decode cX9_token 222 = .ok (.iadd, 1) := by decide +kernel
theorem dX9_token_223 : decode cX9_token 223 = .ok (.bipush 48, 2) := by decide +kernel
theorem dX9_token_225 : decode cX9_token 225 = .ok (.isub, 1) := by decide +kernel
theorem dX9_token_226 : decode cX9_token 226 = .ok (.putfield 82, 3) := by decide +kernel
theorem dX9_token_229 : decode cX9_token 229 = .ok (.aload_n 0, 1) := by decide +kernel
theorem dX9_token_230 : decode cX9_token 230 = .ok (.dup, 1) := by decide +kernel
theorem dX9_token_231 : decode cX9_token 231 = .ok (.getfield 62, 3) := by decide +kernel
theorem dX9_token_234 : decode cX9_token 234 = .ok (.iconst 1, 1) := by decide +kernel
theorem dX9_token_235 : decode cX9_token 235 = .ok (.iadd, 1) := by decide +kernel
theorem dX9_token_236 : decode cX9_token 236 = .ok (.putfield 62, 3) := by decide +kernel
theorem dX9_token_239 : decode cX9_token 239 = .ok (.goto (-69), 3) := by decide +kernel
theorem dX9_token_242 : decode cX9_token 242 = .ok (.return_, 1) := by decide +kernel
theorem dX9_number_0 : decode cX9_number 0 = .ok (.aload_n 0, 1) := by decide +kernel
theorem dX9_number_1 : decode cX9_number 1 = .ok (.invokevirtual 85, 3) := by decide +kernel
theorem dX9_number_4 : decode cX9_number 4 = .ok (.aload_n 0, 1) := by decide +kernel
theorem dX9_number_5 : decode cX9_number 5 = .ok (.getfield 79, 3) := by decide +kernel
theorem dX9_number_8 : decode cX9_number 8 = .ok (.iconst 2, 1) := by decide +kernel
theorem dX9_number_9 : decode cX9_number 9 = .ok (.if_icmp .ne 19, 3) := by decide +kernel
theorem dX9_number_12 : decode cX9_number 12 = .ok (.aload_n 0, 1) := by decide +kernel
theorem dX9_number_13 : decode cX9_number 13 = .ok (.getfield 82, 3) := by decide +kernel
theorem dX9_number_16 : decode cX9_number 16 = .ok (.iload_n 1, 1) := by decide +kernel
theorem dX9_number_17 : decode cX9_number 17 = .ok (.iload_n 2, 1) := by decide +kernel
theorem dX9_number_18 : decode cX9_number 18 = .ok (.invokestatic 54, 3) := by decide +kernel
theorem dX9_number_21 : decode cX9_number 21 = .ok (.ifCond .eq 7, 3) := by decide +kernel
theorem dX9_number_24 : decode cX9_number 24 = .ok (.iconst 1, 1) := by decide +kernel
theorem dX9_number_25 : decode cX9_number 25 = .ok (.goto 4, 3) := by decide +kernel
theorem dX9_number_28 : decode cX9_number 28 = .ok (.iconst 0, 1) := by decide +kernel
theorem dX9_number_29 : decode cX9_number 29 = .ok (.ireturn, 1) := by decide +kernel
theorem dX9_readsStage_0 : decode cX9_readsStage 0 = .ok (.aload_n 0, 1) := by decide +kernel
theorem dX9_readsStage_1 : decode cX9_readsStage 1 = .ok (.getfield 16, 3) := by decide +kernel
theorem dX9_readsStage_4 : decode cX9_readsStage 4 = .ok (.iconst 1, 1) := by decide +kernel
theorem dX9_readsStage_5 : decode cX9_readsStage 5 = .ok (.iaload, 1) := by decide +kernel
theorem dX9_readsStage_6 : decode cX9_readsStage 6 = .ok (.istore_n 1, 1) := by decide +kernel
theorem dX9_readsStage_7 : decode cX9_readsStage 7 = .ok (.aload_n 0, 1) := by decide +kernel
theorem dX9_readsStage_8 : decode cX9_readsStage 8 = .ok (.getfield 16, 3) := by decide +kernel
theorem dX9_readsStage_11 : decode cX9_readsStage 11 = .ok (.iconst 0, 1) := by decide +kernel
theorem dX9_readsStage_12 : decode cX9_readsStage 12 = .ok (.iaload, 1) := by decide +kernel
theorem dX9_readsStage_13 : decode cX9_readsStage 13 = .ok (.iconst 1, 1) := by decide +kernel
theorem dX9_readsStage_14 : decode cX9_readsStage 14 = .ok (.isub, 1) := by decide +kernel
theorem dX9_readsStage_15 : decode cX9_readsStage 15 = .ok (.istore_n 2, 1) := by decide +kernel
theorem dX9_readsStage_16 : decode cX9_readsStage 16 = .ok (.iload_n 1, 1) := by decide +kernel
theorem dX9_readsStage_17 : decode cX9_readsStage 17 = .ok (.bipush 8, 2) := by decide +kernel
theorem dX9_readsStage_19 : decode cX9_readsStage 19 = .ok (.if_icmp .eq 12, 3) := by decide +kernel
theorem dX9_readsStage_22 : decode cX9_readsStage 22 = .ok (.aload_n 0, 1) := by decide +kernel
theorem dX9_readsStage_23 : decode cX9_readsStage 23 = .ok (.iconst 0, 1) := by decide +kernel
theorem dX9_readsStage_24 : decode cX9_readsStage 24 = .ok (.iload_n 2, 1) := by decide +kernel
theorem dX9_readsStage_25 : decode cX9_readsStage 25 = .ok (.invokevirtual 88, 3) := by decide +kernel
theorem dX9_readsStage_28 : decode cX9_readsStage 28 = .ok (.ifCond .ne 5, 3) := by decide +kernel
theorem dX9_readsStage_31 : decode cX9_readsStage 31 = .ok (.iconst 0, 1) := by decide +kernel
theorem dX9_readsStage_32 : decode cX9_readsStage 32 = .ok (.ireturn, 1) := by decide +kernel
theorem dX9_readsStage_33 : decode cX9_readsStage 33 = .ok (.aload_n 0, 1) := by decide +kernel
theorem dX9_readsStage_34 : decode cX9_readsStage 34 = .ok (.getfield 16, 3) := by decide +kernel
theorem dX9_readsStage_37 : decode cX9_readsStage 37 = .ok (.bipush 10, 2) := by decide +kernel
theorem dX9_readsStage_39 : decode cX9_readsStage 39 = .ok (.iload_n 1, 1) := by decide +kernel
theorem dX9_readsStage_40 : decode cX9_readsStage 40 = .ok (.iadd, 1) := by decide +kernel
theorem dX9_readsStage_41 : decode cX9_readsStage 41 = .ok (.aload_n 0, 1) := by decide +kernel
theorem dX9_readsStage_42 : decode cX9_readsStage 42 = .ok (.getfield 82, 3) := by decide +kernel
theorem dX9_readsStage_45 : decode cX9_readsStage 45 = .ok (.iastore, 1) := by decide +kernel
theorem dX9_readsStage_46 : decode cX9_readsStage 46 = .ok (.aload_n 0, 1) := by decide +kernel
theorem dX9_readsStage_47 : decode cX9_readsStage 47 = .ok (.iconst 0, 1) := by decide +kernel
theorem dX9_readsStage_48 : decode cX9_readsStage 48 = .ok (.iload_n 2, 1) := by decide +kernel
theorem dX9_readsStage_49 : decode cX9_readsStage 49 = .ok (.invokevirtual 88, 3) := by decide +kernel
theorem dX9_readsStage_52 : decode cX9_readsStage 52 = .ok (.ifCond .eq 19, 3) := by decide +kernel
theorem dX9_readsStage_55 : decode cX9_readsStage 55 = .ok (.aload_n 0, 1) := by decide +kernel
