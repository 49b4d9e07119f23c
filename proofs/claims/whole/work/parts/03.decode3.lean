theorem dX9_readsStage_56 : decode cX9_readsStage 56 = .ok (.getfield 82, 3) := by decide +kernel
theorem dX9_readsStage_59 : decode cX9_readsStage 59 = .ok (.aload_n 0, 1) := by decide +kernel
theorem dX9_readsStage_60 : decode cX9_readsStage 60 = .ok (.getfield 16, 3) := by decide +kernel
theorem dX9_readsStage_63 : decode cX9_readsStage 63 = .ok (.bipush 10, 2) := by decide +kernel
theorem dX9_readsStage_65 : decode cX9_readsStage 65 = .ok (.iload_n 1, 1) := by decide +kernel
theorem dX9_readsStage_66 : decode cX9_readsStage 66 = .ok (.iadd, 1) := by decide +kernel
theorem dX9_readsStage_67 : decode cX9_readsStage 67 = .ok (.iaload, 1) := by decide +kernel
theorem dX9_readsStage_68 : decode cX9_readsStage 68 = .ok (.if_icmp .ne 5, 3) := by decide +kernel
theorem dX9_readsStage_71 : decode cX9_readsStage 71 = .ok (.iconst 0, 1) := by decide +kernel
theorem dX9_readsStage_72 : decode cX9_readsStage 72 = .ok (.ireturn, 1) := by decide +kernel
theorem dX9_readsStage_73 : decode cX9_readsStage 73 = .ok (.aload_n 0, 1) := by decide +kernel
theorem dX9_readsStage_74 : decode cX9_readsStage 74 = .ok (.getfield 16, 3) := by decide +kernel
theorem dX9_readsStage_77 : decode cX9_readsStage 77 = .ok (.bipush 18, 2) := by decide +kernel
theorem dX9_readsStage_79 : decode cX9_readsStage 79 = .ok (.iload_n 1, 1) := by decide +kernel
theorem dX9_readsStage_80 : decode cX9_readsStage 80 = .ok (.iadd, 1) := by decide +kernel
theorem dX9_readsStage_81 : decode cX9_readsStage 81 = .ok (.aload_n 0, 1) := by decide +kernel
theorem dX9_readsStage_82 : decode cX9_readsStage 82 = .ok (.getfield 82, 3) := by decide +kernel
theorem dX9_readsStage_85 : decode cX9_readsStage 85 = .ok (.iastore, 1) := by decide +kernel
theorem dX9_readsStage_86 : decode cX9_readsStage 86 = .ok (.aload_n 0, 1) := by decide +kernel
theorem dX9_readsStage_87 : decode cX9_readsStage 87 = .ok (.iconst 1, 1) := by decide +kernel
theorem dX9_readsStage_88 : decode cX9_readsStage 88 = .ok (.bipush 9, 2) := by decide +kernel
theorem dX9_readsStage_90 : decode cX9_readsStage 90 = .ok (.invokevirtual 88, 3) := by decide +kernel
theorem dX9_readsStage_93 : decode cX9_readsStage 93 = .ok (.ifCond .ne 5, 3) := by decide +kernel
theorem dX9_readsStage_96 : decode cX9_readsStage 96 = .ok (.iconst 0, 1) := by decide +kernel
theorem dX9_readsStage_97 : decode cX9_readsStage 97 = .ok (.ireturn, 1) := by decide +kernel
theorem dX9_readsStage_98 : decode cX9_readsStage 98 = .ok (.aload_n 0, 1) := by decide +kernel
theorem dX9_readsStage_99 : decode cX9_readsStage 99 = .ok (.getfield 16, 3) := by decide +kernel
theorem dX9_readsStage_102 : decode cX9_readsStage 102 = .ok (.bipush 26, 2) := by decide +kernel
theorem dX9_readsStage_104 : decode cX9_readsStage 104 = .ok (.iload_n 1, 1) := by decide +kernel
theorem dX9_readsStage_105 : decode cX9_readsStage 105 = .ok (.iadd, 1) := by decide +kernel
theorem dX9_readsStage_106 : decode cX9_readsStage 106 = .ok (.aload_n 0, 1) := by decide +kernel
theorem dX9_readsStage_107 : decode cX9_readsStage 107 = .ok (.getfield 82, 3) := by decide +kernel
theorem dX9_readsStage_110 : decode cX9_readsStage 110 = .ok (.iastore, 1) := by decide +kernel
theorem dX9_readsStage_111 : decode cX9_readsStage 111 = .ok (.aload_n 0, 1) := by decide +kernel
theorem dX9_readsStage_112 : decode cX9_readsStage 112 = .ok (.iconst 0, 1) := by decide +kernel
theorem dX9_readsStage_113 : decode cX9_readsStage 113 = .ok (.iconst 1, 1) := by decide +kernel
theorem dX9_readsStage_114 : decode cX9_readsStage 114 = .ok (.invokevirtual 88, 3) := by decide +kernel
theorem dX9_readsStage_117 : decode cX9_readsStage 117 = .ok (.ifCond .ne 5, 3) := by decide +kernel
theorem dX9_readsStage_120 : decode cX9_readsStage 120 = .ok (.iconst 0, 1) := by decide +kernel
theorem dX9_readsStage_121 : decode cX9_readsStage 121 = .ok (.ireturn, 1) := by decide +kernel
theorem dX9_readsStage_122 : decode cX9_readsStage 122 = .ok (.aload_n 0, 1) := by decide +kernel
theorem dX9_readsStage_123 : decode cX9_readsStage 123 = .ok (.getfield 16, 3) := by decide +kernel
theorem dX9_readsStage_126 : decode cX9_readsStage 126 = .ok (.bipush 34, 2) := by decide +kernel
theorem dX9_readsStage_128 : decode cX9_readsStage 128 = .ok (.iload_n 1, 1) := by decide +kernel
theorem dX9_readsStage_129 : decode cX9_readsStage 129 = .ok (.iadd, 1) := by decide +kernel
theorem dX9_readsStage_130 : decode cX9_readsStage 130 = .ok (.aload_n 0, 1) := by decide +kernel
theorem dX9_readsStage_131 : decode cX9_readsStage 131 = .ok (.getfield 82, 3) := by decide +kernel
theorem dX9_readsStage_134 : decode cX9_readsStage 134 = .ok (.iastore, 1) := by decide +kernel
theorem dX9_readsStage_135 : decode cX9_readsStage 135 = .ok (.aload_n 0, 1) := by decide +kernel
theorem dX9_readsStage_136 : decode cX9_readsStage 136 = .ok (.iconst 0, 1) := by decide +kernel
theorem dX9_readsStage_137 : decode cX9_readsStage 137 = .ok (.iload_n 2, 1) := by decide +kernel
theorem dX9_readsStage_138 : decode cX9_readsStage 138 = .ok (.invokevirtual 88, 3) := by decide +kernel
theorem dX9_readsStage_141 : decode cX9_readsStage 141 = .ok (.ifCond .ne 5, 3) := by decide +kernel
theorem dX9_readsStage_144 : decode cX9_readsStage 144 = .ok (.iconst 0, 1) := by decide +kernel
theorem dX9_readsStage_145 : decode cX9_readsStage 145 = .ok (.ireturn, 1) := by decide +kernel
theorem dX9_readsStage_146 : decode cX9_readsStage 146 = .ok (.aload_n 0, 1) := by decide +kernel
theorem dX9_readsStage_147 : decode cX9_readsStage 147 = .ok (.getfield 16, 3) := by decide +kernel
theorem dX9_readsStage_150 : decode cX9_readsStage 150 = .ok (.bipush 42, 2) := by decide +kernel
theorem dX9_readsStage_152 : decode cX9_readsStage 152 = .ok (.iload_n 1, 1) := by decide +kernel
theorem dX9_readsStage_153 : decode cX9_readsStage 153 = .ok (.iadd, 1) := by decide +kernel
theorem dX9_readsStage_154 : decode cX9_readsStage 154 = .ok (.aload_n 0, 1) := by decide +kernel
theorem dX9_readsStage_155 : decode cX9_readsStage 155 = .ok (.getfield 82, 3) := by decide +kernel
theorem dX9_readsStage_158 : decode cX9_readsStage 158 = .ok (.iastore, 1) := by decide +kernel
theorem dX9_readsStage_159 : decode cX9_readsStage 159 = .ok (.aload_n 0, 1) := by decide +kernel
theorem dX9_readsStage_160 : decode cX9_readsStage 160 = .ok (.getfield 16, 3) := by decide +kernel
theorem dX9_readsStage_163 : decode cX9_readsStage 163 = .ok (.iconst 1, 1) := by decide +kernel
theorem dX9_readsStage_164 : decode cX9_readsStage 164 = .ok (.dup2, 1) := by decide +kernel
theorem dX9_readsStage_165 : decode cX9_readsStage 165 = .ok (.iaload, 1) := by decide +kernel
theorem dX9_readsStage_166 : decode cX9_readsStage 166 = .ok (.iconst 1, 1) := by decide +kernel
theorem dX9_readsStage_167 : decode cX9_readsStage 167 = .ok (.iadd, 1) := by decide +kernel
theorem dX9_readsStage_168 : decode cX9_readsStage 168 = .ok (.iastore, 1) := by decide +kernel
theorem dX9_readsStage_169 : decode cX9_readsStage 169 = .ok (.iconst 1, 1) := by decide +kernel
theorem dX9_readsStage_170 : decode cX9_readsStage 170 = .ok (.ireturn, 1) := by decide +kernel
theorem dX9_readsCaravan_0 : decode cX9_readsCaravan 0 = .ok (.aload_n 0, 1) := by decide +kernel
theorem dX9_readsCaravan_1 : decode cX9_readsCaravan 1 = .ok (.getfield 16, 3) := by decide +kernel
theorem dX9_readsCaravan_4 : decode cX9_readsCaravan 4 = .ok (.iconst 2, 1) := by decide +kernel
theorem dX9_readsCaravan_5 : decode cX9_readsCaravan 5 = .ok (.iaload, 1) := by decide +kernel
theorem dX9_readsCaravan_6 : decode cX9_readsCaravan 6 = .ok (.istore_n 1, 1) := by decide +kernel
theorem dX9_readsCaravan_7 : decode cX9_readsCaravan 7 = .ok (.iload_n 1, 1) := by decide +kernel
theorem dX9_readsCaravan_8 : decode cX9_readsCaravan 8 = .ok (.iconst 4, 1) := by decide +kernel
theorem dX9_readsCaravan_9 : decode cX9_readsCaravan 9 = .ok (.if_icmp .eq 19, 3) := by decide +kernel
theorem dX9_readsCaravan_12 : decode cX9_readsCaravan 12 = .ok (.aload_n 0, 1) := by decide +kernel
theorem dX9_readsCaravan_13 : decode cX9_readsCaravan 13 = .ok (.iconst 0, 1) := by decide +kernel
theorem dX9_readsCaravan_14 : decode cX9_readsCaravan 14 = .ok (.aload_n 0, 1) := by decide +kernel
theorem dX9_readsCaravan_15 : decode cX9_readsCaravan 15 = .ok (.getfield 16, 3) := by decide +kernel
theorem dX9_readsCaravan_18 : decode cX9_readsCaravan 18 = .ok (.iconst 0, 1) := by decide +kernel
theorem dX9_readsCaravan_19 : decode cX9_readsCaravan 19 = .ok (.iaload, 1) := by decide +kernel
theorem dX9_readsCaravan_20 : decode cX9_readsCaravan 20 = .ok (.iconst 1, 1) := by decide +kernel
theorem dX9_readsCaravan_21 : decode cX9_readsCaravan 21 = .ok (.isub, 1) := by decide +kernel
theorem dX9_readsCaravan_22 : decode cX9_readsCaravan 22 = .ok (.invokevirtual 88, 3) := by decide +kernel
theorem dX9_readsCaravan_25 : decode cX9_readsCaravan 25 = .ok (.ifCond .ne 5, 3) := by decide +kernel
theorem dX9_readsCaravan_28 : decode cX9_readsCaravan 28 = .ok (.iconst 0, 1) := by decide +kernel
theorem dX9_readsCaravan_29 : decode cX9_readsCaravan 29 = .ok (.ireturn, 1) := by decide +kernel
theorem dX9_readsCaravan_30 : decode cX9_readsCaravan 30 = .ok (.aload_n 0, 1) := by decide +kernel
theorem dX9_readsCaravan_31 : decode cX9_readsCaravan 31 = .ok (.getfield 19, 3) := by decide +kernel
theorem dX9_readsCaravan_34 : decode cX9_readsCaravan 34 = .ok (.iload_n 1, 1) := by decide +kernel
theorem dX9_readsCaravan_35 : decode cX9_readsCaravan 35 = .ok (.aload_n 0, 1) := by decide +kernel
theorem dX9_readsCaravan_36 : decode cX9_readsCaravan 36 = .ok (.getfield 82, 3) := by decide +kernel
theorem dX9_readsCaravan_39 : decode cX9_readsCaravan 39 = .ok (.iastore, 1) := by decide +kernel
theorem dX9_readsCaravan_40 : decode cX9_readsCaravan 40 = .ok (.aload_n 0, 1) := by decide +kernel
theorem dX9_readsCaravan_41 : decode cX9_readsCaravan 41 = .ok (.iconst 0, 1) := by decide +kernel
theorem dX9_readsCaravan_42 : decode cX9_readsCaravan 42 = .ok (.bipush 20, 2) := by decide +kernel
theorem dX9_readsCaravan_44 : decode cX9_readsCaravan 44 = .ok (.invokevirtual 88, 3) := by decide +kernel
theorem dX9_readsCaravan_47 : decode cX9_readsCaravan 47 = .ok (.ifCond .ne 5, 3) := by decide +kernel
theorem dX9_readsCaravan_50 : decode cX9_readsCaravan 50 = .ok (.iconst 0, 1) := by decide +kernel
theorem dX9_readsCaravan_51 : decode cX9_readsCaravan 51 = .ok (.ireturn, 1) := by decide +kernel
theorem dX9_readsCaravan_52 : decode cX9_readsCaravan 52 = .ok (.aload_n 0, 1) := by decide +kernel
theorem dX9_readsCaravan_53 : decode cX9_readsCaravan 53 = .ok (.getfield 19, 3) := by decide +kernel
theorem dX9_readsCaravan_56 : decode cX9_readsCaravan 56 = .ok (.iconst 4, 1) := by decide +kernel
theorem dX9_readsCaravan_57 : decode cX9_readsCaravan 57 = .ok (.iload_n 1, 1) := by decide +kernel
theorem dX9_readsCaravan_58 : decode cX9_readsCaravan 58 = .ok (.iadd, 1) := by decide +kernel
theorem dX9_readsCaravan_59 : decode cX9_readsCaravan 59 = .ok (.aload_n 0, 1) := by decide +kernel
theorem dX9_readsCaravan_60 : decode cX9_readsCaravan 60 = .ok (.getfield 82, 3) := by decide +kernel
theorem dX9_readsCaravan_63 : decode cX9_readsCaravan 63 = .ok (.iastore, 1) := by decide +kernel
theorem dX9_readsCaravan_64 : decode cX9_readsCaravan 64 = .ok (.aload_n 0, 1) := by decide +kernel
theorem dX9_readsCaravan_65 : decode cX9_readsCaravan 65 = .ok (.iconst 1, 1) := by decide +kernel
theorem dX9_readsCaravan_66 : decode cX9_readsCaravan 66 = .ok (.bipush 20, 2) := by decide +kernel
theorem dX9_readsCaravan_68 : decode cX9_readsCaravan 68 = .ok (.invokevirtual 88, 3) := by decide +kernel
theorem dX9_readsCaravan_71 : decode cX9_readsCaravan 71 = .ok (.ifCond .ne 5, 3) := by decide +kernel
theorem dX9_readsCaravan_74 : decode cX9_readsCaravan 74 = .ok (.iconst 0, 1) := by decide +kernel
theorem dX9_readsCaravan_75 : decode cX9_readsCaravan 75 = .ok (.ireturn, 1) := by decide +kernel
theorem dX9_readsCaravan_76 : decode cX9_readsCaravan 76 = .ok (.aload_n 0, 1) := by decide +kernel
theorem dX9_readsCaravan_77 : decode cX9_readsCaravan 77 = .ok (.getfield 16, 3) := by decide +kernel
theorem dX9_readsCaravan_80 : decode cX9_readsCaravan 80 = .ok (.bipush 50, 2) := by decide +kernel
theorem dX9_readsCaravan_82 : decode cX9_readsCaravan 82 = .ok (.iload_n 1, 1) := by decide +kernel
theorem dX9_readsCaravan_83 : decode cX9_readsCaravan 83 = .ok (.iadd, 1) := by decide +kernel
theorem dX9_readsCaravan_84 : decode cX9_readsCaravan 84 = .ok (.aload_n 0, 1) := by decide +kernel
theorem dX9_readsCaravan_85 : decode cX9_readsCaravan 85 = .ok (.getfield 82, 3) := by decide +kernel
theorem dX9_readsCaravan_88 : decode cX9_readsCaravan 88 = .ok (.iastore, 1) := by decide +kernel
theorem dX9_readsCaravan_89 : decode cX9_readsCaravan 89 = .ok (.aload_n 0, 1) := by decide +kernel
theorem dX9_readsCaravan_90 : decode cX9_readsCaravan 90 = .ok (.getfield 16, 3) := by decide +kernel
theorem dX9_readsCaravan_93 : decode cX9_readsCaravan 93 = .ok (.iconst 2, 1) := by decide +kernel
theorem dX9_readsCaravan_94 : decode cX9_readsCaravan 94 = .ok (.dup2, 1) := by decide +kernel
theorem dX9_readsCaravan_95 : decode cX9_readsCaravan 95 = .ok (.iaload, 1) := by decide +kernel
theorem dX9_readsCaravan_96 : decode cX9_readsCaravan 96 = .ok (.iconst 1, 1) := by decide +kernel
theorem dX9_readsCaravan_97 : decode cX9_readsCaravan 97 = .ok (.iadd, 1) := by decide +kernel
theorem dX9_readsCaravan_98 : decode cX9_readsCaravan 98 = .ok (.iastore, 1) := by decide +kernel
theorem dX9_readsCaravan_99 : decode cX9_readsCaravan 99 = .ok (.iconst 1, 1) := by decide +kernel
theorem dX9_readsCaravan_100 : decode cX9_readsCaravan 100 = .ok (.ireturn, 1) := by decide +kernel
theorem dX9_readsDebt_0 : decode cX9_readsDebt 0 = .ok (.aload_n 0, 1) := by decide +kernel
theorem dX9_readsDebt_1 : decode cX9_readsDebt 1 = .ok (.iconst 0, 1) := by decide +kernel
theorem dX9_readsDebt_2 : decode cX9_readsDebt 2 = .ok (.aload_n 0, 1) := by decide +kernel
theorem dX9_readsDebt_3 : decode cX9_readsDebt 3 = .ok (.getfield 16, 3) := by decide +kernel
theorem dX9_readsDebt_6 : decode cX9_readsDebt 6 = .ok (.iload_n 1, 1) := by decide +kernel
theorem dX9_readsDebt_7 : decode cX9_readsDebt 7 = .ok (.ifCond .eq 7, 3) := by decide +kernel
theorem dX9_readsDebt_10 : decode cX9_readsDebt 10 = .ok (.iconst 0, 1) := by decide +kernel
theorem dX9_readsDebt_11 : decode cX9_readsDebt 11 = .ok (.goto 4, 3) := by decide +kernel
theorem dX9_readsDebt_14 : decode cX9_readsDebt 14 = .ok (.iconst 2, 1) := by decide +kernel
theorem dX9_readsDebt_15 : decode cX9_readsDebt 15 = .ok (.iaload, 1) := by decide +kernel
theorem dX9_readsDebt_16 : decode cX9_readsDebt 16 = .ok (.iconst 1, 1) := by decide +kernel
theorem dX9_readsDebt_17 : decode cX9_readsDebt 17 = .ok (.isub, 1) := by decide +kernel
theorem dX9_readsDebt_18 : decode cX9_readsDebt 18 = .ok (.invokevirtual 88, 3) := by decide +kernel
theorem dX9_readsDebt_21 : decode cX9_readsDebt 21 = .ok (.ifCond .ne 5, 3) := by decide +kernel
theorem dX9_readsDebt_24 : decode cX9_readsDebt 24 = .ok (.iconst 0, 1) := by decide +kernel
theorem dX9_readsDebt_25 : decode cX9_readsDebt 25 = .ok (.ireturn, 1) := by decide +kernel
theorem dX9_readsDebt_26 : decode cX9_readsDebt 26 = .ok (.aload_n 0, 1) := by decide +kernel
theorem dX9_readsDebt_27 : decode cX9_readsDebt 27 = .ok (.getfield 82, 3) := by decide +kernel
theorem dX9_readsDebt_30 : decode cX9_readsDebt 30 = .ok (.istore_n 2, 1) := by decide +kernel
theorem dX9_readsDebt_31 : decode cX9_readsDebt 31 = .ok (.aload_n 0, 1) := by decide +kernel
theorem dX9_readsDebt_32 : decode cX9_readsDebt 32 = .ok (.iconst 0, 1) := by decide +kernel
theorem dX9_readsDebt_33 : decode cX9_readsDebt 33 = .ok (.aload_n 0, 1) := by decide +kernel
theorem dX9_readsDebt_34 : decode cX9_readsDebt 34 = .ok (.getfield 16, 3) := by decide +kernel
theorem dX9_readsDebt_37 : decode cX9_readsDebt 37 = .ok (.iconst 0, 1) := by decide +kernel
theorem dX9_readsDebt_38 : decode cX9_readsDebt 38 = .ok (.iaload, 1) := by decide +kernel
theorem dX9_readsDebt_39 : decode cX9_readsDebt 39 = .ok (.iconst 1, 1) := by decide +kernel
theorem dX9_readsDebt_40 : decode cX9_readsDebt 40 = .ok (.isub, 1) := by decide +kernel
theorem dX9_readsDebt_41 : decode cX9_readsDebt 41 = .ok (.invokevirtual 88, 3) := by decide +kernel
theorem dX9_readsDebt_44 : decode cX9_readsDebt 44 = .ok (.ifCond .eq 15, 3) := by decide +kernel
theorem dX9_readsDebt_47 : decode cX9_readsDebt 47 = .ok (.iload_n 1, 1) := by decide +kernel
theorem dX9_readsDebt_48 : decode cX9_readsDebt 48 = .ok (.ifCond .eq 13, 3) := by decide +kernel
theorem dX9_readsDebt_51 : decode cX9_readsDebt 51 = .ok (.aload_n 0, 1) := by decide +kernel
theorem dX9_readsDebt_52 : decode cX9_readsDebt 52 = .ok (.getfield 82, 3) := by decide +kernel
theorem dX9_readsDebt_55 : decode cX9_readsDebt 55 = .ok (.iload_n 2, 1) := by decide +kernel
theorem dX9_readsDebt_56 : decode cX9_readsDebt 56 = .ok (.if_icmp .ne 5, 3) := by decide +kernel
theorem dX9_readsDebt_59 : decode cX9_readsDebt 59 = .ok (.iconst 0, 1) := by decide +kernel
theorem dX9_readsDebt_60 : decode cX9_readsDebt 60 = .ok (.ireturn, 1) := by decide +kernel
theorem dX9_readsDebt_61 : decode cX9_readsDebt 61 = .ok (.iload_n 1, 1) := by decide +kernel
theorem dX9_readsDebt_62 : decode cX9_readsDebt 62 = .ok (.ifCond .eq 8, 3) := by decide +kernel
theorem dX9_readsDebt_65 : decode cX9_readsDebt 65 = .ok (.bipush 38, 2) := by decide +kernel
theorem dX9_readsDebt_67 : decode cX9_readsDebt 67 = .ok (.goto 5, 3) := by decide +kernel
theorem dX9_readsDebt_70 : decode cX9_readsDebt 70 = .ok (.bipush 14, 2) := by decide +kernel
theorem dX9_readsDebt_72 : decode cX9_readsDebt 72 = .ok (.bipush 6, 2) := by decide +kernel
theorem dX9_readsDebt_74 : decode cX9_readsDebt 74 = .ok (.iload_n 2, 1) := by decide +kernel
theorem dX9_readsDebt_75 : decode cX9_readsDebt 75 = .ok (.imul, 1) := by decide +kernel
theorem dX9_readsDebt_76 : decode cX9_readsDebt 76 = .ok (.iadd, 1) := by decide +kernel
theorem dX9_readsDebt_77 : decode cX9_readsDebt 77 = .ok (.aload_n 0, 1) := by decide +kernel
theorem dX9_readsDebt_78 : decode cX9_readsDebt 78 = .ok (.getfield 82, 3) := by decide +kernel
theorem dX9_readsDebt_81 : decode cX9_readsDebt 81 = .ok (.iadd, 1) := by decide +kernel
theorem dX9_readsDebt_82 : decode cX9_readsDebt 82 = .ok (.istore_n 3, 1) := by decide +kernel
theorem dX9_readsDebt_83 : decode cX9_readsDebt 83 = .ok (.aload_n 0, 1) := by decide +kernel
theorem dX9_readsDebt_84 : decode cX9_readsDebt 84 = .ok (.iconst 0, 1) := by decide +kernel
theorem dX9_readsDebt_85 : decode cX9_readsDebt 85 = .ok (.bipush 60, 2) := by decide +kernel
theorem dX9_readsDebt_87 : decode cX9_readsDebt 87 = .ok (.invokevirtual 88, 3) := by decide +kernel
theorem dX9_readsDebt_90 : decode cX9_readsDebt 90 = .ok (.istore 4, 2) := by decide +kernel
theorem dX9_readsDebt_92 : decode cX9_readsDebt 92 = .ok (.aload_n 0, 1) := by decide +kernel
theorem dX9_readsDebt_93 : decode cX9_readsDebt 93 = .ok (.getfield 19, 3) := by decide +kernel
theorem dX9_readsDebt_96 : decode cX9_readsDebt 96 = .ok (.iload_n 3, 1) := by decide +kernel
theorem dX9_readsDebt_97 : decode cX9_readsDebt 97 = .ok (.aload_n 0, 1) := by decide +kernel
theorem dX9_readsDebt_98 : decode cX9_readsDebt 98 = .ok (.getfield 82, 3) := by decide +kernel
theorem dX9_readsDebt_101 : decode cX9_readsDebt 101 = .ok (.iastore, 1) := by decide +kernel
theorem dX9_readsDebt_102 : decode cX9_readsDebt 102 = .ok (.iload 4, 2) := by decide +kernel
theorem dX9_readsDebt_104 : decode cX9_readsDebt 104 = .ok (.ireturn, 1) := by decide +kernel
theorem dX9_readsItem_0 : decode cX9_readsItem 0 = .ok (.aload_n 0, 1) := by decide +kernel
theorem dX9_readsItem_1 : decode cX9_readsItem 1 = .ok (.getfield 79, 3) := by decide +kernel
theorem dX9_readsItem_4 : decode cX9_readsItem 4 = .ok (.iconst 1, 1) := by decide +kernel
theorem dX9_readsItem_5 : decode cX9_readsItem 5 = .ok (.if_icmp .ne 10, 3) := by decide +kernel
theorem dX9_readsItem_8 : decode cX9_readsItem 8 = .ok (.aload_n 0, 1) := by decide +kernel
theorem dX9_readsItem_9 : decode cX9_readsItem 9 = .ok (.getfield 82, 3) := by decide +kernel
theorem dX9_readsItem_12 : decode cX9_readsItem 12 = .ok (.goto 4, 3) := by decide +kernel
theorem dX9_readsItem_15 : decode cX9_readsItem 15 = .ok (.iconst 0, 1) := by decide +kernel
theorem dX9_readsItem_16 : decode cX9_readsItem 16 = .ok (.istore_n 1, 1) := by decide +kernel
theorem dX9_readsItem_17 : decode cX9_readsItem 17 = .ok (.aload_n 0, 1) := by decide +kernel
theorem dX9_readsItem_18 : decode cX9_readsItem 18 = .ok (.getfield 16, 3) := by decide +kernel
theorem dX9_readsItem_21 : decode cX9_readsItem 21 = .ok (.iconst 0, 1) := by decide +kernel
theorem dX9_readsItem_22 : decode cX9_readsItem 22 = .ok (.iaload, 1) := by decide +kernel
theorem dX9_readsItem_23 : decode cX9_readsItem 23 = .ok (.istore_n 2, 1) := by decide +kernel
theorem dX9_readsItem_24 : decode cX9_readsItem 24 = .ok (.iload_n 1, 1) := by decide +kernel
theorem dX9_readsItem_25 : decode cX9_readsItem 25 = .ok (.lookupswitch 114 #[(99, 97), (100, 108), (107, 102), (115, 92), (119, 51)], 51) := by decide +kernel
theorem dX9_readsItem_76 : decode cX9_readsItem 76 = .ok (.iload_n 2, 1) := by decide +kernel
theorem dX9_readsItem_77 : decode cX9_readsItem 77 = .ok (.bipush 6, 2) := by decide +kernel
theorem dX9_readsItem_79 : decode cX9_readsItem 79 = .ok (.if_icmp .eq 12, 3) := by decide +kernel
theorem dX9_readsItem_82 : decode cX9_readsItem 82 = .ok (.aload_n 0, 1) := by decide +kernel
theorem dX9_readsItem_83 : decode cX9_readsItem 83 = .ok (.iconst 0, 1) := by decide +kernel
theorem dX9_readsItem_84 : decode cX9_readsItem 84 = .ok (.iconst 1, 1) := by decide +kernel
theorem dX9_readsItem_85 : decode cX9_readsItem 85 = .ok (.invokevirtual 88, 3) := by decide +kernel
theorem dX9_readsItem_88 : decode cX9_readsItem 88 = .ok (.ifCond .ne 5, 3) := by decide +kernel
theorem dX9_readsItem_91 : decode cX9_readsItem 91 = .ok (.iconst 0, 1) := by decide +kernel
theorem dX9_readsItem_92 : decode cX9_readsItem 92 = .ok (.ireturn, 1) := by decide +kernel
theorem dX9_readsItem_93 : decode cX9_readsItem 93 = .ok (.aload_n 0, 1) := by decide +kernel
theorem dX9_readsItem_94 : decode cX9_readsItem 94 = .ok (.getfield 16, 3) := by decide +kernel
theorem dX9_readsItem_97 : decode cX9_readsItem 97 = .ok (.iconst 4, 1) := by decide +kernel
theorem dX9_readsItem_98 : decode cX9_readsItem 98 = .ok (.iload_n 2, 1) := by decide +kernel
theorem dX9_readsItem_99 : decode cX9_readsItem 99 = .ok (.iadd, 1) := by decide +kernel
theorem dX9_readsItem_100 : decode cX9_readsItem 100 = .ok (.aload_n 0, 1) := by decide +kernel
theorem dX9_readsItem_101 : decode cX9_readsItem 101 = .ok (.getfield 82, 3) := by decide +kernel
theorem dX9_readsItem_104 : decode cX9_readsItem 104 = .ok (.iastore, 1) := by decide +kernel
theorem dX9_readsItem_105 : decode cX9_readsItem 105 = .ok (.aload_n 0, 1) := by decide +kernel
theorem dX9_readsItem_106 : decode cX9_readsItem 106 = .ok (.getfield 16, 3) := by decide +kernel
theorem dX9_readsItem_109 : decode cX9_readsItem 109 = .ok (.iconst 0, 1) := by decide +kernel
theorem dX9_readsItem_110 : decode cX9_readsItem 110 = .ok (.dup2, 1) := by decide +kernel
theorem dX9_readsItem_111 : decode cX9_readsItem 111 = .ok (.iaload, 1) := by decide +kernel
theorem dX9_readsItem_112 : decode cX9_readsItem 112 = .ok (.iconst 1, 1) := by decide +kernel
theorem dX9_readsItem_113 : decode cX9_readsItem 113 = .ok (.iadd, 1) := by decide +kernel
theorem dX9_readsItem_114 : decode cX9_readsItem 114 = .ok (.iastore, 1) := by decide +kernel
theorem dX9_readsItem_115 : decode cX9_readsItem 115 = .ok (.iconst 1, 1) := by decide +kernel
theorem dX9_readsItem_116 : decode cX9_readsItem 116 = .ok (.ireturn, 1) := by decide +kernel
theorem dX9_readsItem_117 : decode cX9_readsItem 117 = .ok (.aload_n 0, 1) := by decide +kernel
theorem dX9_readsItem_118 : decode cX9_readsItem 118 = .ok (.invokevirtual 92, 3) := by decide +kernel
theorem dX9_readsItem_121 : decode cX9_readsItem 121 = .ok (.ireturn, 1) := by decide +kernel
theorem dX9_readsItem_122 : decode cX9_readsItem 122 = .ok (.aload_n 0, 1) := by decide +kernel
theorem dX9_readsItem_123 : decode cX9_readsItem 123 = .ok (.invokevirtual 95, 3) := by decide +kernel
theorem dX9_readsItem_126 : decode cX9_readsItem 126 = .ok (.ireturn, 1) := by decide +kernel
theorem dX9_readsItem_127 : decode cX9_readsItem 127 = .ok (.aload_n 0, 1) := by decide +kernel
theorem dX9_readsItem_128 : decode cX9_readsItem 128 = .ok (.iconst 0, 1) := by decide +kernel
theorem dX9_readsItem_129 : decode cX9_readsItem 129 = .ok (.invokevirtual 98, 3) := by decide +kernel
theorem dX9_readsItem_132 : decode cX9_readsItem 132 = .ok (.ireturn, 1) := by decide +kernel
theorem dX9_readsItem_133 : decode cX9_readsItem 133 = .ok (.aload_n 0, 1) := by decide +kernel
theorem dX9_readsItem_134 : decode cX9_readsItem 134 = .ok (.iconst 1, 1) := by decide +kernel
theorem dX9_readsItem_135 : decode cX9_readsItem 135 = .ok (.invokevirtual 98, 3) := by decide +kernel
theorem dX9_readsItem_138 : decode cX9_readsItem 138 = .ok (.ireturn, 1) := by decide +kernel
theorem dX9_readsItem_139 : decode cX9_readsItem 139 = .ok (.iconst 0, 1) := by decide +kernel
theorem dX9_readsItem_140 : decode cX9_readsItem 140 = .ok (.ireturn, 1) := by decide +kernel
theorem dX9_reads_0 : decode cX9_reads 0 = .ok (.iconst 0, 1) := by decide +kernel
theorem dX9_reads_1 : decode cX9_reads 1 = .ok (.istore_n 1, 1) := by decide +kernel
theorem dX9_reads_2 : decode cX9_reads 2 = .ok (.iload_n 1, 1) := by decide +kernel
theorem dX9_reads_3 : decode cX9_reads 3 = .ok (.bipush 54, 2) := by decide +kernel
theorem dX9_reads_5 : decode cX9_reads 5 = .ok (.if_icmp .ge 16, 3) := by decide +kernel
theorem dX9_reads_8 : decode cX9_reads 8 = .ok (.aload_n 0, 1) := by decide +kernel
theorem dX9_reads_9 : decode cX9_reads 9 = .ok (.getfield 16, 3) := by decide +kernel
theorem dX9_reads_12 : decode cX9_reads 12 = .ok (.iload_n 1, 1) := by decide +kernel
theorem dX9_reads_13 : decode cX9_reads 13 = .ok (.iconst 0, 1) := by decide +kernel
theorem dX9_reads_14 : decode cX9_reads 14 = .ok (.iastore, 1) := by decide +kernel
theorem dX9_reads_15 : decode cX9_reads 15 = .ok (.iinc 1 1, 3) := by decide +kernel
theorem dX9_reads_18 : decode cX9_reads 18 = .ok (.goto (-16), 3) := by decide +kernel
theorem dX9_reads_21 : decode cX9_reads 21 = .ok (.iconst 0, 1) := by decide +kernel
theorem dX9_reads_22 : decode cX9_reads 22 = .ok (.istore_n 1, 1) := by decide +kernel
theorem dX9_reads_23 : decode cX9_reads 23 = .ok (.iload_n 1, 1) := by decide +kernel
theorem dX9_reads_24 : decode cX9_reads 24 = .ok (.bipush 74, 2) := by decide +kernel
theorem dX9_reads_26 : decode cX9_reads 26 = .ok (.if_icmp .ge 16, 3) := by decide +kernel
theorem dX9_reads_29 : decode cX9_reads 29 = .ok (.aload_n 0, 1) := by decide +kernel
theorem dX9_reads_30 : decode cX9_reads 30 = .ok (.getfield 19, 3) := by decide +kernel
theorem dX9_reads_33 : decode cX9_reads 33 = .ok (.iload_n 1, 1) := by decide +kernel
theorem dX9_reads_34 : decode cX9_reads 34 = .ok (.iconst 0, 1) := by decide +kernel
theorem dX9_reads_35 : decode cX9_reads 35 = .ok (.iastore, 1) := by decide +kernel
theorem dX9_reads_36 : decode cX9_reads 36 = .ok (.iinc 1 1, 3) := by decide +kernel
theorem dX9_reads_39 : decode cX9_reads 39 = .ok (.goto (-16), 3) := by decide +kernel
theorem dX9_reads_42 : decode cX9_reads 42 = .ok (.aload_n 0, 1) := by decide +kernel
theorem dX9_reads_43 : decode cX9_reads 43 = .ok (.iconst 0, 1) := by decide +kernel
theorem dX9_reads_44 : decode cX9_reads 44 = .ok (.putfield 62, 3) := by decide +kernel
theorem dX9_reads_47 : decode cX9_reads 47 = .ok (.aload_n 0, 1) := by decide +kernel
theorem dX9_reads_48 : decode cX9_reads 48 = .ok (.invokevirtual 85, 3) := by decide +kernel
theorem dX9_reads_51 : decode cX9_reads 51 = .ok (.aload_n 0, 1) := by decide +kernel
theorem dX9_reads_52 : decode cX9_reads 52 = .ok (.getfield 79, 3) := by decide +kernel
theorem dX9_reads_55 : decode cX9_reads 55 = .ok (.ifCond .eq 43, 3) := by decide +kernel
theorem dX9_reads_58 : decode cX9_reads 58 = .ok (.aload_n 0, 1) := by decide +kernel
theorem dX9_reads_59 : decode cX9_reads 59 = .ok (.invokevirtual 102, 3) := by decide +kernel
theorem dX9_reads_62 : decode cX9_reads 62 = .ok (.ifCond .ne 5, 3) := by decide +kernel
theorem dX9_reads_65 : decode cX9_reads 65 = .ok (.iconst 0, 1) := by decide +kernel
theorem dX9_reads_66 : decode cX9_reads 66 = .ok (.ireturn, 1) := by decide +kernel
theorem dX9_reads_67 : decode cX9_reads 67 = .ok (.aload_n 0, 1) := by decide +kernel
theorem dX9_reads_68 : decode cX9_reads 68 = .ok (.invokevirtual 85, 3) := by decide +kernel
theorem dX9_reads_71 : decode cX9_reads 71 = .ok (.aload_n 0, 1) := by decide +kernel
theorem dX9_reads_72 : decode cX9_reads 72 = .ok (.getfield 79, 3) := by decide +kernel
theorem dX9_reads_75 : decode cX9_reads 75 = .ok (.iconst 3, 1) := by decide +kernel
theorem dX9_reads_76 : decode cX9_reads 76 = .ok (.if_icmp .eq 5, 3) := by decide +kernel
theorem dX9_reads_79 : decode cX9_reads 79 = .ok (.iconst 0, 1) := by decide +kernel
theorem dX9_reads_80 : decode cX9_reads 80 = .ok (.ireturn, 1) := by decide +kernel
theorem dX9_reads_81 : decode cX9_reads 81 = .ok (.aload_n 0, 1) := by decide +kernel
theorem dX9_reads_82 : decode cX9_reads 82 = .ok (.getfield 16, 3) := by decide +kernel
theorem dX9_reads_85 : decode cX9_reads 85 = .ok (.iconst 3, 1) := by decide +kernel
theorem dX9_reads_86 : decode cX9_reads 86 = .ok (.dup2, 1) := by decide +kernel
theorem dX9_reads_87 : decode cX9_reads 87 = .ok (.iaload, 1) := by decide +kernel
theorem dX9_reads_88 : decode cX9_reads 88 = .ok (.iconst 1, 1) := by decide +kernel
theorem dX9_reads_89 : decode cX9_reads 89 = .ok (.iadd, 1) := by decide +kernel
theorem dX9_reads_90 : decode cX9_reads 90 = .ok (.iastore, 1) := by decide +kernel
theorem dX9_reads_91 : decode cX9_reads 91 = .ok (.aload_n 0, 1) := by decide +kernel
theorem dX9_reads_92 : decode cX9_reads 92 = .ok (.invokevirtual 85, 3) := by decide +kernel
theorem dX9_reads_95 : decode cX9_reads 95 = .ok (.goto (-44), 3) := by decide +kernel
theorem dX9_reads_98 : decode cX9_reads 98 = .ok (.iconst 1, 1) := by decide +kernel
theorem dX9_reads_99 : decode cX9_reads 99 = .ok (.ireturn, 1) := by decide +kernel
theorem dX9_begins_0 : decode cX9_begins 0 = .ok (.iconst 0, 1) := by decide +kernel
theorem dX9_begins_1 : decode cX9_begins 1 = .ok (.istore_n 1, 1) := by decide +kernel
theorem dX9_begins_2 : decode cX9_begins 2 = .ok (.iload_n 1, 1) := by decide +kernel
theorem dX9_begins_3 : decode cX9_begins 3 = .ok (.bipush 54, 2) := by decide +kernel
theorem dX9_begins_5 : decode cX9_begins 5 = .ok (.if_icmp .ge 21, 3) := by decide +kernel
theorem dX9_begins_8 : decode cX9_begins 8 = .ok (.aload_n 0, 1) := by decide +kernel
theorem dX9_begins_9 : decode cX9_begins 9 = .ok (.getfield 13, 3) := by decide +kernel
theorem dX9_begins_12 : decode cX9_begins 12 = .ok (.iload_n 1, 1) := by decide +kernel
theorem dX9_begins_13 : decode cX9_begins 13 = .ok (.aload_n 0, 1) := by decide +kernel
theorem dX9_begins_14 : decode cX9_begins 14 = .ok (.getfield 16, 3) := by decide +kernel
theorem dX9_begins_17 : decode cX9_begins 17 = .ok (.iload_n 1, 1) := by decide +kernel
theorem dX9_begins_18 : decode cX9_begins 18 = .ok (.iaload, 1) := by decide +kernel
theorem dX9_begins_19 : decode cX9_begins 19 = .ok (.iastore, 1) := by decide +kernel
theorem dX9_begins_20 : decode cX9_begins 20 = .ok (.iinc 1 1, 3) := by decide +kernel
theorem dX9_begins_23 : decode cX9_begins 23 = .ok (.goto (-21), 3) := by decide +kernel
theorem dX9_begins_26 : decode cX9_begins 26 = .ok (.iconst 0, 1) := by decide +kernel
theorem dX9_begins_27 : decode cX9_begins 27 = .ok (.istore_n 1, 1) := by decide +kernel
theorem dX9_begins_28 : decode cX9_begins 28 = .ok (.iload_n 1, 1) := by decide +kernel
theorem dX9_begins_29 : decode cX9_begins 29 = .ok (.bipush 74, 2) := by decide +kernel
theorem dX9_begins_31 : decode cX9_begins 31 = .ok (.if_icmp .ge 21, 3) := by decide +kernel
theorem dX9_begins_34 : decode cX9_begins 34 = .ok (.aload_n 0, 1) := by decide +kernel
theorem dX9_begins_35 : decode cX9_begins 35 = .ok (.getfield 22, 3) := by decide +kernel
theorem dX9_begins_38 : decode cX9_begins 38 = .ok (.iload_n 1, 1) := by decide +kernel
theorem dX9_begins_39 : decode cX9_begins 39 = .ok (.aload_n 0, 1) := by decide +kernel
theorem dX9_begins_40 : decode cX9_begins 40 = .ok (.getfield 19, 3) := by decide +kernel
theorem dX9_begins_43 : decode cX9_begins 43 = .ok (.iload_n 1, 1) := by decide +kernel
theorem dX9_begins_44 : decode cX9_begins 44 = .ok (.iaload, 1) := by decide +kernel
theorem dX9_begins_45 : decode cX9_begins 45 = .ok (.iastore, 1) := by decide +kernel
theorem dX9_begins_46 : decode cX9_begins 46 = .ok (.iinc 1 1, 3) := by decide +kernel
theorem dX9_begins_49 : decode cX9_begins 49 = .ok (.goto (-21), 3) := by decide +kernel
theorem dX9_begins_52 : decode cX9_begins 52 = .ok (.aload_n 0, 1) := by decide +kernel
theorem dX9_begins_53 : decode cX9_begins 53 = .ok (.getfield 22, 3) := by decide +kernel
theorem dX9_begins_56 : decode cX9_begins 56 = .ok (.bipush 12, 2) := by decide +kernel
theorem dX9_begins_58 : decode cX9_begins 58 = .ok (.iconst 1, 1) := by decide +kernel
theorem dX9_begins_59 : decode cX9_begins 59 = .ok (.aload_n 0, 1) := by decide +kernel
theorem dX9_begins_60 : decode cX9_begins 60 = .ok (.getfield 13, 3) := by decide +kernel
theorem dX9_begins_63 : decode cX9_begins 63 = .ok (.iconst 2, 1) := by decide +kernel
theorem dX9_begins_64 : decode cX9_begins 64 = .ok (.iaload, 1) := by decide +kernel
theorem dX9_begins_65 : decode cX9_begins 65 = .ok (.ishl, 1) := by decide +kernel
theorem dX9_begins_66 : decode cX9_begins 66 = .ok (.iconst 1, 1) := by decide +kernel
theorem dX9_begins_67 : decode cX9_begins 67 = .ok (.isub, 1) := by decide +kernel
theorem dX9_begins_68 : decode cX9_begins 68 = .ok (.iastore, 1) := by decide +kernel
theorem dX9_begins_69 : decode cX9_begins 69 = .ok (.aload_n 0, 1) := by decide +kernel
theorem dX9_begins_70 : decode cX9_begins 70 = .ok (.getfield 22, 3) := by decide +kernel
theorem dX9_begins_73 : decode cX9_begins 73 = .ok (.bipush 74, 2) := by decide +kernel
theorem dX9_begins_75 : decode cX9_begins 75 = .ok (.iconst 0, 1) := by decide +kernel
theorem dX9_begins_76 : decode cX9_begins 76 = .ok (.iastore, 1) := by decide +kernel
theorem dX9_begins_77 : decode cX9_begins 77 = .ok (.aload_n 0, 1) := by decide +kernel
theorem dX9_begins_78 : decode cX9_begins 78 = .ok (.iconst 0, 1) := by decide +kernel
theorem dX9_begins_79 : decode cX9_begins 79 = .ok (.putfield 105, 3) := by decide +kernel
theorem dX9_begins_82 : decode cX9_begins 82 = .ok (.aload_n 0, 1) := by decide +kernel
theorem dX9_begins_83 : decode cX9_begins 83 = .ok (.getfield 28, 3) := by decide +kernel
theorem dX9_begins_86 : decode cX9_begins 86 = .ok (.iconst 0, 1) := by decide +kernel
theorem dX9_begins_87 : decode cX9_begins 87 = .ok (.iconst 0, 1) := by decide +kernel
theorem dX9_begins_88 : decode cX9_begins 88 = .ok (.bastore, 1) := by decide +kernel
theorem dX9_begins_89 : decode cX9_begins 89 = .ok (.aload_n 0, 1) := by decide +kernel
theorem dX9_begins_90 : decode cX9_begins 90 = .ok (.getfield 28, 3) := by decide +kernel
theorem dX9_begins_93 : decode cX9_begins 93 = .ok (.iconst 1, 1) := by decide +kernel
theorem dX9_begins_94 : decode cX9_begins 94 = .ok (.iconst 0, 1) := by decide +kernel
theorem dX9_begins_95 : decode cX9_begins 95 = .ok (.bastore, 1) := by decide +kernel
theorem dX9_begins_96 : decode cX9_begins 96 = .ok (.return_, 1) := by decide +kernel
theorem dX9_road_0 : decode cX9_road 0 = .ok (.aload_n 0, 1) := by decide +kernel
theorem dX9_road_1 : decode cX9_road 1 = .ok (.invokevirtual 47, 3) := by decide +kernel
theorem dX9_road_4 : decode cX9_road 4 = .ok (.ifCond .ne 11, 3) := by decide +kernel
theorem dX9_road_7 : decode cX9_road 7 = .ok (.bipush (-10), 2) := by decide +kernel
theorem dX9_road_9 : decode cX9_road 9 = .ok (.aload_n 0, 1) := by decide +kernel
theorem dX9_road_10 : decode cX9_road 10 = .ok (.getfield 69, 3) := by decide +kernel
theorem dX9_road_13 : decode cX9_road 13 = .ok (.isub, 1) := by decide +kernel
theorem dX9_road_14 : decode cX9_road 14 = .ok (.ireturn, 1) := by decide +kernel
theorem dX9_road_15 : decode cX9_road 15 = .ok (.aload_n 0, 1) := by decide +kernel
theorem dX9_road_16 : decode cX9_road 16 = .ok (.invokevirtual 51, 3) := by decide +kernel
theorem dX9_road_19 : decode cX9_road 19 = .ok (.aload_n 0, 1) := by decide +kernel
theorem dX9_road_20 : decode cX9_road 20 = .ok (.iconst 0, 1) := by decide +kernel
theorem dX9_road_21 : decode cX9_road 21 = .ok (.putfield 58, 3) := by decide +kernel
theorem dX9_road_24 : decode cX9_road 24 = .ok (.aload_n 0, 1) := by decide +kernel
theorem dX9_road_25 : decode cX9_road 25 = .ok (.getfield 13, 3) := by decide +kernel
theorem dX9_road_28 : decode cX9_road 28 = .ok (.iconst 3, 1) := by decide +kernel
theorem dX9_road_29 : decode cX9_road 29 = .ok (.iaload, 1) := by decide +kernel
theorem dX9_road_30 : decode cX9_road 30 = .ok (.ireturn, 1) := by decide +kernel
theorem dX9_stage_0 : decode cX9_stage 0 = .ok (.aload_n 0, 1) := by decide +kernel
theorem dX9_stage_1 : decode cX9_stage 1 = .ok (.iload_n 1, 1) := by decide +kernel
theorem dX9_stage_2 : decode cX9_stage 2 = .ok (.invokevirtual 108, 3) := by decide +kernel
theorem dX9_stage_5 : decode cX9_stage 5 = .ok (.ifCond .ne 5, 3) := by decide +kernel
theorem dX9_stage_8 : decode cX9_stage 8 = .ok (.iconst (-1), 1) := by decide +kernel
theorem dX9_stage_9 : decode cX9_stage 9 = .ok (.ireturn, 1) := by decide +kernel
theorem dX9_stage_10 : decode cX9_stage 10 = .ok (.iload_n 2, 1) := by decide +kernel
theorem dX9_stage_11 : decode cX9_stage 11 = .ok (.tableswitch 83 0 4 #[33, 43, 53, 63, 73], 33) := by decide +kernel
theorem dX9_stage_44 : decode cX9_stage 44 = .ok (.aload_n 0, 1) := by decide +kernel
theorem dX9_stage_45 : decode cX9_stage 45 = .ok (.getfield 13, 3) := by decide +kernel
theorem dX9_stage_48 : decode cX9_stage 48 = .ok (.bipush 10, 2) := by decide +kernel
theorem dX9_stage_50 : decode cX9_stage 50 = .ok (.iload_n 1, 1) := by decide +kernel
theorem dX9_stage_51 : decode cX9_stage 51 = .ok (.iadd, 1) := by decide +kernel
theorem dX9_stage_52 : decode cX9_stage 52 = .ok (.iaload, 1) := by decide +kernel
theorem dX9_stage_53 : decode cX9_stage 53 = .ok (.ireturn, 1) := by decide +kernel
theorem dX9_stage_54 : decode cX9_stage 54 = .ok (.aload_n 0, 1) := by decide +kernel
theorem dX9_stage_55 : decode cX9_stage 55 = .ok (.getfield 13, 3) := by decide +kernel
theorem dX9_stage_58 : decode cX9_stage 58 = .ok (.bipush 18, 2) := by decide +kernel
theorem dX9_stage_60 : decode cX9_stage 60 = .ok (.iload_n 1, 1) := by decide +kernel
theorem dX9_stage_61 : decode cX9_stage 61 = .ok (.iadd, 1) := by decide +kernel
theorem dX9_stage_62 : decode cX9_stage 62 = .ok (.iaload, 1) := by decide +kernel
theorem dX9_stage_63 : decode cX9_stage 63 = .ok (.ireturn, 1) := by decide +kernel
theorem dX9_stage_64 : decode cX9_stage 64 = .ok (.aload_n 0, 1) := by decide +kernel
theorem dX9_stage_65 : decode cX9_stage 65 = .ok (.getfield 13, 3) := by decide +kernel
theorem dX9_stage_68 : decode cX9_stage 68 = .ok (.bipush 26, 2) := by decide +kernel
theorem dX9_stage_70 : decode cX9_stage 70 = .ok (.iload_n 1, 1) := by decide +kernel
theorem dX9_stage_71 : decode cX9_stage 71 = .ok (.iadd, 1) := by decide +kernel
theorem dX9_stage_72 : decode cX9_stage 72 = .ok (.iaload, 1) := by decide +kernel
theorem dX9_stage_73 : decode cX9_stage 73 = .ok (.ireturn, 1) := by decide +kernel
theorem dX9_stage_74 : decode cX9_stage 74 = .ok (.aload_n 0, 1) := by decide +kernel
theorem dX9_stage_75 : decode cX9_stage 75 = .ok (.getfield 13, 3) := by decide +kernel
theorem dX9_stage_78 : decode cX9_stage 78 = .ok (.bipush 34, 2) := by decide +kernel
theorem dX9_stage_80 : decode cX9_stage 80 = .ok (.iload_n 1, 1) := by decide +kernel
theorem dX9_stage_81 : decode cX9_stage 81 = .ok (.iadd, 1) := by decide +kernel
theorem dX9_stage_82 : decode cX9_stage 82 = .ok (.iaload, 1) := by decide +kernel
theorem dX9_stage_83 : decode cX9_stage 83 = .ok (.ireturn, 1) := by decide +kernel
theorem dX9_stage_84 : decode cX9_stage 84 = .ok (.aload_n 0, 1) := by decide +kernel
theorem dX9_stage_85 : decode cX9_stage 85 = .ok (.getfield 13, 3) := by decide +kernel
theorem dX9_stage_88 : decode cX9_stage 88 = .ok (.bipush 42, 2) := by decide +kernel
theorem dX9_stage_90 : decode cX9_stage 90 = .ok (.iload_n 1, 1) := by decide +kernel
theorem dX9_stage_91 : decode cX9_stage 91 = .ok (.iadd, 1) := by decide +kernel
theorem dX9_stage_92 : decode cX9_stage 92 = .ok (.iaload, 1) := by decide +kernel
theorem dX9_stage_93 : decode cX9_stage 93 = .ok (.ireturn, 1) := by decide +kernel
theorem dX9_stage_94 : decode cX9_stage 94 = .ok (.iconst (-1), 1) := by decide +kernel
theorem dX9_stage_95 : decode cX9_stage 95 = .ok (.ireturn, 1) := by decide +kernel
theorem dX9_isAlive_0 : decode cX9_isAlive 0 = .ok (.aload_n 0, 1) := by decide +kernel
theorem dX9_isAlive_1 : decode cX9_isAlive 1 = .ok (.getfield 22, 3) := by decide +kernel
theorem dX9_isAlive_4 : decode cX9_isAlive 4 = .ok (.bipush 12, 2) := by decide +kernel
theorem dX9_isAlive_6 : decode cX9_isAlive 6 = .ok (.iaload, 1) := by decide +kernel
theorem dX9_isAlive_7 : decode cX9_isAlive 7 = .ok (.iload_n 1, 1) := by decide +kernel
theorem dX9_isAlive_8 : decode cX9_isAlive 8 = .ok (.invokestatic 111, 3) := by decide +kernel
theorem dX9_isAlive_11 : decode cX9_isAlive 11 = .ok (.ireturn, 1) := by decide +kernel
theorem dX9_knotsOf_0 : decode cX9_knotsOf 0 = .ok (.iconst 0, 1) := by decide +kernel
theorem dX9_knotsOf_1 : decode cX9_knotsOf 1 = .ok (.istore_n 2, 1) := by decide +kernel
theorem dX9_knotsOf_2 : decode cX9_knotsOf 2 = .ok (.iconst 0, 1) := by decide +kernel
theorem dX9_knotsOf_3 : decode cX9_knotsOf 3 = .ok (.istore_n 3, 1) := by decide +kernel
theorem dX9_knotsOf_4 : decode cX9_knotsOf 4 = .ok (.iload_n 3, 1) := by decide +kernel
theorem dX9_knotsOf_5 : decode cX9_knotsOf 5 = .ok (.bipush 6, 2) := by decide +kernel
theorem dX9_knotsOf_7 : decode cX9_knotsOf 7 = .ok (.if_icmp .ge 26, 3) := by decide +kernel
theorem dX9_knotsOf_10 : decode cX9_knotsOf 10 = .ok (.iload_n 2, 1) := by decide +kernel
theorem dX9_knotsOf_11 : decode cX9_knotsOf 11 = .ok (.aload_n 0, 1) := by decide +kernel
theorem dX9_knotsOf_12 : decode cX9_knotsOf 12 = .ok (.getfield 22, 3) := by decide +kernel
theorem dX9_knotsOf_15 : decode cX9_knotsOf 15 = .ok (.bipush 14, 2) := by decide +kernel
theorem dX9_knotsOf_17 : decode cX9_knotsOf 17 = .ok (.bipush 6, 2) := by decide +kernel
theorem dX9_knotsOf_19 : decode cX9_knotsOf 19 = .ok (.iload_n 1, 1) := by decide +kernel
theorem dX9_knotsOf_20 : decode cX9_knotsOf 20 = .ok (.imul, 1) := by decide +kernel
theorem dX9_knotsOf_21 : decode cX9_knotsOf 21 = .ok (.iadd, 1) := by decide +kernel
theorem dX9_knotsOf_22 : decode cX9_knotsOf 22 = .ok (.iload_n 3, 1) := by decide +kernel
theorem dX9_knotsOf_23 : decode cX9_knotsOf 23 = .ok (.iadd, 1) := by decide +kernel
theorem dX9_knotsOf_24 : decode cX9_knotsOf 24 = .ok (.iaload, 1) := by decide +kernel
theorem dX9_knotsOf_25 : decode cX9_knotsOf 25 = .ok (.iadd, 1) := by decide +kernel
theorem dX9_knotsOf_26 : decode cX9_knotsOf 26 = .ok (.istore_n 2, 1) := by decide +kernel
theorem dX9_knotsOf_27 : decode cX9_knotsOf 27 = .ok (.iinc 3 1, 3) := by decide +kernel
theorem dX9_knotsOf_30 : decode cX9_knotsOf 30 = .ok (.goto (-26), 3) := by decide +kernel
theorem dX9_knotsOf_33 : decode cX9_knotsOf 33 = .ok (.iload_n 2, 1) := by decide +kernel
theorem dX9_knotsOf_34 : decode cX9_knotsOf 34 = .ok (.ireturn, 1) := by decide +kernel
theorem dX9_caravan_0 : decode cX9_caravan 0 = .ok (.aload_n 0, 1) := by decide +kernel
theorem dX9_caravan_1 : decode cX9_caravan 1 = .ok (.iload_n 1, 1) := by decide +kernel
theorem dX9_caravan_2 : decode cX9_caravan 2 = .ok (.invokevirtual 114, 3) := by decide +kernel
theorem dX9_caravan_5 : decode cX9_caravan 5 = .ok (.ifCond .ne 5, 3) := by decide +kernel
theorem dX9_caravan_8 : decode cX9_caravan 8 = .ok (.iconst (-1), 1) := by decide +kernel
theorem dX9_caravan_9 : decode cX9_caravan 9 = .ok (.ireturn, 1) := by decide +kernel
theorem dX9_caravan_10 : decode cX9_caravan 10 = .ok (.iload_n 2, 1) := by decide +kernel
theorem dX9_caravan_11 : decode cX9_caravan 11 = .ok (.tableswitch 93 0 5 #[37, 44, 53, 63, 73, 87], 37) := by decide +kernel
theorem dX9_caravan_48 : decode cX9_caravan 48 = .ok (.aload_n 0, 1) := by decide +kernel
theorem dX9_caravan_49 : decode cX9_caravan 49 = .ok (.getfield 22, 3) := by decide +kernel
theorem dX9_caravan_52 : decode cX9_caravan 52 = .ok (.iload_n 1, 1) := by decide +kernel
theorem dX9_caravan_53 : decode cX9_caravan 53 = .ok (.iaload, 1) := by decide +kernel
theorem dX9_caravan_54 : decode cX9_caravan 54 = .ok (.ireturn, 1) := by decide +kernel
theorem dX9_caravan_55 : decode cX9_caravan 55 = .ok (.aload_n 0, 1) := by decide +kernel
theorem dX9_caravan_56 : decode cX9_caravan 56 = .ok (.getfield 22, 3) := by decide +kernel
theorem dX9_caravan_59 : decode cX9_caravan 59 = .ok (.iconst 4, 1) := by decide +kernel
theorem dX9_caravan_60 : decode cX9_caravan 60 = .ok (.iload_n 1, 1) := by decide +kernel
theorem dX9_caravan_61 : decode cX9_caravan 61 = .ok (.iadd, 1) := by decide +kernel
theorem dX9_caravan_62 : decode cX9_caravan 62 = .ok (.iaload, 1) := by decide +kernel
theorem dX9_caravan_63 : decode cX9_caravan 63 = .ok (.ireturn, 1) := by decide +kernel
theorem dX9_caravan_64 : decode cX9_caravan 64 = .ok (.aload_n 0, 1) := by decide +kernel
theorem dX9_caravan_65 : decode cX9_caravan 65 = .ok (.getfield 13, 3) := by decide +kernel
theorem dX9_caravan_68 : decode cX9_caravan 68 = .ok (.bipush 50, 2) := by decide +kernel
theorem dX9_caravan_70 : decode cX9_caravan 70 = .ok (.iload_n 1, 1) := by decide +kernel
theorem dX9_caravan_71 : decode cX9_caravan 71 = .ok (.iadd, 1) := by decide +kernel
theorem dX9_caravan_72 : decode cX9_caravan 72 = .ok (.iaload, 1) := by decide +kernel
theorem dX9_caravan_73 : decode cX9_caravan 73 = .ok (.ireturn, 1) := by decide +kernel
theorem dX9_caravan_74 : decode cX9_caravan 74 = .ok (.aload_n 0, 1) := by decide +kernel
theorem dX9_caravan_75 : decode cX9_caravan 75 = .ok (.getfield 22, 3) := by decide +kernel
theorem dX9_caravan_78 : decode cX9_caravan 78 = .ok (.bipush 8, 2) := by decide +kernel
theorem dX9_caravan_80 : decode cX9_caravan 80 = .ok (.iload_n 1, 1) := by decide +kernel
theorem dX9_caravan_81 : decode cX9_caravan 81 = .ok (.iadd, 1) := by decide +kernel
theorem dX9_caravan_82 : decode cX9_caravan 82 = .ok (.iaload, 1) := by decide +kernel
theorem dX9_caravan_83 : decode cX9_caravan 83 = .ok (.ireturn, 1) := by decide +kernel
theorem dX9_caravan_84 : decode cX9_caravan 84 = .ok (.aload_n 0, 1) := by decide +kernel
theorem dX9_caravan_85 : decode cX9_caravan 85 = .ok (.iload_n 1, 1) := by decide +kernel
theorem dX9_caravan_86 : decode cX9_caravan 86 = .ok (.invokevirtual 117, 3) := by decide +kernel
theorem dX9_caravan_89 : decode cX9_caravan 89 = .ok (.ifCond .eq 7, 3) := by decide +kernel
theorem dX9_caravan_92 : decode cX9_caravan 92 = .ok (.iconst 1, 1) := by decide +kernel
theorem dX9_caravan_93 : decode cX9_caravan 93 = .ok (.goto 4, 3) := by decide +kernel
theorem dX9_caravan_96 : decode cX9_caravan 96 = .ok (.iconst 0, 1) := by decide +kernel
theorem dX9_caravan_97 : decode cX9_caravan 97 = .ok (.ireturn, 1) := by decide +kernel
theorem dX9_caravan_98 : decode cX9_caravan 98 = .ok (.aload_n 0, 1) := by decide +kernel
theorem dX9_caravan_99 : decode cX9_caravan 99 = .ok (.iload_n 1, 1) := by decide +kernel
theorem dX9_caravan_100 : decode cX9_caravan 100 = .ok (.invokevirtual 120, 3) := by decide +kernel
theorem dX9_caravan_103 : decode cX9_caravan 103 = .ok (.ireturn, 1) := by decide +kernel
theorem dX9_caravan_104 : decode cX9_caravan 104 = .ok (.iconst (-1), 1) := by decide +kernel
theorem dX9_caravan_105 : decode cX9_caravan 105 = .ok (.ireturn, 1) := by decide +kernel
theorem dX9_knotsAt_0 : decode cX9_knotsAt 0 = .ok (.iconst 0, 1) := by decide +kernel
theorem dX9_knotsAt_1 : decode cX9_knotsAt 1 = .ok (.istore_n 2, 1) := by decide +kernel
theorem dX9_knotsAt_2 : decode cX9_knotsAt 2 = .ok (.iconst 0, 1) := by decide +kernel
theorem dX9_knotsAt_3 : decode cX9_knotsAt 3 = .ok (.istore_n 3, 1) := by decide +kernel
theorem dX9_knotsAt_4 : decode cX9_knotsAt 4 = .ok (.iload_n 3, 1) := by decide +kernel
theorem dX9_knotsAt_5 : decode cX9_knotsAt 5 = .ok (.iconst 4, 1) := by decide +kernel
theorem dX9_knotsAt_6 : decode cX9_knotsAt 6 = .ok (.if_icmp .ge 26, 3) := by decide +kernel
theorem dX9_knotsAt_9 : decode cX9_knotsAt 9 = .ok (.iload_n 2, 1) := by decide +kernel
theorem dX9_knotsAt_10 : decode cX9_knotsAt 10 = .ok (.aload_n 0, 1) := by decide +kernel
theorem dX9_knotsAt_11 : decode cX9_knotsAt 11 = .ok (.getfield 22, 3) := by decide +kernel
theorem dX9_knotsAt_14 : decode cX9_knotsAt 14 = .ok (.bipush 14, 2) := by decide +kernel
theorem dX9_knotsAt_16 : decode cX9_knotsAt 16 = .ok (.bipush 6, 2) := by decide +kernel
theorem dX9_knotsAt_18 : decode cX9_knotsAt 18 = .ok (.iload_n 3, 1) := by decide +kernel
theorem dX9_knotsAt_19 : decode cX9_knotsAt 19 = .ok (.imul, 1) := by decide +kernel
theorem dX9_knotsAt_20 : decode cX9_knotsAt 20 = .ok (.iadd, 1) := by decide +kernel
theorem dX9_knotsAt_21 : decode cX9_knotsAt 21 = .ok (.iload_n 1, 1) := by decide +kernel
theorem dX9_knotsAt_22 : decode cX9_knotsAt 22 = .ok (.iadd, 1) := by decide +kernel
theorem dX9_knotsAt_23 : decode cX9_knotsAt 23 = .ok (.iaload, 1) := by decide +kernel
theorem dX9_knotsAt_24 : decode cX9_knotsAt 24 = .ok (.iadd, 1) := by decide +kernel
theorem dX9_knotsAt_25 : decode cX9_knotsAt 25 = .ok (.istore_n 2, 1) := by decide +kernel
theorem dX9_knotsAt_26 : decode cX9_knotsAt 26 = .ok (.iinc 3 1, 3) := by decide +kernel
theorem dX9_knotsAt_29 : decode cX9_knotsAt 29 = .ok (.goto (-25), 3) := by decide +kernel
theorem dX9_knotsAt_32 : decode cX9_knotsAt 32 = .ok (.iload_n 2, 1) := by decide +kernel
theorem dX9_knotsAt_33 : decode cX9_knotsAt 33 = .ok (.ireturn, 1) := by decide +kernel
theorem dX9_duesOf_0 : decode cX9_duesOf 0 = .ok (.iconst 0, 1) := by decide +kernel
theorem dX9_duesOf_1 : decode cX9_duesOf 1 = .ok (.istore_n 2, 1) := by decide +kernel
theorem dX9_duesOf_2 : decode cX9_duesOf 2 = .ok (.iconst 0, 1) := by decide +kernel
theorem dX9_duesOf_3 : decode cX9_duesOf 3 = .ok (.istore_n 3, 1) := by decide +kernel
theorem dX9_duesOf_4 : decode cX9_duesOf 4 = .ok (.iload_n 3, 1) := by decide +kernel
theorem dX9_duesOf_5 : decode cX9_duesOf 5 = .ok (.bipush 6, 2) := by decide +kernel
theorem dX9_duesOf_7 : decode cX9_duesOf 7 = .ok (.if_icmp .ge 26, 3) := by decide +kernel
theorem dX9_duesOf_10 : decode cX9_duesOf 10 = .ok (.iload_n 2, 1) := by decide +kernel
theorem dX9_duesOf_11 : decode cX9_duesOf 11 = .ok (.aload_n 0, 1) := by decide +kernel
theorem dX9_duesOf_12 : decode cX9_duesOf 12 = .ok (.getfield 22, 3) := by decide +kernel
theorem dX9_duesOf_15 : decode cX9_duesOf 15 = .ok (.bipush 38, 2) := by decide +kernel
theorem dX9_duesOf_17 : decode cX9_duesOf 17 = .ok (.bipush 6, 2) := by decide +kernel
theorem dX9_duesOf_19 : decode cX9_duesOf 19 = .ok (.iload_n 1, 1) := by decide +kernel
theorem dX9_duesOf_20 : decode cX9_duesOf 20 = .ok (.imul, 1) := by decide +kernel
theorem dX9_duesOf_21 : decode cX9_duesOf 21 = .ok (.iadd, 1) := by decide +kernel
theorem dX9_duesOf_22 : decode cX9_duesOf 22 = .ok (.iload_n 3, 1) := by decide +kernel
theorem dX9_duesOf_23 : decode cX9_duesOf 23 = .ok (.iadd, 1) := by decide +kernel
theorem dX9_duesOf_24 : decode cX9_duesOf 24 = .ok (.iaload, 1) := by decide +kernel
theorem dX9_duesOf_25 : decode cX9_duesOf 25 = .ok (.iadd, 1) := by decide +kernel
theorem dX9_duesOf_26 : decode cX9_duesOf 26 = .ok (.istore_n 2, 1) := by decide +kernel
theorem dX9_duesOf_27 : decode cX9_duesOf 27 = .ok (.iinc 3 1, 3) := by decide +kernel
theorem dX9_duesOf_30 : decode cX9_duesOf 30 = .ok (.goto (-26), 3) := by decide +kernel
theorem dX9_duesOf_33 : decode cX9_duesOf 33 = .ok (.iload_n 2, 1) := by decide +kernel
theorem dX9_duesOf_34 : decode cX9_duesOf 34 = .ok (.ireturn, 1) := by decide +kernel
theorem dX9_net_0 : decode cX9_net 0 = .ok (.iconst 0, 1) := by decide +kernel
theorem dX9_net_1 : decode cX9_net 1 = .ok (.istore_n 2, 1) := by decide +kernel
theorem dX9_net_2 : decode cX9_net 2 = .ok (.iconst 0, 1) := by decide +kernel
theorem dX9_net_3 : decode cX9_net 3 = .ok (.istore_n 3, 1) := by decide +kernel
theorem dX9_net_4 : decode cX9_net 4 = .ok (.iload_n 3, 1) := by decide +kernel
theorem dX9_net_5 : decode cX9_net 5 = .ok (.bipush 6, 2) := by decide +kernel
theorem dX9_net_7 : decode cX9_net 7 = .ok (.if_icmp .ge 26, 3) := by decide +kernel
theorem dX9_net_10 : decode cX9_net 10 = .ok (.iload_n 2, 1) := by decide +kernel
theorem dX9_net_11 : decode cX9_net 11 = .ok (.aload_n 0, 1) := by decide +kernel
theorem dX9_net_12 : decode cX9_net 12 = .ok (.getfield 22, 3) := by decide +kernel
theorem dX9_net_15 : decode cX9_net 15 = .ok (.bipush 38, 2) := by decide +kernel
theorem dX9_net_17 : decode cX9_net 17 = .ok (.bipush 6, 2) := by decide +kernel
theorem dX9_net_19 : decode cX9_net 19 = .ok (.iload_n 3, 1) := by decide +kernel
theorem dX9_net_20 : decode cX9_net 20 = .ok (.imul, 1) := by decide +kernel
theorem dX9_net_21 : decode cX9_net 21 = .ok (.iadd, 1) := by decide +kernel
theorem dX9_net_22 : decode cX9_net 22 = .ok (.iload_n 1, 1) := by decide +kernel
theorem dX9_net_23 : decode cX9_net 23 = .ok (.iadd, 1) := by decide +kernel
theorem dX9_net_24 : decode cX9_net 24 = .ok (.iaload, 1) := by decide +kernel
theorem dX9_net_25 : decode cX9_net 25 = .ok (.iadd, 1) := by decide +kernel
theorem dX9_net_26 : decode cX9_net 26 = .ok (.istore_n 2, 1) := by decide +kernel
theorem dX9_net_27 : decode cX9_net 27 = .ok (.iinc 3 1, 3) := by decide +kernel
theorem dX9_net_30 : decode cX9_net 30 = .ok (.goto (-26), 3) := by decide +kernel
theorem dX9_net_33 : decode cX9_net 33 = .ok (.iload_n 2, 1) := by decide +kernel
theorem dX9_net_34 : decode cX9_net 34 = .ok (.aload_n 0, 1) := by decide +kernel
theorem dX9_net_35 : decode cX9_net 35 = .ok (.iload_n 1, 1) := by decide +kernel
theorem dX9_net_36 : decode cX9_net 36 = .ok (.invokevirtual 123, 3) := by decide +kernel
theorem dX9_net_39 : decode cX9_net 39 = .ok (.isub, 1) := by decide +kernel
theorem dX9_net_40 : decode cX9_net 40 = .ok (.ireturn, 1) := by decide +kernel
theorem dX9_well_0 : decode cX9_well 0 = .ok (.aload_n 0, 1) := by decide +kernel
theorem dX9_well_1 : decode cX9_well 1 = .ok (.iload_n 1, 1) := by decide +kernel
theorem dX9_well_2 : decode cX9_well 2 = .ok (.invokevirtual 126, 3) := by decide +kernel
theorem dX9_well_5 : decode cX9_well 5 = .ok (.ifCond .ne 6, 3) := by decide +kernel
theorem dX9_well_8 : decode cX9_well 8 = .ok (.ldc 129, 2) := by decide +kernel
theorem dX9_well_10 : decode cX9_well 10 = .ok (.ireturn, 1) := by decide +kernel
theorem dX9_well_11 : decode cX9_well 11 = .ok (.iload_n 2, 1) := by decide +kernel
theorem dX9_well_12 : decode cX9_well 12 = .ok (.tableswitch 59 0 3 #[32, 41, 47, 53], 32) := by decide +kernel
theorem dX9_well_44 : decode cX9_well 44 = .ok (.aload_n 0, 1) := by decide +kernel
theorem dX9_well_45 : decode cX9_well 45 = .ok (.getfield 13, 3) := by decide +kernel
theorem dX9_well_48 : decode cX9_well 48 = .ok (.iconst 4, 1) := by decide +kernel
theorem dX9_well_49 : decode cX9_well 49 = .ok (.iload_n 1, 1) := by decide +kernel
theorem dX9_well_50 : decode cX9_well 50 = .ok (.iadd, 1) := by decide +kernel
theorem dX9_well_51 : decode cX9_well 51 = .ok (.iaload, 1) := by decide +kernel
theorem dX9_well_52 : decode cX9_well 52 = .ok (.ireturn, 1) := by decide +kernel
theorem dX9_well_53 : decode cX9_well 53 = .ok (.aload_n 0, 1) := by decide +kernel
theorem dX9_well_54 : decode cX9_well 54 = .ok (.iload_n 1, 1) := by decide +kernel
theorem dX9_well_55 : decode cX9_well 55 = .ok (.invokevirtual 130, 3) := by decide +kernel
theorem dX9_well_58 : decode cX9_well 58 = .ok (.ireturn, 1) := by decide +kernel
theorem dX9_well_59 : decode cX9_well 59 = .ok (.aload_n 0, 1) := by decide +kernel
theorem dX9_well_60 : decode cX9_well 60 = .ok (.iload_n 1, 1) := by decide +kernel
theorem dX9_well_61 : decode cX9_well 61 = .ok (.invokevirtual 123, 3) := by decide +kernel
theorem dX9_well_64 : decode cX9_well 64 = .ok (.ireturn, 1) := by decide +kernel
theorem dX9_well_65 : decode cX9_well 65 = .ok (.aload_n 0, 1) := by decide +kernel
theorem dX9_well_66 : decode cX9_well 66 = .ok (.iload_n 1, 1) := by decide +kernel
theorem dX9_well_67 : decode cX9_well 67 = .ok (.invokevirtual 133, 3) := by decide +kernel
theorem dX9_well_70 : decode cX9_well 70 = .ok (.ireturn, 1) := by decide +kernel
theorem dX9_well_71 : decode cX9_well 71 = .ok (.ldc 129, 2) := by decide +kernel
theorem dX9_well_73 : decode cX9_well 73 = .ok (.ireturn, 1) := by decide +kernel
theorem dX9_knots_0 : decode cX9_knots 0 = .ok (.aload_n 0, 1) := by decide +kernel
theorem dX9_knots_1 : decode cX9_knots 1 = .ok (.iload_n 1, 1) := by decide +kernel
theorem dX9_knots_2 : decode cX9_knots 2 = .ok (.invokevirtual 114, 3) := by decide +kernel
theorem dX9_knots_5 : decode cX9_knots 5 = .ok (.ifCond .eq 28, 3) := by decide +kernel
theorem dX9_knots_8 : decode cX9_knots 8 = .ok (.aload_n 0, 1) := by decide +kernel
theorem dX9_knots_9 : decode cX9_knots 9 = .ok (.iload_n 2, 1) := by decide +kernel
theorem dX9_knots_10 : decode cX9_knots 10 = .ok (.invokevirtual 126, 3) := by decide +kernel
theorem dX9_knots_13 : decode cX9_knots 13 = .ok (.ifCond .eq 20, 3) := by decide +kernel
theorem dX9_knots_16 : decode cX9_knots 16 = .ok (.aload_n 0, 1) := by decide +kernel
theorem dX9_knots_17 : decode cX9_knots 17 = .ok (.getfield 22, 3) := by decide +kernel
theorem dX9_knots_20 : decode cX9_knots 20 = .ok (.bipush 14, 2) := by decide +kernel
theorem dX9_knots_22 : decode cX9_knots 22 = .ok (.bipush 6, 2) := by decide +kernel
theorem dX9_knots_24 : decode cX9_knots 24 = .ok (.iload_n 1, 1) := by decide +kernel
theorem dX9_knots_25 : decode cX9_knots 25 = .ok (.imul, 1) := by decide +kernel
theorem dX9_knots_26 : decode cX9_knots 26 = .ok (.iadd, 1) := by decide +kernel
theorem dX9_knots_27 : decode cX9_knots 27 = .ok (.iload_n 2, 1) := by decide +kernel
theorem dX9_knots_28 : decode cX9_knots 28 = .ok (.iadd, 1) := by decide +kernel
theorem dX9_knots_29 : decode cX9_knots 29 = .ok (.iaload, 1) := by decide +kernel
theorem dX9_knots_30 : decode cX9_knots 30 = .ok (.goto 4, 3) := by decide +kernel
theorem dX9_knots_33 : decode cX9_knots 33 = .ok (.iconst (-1), 1) := by decide +kernel
theorem dX9_knots_34 : decode cX9_knots 34 = .ok (.ireturn, 1) := by decide +kernel
theorem dX9_dues_0 : decode cX9_dues 0 = .ok (.aload_n 0, 1) := by decide +kernel
theorem dX9_dues_1 : decode cX9_dues 1 = .ok (.iload_n 1, 1) := by decide +kernel
theorem dX9_dues_2 : decode cX9_dues 2 = .ok (.invokevirtual 126, 3) := by decide +kernel
theorem dX9_dues_5 : decode cX9_dues 5 = .ok (.ifCond .eq 33, 3) := by decide +kernel
theorem dX9_dues_8 : decode cX9_dues 8 = .ok (.aload_n 0, 1) := by decide +kernel
theorem dX9_dues_9 : decode cX9_dues 9 = .ok (.iload_n 2, 1) := by decide +kernel
theorem dX9_dues_10 : decode cX9_dues 10 = .ok (.invokevirtual 126, 3) := by decide +kernel
theorem dX9_dues_13 : decode cX9_dues 13 = .ok (.ifCond .eq 25, 3) := by decide +kernel
theorem dX9_dues_16 : decode cX9_dues 16 = .ok (.iload_n 1, 1) := by decide +kernel
theorem dX9_dues_17 : decode cX9_dues 17 = .ok (.iload_n 2, 1) := by decide +kernel
theorem dX9_dues_18 : decode cX9_dues 18 = .ok (.if_icmp .eq 20, 3) := by decide +kernel
theorem dX9_dues_21 : decode cX9_dues 21 = .ok (.aload_n 0, 1) := by decide +kernel
theorem dX9_dues_22 : decode cX9_dues 22 = .ok (.getfield 22, 3) := by decide +kernel
theorem dX9_dues_25 : decode cX9_dues 25 = .ok (.bipush 38, 2) := by decide +kernel
theorem dX9_dues_27 : decode cX9_dues 27 = .ok (.bipush 6, 2) := by decide +kernel
theorem dX9_dues_29 : decode cX9_dues 29 = .ok (.iload_n 1, 1) := by decide +kernel
theorem dX9_dues_30 : decode cX9_dues 30 = .ok (.imul, 1) := by decide +kernel
theorem dX9_dues_31 : decode cX9_dues 31 = .ok (.iadd, 1) := by decide +kernel
theorem dX9_dues_32 : decode cX9_dues 32 = .ok (.iload_n 2, 1) := by decide +kernel
theorem dX9_dues_33 : decode cX9_dues 33 = .ok (.iadd, 1) := by decide +kernel
theorem dX9_dues_34 : decode cX9_dues 34 = .ok (.iaload, 1) := by decide +kernel
theorem dX9_dues_35 : decode cX9_dues 35 = .ok (.goto 4, 3) := by decide +kernel
theorem dX9_dues_38 : decode cX9_dues 38 = .ok (.iconst (-1), 1) := by decide +kernel
theorem dX9_dues_39 : decode cX9_dues 39 = .ok (.ireturn, 1) := by decide +kernel
theorem dX9_keeps_0 : decode cX9_keeps 0 = .ok (.aload_n 0, 1) := by decide +kernel
theorem dX9_keeps_1 : decode cX9_keeps 1 = .ok (.getfield 22, 3) := by decide +kernel
theorem dX9_keeps_4 : decode cX9_keeps 4 = .ok (.bipush 74, 2) := by decide +kernel
theorem dX9_keeps_6 : decode cX9_keeps 6 = .ok (.iaload, 1) := by decide +kernel
theorem dX9_keeps_7 : decode cX9_keeps 7 = .ok (.bipush 10, 2) := by decide +kernel
theorem dX9_keeps_9 : decode cX9_keeps 9 = .ok (.if_icmp .ne 45, 3) := by decide +kernel
theorem dX9_keeps_12 : decode cX9_keeps 12 = .ok (.bipush 75, 2) := by decide +kernel
theorem dX9_keeps_14 : decode cX9_keeps 14 = .ok (.istore_n 1, 1) := by decide +kernel
theorem dX9_keeps_15 : decode cX9_keeps 15 = .ok (.iload_n 1, 1) := by decide +kernel
theorem dX9_keeps_16 : decode cX9_keeps 16 = .ok (.sipush 741, 3) := by decide +kernel
theorem dX9_keeps_19 : decode cX9_keeps 19 = .ok (.if_icmp .ge 24, 3) := by decide +kernel
theorem dX9_keeps_22 : decode cX9_keeps 22 = .ok (.aload_n 0, 1) := by decide +kernel
theorem dX9_keeps_23 : decode cX9_keeps 23 = .ok (.getfield 22, 3) := by decide +kernel
theorem dX9_keeps_26 : decode cX9_keeps 26 = .ok (.iload_n 1, 1) := by decide +kernel
theorem dX9_keeps_27 : decode cX9_keeps 27 = .ok (.aload_n 0, 1) := by decide +kernel
theorem dX9_keeps_28 : decode cX9_keeps 28 = .ok (.getfield 22, 3) := by decide +kernel
theorem dX9_keeps_31 : decode cX9_keeps 31 = .ok (.iload_n 1, 1) := by decide +kernel
theorem dX9_keeps_32 : decode cX9_keeps 32 = .ok (.bipush 74, 2) := by decide +kernel
theorem dX9_keeps_34 : decode cX9_keeps 34 = .ok (.iadd, 1) := by decide +kernel
theorem dX9_keeps_35 : decode cX9_keeps 35 = .ok (.iaload, 1) := by decide +kernel
theorem dX9_keeps_36 : decode cX9_keeps 36 = .ok (.iastore, 1) := by decide +kernel
theorem dX9_keeps_37 : decode cX9_keeps 37 = .ok (.iinc 1 1, 3) := by decide +kernel
theorem dX9_keeps_40 : decode cX9_keeps 40 = .ok (.goto (-25), 3) := by decide +kernel
theorem dX9_keeps_43 : decode cX9_keeps 43 = .ok (.aload_n 0, 1) := by decide +kernel
theorem dX9_keeps_44 : decode cX9_keeps 44 = .ok (.getfield 22, 3) := by decide +kernel
theorem dX9_keeps_47 : decode cX9_keeps 47 = .ok (.bipush 74, 2) := by decide +kernel
theorem dX9_keeps_49 : decode cX9_keeps 49 = .ok (.dup2, 1) := by decide +kernel
theorem dX9_keeps_50 : decode cX9_keeps 50 = .ok (.iaload, 1) := by decide +kernel
theorem dX9_keeps_51 : decode cX9_keeps 51 = .ok (.iconst 1, 1) := by decide +kernel
theorem dX9_keeps_52 : decode cX9_keeps 52 = .ok (.isub, 1) := by decide +kernel
theorem dX9_keeps_53 : decode cX9_keeps 53 = .ok (.iastore, 1) := by decide +kernel
theorem dX9_keeps_54 : decode cX9_keeps 54 = .ok (.bipush 75, 2) := by decide +kernel
theorem dX9_keeps_56 : decode cX9_keeps 56 = .ok (.bipush 74, 2) := by decide +kernel
theorem dX9_keeps_58 : decode cX9_keeps 58 = .ok (.aload_n 0, 1) := by decide +kernel
theorem dX9_keeps_59 : decode cX9_keeps 59 = .ok (.getfield 22, 3) := by decide +kernel
theorem dX9_keeps_62 : decode cX9_keeps 62 = .ok (.bipush 74, 2) := by decide +kernel
theorem dX9_keeps_64 : decode cX9_keeps 64 = .ok (.iaload, 1) := by decide +kernel
theorem dX9_keeps_65 : decode cX9_keeps 65 = .ok (.imul, 1) := by decide +kernel
theorem dX9_keeps_66 : decode cX9_keeps 66 = .ok (.iadd, 1) := by decide +kernel
theorem dX9_keeps_67 : decode cX9_keeps 67 = .ok (.istore_n 1, 1) := by decide +kernel
theorem dX9_keeps_68 : decode cX9_keeps 68 = .ok (.iconst 0, 1) := by decide +kernel
theorem dX9_keeps_69 : decode cX9_keeps 69 = .ok (.istore_n 2, 1) := by decide +kernel
theorem dX9_keeps_70 : decode cX9_keeps 70 = .ok (.iload_n 2, 1) := by decide +kernel
theorem dX9_keeps_71 : decode cX9_keeps 71 = .ok (.bipush 74, 2) := by decide +kernel
theorem dX9_keeps_73 : decode cX9_keeps 73 = .ok (.if_icmp .ge 23, 3) := by decide +kernel
theorem dX9_keeps_76 : decode cX9_keeps 76 = .ok (.aload_n 0, 1) := by decide +kernel
theorem dX9_keeps_77 : decode cX9_keeps 77 = .ok (.getfield 22, 3) := by decide +kernel
theorem dX9_keeps_80 : decode cX9_keeps 80 = .ok (.iload_n 1, 1) := by decide +kernel
theorem dX9_keeps_81 : decode cX9_keeps 81 = .ok (.iload_n 2, 1) := by decide +kernel
theorem dX9_keeps_82 : decode cX9_keeps 82 = .ok (.iadd, 1) := by decide +kernel
theorem dX9_keeps_83 : decode cX9_keeps 83 = .ok (.aload_n 0, 1) := by decide +kernel
theorem dX9_keeps_84 : decode cX9_keeps 84 = .ok (.getfield 22, 3) := by decide +kernel
theorem dX9_keeps_87 : decode cX9_keeps 87 = .ok (.iload_n 2, 1) := by decide +kernel
theorem dX9_keeps_88 : decode cX9_keeps 88 = .ok (.iaload, 1) := by decide +kernel
theorem dX9_keeps_89 : decode cX9_keeps 89 = .ok (.iastore, 1) := by decide +kernel
theorem dX9_keeps_90 : decode cX9_keeps 90 = .ok (.iinc 2 1, 3) := by decide +kernel
theorem dX9_keeps_93 : decode cX9_keeps 93 = .ok (.goto (-23), 3) := by decide +kernel
theorem dX9_keeps_96 : decode cX9_keeps 96 = .ok (.aload_n 0, 1) := by decide +kernel
theorem dX9_keeps_97 : decode cX9_keeps 97 = .ok (.getfield 22, 3) := by decide +kernel
theorem dX9_keeps_100 : decode cX9_keeps 100 = .ok (.bipush 74, 2) := by decide +kernel
theorem dX9_keeps_102 : decode cX9_keeps 102 = .ok (.dup2, 1) := by decide +kernel
theorem dX9_keeps_103 : decode cX9_keeps 103 = .ok (.iaload, 1) := by decide +kernel
theorem dX9_keeps_104 : decode cX9_keeps 104 = .ok (.iconst 1, 1) := by decide +kernel
theorem dX9_keeps_105 : decode cX9_keeps 105 = .ok (.iadd, 1) := by decide +kernel
theorem dX9_keeps_106 : decode cX9_keeps 106 = .ok (.iastore, 1) := by decide +kernel
theorem dX9_keeps_107 : decode cX9_keeps 107 = .ok (.return_, 1) := by decide +kernel
theorem dX9_paid_0 : decode cX9_paid 0 = .ok (.aload_n 0, 1) := by decide +kernel
theorem dX9_paid_1 : decode cX9_paid 1 = .ok (.getfield 13, 3) := by decide +kernel
theorem dX9_paid_4 : decode cX9_paid 4 = .ok (.bipush 34, 2) := by decide +kernel
theorem dX9_paid_6 : decode cX9_paid 6 = .ok (.iload_n 1, 1) := by decide +kernel
theorem dX9_paid_7 : decode cX9_paid 7 = .ok (.iadd, 1) := by decide +kernel
theorem dX9_paid_8 : decode cX9_paid 8 = .ok (.iaload, 1) := by decide +kernel
theorem dX9_paid_9 : decode cX9_paid 9 = .ok (.iconst 1, 1) := by decide +kernel
theorem dX9_paid_10 : decode cX9_paid 10 = .ok (.if_icmp .ne 7, 3) := by decide +kernel
theorem dX9_paid_13 : decode cX9_paid 13 = .ok (.iconst 1, 1) := by decide +kernel
theorem dX9_paid_14 : decode cX9_paid 14 = .ok (.goto 4, 3) := by decide +kernel
theorem dX9_paid_17 : decode cX9_paid 17 = .ok (.iconst 0, 1) := by decide +kernel
theorem dX9_paid_18 : decode cX9_paid 18 = .ok (.istore_n 3, 1) := by decide +kernel
theorem dX9_paid_19 : decode cX9_paid 19 = .ok (.iload_n 3, 1) := by decide +kernel
theorem dX9_paid_20 : decode cX9_paid 20 = .ok (.ifCond .eq 27, 3) := by decide +kernel
theorem dX9_paid_23 : decode cX9_paid 23 = .ok (.aload_n 0, 1) := by decide +kernel
theorem dX9_paid_24 : decode cX9_paid 24 = .ok (.getfield 13, 3) := by decide +kernel
theorem dX9_paid_27 : decode cX9_paid 27 = .ok (.iconst 4, 1) := by decide +kernel
theorem dX9_paid_28 : decode cX9_paid 28 = .ok (.aload_n 0, 1) := by decide +kernel
theorem dX9_paid_29 : decode cX9_paid 29 = .ok (.getfield 13, 3) := by decide +kernel
theorem dX9_paid_32 : decode cX9_paid 32 = .ok (.bipush 42, 2) := by decide +kernel
theorem dX9_paid_34 : decode cX9_paid 34 = .ok (.iload_n 1, 1) := by decide +kernel
theorem dX9_paid_35 : decode cX9_paid 35 = .ok (.iadd, 1) := by decide +kernel
theorem dX9_paid_36 : decode cX9_paid 36 = .ok (.iaload, 1) := by decide +kernel
theorem dX9_paid_37 : decode cX9_paid 37 = .ok (.iadd, 1) := by decide +kernel
theorem dX9_paid_38 : decode cX9_paid 38 = .ok (.iaload, 1) := by decide +kernel
theorem dX9_paid_39 : decode cX9_paid 39 = .ok (.iconst 1, 1) := by decide +kernel
theorem dX9_paid_40 : decode cX9_paid 40 = .ok (.if_icmp .ne 7, 3) := by decide +kernel
theorem dX9_paid_43 : decode cX9_paid 43 = .ok (.iconst 1, 1) := by decide +kernel
theorem dX9_paid_44 : decode cX9_paid 44 = .ok (.goto 4, 3) := by decide +kernel
theorem dX9_paid_47 : decode cX9_paid 47 = .ok (.iconst 0, 1) := by decide +kernel
theorem dX9_paid_48 : decode cX9_paid 48 = .ok (.istore 4, 2) := by decide +kernel
theorem dX9_paid_50 : decode cX9_paid 50 = .ok (.iload 4, 2) := by decide +kernel
theorem dX9_paid_52 : decode cX9_paid 52 = .ok (.ifCond .eq 7, 3) := by decide +kernel
theorem dX9_paid_55 : decode cX9_paid 55 = .ok (.iconst 0, 1) := by decide +kernel
theorem dX9_paid_56 : decode cX9_paid 56 = .ok (.goto 14, 3) := by decide +kernel
theorem dX9_paid_59 : decode cX9_paid 59 = .ok (.iload_n 3, 1) := by decide +kernel
theorem dX9_paid_60 : decode cX9_paid 60 = .ok (.ifCond .eq 9, 3) := by decide +kernel
theorem dX9_paid_63 : decode cX9_paid 63 = .ok (.iload_n 2, 1) := by decide +kernel
theorem dX9_paid_64 : decode cX9_paid 64 = .ok (.iconst 2, 1) := by decide +kernel
theorem dX9_paid_65 : decode cX9_paid 65 = .ok (.idiv, 1) := by decide +kernel
theorem dX9_paid_66 : decode cX9_paid 66 = .ok (.goto 4, 3) := by decide +kernel
theorem dX9_paid_69 : decode cX9_paid 69 = .ok (.iload_n 2, 1) := by decide +kernel
theorem dX9_paid_70 : decode cX9_paid 70 = .ok (.ireturn, 1) := by decide +kernel
theorem dX9_dies_0 : decode cX9_dies 0 = .ok (.aload_n 0, 1) := by decide +kernel
theorem dX9_dies_1 : decode cX9_dies 1 = .ok (.getfield 22, 3) := by decide +kernel
theorem dX9_dies_4 : decode cX9_dies 4 = .ok (.bipush 12, 2) := by decide +kernel
theorem dX9_dies_6 : decode cX9_dies 6 = .ok (.dup2, 1) := by decide +kernel
theorem dX9_dies_7 : decode cX9_dies 7 = .ok (.iaload, 1) := by decide +kernel
theorem dX9_dies_8 : decode cX9_dies 8 = .ok (.iconst 1, 1) := by decide +kernel
theorem dX9_dies_9 : decode cX9_dies 9 = .ok (.iload_n 1, 1) := by decide +kernel
theorem dX9_dies_10 : decode cX9_dies 10 = .ok (.ishl, 1) := by decide +kernel
theorem dX9_dies_11 : decode cX9_dies 11 = .ok (.ixor, 1) := by decide +kernel
theorem dX9_dies_12 : decode cX9_dies 12 = .ok (.iastore, 1) := by decide +kernel
theorem dX9_dies_13 : decode cX9_dies 13 = .ok (.aload_n 0, 1) := by decide +kernel
theorem dX9_dies_14 : decode cX9_dies 14 = .ok (.getfield 22, 3) := by decide +kernel
theorem dX9_dies_17 : decode cX9_dies 17 = .ok (.bipush 13, 2) := by decide +kernel
theorem dX9_dies_19 : decode cX9_dies 19 = .ok (.dup2, 1) := by decide +kernel
theorem dX9_dies_20 : decode cX9_dies 20 = .ok (.iaload, 1) := by decide +kernel
theorem dX9_dies_21 : decode cX9_dies 21 = .ok (.aload_n 0, 1) := by decide +kernel
theorem dX9_dies_22 : decode cX9_dies 22 = .ok (.iload_n 1, 1) := by decide +kernel
theorem dX9_dies_23 : decode cX9_dies 23 = .ok (.invokevirtual 120, 3) := by decide +kernel
theorem dX9_dies_26 : decode cX9_dies 26 = .ok (.iadd, 1) := by decide +kernel
theorem dX9_dies_27 : decode cX9_dies 27 = .ok (.iastore, 1) := by decide +kernel
theorem dX9_dies_28 : decode cX9_dies 28 = .ok (.aload_n 0, 1) := by decide +kernel
theorem dX9_dies_29 : decode cX9_dies 29 = .ok (.getfield 22, 3) := by decide +kernel
theorem dX9_dies_32 : decode cX9_dies 32 = .ok (.bipush 13, 2) := by decide +kernel
theorem dX9_dies_34 : decode cX9_dies 34 = .ok (.aload_n 0, 1) := by decide +kernel
theorem dX9_dies_35 : decode cX9_dies 35 = .ok (.getfield 22, 3) := by decide +kernel
theorem dX9_dies_38 : decode cX9_dies 38 = .ok (.bipush 13, 2) := by decide +kernel
theorem dX9_dies_40 : decode cX9_dies 40 = .ok (.iaload, 1) := by decide +kernel
theorem dX9_dies_41 : decode cX9_dies 41 = .ok (.sipush 9999, 3) := by decide +kernel
theorem dX9_dies_44 : decode cX9_dies 44 = .ok (.if_icmp .le 9, 3) := by decide +kernel
theorem dX9_dies_47 : decode cX9_dies 47 = .ok (.sipush 9999, 3) := by decide +kernel
theorem dX9_dies_50 : decode cX9_dies 50 = .ok (.goto 10, 3) := by decide +kernel
theorem dX9_dies_53 : decode cX9_dies 53 = .ok (.aload_n 0, 1) := by decide +kernel
theorem dX9_dies_54 : decode cX9_dies 54 = .ok (.getfield 22, 3) := by decide +kernel
theorem dX9_dies_57 : decode cX9_dies 57 = .ok (.bipush 13, 2) := by decide +kernel
theorem dX9_dies_59 : decode cX9_dies 59 = .ok (.iaload, 1) := by decide +kernel
theorem dX9_dies_60 : decode cX9_dies 60 = .ok (.iastore, 1) := by decide +kernel
theorem dX9_dies_61 : decode cX9_dies 61 = .ok (.iconst 0, 1) := by decide +kernel
theorem dX9_dies_62 : decode cX9_dies 62 = .ok (.istore_n 2, 1) := by decide +kernel
theorem dX9_dies_63 : decode cX9_dies 63 = .ok (.iload_n 2, 1) := by decide +kernel
theorem dX9_dies_64 : decode cX9_dies 64 = .ok (.bipush 6, 2) := by decide +kernel
theorem dX9_dies_66 : decode cX9_dies 66 = .ok (.if_icmp .ge 24, 3) := by decide +kernel
theorem dX9_dies_69 : decode cX9_dies 69 = .ok (.aload_n 0, 1) := by decide +kernel
theorem dX9_dies_70 : decode cX9_dies 70 = .ok (.getfield 22, 3) := by decide +kernel
theorem dX9_dies_73 : decode cX9_dies 73 = .ok (.bipush 14, 2) := by decide +kernel
theorem dX9_dies_75 : decode cX9_dies 75 = .ok (.bipush 6, 2) := by decide +kernel
theorem dX9_dies_77 : decode cX9_dies 77 = .ok (.iload_n 1, 1) := by decide +kernel
theorem dX9_dies_78 : decode cX9_dies 78 = .ok (.imul, 1) := by decide +kernel
theorem dX9_dies_79 : decode cX9_dies 79 = .ok (.iadd, 1) := by decide +kernel
theorem dX9_dies_80 : decode cX9_dies 80 = .ok (.iload_n 2, 1) := by decide +kernel
theorem dX9_dies_81 : decode cX9_dies 81 = .ok (.iadd, 1) := by decide +kernel
theorem dX9_dies_82 : decode cX9_dies 82 = .ok (.iconst 0, 1) := by decide +kernel
theorem dX9_dies_83 : decode cX9_dies 83 = .ok (.iastore, 1) := by decide +kernel
theorem dX9_dies_84 : decode cX9_dies 84 = .ok (.iinc 2 1, 3) := by decide +kernel
theorem dX9_dies_87 : decode cX9_dies 87 = .ok (.goto (-24), 3) := by decide +kernel
theorem dX9_dies_90 : decode cX9_dies 90 = .ok (.return_, 1) := by decide +kernel
theorem dX9_goes_0 : decode cX9_goes 0 = .ok (.aload_n 0, 1) := by decide +kernel
theorem dX9_goes_1 : decode cX9_goes 1 = .ok (.iload_n 1, 1) := by decide +kernel
theorem dX9_goes_2 : decode cX9_goes 2 = .ok (.invokevirtual 114, 3) := by decide +kernel
theorem dX9_goes_5 : decode cX9_goes 5 = .ok (.ifCond .eq 21, 3) := by decide +kernel
theorem dX9_goes_8 : decode cX9_goes 8 = .ok (.aload_n 0, 1) := by decide +kernel
theorem dX9_goes_9 : decode cX9_goes 9 = .ok (.iload_n 2, 1) := by decide +kernel
theorem dX9_goes_10 : decode cX9_goes 10 = .ok (.invokevirtual 108, 3) := by decide +kernel
theorem dX9_goes_13 : decode cX9_goes 13 = .ok (.ifCond .eq 13, 3) := by decide +kernel
theorem dX9_goes_16 : decode cX9_goes 16 = .ok (.iload_n 3, 1) := by decide +kernel
theorem dX9_goes_17 : decode cX9_goes 17 = .ok (.iconst 0, 1) := by decide +kernel
theorem dX9_goes_18 : decode cX9_goes 18 = .ok (.bipush 9, 2) := by decide +kernel
theorem dX9_goes_20 : decode cX9_goes 20 = .ok (.invokestatic 54, 3) := by decide +kernel
theorem dX9_goes_23 : decode cX9_goes 23 = .ok (.ifCond .ne 5, 3) := by decide +kernel
theorem dX9_goes_26 : decode cX9_goes 26 = .ok (.iconst (-1), 1) := by decide +kernel
theorem dX9_goes_27 : decode cX9_goes 27 = .ok (.ireturn, 1) := by decide +kernel
theorem dX9_goes_28 : decode cX9_goes 28 = .ok (.aload_n 0, 1) := by decide +kernel
theorem dX9_goes_29 : decode cX9_goes 29 = .ok (.getfield 22, 3) := by decide +kernel
theorem dX9_goes_32 : decode cX9_goes 32 = .ok (.iload_n 1, 1) := by decide +kernel
theorem dX9_goes_33 : decode cX9_goes 33 = .ok (.iaload, 1) := by decide +kernel
theorem dX9_goes_34 : decode cX9_goes 34 = .ok (.aload_n 0, 1) := by decide +kernel
theorem dX9_goes_35 : decode cX9_goes 35 = .ok (.getfield 13, 3) := by decide +kernel
theorem dX9_goes_38 : decode cX9_goes 38 = .ok (.bipush 10, 2) := by decide +kernel
theorem dX9_goes_40 : decode cX9_goes 40 = .ok (.iload_n 2, 1) := by decide +kernel
theorem dX9_goes_41 : decode cX9_goes 41 = .ok (.iadd, 1) := by decide +kernel
theorem dX9_goes_42 : decode cX9_goes 42 = .ok (.iaload, 1) := by decide +kernel
theorem dX9_goes_43 : decode cX9_goes 43 = .ok (.if_icmp .ne 7, 3) := by decide +kernel
theorem dX9_goes_46 : decode cX9_goes 46 = .ok (.iconst 1, 1) := by decide +kernel
theorem dX9_goes_47 : decode cX9_goes 47 = .ok (.goto 4, 3) := by decide +kernel
theorem dX9_goes_50 : decode cX9_goes 50 = .ok (.iconst 0, 1) := by decide +kernel
theorem dX9_goes_51 : decode cX9_goes 51 = .ok (.istore 4, 2) := by decide +kernel
theorem dX9_goes_53 : decode cX9_goes 53 = .ok (.aload_n 0, 1) := by decide +kernel
theorem dX9_goes_54 : decode cX9_goes 54 = .ok (.iload_n 1, 1) := by decide +kernel
theorem dX9_goes_55 : decode cX9_goes 55 = .ok (.invokevirtual 117, 3) := by decide +kernel
theorem dX9_goes_58 : decode cX9_goes 58 = .ok (.ifCond .eq 51, 3) := by decide +kernel
theorem dX9_goes_61 : decode cX9_goes 61 = .ok (.iload 4, 2) := by decide +kernel
theorem dX9_goes_63 : decode cX9_goes 63 = .ok (.ifCond .ne 21, 3) := by decide +kernel
theorem dX9_goes_66 : decode cX9_goes 66 = .ok (.aload_n 0, 1) := by decide +kernel
theorem dX9_goes_67 : decode cX9_goes 67 = .ok (.getfield 22, 3) := by decide +kernel
theorem dX9_goes_70 : decode cX9_goes 70 = .ok (.iload_n 1, 1) := by decide +kernel
theorem dX9_goes_71 : decode cX9_goes 71 = .ok (.iaload, 1) := by decide +kernel
theorem dX9_goes_72 : decode cX9_goes 72 = .ok (.aload_n 0, 1) := by decide +kernel
theorem dX9_goes_73 : decode cX9_goes 73 = .ok (.getfield 13, 3) := by decide +kernel
theorem dX9_goes_76 : decode cX9_goes 76 = .ok (.bipush 18, 2) := by decide +kernel
theorem dX9_goes_78 : decode cX9_goes 78 = .ok (.iload_n 2, 1) := by decide +kernel
theorem dX9_goes_79 : decode cX9_goes 79 = .ok (.iadd, 1) := by decide +kernel
theorem dX9_goes_80 : decode cX9_goes 80 = .ok (.iaload, 1) := by decide +kernel
theorem dX9_goes_81 : decode cX9_goes 81 = .ok (.if_icmp .ne 28, 3) := by decide +kernel
theorem dX9_goes_84 : decode cX9_goes 84 = .ok (.iload_n 3, 1) := by decide +kernel
theorem dX9_goes_85 : decode cX9_goes 85 = .ok (.aload_n 0, 1) := by decide +kernel
theorem dX9_goes_86 : decode cX9_goes 86 = .ok (.getfield 22, 3) := by decide +kernel
theorem dX9_goes_89 : decode cX9_goes 89 = .ok (.iconst 4, 1) := by decide +kernel
theorem dX9_goes_90 : decode cX9_goes 90 = .ok (.iload_n 1, 1) := by decide +kernel
theorem dX9_goes_91 : decode cX9_goes 91 = .ok (.iadd, 1) := by decide +kernel
theorem dX9_goes_92 : decode cX9_goes 92 = .ok (.iaload, 1) := by decide +kernel
theorem dX9_goes_93 : decode cX9_goes 93 = .ok (.if_icmp .gt 16, 3) := by decide +kernel
theorem dX9_goes_96 : decode cX9_goes 96 = .ok (.iload_n 3, 1) := by decide +kernel
theorem dX9_goes_97 : decode cX9_goes 97 = .ok (.aload_n 0, 1) := by decide +kernel
theorem dX9_goes_98 : decode cX9_goes 98 = .ok (.getfield 13, 3) := by decide +kernel
theorem dX9_goes_101 : decode cX9_goes 101 = .ok (.bipush 26, 2) := by decide +kernel
theorem dX9_goes_103 : decode cX9_goes 103 = .ok (.iload_n 2, 1) := by decide +kernel
theorem dX9_goes_104 : decode cX9_goes 104 = .ok (.iadd, 1) := by decide +kernel
theorem dX9_goes_105 : decode cX9_goes 105 = .ok (.iaload, 1) := by decide +kernel
theorem dX9_goes_106 : decode cX9_goes 106 = .ok (.if_icmp .le 6, 3) := by decide +kernel
theorem dX9_goes_109 : decode cX9_goes 109 = .ok (.bipush (-2), 2) := by decide +kernel
theorem dX9_goes_111 : decode cX9_goes 111 = .ok (.ireturn, 1) := by decide +kernel
theorem dX9_goes_112 : decode cX9_goes 112 = .ok (.aload_n 0, 1) := by decide +kernel
theorem dX9_goes_113 : decode cX9_goes 113 = .ok (.invokevirtual 136, 3) := by decide +kernel
theorem dX9_goes_116 : decode cX9_goes 116 = .ok (.aload_n 0, 1) := by decide +kernel
theorem dX9_goes_117 : decode cX9_goes 117 = .ok (.getfield 13, 3) := by decide +kernel
theorem dX9_goes_120 : decode cX9_goes 120 = .ok (.bipush 26, 2) := by decide +kernel
theorem dX9_goes_122 : decode cX9_goes 122 = .ok (.iload_n 2, 1) := by decide +kernel
theorem dX9_goes_123 : decode cX9_goes 123 = .ok (.iadd, 1) := by decide +kernel
theorem dX9_goes_124 : decode cX9_goes 124 = .ok (.iaload, 1) := by decide +kernel
theorem dX9_goes_125 : decode cX9_goes 125 = .ok (.iload_n 3, 1) := by decide +kernel
theorem dX9_goes_126 : decode cX9_goes 126 = .ok (.isub, 1) := by decide +kernel
theorem dX9_goes_127 : decode cX9_goes 127 = .ok (.istore 5, 2) := by decide +kernel
theorem dX9_goes_129 : decode cX9_goes 129 = .ok (.aload_n 0, 1) := by decide +kernel
theorem dX9_goes_130 : decode cX9_goes 130 = .ok (.getfield 22, 3) := by decide +kernel
theorem dX9_goes_133 : decode cX9_goes 133 = .ok (.iconst 4, 1) := by decide +kernel
theorem dX9_goes_134 : decode cX9_goes 134 = .ok (.iload_n 1, 1) := by decide +kernel
theorem dX9_goes_135 : decode cX9_goes 135 = .ok (.iadd, 1) := by decide +kernel
theorem dX9_goes_136 : decode cX9_goes 136 = .ok (.dup2, 1) := by decide +kernel
theorem dX9_goes_137 : decode cX9_goes 137 = .ok (.iaload, 1) := by decide +kernel
theorem dX9_goes_138 : decode cX9_goes 138 = .ok (.iload_n 3, 1) := by decide +kernel
theorem dX9_goes_139 : decode cX9_goes 139 = .ok (.isub, 1) := by decide +kernel
theorem dX9_goes_140 : decode cX9_goes 140 = .ok (.iastore, 1) := by decide +kernel
theorem dX9_goes_141 : decode cX9_goes 141 = .ok (.aload_n 0, 1) := by decide +kernel
theorem dX9_goes_142 : decode cX9_goes 142 = .ok (.getfield 22, 3) := by decide +kernel
theorem dX9_goes_145 : decode cX9_goes 145 = .ok (.iload_n 1, 1) := by decide +kernel
theorem dX9_goes_146 : decode cX9_goes 146 = .ok (.iload 4, 2) := by decide +kernel
theorem dX9_goes_148 : decode cX9_goes 148 = .ok (.ifCond .eq 15, 3) := by decide +kernel
theorem dX9_goes_151 : decode cX9_goes 151 = .ok (.aload_n 0, 1) := by decide +kernel
theorem dX9_goes_152 : decode cX9_goes 152 = .ok (.getfield 13, 3) := by decide +kernel
theorem dX9_goes_155 : decode cX9_goes 155 = .ok (.bipush 18, 2) := by decide +kernel
theorem dX9_goes_157 : decode cX9_goes 157 = .ok (.iload_n 2, 1) := by decide +kernel
theorem dX9_goes_158 : decode cX9_goes 158 = .ok (.iadd, 1) := by decide +kernel
theorem dX9_goes_159 : decode cX9_goes 159 = .ok (.iaload, 1) := by decide +kernel
theorem dX9_goes_160 : decode cX9_goes 160 = .ok (.goto 12, 3) := by decide +kernel
theorem dX9_goes_163 : decode cX9_goes 163 = .ok (.aload_n 0, 1) := by decide +kernel
theorem dX9_goes_164 : decode cX9_goes 164 = .ok (.getfield 13, 3) := by decide +kernel
theorem dX9_goes_167 : decode cX9_goes 167 = .ok (.bipush 10, 2) := by decide +kernel
theorem dX9_goes_169 : decode cX9_goes 169 = .ok (.iload_n 2, 1) := by decide +kernel
theorem dX9_goes_170 : decode cX9_goes 170 = .ok (.iadd, 1) := by decide +kernel
theorem dX9_goes_171 : decode cX9_goes 171 = .ok (.iaload, 1) := by decide +kernel
theorem dX9_goes_172 : decode cX9_goes 172 = .ok (.iastore, 1) := by decide +kernel
theorem dX9_goes_173 : decode cX9_goes 173 = .ok (.aload_n 0, 1) := by decide +kernel
theorem dX9_goes_174 : decode cX9_goes 174 = .ok (.getfield 22, 3) := by decide +kernel
theorem dX9_goes_177 : decode cX9_goes 177 = .ok (.bipush 8, 2) := by decide +kernel
theorem dX9_goes_179 : decode cX9_goes 179 = .ok (.iload_n 1, 1) := by decide +kernel
theorem dX9_goes_180 : decode cX9_goes 180 = .ok (.iadd, 1) := by decide +kernel
theorem dX9_goes_181 : decode cX9_goes 181 = .ok (.dup2, 1) := by decide +kernel
theorem dX9_goes_182 : decode cX9_goes 182 = .ok (.iaload, 1) := by decide +kernel
theorem dX9_goes_183 : decode cX9_goes 183 = .ok (.iload 5, 2) := by decide +kernel
theorem dX9_goes_185 : decode cX9_goes 185 = .ok (.iadd, 1) := by decide +kernel
theorem dX9_goes_186 : decode cX9_goes 186 = .ok (.iastore, 1) := by decide +kernel
theorem dX9_goes_187 : decode cX9_goes 187 = .ok (.aload_n 0, 1) := by decide +kernel
theorem dX9_goes_188 : decode cX9_goes 188 = .ok (.getfield 22, 3) := by decide +kernel
theorem dX9_goes_191 : decode cX9_goes 191 = .ok (.bipush 8, 2) := by decide +kernel
theorem dX9_goes_193 : decode cX9_goes 193 = .ok (.iload_n 1, 1) := by decide +kernel
theorem dX9_goes_194 : decode cX9_goes 194 = .ok (.iadd, 1) := by decide +kernel
theorem dX9_goes_195 : decode cX9_goes 195 = .ok (.iaload, 1) := by decide +kernel
theorem dX9_goes_196 : decode cX9_goes 196 = .ok (.aload_n 0, 1) := by decide +kernel
theorem dX9_goes_197 : decode cX9_goes 197 = .ok (.getfield 13, 3) := by decide +kernel
theorem dX9_goes_200 : decode cX9_goes 200 = .ok (.bipush 50, 2) := by decide +kernel
theorem dX9_goes_202 : decode cX9_goes 202 = .ok (.iload_n 1, 1) := by decide +kernel
theorem dX9_goes_203 : decode cX9_goes 203 = .ok (.iadd, 1) := by decide +kernel
theorem dX9_goes_204 : decode cX9_goes 204 = .ok (.iaload, 1) := by decide +kernel
theorem dX9_goes_205 : decode cX9_goes 205 = .ok (.if_icmp .le 10, 3) := by decide +kernel
theorem dX9_goes_208 : decode cX9_goes 208 = .ok (.aload_n 0, 1) := by decide +kernel
theorem dX9_goes_209 : decode cX9_goes 209 = .ok (.iload_n 1, 1) := by decide +kernel
theorem dX9_goes_210 : decode cX9_goes 210 = .ok (.invokevirtual 139, 3) := by decide +kernel
theorem dX9_goes_213 : decode cX9_goes 213 = .ok (.iconst 0, 1) := by decide +kernel
theorem dX9_goes_214 : decode cX9_goes 214 = .ok (.ireturn, 1) := by decide +kernel
theorem dX9_goes_215 : decode cX9_goes 215 = .ok (.bipush 14, 2) := by decide +kernel
theorem dX9_goes_217 : decode cX9_goes 217 = .ok (.bipush 6, 2) := by decide +kernel
theorem dX9_goes_219 : decode cX9_goes 219 = .ok (.iload_n 1, 1) := by decide +kernel
theorem dX9_goes_220 : decode cX9_goes 220 = .ok (.imul, 1) := by decide +kernel
theorem dX9_goes_221 : decode cX9_goes 221 = .ok (.iadd, 1) := by decide +kernel
theorem dX9_goes_222 : decode cX9_goes 222 = .ok (.aload_n 0, 1) := by decide +kernel
theorem dX9_goes_223 : decode cX9_goes 223 = .ok (.getfield 13, 3) := by decide +kernel
theorem dX9_goes_226 : decode cX9_goes 226 = .ok (.bipush 42, 2) := by decide +kernel
theorem dX9_goes_228 : decode cX9_goes 228 = .ok (.iload_n 2, 1) := by decide +kernel
theorem dX9_goes_229 : decode cX9_goes 229 = .ok (.iadd, 1) := by decide +kernel
theorem dX9_goes_230 : decode cX9_goes 230 = .ok (.iaload, 1) := by decide +kernel
theorem dX9_goes_231 : decode cX9_goes 231 = .ok (.iadd, 1) := by decide +kernel
theorem dX9_goes_232 : decode cX9_goes 232 = .ok (.istore 6, 2) := by decide +kernel
theorem dX9_goes_234 : decode cX9_goes 234 = .ok (.aload_n 0, 1) := by decide +kernel
theorem dX9_goes_235 : decode cX9_goes 235 = .ok (.getfield 22, 3) := by decide +kernel
theorem dX9_goes_238 : decode cX9_goes 238 = .ok (.iload 6, 2) := by decide +kernel
theorem dX9_goes_240 : decode cX9_goes 240 = .ok (.iaload, 1) := by decide +kernel
theorem dX9_goes_241 : decode cX9_goes 241 = .ok (.aload_n 0, 1) := by decide +kernel
theorem dX9_goes_242 : decode cX9_goes 242 = .ok (.iload_n 2, 1) := by decide +kernel
theorem dX9_goes_243 : decode cX9_goes 243 = .ok (.iload 5, 2) := by decide +kernel
theorem dX9_goes_245 : decode cX9_goes 245 = .ok (.invokevirtual 143, 3) := by decide +kernel
theorem dX9_goes_248 : decode cX9_goes 248 = .ok (.isub, 1) := by decide +kernel
theorem dX9_goes_249 : decode cX9_goes 249 = .ok (.istore 7, 2) := by decide +kernel
theorem dX9_goes_251 : decode cX9_goes 251 = .ok (.aload_n 0, 1) := by decide +kernel
theorem dX9_goes_252 : decode cX9_goes 252 = .ok (.getfield 22, 3) := by decide +kernel
theorem dX9_goes_255 : decode cX9_goes 255 = .ok (.iload 6, 2) := by decide +kernel
theorem dX9_goes_257 : decode cX9_goes 257 = .ok (.iload 7, 2) := by decide +kernel
theorem dX9_goes_259 : decode cX9_goes 259 = .ok (.ifCond .ge 7, 3) := by decide +kernel
theorem dX9_goes_262 : decode cX9_goes 262 = .ok (.iconst 0, 1) := by decide +kernel
theorem dX9_goes_263 : decode cX9_goes 263 = .ok (.goto 5, 3) := by decide +kernel
theorem dX9_goes_266 : decode cX9_goes 266 = .ok (.iload 7, 2) := by decide +kernel
theorem dX9_goes_268 : decode cX9_goes 268 = .ok (.iastore, 1) := by decide +kernel
theorem dX9_goes_269 : decode cX9_goes 269 = .ok (.iconst 1, 1) := by decide +kernel
theorem dX9_goes_270 : decode cX9_goes 270 = .ok (.ireturn, 1) := by decide +kernel
theorem dX9_drinks_0 : decode cX9_drinks 0 = .ok (.aload_n 0, 1) := by decide +kernel
theorem dX9_drinks_1 : decode cX9_drinks 1 = .ok (.iload_n 1, 1) := by decide +kernel
theorem dX9_drinks_2 : decode cX9_drinks 2 = .ok (.invokevirtual 114, 3) := by decide +kernel
theorem dX9_drinks_5 : decode cX9_drinks 5 = .ok (.ifCond .eq 13, 3) := by decide +kernel
theorem dX9_drinks_8 : decode cX9_drinks 8 = .ok (.iload_n 2, 1) := by decide +kernel
theorem dX9_drinks_9 : decode cX9_drinks 9 = .ok (.iconst 1, 1) := by decide +kernel
theorem dX9_drinks_10 : decode cX9_drinks 10 = .ok (.bipush 20, 2) := by decide +kernel
theorem dX9_drinks_12 : decode cX9_drinks 12 = .ok (.invokestatic 54, 3) := by decide +kernel
theorem dX9_drinks_15 : decode cX9_drinks 15 = .ok (.ifCond .ne 5, 3) := by decide +kernel
theorem dX9_drinks_18 : decode cX9_drinks 18 = .ok (.iconst (-1), 1) := by decide +kernel
theorem dX9_drinks_19 : decode cX9_drinks 19 = .ok (.ireturn, 1) := by decide +kernel
theorem dX9_drinks_20 : decode cX9_drinks 20 = .ok (.bipush 14, 2) := by decide +kernel
theorem dX9_drinks_22 : decode cX9_drinks 22 = .ok (.bipush 6, 2) := by decide +kernel
theorem dX9_drinks_24 : decode cX9_drinks 24 = .ok (.iload_n 1, 1) := by decide +kernel
theorem dX9_drinks_25 : decode cX9_drinks 25 = .ok (.imul, 1) := by decide +kernel
theorem dX9_drinks_26 : decode cX9_drinks 26 = .ok (.iadd, 1) := by decide +kernel
theorem dX9_drinks_27 : decode cX9_drinks 27 = .ok (.aload_n 0, 1) := by decide +kernel
theorem dX9_drinks_28 : decode cX9_drinks 28 = .ok (.getfield 22, 3) := by decide +kernel
theorem dX9_drinks_31 : decode cX9_drinks 31 = .ok (.iload_n 1, 1) := by decide +kernel
theorem dX9_drinks_32 : decode cX9_drinks 32 = .ok (.iaload, 1) := by decide +kernel
theorem dX9_drinks_33 : decode cX9_drinks 33 = .ok (.iadd, 1) := by decide +kernel
theorem dX9_drinks_34 : decode cX9_drinks 34 = .ok (.istore_n 3, 1) := by decide +kernel
theorem dX9_drinks_35 : decode cX9_drinks 35 = .ok (.aload_n 0, 1) := by decide +kernel
theorem dX9_drinks_36 : decode cX9_drinks 36 = .ok (.iload_n 1, 1) := by decide +kernel
theorem dX9_drinks_37 : decode cX9_drinks 37 = .ok (.invokevirtual 117, 3) := by decide +kernel
theorem dX9_drinks_40 : decode cX9_drinks 40 = .ok (.ifCond .eq 29, 3) := by decide +kernel
theorem dX9_drinks_43 : decode cX9_drinks 43 = .ok (.iload_n 2, 1) := by decide +kernel
theorem dX9_drinks_44 : decode cX9_drinks 44 = .ok (.aload_n 0, 1) := by decide +kernel
theorem dX9_drinks_45 : decode cX9_drinks 45 = .ok (.getfield 22, 3) := by decide +kernel
theorem dX9_drinks_48 : decode cX9_drinks 48 = .ok (.bipush 8, 2) := by decide +kernel
theorem dX9_drinks_50 : decode cX9_drinks 50 = .ok (.iload_n 1, 1) := by decide +kernel
theorem dX9_drinks_51 : decode cX9_drinks 51 = .ok (.iadd, 1) := by decide +kernel
theorem dX9_drinks_52 : decode cX9_drinks 52 = .ok (.iaload, 1) := by decide +kernel
theorem dX9_drinks_53 : decode cX9_drinks 53 = .ok (.if_icmp .gt 16, 3) := by decide +kernel
theorem dX9_drinks_56 : decode cX9_drinks 56 = .ok (.aload_n 0, 1) := by decide +kernel
theorem dX9_drinks_57 : decode cX9_drinks 57 = .ok (.getfield 22, 3) := by decide +kernel
theorem dX9_drinks_60 : decode cX9_drinks 60 = .ok (.iload_n 3, 1) := by decide +kernel
theorem dX9_drinks_61 : decode cX9_drinks 61 = .ok (.iaload, 1) := by decide +kernel
theorem dX9_drinks_62 : decode cX9_drinks 62 = .ok (.iload_n 2, 1) := by decide +kernel
theorem dX9_drinks_63 : decode cX9_drinks 63 = .ok (.iadd, 1) := by decide +kernel
theorem dX9_drinks_64 : decode cX9_drinks 64 = .ok (.bipush 99, 2) := by decide +kernel
theorem dX9_drinks_66 : decode cX9_drinks 66 = .ok (.if_icmp .le 6, 3) := by decide +kernel
theorem dX9_drinks_69 : decode cX9_drinks 69 = .ok (.bipush (-2), 2) := by decide +kernel
theorem dX9_drinks_71 : decode cX9_drinks 71 = .ok (.ireturn, 1) := by decide +kernel
theorem dX9_drinks_72 : decode cX9_drinks 72 = .ok (.aload_n 0, 1) := by decide +kernel
theorem dX9_drinks_73 : decode cX9_drinks 73 = .ok (.invokevirtual 136, 3) := by decide +kernel
theorem dX9_drinks_76 : decode cX9_drinks 76 = .ok (.aload_n 0, 1) := by decide +kernel
theorem dX9_drinks_77 : decode cX9_drinks 77 = .ok (.getfield 22, 3) := by decide +kernel
theorem dX9_drinks_80 : decode cX9_drinks 80 = .ok (.bipush 8, 2) := by decide +kernel
theorem dX9_drinks_82 : decode cX9_drinks 82 = .ok (.iload_n 1, 1) := by decide +kernel
theorem dX9_drinks_83 : decode cX9_drinks 83 = .ok (.iadd, 1) := by decide +kernel
theorem dX9_drinks_84 : decode cX9_drinks 84 = .ok (.dup2, 1) := by decide +kernel
theorem dX9_drinks_85 : decode cX9_drinks 85 = .ok (.iaload, 1) := by decide +kernel
theorem dX9_drinks_86 : decode cX9_drinks 86 = .ok (.iload_n 2, 1) := by decide +kernel
theorem dX9_drinks_87 : decode cX9_drinks 87 = .ok (.isub, 1) := by decide +kernel
theorem dX9_drinks_88 : decode cX9_drinks 88 = .ok (.iastore, 1) := by decide +kernel
theorem dX9_drinks_89 : decode cX9_drinks 89 = .ok (.aload_n 0, 1) := by decide +kernel
theorem dX9_drinks_90 : decode cX9_drinks 90 = .ok (.getfield 22, 3) := by decide +kernel
theorem dX9_drinks_93 : decode cX9_drinks 93 = .ok (.iload_n 3, 1) := by decide +kernel
theorem dX9_drinks_94 : decode cX9_drinks 94 = .ok (.dup2, 1) := by decide +kernel
theorem dX9_drinks_95 : decode cX9_drinks 95 = .ok (.iaload, 1) := by decide +kernel
theorem dX9_drinks_96 : decode cX9_drinks 96 = .ok (.iload_n 2, 1) := by decide +kernel
theorem dX9_drinks_97 : decode cX9_drinks 97 = .ok (.iadd, 1) := by decide +kernel
theorem dX9_drinks_98 : decode cX9_drinks 98 = .ok (.iastore, 1) := by decide +kernel
theorem dX9_drinks_99 : decode cX9_drinks 99 = .ok (.aload_n 0, 1) := by decide +kernel
theorem dX9_drinks_100 : decode cX9_drinks 100 = .ok (.getfield 22, 3) := by decide +kernel
theorem dX9_drinks_103 : decode cX9_drinks 103 = .ok (.iload_n 3, 1) := by decide +kernel
theorem dX9_drinks_104 : decode cX9_drinks 104 = .ok (.iaload, 1) := by decide +kernel
theorem dX9_drinks_105 : decode cX9_drinks 105 = .ok (.ireturn, 1) := by decide +kernel
theorem dX9_fills_0 : decode cX9_fills 0 = .ok (.aload_n 0, 1) := by decide +kernel
theorem dX9_fills_1 : decode cX9_fills 1 = .ok (.iload_n 1, 1) := by decide +kernel
theorem dX9_fills_2 : decode cX9_fills 2 = .ok (.invokevirtual 114, 3) := by decide +kernel
theorem dX9_fills_5 : decode cX9_fills 5 = .ok (.ifCond .eq 13, 3) := by decide +kernel
theorem dX9_fills_8 : decode cX9_fills 8 = .ok (.iload_n 2, 1) := by decide +kernel
theorem dX9_fills_9 : decode cX9_fills 9 = .ok (.iconst 1, 1) := by decide +kernel
theorem dX9_fills_10 : decode cX9_fills 10 = .ok (.bipush 20, 2) := by decide +kernel
theorem dX9_fills_12 : decode cX9_fills 12 = .ok (.invokestatic 54, 3) := by decide +kernel
theorem dX9_fills_15 : decode cX9_fills 15 = .ok (.ifCond .ne 5, 3) := by decide +kernel
theorem dX9_fills_18 : decode cX9_fills 18 = .ok (.iconst (-1), 1) := by decide +kernel
theorem dX9_fills_19 : decode cX9_fills 19 = .ok (.ireturn, 1) := by decide +kernel
theorem dX9_fills_20 : decode cX9_fills 20 = .ok (.bipush 14, 2) := by decide +kernel
theorem dX9_fills_22 : decode cX9_fills 22 = .ok (.bipush 6, 2) := by decide +kernel
theorem dX9_fills_24 : decode cX9_fills 24 = .ok (.iload_n 1, 1) := by decide +kernel
theorem dX9_fills_25 : decode cX9_fills 25 = .ok (.imul, 1) := by decide +kernel
theorem dX9_fills_26 : decode cX9_fills 26 = .ok (.iadd, 1) := by decide +kernel
theorem dX9_fills_27 : decode cX9_fills 27 = .ok (.aload_n 0, 1) := by decide +kernel
theorem dX9_fills_28 : decode cX9_fills 28 = .ok (.getfield 22, 3) := by decide +kernel
theorem dX9_fills_31 : decode cX9_fills 31 = .ok (.iload_n 1, 1) := by decide +kernel
theorem dX9_fills_32 : decode cX9_fills 32 = .ok (.iaload, 1) := by decide +kernel
theorem dX9_fills_33 : decode cX9_fills 33 = .ok (.iadd, 1) := by decide +kernel
theorem dX9_fills_34 : decode cX9_fills 34 = .ok (.istore_n 3, 1) := by decide +kernel
theorem dX9_fills_35 : decode cX9_fills 35 = .ok (.aload_n 0, 1) := by decide +kernel
theorem dX9_fills_36 : decode cX9_fills 36 = .ok (.iload_n 1, 1) := by decide +kernel
theorem dX9_fills_37 : decode cX9_fills 37 = .ok (.invokevirtual 117, 3) := by decide +kernel
theorem dX9_fills_40 : decode cX9_fills 40 = .ok (.ifCond .eq 31, 3) := by decide +kernel
theorem dX9_fills_43 : decode cX9_fills 43 = .ok (.aload_n 0, 1) := by decide +kernel
theorem dX9_fills_44 : decode cX9_fills 44 = .ok (.getfield 22, 3) := by decide +kernel
theorem dX9_fills_47 : decode cX9_fills 47 = .ok (.iconst 4, 1) := by decide +kernel
theorem dX9_fills_48 : decode cX9_fills 48 = .ok (.iload_n 1, 1) := by decide +kernel
theorem dX9_fills_49 : decode cX9_fills 49 = .ok (.iadd, 1) := by decide +kernel
theorem dX9_fills_50 : decode cX9_fills 50 = .ok (.iaload, 1) := by decide +kernel
theorem dX9_fills_51 : decode cX9_fills 51 = .ok (.iload_n 2, 1) := by decide +kernel
theorem dX9_fills_52 : decode cX9_fills 52 = .ok (.iadd, 1) := by decide +kernel
theorem dX9_fills_53 : decode cX9_fills 53 = .ok (.bipush 20, 2) := by decide +kernel
theorem dX9_fills_55 : decode cX9_fills 55 = .ok (.if_icmp .gt 16, 3) := by decide +kernel
theorem dX9_fills_58 : decode cX9_fills 58 = .ok (.aload_n 0, 1) := by decide +kernel
theorem dX9_fills_59 : decode cX9_fills 59 = .ok (.getfield 22, 3) := by decide +kernel
theorem dX9_fills_62 : decode cX9_fills 62 = .ok (.iload_n 3, 1) := by decide +kernel
theorem dX9_fills_63 : decode cX9_fills 63 = .ok (.iaload, 1) := by decide +kernel
theorem dX9_fills_64 : decode cX9_fills 64 = .ok (.iload_n 2, 1) := by decide +kernel
theorem dX9_fills_65 : decode cX9_fills 65 = .ok (.iadd, 1) := by decide +kernel
theorem dX9_fills_66 : decode cX9_fills 66 = .ok (.bipush 99, 2) := by decide +kernel
theorem dX9_fills_68 : decode cX9_fills 68 = .ok (.if_icmp .le 6, 3) := by decide +kernel
theorem dX9_fills_71 : decode cX9_fills 71 = .ok (.bipush (-2), 2) := by decide +kernel
theorem dX9_fills_73 : decode cX9_fills 73 = .ok (.ireturn, 1) := by decide +kernel
theorem dX9_fills_74 : decode cX9_fills 74 = .ok (.aload_n 0, 1) := by decide +kernel
theorem dX9_fills_75 : decode cX9_fills 75 = .ok (.invokevirtual 136, 3) := by decide +kernel
theorem dX9_fills_78 : decode cX9_fills 78 = .ok (.aload_n 0, 1) := by decide +kernel
theorem dX9_fills_79 : decode cX9_fills 79 = .ok (.getfield 22, 3) := by decide +kernel
theorem dX9_fills_82 : decode cX9_fills 82 = .ok (.iconst 4, 1) := by decide +kernel
theorem dX9_fills_83 : decode cX9_fills 83 = .ok (.iload_n 1, 1) := by decide +kernel
theorem dX9_fills_84 : decode cX9_fills 84 = .ok (.iadd, 1) := by decide +kernel
theorem dX9_fills_85 : decode cX9_fills 85 = .ok (.dup2, 1) := by decide +kernel
theorem dX9_fills_86 : decode cX9_fills 86 = .ok (.iaload, 1) := by decide +kernel
theorem dX9_fills_87 : decode cX9_fills 87 = .ok (.iload_n 2, 1) := by decide +kernel
theorem dX9_fills_88 : decode cX9_fills 88 = .ok (.iadd, 1) := by decide +kernel
theorem dX9_fills_89 : decode cX9_fills 89 = .ok (.iastore, 1) := by decide +kernel
theorem dX9_fills_90 : decode cX9_fills 90 = .ok (.aload_n 0, 1) := by decide +kernel
theorem dX9_fills_91 : decode cX9_fills 91 = .ok (.getfield 22, 3) := by decide +kernel
theorem dX9_fills_94 : decode cX9_fills 94 = .ok (.iload_n 3, 1) := by decide +kernel
theorem dX9_fills_95 : decode cX9_fills 95 = .ok (.dup2, 1) := by decide +kernel
theorem dX9_fills_96 : decode cX9_fills 96 = .ok (.iaload, 1) := by decide +kernel
theorem dX9_fills_97 : decode cX9_fills 97 = .ok (.iload_n 2, 1) := by decide +kernel
theorem dX9_fills_98 : decode cX9_fills 98 = .ok (.iadd, 1) := by decide +kernel
theorem dX9_fills_99 : decode cX9_fills 99 = .ok (.iastore, 1) := by decide +kernel
theorem dX9_fills_100 : decode cX9_fills 100 = .ok (.aload_n 0, 1) := by decide +kernel
theorem dX9_fills_101 : decode cX9_fills 101 = .ok (.getfield 22, 3) := by decide +kernel
theorem dX9_fills_104 : decode cX9_fills 104 = .ok (.iload_n 3, 1) := by decide +kernel
theorem dX9_fills_105 : decode cX9_fills 105 = .ok (.iaload, 1) := by decide +kernel
theorem dX9_fills_106 : decode cX9_fills 106 = .ok (.ireturn, 1) := by decide +kernel
theorem dX9_hands_0 : decode cX9_hands 0 = .ok (.aload_n 0, 1) := by decide +kernel
theorem dX9_hands_1 : decode cX9_hands 1 = .ok (.iload_n 1, 1) := by decide +kernel
theorem dX9_hands_2 : decode cX9_hands 2 = .ok (.invokevirtual 114, 3) := by decide +kernel
theorem dX9_hands_5 : decode cX9_hands 5 = .ok (.ifCond .eq 35, 3) := by decide +kernel
theorem dX9_hands_8 : decode cX9_hands 8 = .ok (.aload_n 0, 1) := by decide +kernel
theorem dX9_hands_9 : decode cX9_hands 9 = .ok (.iload_n 2, 1) := by decide +kernel
theorem dX9_hands_10 : decode cX9_hands 10 = .ok (.invokevirtual 114, 3) := by decide +kernel
theorem dX9_hands_13 : decode cX9_hands 13 = .ok (.ifCond .eq 27, 3) := by decide +kernel
theorem dX9_hands_16 : decode cX9_hands 16 = .ok (.iload_n 1, 1) := by decide +kernel
theorem dX9_hands_17 : decode cX9_hands 17 = .ok (.iload_n 2, 1) := by decide +kernel
theorem dX9_hands_18 : decode cX9_hands 18 = .ok (.if_icmp .eq 22, 3) := by decide +kernel
theorem dX9_hands_21 : decode cX9_hands 21 = .ok (.aload_n 0, 1) := by decide +kernel
theorem dX9_hands_22 : decode cX9_hands 22 = .ok (.iload_n 3, 1) := by decide +kernel
theorem dX9_hands_23 : decode cX9_hands 23 = .ok (.invokevirtual 126, 3) := by decide +kernel
theorem dX9_hands_26 : decode cX9_hands 26 = .ok (.ifCond .eq 14, 3) := by decide +kernel
theorem dX9_hands_29 : decode cX9_hands 29 = .ok (.iload 4, 2) := by decide +kernel
theorem dX9_hands_31 : decode cX9_hands 31 = .ok (.iconst 1, 1) := by decide +kernel
theorem dX9_hands_32 : decode cX9_hands 32 = .ok (.bipush 99, 2) := by decide +kernel
theorem dX9_hands_34 : decode cX9_hands 34 = .ok (.invokestatic 54, 3) := by decide +kernel
theorem dX9_hands_37 : decode cX9_hands 37 = .ok (.ifCond .ne 5, 3) := by decide +kernel
theorem dX9_hands_40 : decode cX9_hands 40 = .ok (.iconst (-1), 1) := by decide +kernel
theorem dX9_hands_41 : decode cX9_hands 41 = .ok (.ireturn, 1) := by decide +kernel
theorem dX9_hands_42 : decode cX9_hands 42 = .ok (.bipush 14, 2) := by decide +kernel
theorem dX9_hands_44 : decode cX9_hands 44 = .ok (.bipush 6, 2) := by decide +kernel
theorem dX9_hands_46 : decode cX9_hands 46 = .ok (.iload_n 1, 1) := by decide +kernel
theorem dX9_hands_47 : decode cX9_hands 47 = .ok (.imul, 1) := by decide +kernel
theorem dX9_hands_48 : decode cX9_hands 48 = .ok (.iadd, 1) := by decide +kernel
theorem dX9_hands_49 : decode cX9_hands 49 = .ok (.iload_n 3, 1) := by decide +kernel
theorem dX9_hands_50 : decode cX9_hands 50 = .ok (.iadd, 1) := by decide +kernel
theorem dX9_hands_51 : decode cX9_hands 51 = .ok (.istore 5, 2) := by decide +kernel
theorem dX9_hands_53 : decode cX9_hands 53 = .ok (.bipush 14, 2) := by decide +kernel
theorem dX9_hands_55 : decode cX9_hands 55 = .ok (.bipush 6, 2) := by decide +kernel
theorem dX9_hands_57 : decode cX9_hands 57 = .ok (.iload_n 2, 1) := by decide +kernel
theorem dX9_hands_58 : decode cX9_hands 58 = .ok (.imul, 1) := by decide +kernel
theorem dX9_hands_59 : decode cX9_hands 59 = .ok (.iadd, 1) := by decide +kernel
theorem dX9_hands_60 : decode cX9_hands 60 = .ok (.iload_n 3, 1) := by decide +kernel
theorem dX9_hands_61 : decode cX9_hands 61 = .ok (.iadd, 1) := by decide +kernel
theorem dX9_hands_62 : decode cX9_hands 62 = .ok (.istore 6, 2) := by decide +kernel
theorem dX9_hands_64 : decode cX9_hands 64 = .ok (.aload_n 0, 1) := by decide +kernel
theorem dX9_hands_65 : decode cX9_hands 65 = .ok (.iload_n 1, 1) := by decide +kernel
theorem dX9_hands_66 : decode cX9_hands 66 = .ok (.invokevirtual 117, 3) := by decide +kernel
theorem dX9_hands_69 : decode cX9_hands 69 = .ok (.ifCond .eq 38, 3) := by decide +kernel
theorem dX9_hands_72 : decode cX9_hands 72 = .ok (.aload_n 0, 1) := by decide +kernel
theorem dX9_hands_73 : decode cX9_hands 73 = .ok (.iload_n 2, 1) := by decide +kernel
theorem dX9_hands_74 : decode cX9_hands 74 = .ok (.invokevirtual 117, 3) := by decide +kernel
theorem dX9_hands_77 : decode cX9_hands 77 = .ok (.ifCond .eq 30, 3) := by decide +kernel
theorem dX9_hands_80 : decode cX9_hands 80 = .ok (.aload_n 0, 1) := by decide +kernel
theorem dX9_hands_81 : decode cX9_hands 81 = .ok (.getfield 22, 3) := by decide +kernel
theorem dX9_hands_84 : decode cX9_hands 84 = .ok (.iload 5, 2) := by decide +kernel
theorem dX9_hands_86 : decode cX9_hands 86 = .ok (.iaload, 1) := by decide +kernel
theorem dX9_hands_87 : decode cX9_hands 87 = .ok (.iload 4, 2) := by decide +kernel
theorem dX9_hands_89 : decode cX9_hands 89 = .ok (.if_icmp .lt 18, 3) := by decide +kernel
theorem dX9_hands_92 : decode cX9_hands 92 = .ok (.aload_n 0, 1) := by decide +kernel
theorem dX9_hands_93 : decode cX9_hands 93 = .ok (.getfield 22, 3) := by decide +kernel
theorem dX9_hands_96 : decode cX9_hands 96 = .ok (.iload 6, 2) := by decide +kernel
theorem dX9_hands_98 : decode cX9_hands 98 = .ok (.iaload, 1) := by decide +kernel
