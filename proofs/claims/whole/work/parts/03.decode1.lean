theorem dX4_tellStage_47 : decode cX4_tellStage 47 = .ok (.iconst 0, 1) := by decide +kernel
theorem dX4_tellStage_48 : decode cX4_tellStage 48 = .ok (.iaload, 1) := by decide +kernel
theorem dX4_tellStage_49 : decode cX4_tellStage 49 = .ok (.aload_n 0, 1) := by decide +kernel
theorem dX4_tellStage_50 : decode cX4_tellStage 50 = .ok (.getfield 41, 3) := by decide +kernel
theorem dX4_tellStage_53 : decode cX4_tellStage 53 = .ok (.iconst 1, 1) := by decide +kernel
theorem dX4_tellStage_54 : decode cX4_tellStage 54 = .ok (.iaload, 1) := by decide +kernel
theorem dX4_tellStage_55 : decode cX4_tellStage 55 = .ok (.if_icmp .eq 26, 3) := by decide +kernel
theorem dX4_tellStage_58 : decode cX4_tellStage 58 = .ok (.aload_n 0, 1) := by decide +kernel
theorem dX4_tellStage_59 : decode cX4_tellStage 59 = .ok (.aload_n 1, 1) := by decide +kernel
theorem dX4_tellStage_60 : decode cX4_tellStage 60 = .ok (.iconst 2, 1) := by decide +kernel
theorem dX4_tellStage_61 : decode cX4_tellStage 61 = .ok (.iconst 1, 1) := by decide +kernel
theorem dX4_tellStage_62 : decode cX4_tellStage 62 = .ok (.bipush 9, 2) := by decide +kernel
theorem dX4_tellStage_64 : decode cX4_tellStage 64 = .ok (.invokevirtual 132, 3) := by decide +kernel
theorem dX4_tellStage_67 : decode cX4_tellStage 67 = .ok (.ifCond .eq 14, 3) := by decide +kernel
theorem dX4_tellStage_70 : decode cX4_tellStage 70 = .ok (.aload_n 0, 1) := by decide +kernel
theorem dX4_tellStage_71 : decode cX4_tellStage 71 = .ok (.aload_n 1, 1) := by decide +kernel
theorem dX4_tellStage_72 : decode cX4_tellStage 72 = .ok (.iconst 3, 1) := by decide +kernel
theorem dX4_tellStage_73 : decode cX4_tellStage 73 = .ok (.iconst 0, 1) := by decide +kernel
theorem dX4_tellStage_74 : decode cX4_tellStage 74 = .ok (.iconst 1, 1) := by decide +kernel
theorem dX4_tellStage_75 : decode cX4_tellStage 75 = .ok (.invokevirtual 132, 3) := by decide +kernel
theorem dX4_tellStage_78 : decode cX4_tellStage 78 = .ok (.ifCond .ne 5, 3) := by decide +kernel
theorem dX4_tellStage_81 : decode cX4_tellStage 81 = .ok (.iconst 0, 1) := by decide +kernel
theorem dX4_tellStage_82 : decode cX4_tellStage 82 = .ok (.ireturn, 1) := by decide +kernel
theorem dX4_tellStage_83 : decode cX4_tellStage 83 = .ok (.aload_n 0, 1) := by decide +kernel
theorem dX4_tellStage_84 : decode cX4_tellStage 84 = .ok (.aload_n 1, 1) := by decide +kernel
theorem dX4_tellStage_85 : decode cX4_tellStage 85 = .ok (.iconst 4, 1) := by decide +kernel
theorem dX4_tellStage_86 : decode cX4_tellStage 86 = .ok (.iconst 0, 1) := by decide +kernel
theorem dX4_tellStage_87 : decode cX4_tellStage 87 = .ok (.aload_n 0, 1) := by decide +kernel
theorem dX4_tellStage_88 : decode cX4_tellStage 88 = .ok (.getfield 44, 3) := by decide +kernel
theorem dX4_tellStage_91 : decode cX4_tellStage 91 = .ok (.iconst 1, 1) := by decide +kernel
theorem dX4_tellStage_92 : decode cX4_tellStage 92 = .ok (.isub, 1) := by decide +kernel
theorem dX4_tellStage_93 : decode cX4_tellStage 93 = .ok (.invokevirtual 132, 3) := by decide +kernel
theorem dX4_tellStage_96 : decode cX4_tellStage 96 = .ok (.ifCond .eq 10, 3) := by decide +kernel
theorem dX4_tellStage_99 : decode cX4_tellStage 99 = .ok (.aload_n 1, 1) := by decide +kernel
theorem dX4_tellStage_100 : decode cX4_tellStage 100 = .ok (.invokestatic 136, 3) := by decide +kernel
theorem dX4_tellStage_103 : decode cX4_tellStage 103 = .ok (.ifCond .ne 5, 3) := by decide +kernel
theorem dX4_tellStage_106 : decode cX4_tellStage 106 = .ok (.iconst 0, 1) := by decide +kernel
theorem dX4_tellStage_107 : decode cX4_tellStage 107 = .ok (.ireturn, 1) := by decide +kernel
theorem dX4_tellStage_108 : decode cX4_tellStage 108 = .ok (.aload_n 0, 1) := by decide +kernel
theorem dX4_tellStage_109 : decode cX4_tellStage 109 = .ok (.getfield 15, 3) := by decide +kernel
theorem dX4_tellStage_112 : decode cX4_tellStage 112 = .ok (.aload_n 0, 1) := by decide +kernel
theorem dX4_tellStage_113 : decode cX4_tellStage 113 = .ok (.getfield 48, 3) := by decide +kernel
theorem dX4_tellStage_116 : decode cX4_tellStage 116 = .ok (.aload_n 0, 1) := by decide +kernel
theorem dX4_tellStage_117 : decode cX4_tellStage 117 = .ok (.getfield 41, 3) := by decide +kernel
theorem dX4_tellStage_120 : decode cX4_tellStage 120 = .ok (.iconst 0, 1) := by decide +kernel
theorem dX4_tellStage_121 : decode cX4_tellStage 121 = .ok (.iaload, 1) := by decide +kernel
theorem dX4_tellStage_122 : decode cX4_tellStage 122 = .ok (.iastore, 1) := by decide +kernel
theorem dX4_tellStage_123 : decode cX4_tellStage 123 = .ok (.aload_n 0, 1) := by decide +kernel
theorem dX4_tellStage_124 : decode cX4_tellStage 124 = .ok (.getfield 19, 3) := by decide +kernel
theorem dX4_tellStage_127 : decode cX4_tellStage 127 = .ok (.aload_n 0, 1) := by decide +kernel
theorem dX4_tellStage_128 : decode cX4_tellStage 128 = .ok (.getfield 48, 3) := by decide +kernel
theorem dX4_tellStage_131 : decode cX4_tellStage 131 = .ok (.aload_n 0, 1) := by decide +kernel
theorem dX4_tellStage_132 : decode cX4_tellStage 132 = .ok (.getfield 41, 3) := by decide +kernel
theorem dX4_tellStage_135 : decode cX4_tellStage 135 = .ok (.iconst 1, 1) := by decide +kernel
theorem dX4_tellStage_136 : decode cX4_tellStage 136 = .ok (.iaload, 1) := by decide +kernel
theorem dX4_tellStage_137 : decode cX4_tellStage 137 = .ok (.iastore, 1) := by decide +kernel
theorem dX4_tellStage_138 : decode cX4_tellStage 138 = .ok (.aload_n 0, 1) := by decide +kernel
theorem dX4_tellStage_139 : decode cX4_tellStage 139 = .ok (.getfield 22, 3) := by decide +kernel
theorem dX4_tellStage_142 : decode cX4_tellStage 142 = .ok (.aload_n 0, 1) := by decide +kernel
theorem dX4_tellStage_143 : decode cX4_tellStage 143 = .ok (.getfield 48, 3) := by decide +kernel
theorem dX4_tellStage_146 : decode cX4_tellStage 146 = .ok (.aload_n 0, 1) := by decide +kernel
theorem dX4_tellStage_147 : decode cX4_tellStage 147 = .ok (.getfield 41, 3) := by decide +kernel
theorem dX4_tellStage_150 : decode cX4_tellStage 150 = .ok (.iconst 2, 1) := by decide +kernel
theorem dX4_tellStage_151 : decode cX4_tellStage 151 = .ok (.iaload, 1) := by decide +kernel
theorem dX4_tellStage_152 : decode cX4_tellStage 152 = .ok (.iastore, 1) := by decide +kernel
theorem dX4_tellStage_153 : decode cX4_tellStage 153 = .ok (.aload_n 0, 1) := by decide +kernel
theorem dX4_tellStage_154 : decode cX4_tellStage 154 = .ok (.getfield 25, 3) := by decide +kernel
theorem dX4_tellStage_157 : decode cX4_tellStage 157 = .ok (.aload_n 0, 1) := by decide +kernel
theorem dX4_tellStage_158 : decode cX4_tellStage 158 = .ok (.getfield 48, 3) := by decide +kernel
theorem dX4_tellStage_161 : decode cX4_tellStage 161 = .ok (.aload_n 0, 1) := by decide +kernel
theorem dX4_tellStage_162 : decode cX4_tellStage 162 = .ok (.getfield 41, 3) := by decide +kernel
theorem dX4_tellStage_165 : decode cX4_tellStage 165 = .ok (.iconst 3, 1) := by decide +kernel
theorem dX4_tellStage_166 : decode cX4_tellStage 166 = .ok (.iaload, 1) := by decide +kernel
theorem dX4_tellStage_167 : decode cX4_tellStage 167 = .ok (.iconst 1, 1) := by decide +kernel
theorem dX4_tellStage_168 : decode cX4_tellStage 168 = .ok (.if_icmp .ne 7, 3) := by decide +kernel
theorem dX4_tellStage_171 : decode cX4_tellStage 171 = .ok (.iconst 1, 1) := by decide +kernel
theorem dX4_tellStage_172 : decode cX4_tellStage 172 = .ok (.goto 4, 3) := by decide +kernel
theorem dX4_tellStage_175 : decode cX4_tellStage 175 = .ok (.iconst 0, 1) := by decide +kernel
theorem dX4_tellStage_176 : decode cX4_tellStage 176 = .ok (.bastore, 1) := by decide +kernel
theorem dX4_tellStage_177 : decode cX4_tellStage 177 = .ok (.aload_n 0, 1) := by decide +kernel
theorem dX4_tellStage_178 : decode cX4_tellStage 178 = .ok (.getfield 28, 3) := by decide +kernel
theorem dX4_tellStage_181 : decode cX4_tellStage 181 = .ok (.aload_n 0, 1) := by decide +kernel
theorem dX4_tellStage_182 : decode cX4_tellStage 182 = .ok (.getfield 48, 3) := by decide +kernel
theorem dX4_tellStage_185 : decode cX4_tellStage 185 = .ok (.aload_n 0, 1) := by decide +kernel
theorem dX4_tellStage_186 : decode cX4_tellStage 186 = .ok (.getfield 41, 3) := by decide +kernel
theorem dX4_tellStage_189 : decode cX4_tellStage 189 = .ok (.iconst 4, 1) := by decide +kernel
theorem dX4_tellStage_190 : decode cX4_tellStage 190 = .ok (.iaload, 1) := by decide +kernel
theorem dX4_tellStage_191 : decode cX4_tellStage 191 = .ok (.iastore, 1) := by decide +kernel
theorem dX4_tellStage_192 : decode cX4_tellStage 192 = .ok (.aload_n 0, 1) := by decide +kernel
theorem dX4_tellStage_193 : decode cX4_tellStage 193 = .ok (.dup, 1) := by decide +kernel
theorem dX4_tellStage_194 : decode cX4_tellStage 194 = .ok (.getfield 48, 3) := by decide +kernel
theorem dX4_tellStage_197 : decode cX4_tellStage 197 = .ok (.iconst 1, 1) := by decide +kernel
theorem dX4_tellStage_198 : decode cX4_tellStage 198 = .ok (.iadd, 1) := by decide +kernel
theorem dX4_tellStage_199 : decode cX4_tellStage 199 = .ok (.putfield 48, 3) := by decide +kernel
theorem dX4_tellStage_202 : decode cX4_tellStage 202 = .ok (.iconst 1, 1) := by decide +kernel
theorem dX4_tellStage_203 : decode cX4_tellStage 203 = .ok (.ireturn, 1) := by decide +kernel
theorem dX4_tellCaravan_0 : decode cX4_tellCaravan 0 = .ok (.aload_n 0, 1) := by decide +kernel
theorem dX4_tellCaravan_1 : decode cX4_tellCaravan 1 = .ok (.getfield 51, 3) := by decide +kernel
theorem dX4_tellCaravan_4 : decode cX4_tellCaravan 4 = .ok (.iconst 4, 1) := by decide +kernel
theorem dX4_tellCaravan_5 : decode cX4_tellCaravan 5 = .ok (.if_icmp .ge 19, 3) := by decide +kernel
theorem dX4_tellCaravan_8 : decode cX4_tellCaravan 8 = .ok (.aload_n 0, 1) := by decide +kernel
theorem dX4_tellCaravan_9 : decode cX4_tellCaravan 9 = .ok (.aload_n 1, 1) := by decide +kernel
theorem dX4_tellCaravan_10 : decode cX4_tellCaravan 10 = .ok (.iconst 0, 1) := by decide +kernel
theorem dX4_tellCaravan_11 : decode cX4_tellCaravan 11 = .ok (.iconst 0, 1) := by decide +kernel
theorem dX4_tellCaravan_12 : decode cX4_tellCaravan 12 = .ok (.aload_n 0, 1) := by decide +kernel
theorem dX4_tellCaravan_13 : decode cX4_tellCaravan 13 = .ok (.getfield 44, 3) := by decide +kernel
theorem dX4_tellCaravan_16 : decode cX4_tellCaravan 16 = .ok (.iconst 1, 1) := by decide +kernel
theorem dX4_tellCaravan_17 : decode cX4_tellCaravan 17 = .ok (.isub, 1) := by decide +kernel
theorem dX4_tellCaravan_18 : decode cX4_tellCaravan 18 = .ok (.invokevirtual 132, 3) := by decide +kernel
theorem dX4_tellCaravan_21 : decode cX4_tellCaravan 21 = .ok (.ifCond .ne 5, 3) := by decide +kernel
theorem dX4_tellCaravan_24 : decode cX4_tellCaravan 24 = .ok (.iconst 0, 1) := by decide +kernel
theorem dX4_tellCaravan_25 : decode cX4_tellCaravan 25 = .ok (.ireturn, 1) := by decide +kernel
theorem dX4_tellCaravan_26 : decode cX4_tellCaravan 26 = .ok (.aload_n 0, 1) := by decide +kernel
theorem dX4_tellCaravan_27 : decode cX4_tellCaravan 27 = .ok (.aload_n 1, 1) := by decide +kernel
theorem dX4_tellCaravan_28 : decode cX4_tellCaravan 28 = .ok (.iconst 1, 1) := by decide +kernel
theorem dX4_tellCaravan_29 : decode cX4_tellCaravan 29 = .ok (.iconst 0, 1) := by decide +kernel
theorem dX4_tellCaravan_30 : decode cX4_tellCaravan 30 = .ok (.bipush 20, 2) := by decide +kernel
theorem dX4_tellCaravan_32 : decode cX4_tellCaravan 32 = .ok (.invokevirtual 132, 3) := by decide +kernel
theorem dX4_tellCaravan_35 : decode cX4_tellCaravan 35 = .ok (.ifCond .eq 22, 3) := by decide +kernel
theorem dX4_tellCaravan_38 : decode cX4_tellCaravan 38 = .ok (.aload_n 0, 1) := by decide +kernel
theorem dX4_tellCaravan_39 : decode cX4_tellCaravan 39 = .ok (.aload_n 1, 1) := by decide +kernel
theorem dX4_tellCaravan_40 : decode cX4_tellCaravan 40 = .ok (.iconst 2, 1) := by decide +kernel
theorem dX4_tellCaravan_41 : decode cX4_tellCaravan 41 = .ok (.iconst 1, 1) := by decide +kernel
theorem dX4_tellCaravan_42 : decode cX4_tellCaravan 42 = .ok (.bipush 20, 2) := by decide +kernel
theorem dX4_tellCaravan_44 : decode cX4_tellCaravan 44 = .ok (.invokevirtual 132, 3) := by decide +kernel
theorem dX4_tellCaravan_47 : decode cX4_tellCaravan 47 = .ok (.ifCond .eq 10, 3) := by decide +kernel
theorem dX4_tellCaravan_50 : decode cX4_tellCaravan 50 = .ok (.aload_n 1, 1) := by decide +kernel
theorem dX4_tellCaravan_51 : decode cX4_tellCaravan 51 = .ok (.invokestatic 136, 3) := by decide +kernel
theorem dX4_tellCaravan_54 : decode cX4_tellCaravan 54 = .ok (.ifCond .ne 5, 3) := by decide +kernel
theorem dX4_tellCaravan_57 : decode cX4_tellCaravan 57 = .ok (.iconst 0, 1) := by decide +kernel
theorem dX4_tellCaravan_58 : decode cX4_tellCaravan 58 = .ok (.ireturn, 1) := by decide +kernel
theorem dX4_tellCaravan_59 : decode cX4_tellCaravan 59 = .ok (.aload_n 0, 1) := by decide +kernel
theorem dX4_tellCaravan_60 : decode cX4_tellCaravan 60 = .ok (.getfield 37, 3) := by decide +kernel
theorem dX4_tellCaravan_63 : decode cX4_tellCaravan 63 = .ok (.aload_n 0, 1) := by decide +kernel
theorem dX4_tellCaravan_64 : decode cX4_tellCaravan 64 = .ok (.getfield 51, 3) := by decide +kernel
theorem dX4_tellCaravan_67 : decode cX4_tellCaravan 67 = .ok (.aload_n 0, 1) := by decide +kernel
theorem dX4_tellCaravan_68 : decode cX4_tellCaravan 68 = .ok (.getfield 41, 3) := by decide +kernel
theorem dX4_tellCaravan_71 : decode cX4_tellCaravan 71 = .ok (.iconst 0, 1) := by decide +kernel
theorem dX4_tellCaravan_72 : decode cX4_tellCaravan 72 = .ok (.iaload, 1) := by decide +kernel
theorem dX4_tellCaravan_73 : decode cX4_tellCaravan 73 = .ok (.invokevirtual 139, 3) := by decide +kernel
theorem dX4_tellCaravan_76 : decode cX4_tellCaravan 76 = .ok (.aload_n 0, 1) := by decide +kernel
theorem dX4_tellCaravan_77 : decode cX4_tellCaravan 77 = .ok (.getfield 37, 3) := by decide +kernel
theorem dX4_tellCaravan_80 : decode cX4_tellCaravan 80 = .ok (.aload_n 0, 1) := by decide +kernel
theorem dX4_tellCaravan_81 : decode cX4_tellCaravan 81 = .ok (.getfield 51, 3) := by decide +kernel
theorem dX4_tellCaravan_84 : decode cX4_tellCaravan 84 = .ok (.aload_n 0, 1) := by decide +kernel
theorem dX4_tellCaravan_85 : decode cX4_tellCaravan 85 = .ok (.getfield 41, 3) := by decide +kernel
theorem dX4_tellCaravan_88 : decode cX4_tellCaravan 88 = .ok (.iconst 1, 1) := by decide +kernel
theorem dX4_tellCaravan_89 : decode cX4_tellCaravan 89 = .ok (.iaload, 1) := by decide +kernel
theorem dX4_tellCaravan_90 : decode cX4_tellCaravan 90 = .ok (.invokevirtual 143, 3) := by decide +kernel
theorem dX4_tellCaravan_93 : decode cX4_tellCaravan 93 = .ok (.aload_n 0, 1) := by decide +kernel
theorem dX4_tellCaravan_94 : decode cX4_tellCaravan 94 = .ok (.getfield 37, 3) := by decide +kernel
theorem dX4_tellCaravan_97 : decode cX4_tellCaravan 97 = .ok (.aload_n 0, 1) := by decide +kernel
theorem dX4_tellCaravan_98 : decode cX4_tellCaravan 98 = .ok (.getfield 51, 3) := by decide +kernel
theorem dX4_tellCaravan_101 : decode cX4_tellCaravan 101 = .ok (.invokevirtual 146, 3) := by decide +kernel
theorem dX4_tellCaravan_104 : decode cX4_tellCaravan 104 = .ok (.aload_n 0, 1) := by decide +kernel
theorem dX4_tellCaravan_105 : decode cX4_tellCaravan 105 = .ok (.getfield 31, 3) := by decide +kernel
theorem dX4_tellCaravan_108 : decode cX4_tellCaravan 108 = .ok (.aload_n 0, 1) := by decide +kernel
theorem dX4_tellCaravan_109 : decode cX4_tellCaravan 109 = .ok (.getfield 51, 3) := by decide +kernel
theorem dX4_tellCaravan_112 : decode cX4_tellCaravan 112 = .ok (.aload_n 0, 1) := by decide +kernel
theorem dX4_tellCaravan_113 : decode cX4_tellCaravan 113 = .ok (.getfield 41, 3) := by decide +kernel
theorem dX4_tellCaravan_116 : decode cX4_tellCaravan 116 = .ok (.iconst 2, 1) := by decide +kernel
theorem dX4_tellCaravan_117 : decode cX4_tellCaravan 117 = .ok (.iaload, 1) := by decide +kernel
theorem dX4_tellCaravan_118 : decode cX4_tellCaravan 118 = .ok (.iastore, 1) := by decide +kernel
theorem dX4_tellCaravan_119 : decode cX4_tellCaravan 119 = .ok (.aload_n 0, 1) := by decide +kernel
theorem dX4_tellCaravan_120 : decode cX4_tellCaravan 120 = .ok (.dup, 1) := by decide +kernel
theorem dX4_tellCaravan_121 : decode cX4_tellCaravan 121 = .ok (.getfield 51, 3) := by decide +kernel
theorem dX4_tellCaravan_124 : decode cX4_tellCaravan 124 = .ok (.iconst 1, 1) := by decide +kernel
theorem dX4_tellCaravan_125 : decode cX4_tellCaravan 125 = .ok (.iadd, 1) := by decide +kernel
theorem dX4_tellCaravan_126 : decode cX4_tellCaravan 126 = .ok (.putfield 51, 3) := by decide +kernel
theorem dX4_tellCaravan_129 : decode cX4_tellCaravan 129 = .ok (.iconst 1, 1) := by decide +kernel
theorem dX4_tellCaravan_130 : decode cX4_tellCaravan 130 = .ok (.ireturn, 1) := by decide +kernel
theorem dX4_tellKnots_0 : decode cX4_tellKnots 0 = .ok (.aload_n 0, 1) := by decide +kernel
theorem dX4_tellKnots_1 : decode cX4_tellKnots 1 = .ok (.aload_n 1, 1) := by decide +kernel
theorem dX4_tellKnots_2 : decode cX4_tellKnots 2 = .ok (.iconst 0, 1) := by decide +kernel
theorem dX4_tellKnots_3 : decode cX4_tellKnots 3 = .ok (.iconst 0, 1) := by decide +kernel
theorem dX4_tellKnots_4 : decode cX4_tellKnots 4 = .ok (.aload_n 0, 1) := by decide +kernel
theorem dX4_tellKnots_5 : decode cX4_tellKnots 5 = .ok (.getfield 51, 3) := by decide +kernel
theorem dX4_tellKnots_8 : decode cX4_tellKnots 8 = .ok (.iconst 1, 1) := by decide +kernel
theorem dX4_tellKnots_9 : decode cX4_tellKnots 9 = .ok (.isub, 1) := by decide +kernel
theorem dX4_tellKnots_10 : decode cX4_tellKnots 10 = .ok (.invokevirtual 132, 3) := by decide +kernel
theorem dX4_tellKnots_13 : decode cX4_tellKnots 13 = .ok (.ifCond .eq 19, 3) := by decide +kernel
theorem dX4_tellKnots_16 : decode cX4_tellKnots 16 = .ok (.aload_n 0, 1) := by decide +kernel
theorem dX4_tellKnots_17 : decode cX4_tellKnots 17 = .ok (.aload_n 1, 1) := by decide +kernel
theorem dX4_tellKnots_18 : decode cX4_tellKnots 18 = .ok (.iconst 1, 1) := by decide +kernel
theorem dX4_tellKnots_19 : decode cX4_tellKnots 19 = .ok (.iconst 0, 1) := by decide +kernel
theorem dX4_tellKnots_20 : decode cX4_tellKnots 20 = .ok (.aload_n 0, 1) := by decide +kernel
theorem dX4_tellKnots_21 : decode cX4_tellKnots 21 = .ok (.getfield 44, 3) := by decide +kernel
theorem dX4_tellKnots_24 : decode cX4_tellKnots 24 = .ok (.iconst 1, 1) := by decide +kernel
theorem dX4_tellKnots_25 : decode cX4_tellKnots 25 = .ok (.isub, 1) := by decide +kernel
theorem dX4_tellKnots_26 : decode cX4_tellKnots 26 = .ok (.invokevirtual 132, 3) := by decide +kernel
theorem dX4_tellKnots_29 : decode cX4_tellKnots 29 = .ok (.ifCond .ne 5, 3) := by decide +kernel
theorem dX4_tellKnots_32 : decode cX4_tellKnots 32 = .ok (.iconst 0, 1) := by decide +kernel
theorem dX4_tellKnots_33 : decode cX4_tellKnots 33 = .ok (.ireturn, 1) := by decide +kernel
theorem dX4_tellKnots_34 : decode cX4_tellKnots 34 = .ok (.aload_n 0, 1) := by decide +kernel
theorem dX4_tellKnots_35 : decode cX4_tellKnots 35 = .ok (.aload_n 1, 1) := by decide +kernel
theorem dX4_tellKnots_36 : decode cX4_tellKnots 36 = .ok (.iconst 2, 1) := by decide +kernel
theorem dX4_tellKnots_37 : decode cX4_tellKnots 37 = .ok (.iconst 0, 1) := by decide +kernel
theorem dX4_tellKnots_38 : decode cX4_tellKnots 38 = .ok (.bipush 60, 2) := by decide +kernel
theorem dX4_tellKnots_40 : decode cX4_tellKnots 40 = .ok (.invokevirtual 132, 3) := by decide +kernel
theorem dX4_tellKnots_43 : decode cX4_tellKnots 43 = .ok (.ifCond .eq 10, 3) := by decide +kernel
theorem dX4_tellKnots_46 : decode cX4_tellKnots 46 = .ok (.aload_n 1, 1) := by decide +kernel
theorem dX4_tellKnots_47 : decode cX4_tellKnots 47 = .ok (.invokestatic 136, 3) := by decide +kernel
theorem dX4_tellKnots_50 : decode cX4_tellKnots 50 = .ok (.ifCond .ne 5, 3) := by decide +kernel
theorem dX4_tellKnots_53 : decode cX4_tellKnots 53 = .ok (.iconst 0, 1) := by decide +kernel
theorem dX4_tellKnots_54 : decode cX4_tellKnots 54 = .ok (.ireturn, 1) := by decide +kernel
theorem dX4_tellKnots_55 : decode cX4_tellKnots 55 = .ok (.aload_n 0, 1) := by decide +kernel
theorem dX4_tellKnots_56 : decode cX4_tellKnots 56 = .ok (.getfield 37, 3) := by decide +kernel
theorem dX4_tellKnots_59 : decode cX4_tellKnots 59 = .ok (.aload_n 0, 1) := by decide +kernel
theorem dX4_tellKnots_60 : decode cX4_tellKnots 60 = .ok (.getfield 41, 3) := by decide +kernel
theorem dX4_tellKnots_63 : decode cX4_tellKnots 63 = .ok (.iconst 0, 1) := by decide +kernel
theorem dX4_tellKnots_64 : decode cX4_tellKnots 64 = .ok (.iaload, 1) := by decide +kernel
theorem dX4_tellKnots_65 : decode cX4_tellKnots 65 = .ok (.aload_n 0, 1) := by decide +kernel
theorem dX4_tellKnots_66 : decode cX4_tellKnots 66 = .ok (.getfield 41, 3) := by decide +kernel
theorem dX4_tellKnots_69 : decode cX4_tellKnots 69 = .ok (.iconst 1, 1) := by decide +kernel
theorem dX4_tellKnots_70 : decode cX4_tellKnots 70 = .ok (.iaload, 1) := by decide +kernel
theorem dX4_tellKnots_71 : decode cX4_tellKnots 71 = .ok (.aload_n 0, 1) := by decide +kernel
theorem dX4_tellKnots_72 : decode cX4_tellKnots 72 = .ok (.getfield 41, 3) := by decide +kernel
theorem dX4_tellKnots_75 : decode cX4_tellKnots 75 = .ok (.iconst 2, 1) := by decide +kernel
theorem dX4_tellKnots_76 : decode cX4_tellKnots 76 = .ok (.iaload, 1) := by decide +kernel
theorem dX4_tellKnots_77 : decode cX4_tellKnots 77 = .ok (.invokevirtual 150, 3) := by decide +kernel
theorem dX4_tellKnots_80 : decode cX4_tellKnots 80 = .ok (.iconst 1, 1) := by decide +kernel
theorem dX4_tellKnots_81 : decode cX4_tellKnots 81 = .ok (.ireturn, 1) := by decide +kernel
theorem dX4_tellDues_0 : decode cX4_tellDues 0 = .ok (.aload_n 0, 1) := by decide +kernel
theorem dX4_tellDues_1 : decode cX4_tellDues 1 = .ok (.aload_n 1, 1) := by decide +kernel
theorem dX4_tellDues_2 : decode cX4_tellDues 2 = .ok (.iconst 0, 1) := by decide +kernel
theorem dX4_tellDues_3 : decode cX4_tellDues 3 = .ok (.iconst 0, 1) := by decide +kernel
theorem dX4_tellDues_4 : decode cX4_tellDues 4 = .ok (.aload_n 0, 1) := by decide +kernel
theorem dX4_tellDues_5 : decode cX4_tellDues 5 = .ok (.getfield 44, 3) := by decide +kernel
theorem dX4_tellDues_8 : decode cX4_tellDues 8 = .ok (.iconst 1, 1) := by decide +kernel
theorem dX4_tellDues_9 : decode cX4_tellDues 9 = .ok (.isub, 1) := by decide +kernel
theorem dX4_tellDues_10 : decode cX4_tellDues 10 = .ok (.invokevirtual 132, 3) := by decide +kernel
theorem dX4_tellDues_13 : decode cX4_tellDues 13 = .ok (.ifCond .eq 34, 3) := by decide +kernel
theorem dX4_tellDues_16 : decode cX4_tellDues 16 = .ok (.aload_n 0, 1) := by decide +kernel
theorem dX4_tellDues_17 : decode cX4_tellDues 17 = .ok (.aload_n 1, 1) := by decide +kernel
theorem dX4_tellDues_18 : decode cX4_tellDues 18 = .ok (.iconst 1, 1) := by decide +kernel
theorem dX4_tellDues_19 : decode cX4_tellDues 19 = .ok (.iconst 0, 1) := by decide +kernel
theorem dX4_tellDues_20 : decode cX4_tellDues 20 = .ok (.aload_n 0, 1) := by decide +kernel
theorem dX4_tellDues_21 : decode cX4_tellDues 21 = .ok (.getfield 44, 3) := by decide +kernel
theorem dX4_tellDues_24 : decode cX4_tellDues 24 = .ok (.iconst 1, 1) := by decide +kernel
theorem dX4_tellDues_25 : decode cX4_tellDues 25 = .ok (.isub, 1) := by decide +kernel
theorem dX4_tellDues_26 : decode cX4_tellDues 26 = .ok (.invokevirtual 132, 3) := by decide +kernel
theorem dX4_tellDues_29 : decode cX4_tellDues 29 = .ok (.ifCond .eq 18, 3) := by decide +kernel
theorem dX4_tellDues_32 : decode cX4_tellDues 32 = .ok (.aload_n 0, 1) := by decide +kernel
theorem dX4_tellDues_33 : decode cX4_tellDues 33 = .ok (.getfield 41, 3) := by decide +kernel
theorem dX4_tellDues_36 : decode cX4_tellDues 36 = .ok (.iconst 0, 1) := by decide +kernel
theorem dX4_tellDues_37 : decode cX4_tellDues 37 = .ok (.iaload, 1) := by decide +kernel
theorem dX4_tellDues_38 : decode cX4_tellDues 38 = .ok (.aload_n 0, 1) := by decide +kernel
theorem dX4_tellDues_39 : decode cX4_tellDues 39 = .ok (.getfield 41, 3) := by decide +kernel
theorem dX4_tellDues_42 : decode cX4_tellDues 42 = .ok (.iconst 1, 1) := by decide +kernel
theorem dX4_tellDues_43 : decode cX4_tellDues 43 = .ok (.iaload, 1) := by decide +kernel
theorem dX4_tellDues_44 : decode cX4_tellDues 44 = .ok (.if_icmp .ne 5, 3) := by decide +kernel
theorem dX4_tellDues_47 : decode cX4_tellDues 47 = .ok (.iconst 0, 1) := by decide +kernel
theorem dX4_tellDues_48 : decode cX4_tellDues 48 = .ok (.ireturn, 1) := by decide +kernel
theorem dX4_tellDues_49 : decode cX4_tellDues 49 = .ok (.aload_n 0, 1) := by decide +kernel
theorem dX4_tellDues_50 : decode cX4_tellDues 50 = .ok (.aload_n 1, 1) := by decide +kernel
theorem dX4_tellDues_51 : decode cX4_tellDues 51 = .ok (.iconst 2, 1) := by decide +kernel
theorem dX4_tellDues_52 : decode cX4_tellDues 52 = .ok (.iconst 0, 1) := by decide +kernel
theorem dX4_tellDues_53 : decode cX4_tellDues 53 = .ok (.bipush 60, 2) := by decide +kernel
theorem dX4_tellDues_55 : decode cX4_tellDues 55 = .ok (.invokevirtual 132, 3) := by decide +kernel
theorem dX4_tellDues_58 : decode cX4_tellDues 58 = .ok (.ifCond .eq 10, 3) := by decide +kernel
theorem dX4_tellDues_61 : decode cX4_tellDues 61 = .ok (.aload_n 1, 1) := by decide +kernel
theorem dX4_tellDues_62 : decode cX4_tellDues 62 = .ok (.invokestatic 136, 3) := by decide +kernel
theorem dX4_tellDues_65 : decode cX4_tellDues 65 = .ok (.ifCond .ne 5, 3) := by decide +kernel
theorem dX4_tellDues_68 : decode cX4_tellDues 68 = .ok (.iconst 0, 1) := by decide +kernel
theorem dX4_tellDues_69 : decode cX4_tellDues 69 = .ok (.ireturn, 1) := by decide +kernel
theorem dX4_tellDues_70 : decode cX4_tellDues 70 = .ok (.aload_n 0, 1) := by decide +kernel
theorem dX4_tellDues_71 : decode cX4_tellDues 71 = .ok (.getfield 37, 3) := by decide +kernel
theorem dX4_tellDues_74 : decode cX4_tellDues 74 = .ok (.aload_n 0, 1) := by decide +kernel
theorem dX4_tellDues_75 : decode cX4_tellDues 75 = .ok (.getfield 41, 3) := by decide +kernel
theorem dX4_tellDues_78 : decode cX4_tellDues 78 = .ok (.iconst 0, 1) := by decide +kernel
theorem dX4_tellDues_79 : decode cX4_tellDues 79 = .ok (.iaload, 1) := by decide +kernel
theorem dX4_tellDues_80 : decode cX4_tellDues 80 = .ok (.aload_n 0, 1) := by decide +kernel
theorem dX4_tellDues_81 : decode cX4_tellDues 81 = .ok (.getfield 41, 3) := by decide +kernel
theorem dX4_tellDues_84 : decode cX4_tellDues 84 = .ok (.iconst 1, 1) := by decide +kernel
theorem dX4_tellDues_85 : decode cX4_tellDues 85 = .ok (.iaload, 1) := by decide +kernel
theorem dX4_tellDues_86 : decode cX4_tellDues 86 = .ok (.aload_n 0, 1) := by decide +kernel
theorem dX4_tellDues_87 : decode cX4_tellDues 87 = .ok (.getfield 41, 3) := by decide +kernel
theorem dX4_tellDues_90 : decode cX4_tellDues 90 = .ok (.iconst 2, 1) := by decide +kernel
theorem dX4_tellDues_91 : decode cX4_tellDues 91 = .ok (.iaload, 1) := by decide +kernel
theorem dX4_tellDues_92 : decode cX4_tellDues 92 = .ok (.invokevirtual 154, 3) := by decide +kernel
theorem dX4_tellDues_95 : decode cX4_tellDues 95 = .ok (.iconst 1, 1) := by decide +kernel
theorem dX4_tellDues_96 : decode cX4_tellDues 96 = .ok (.ireturn, 1) := by decide +kernel
theorem dX4_hear_0 : decode cX4_hear 0 = .ok (.aload_n 1, 1) := by decide +kernel
theorem dX4_hear_1 : decode cX4_hear 1 = .ok (.invokevirtual 100, 3) := by decide +kernel
theorem dX4_hear_4 : decode cX4_hear 4 = .ok (.aload_n 1, 1) := by decide +kernel
theorem dX4_hear_5 : decode cX4_hear 5 = .ok (.invokevirtual 114, 3) := by decide +kernel
theorem dX4_hear_8 : decode cX4_hear 8 = .ok (.istore 5, 2) := by decide +kernel
theorem dX4_hear_10 : decode cX4_hear 10 = .ok (.aload_n 1, 1) := by decide +kernel
theorem dX4_hear_11 : decode cX4_hear 11 = .ok (.invokevirtual 103, 3) := by decide +kernel
theorem dX4_hear_14 : decode cX4_hear 14 = .ok (.iconst 2, 1) := by decide +kernel
theorem dX4_hear_15 : decode cX4_hear 15 = .ok (.if_icmp .ne 29, 3) := by decide +kernel
theorem dX4_hear_18 : decode cX4_hear 18 = .ok (.iload 5, 2) := by decide +kernel
theorem dX4_hear_20 : decode cX4_hear 20 = .ok (.iload_n 3, 1) := by decide +kernel
theorem dX4_hear_21 : decode cX4_hear 21 = .ok (.if_icmp .lt 23, 3) := by decide +kernel
theorem dX4_hear_24 : decode cX4_hear 24 = .ok (.iload 5, 2) := by decide +kernel
theorem dX4_hear_26 : decode cX4_hear 26 = .ok (.iload 4, 2) := by decide +kernel
theorem dX4_hear_28 : decode cX4_hear 28 = .ok (.if_icmp .gt 16, 3) := by decide +kernel
theorem dX4_hear_31 : decode cX4_hear 31 = .ok (.iload_n 2, 1) := by decide +kernel
theorem dX4_hear_32 : decode cX4_hear 32 = .ok (.ifCond .lt 12, 3) := by decide +kernel
theorem dX4_hear_35 : decode cX4_hear 35 = .ok (.iload_n 2, 1) := by decide +kernel
theorem dX4_hear_36 : decode cX4_hear 36 = .ok (.aload_n 0, 1) := by decide +kernel
theorem dX4_hear_37 : decode cX4_hear 37 = .ok (.getfield 41, 3) := by decide +kernel
theorem dX4_hear_40 : decode cX4_hear 40 = .ok (.arraylength, 1) := by decide +kernel
theorem dX4_hear_41 : decode cX4_hear 41 = .ok (.if_icmp .lt 5, 3) := by decide +kernel
theorem dX4_hear_44 : decode cX4_hear 44 = .ok (.iconst 0, 1) := by decide +kernel
theorem dX4_hear_45 : decode cX4_hear 45 = .ok (.ireturn, 1) := by decide +kernel
theorem dX4_hear_46 : decode cX4_hear 46 = .ok (.aload_n 0, 1) := by decide +kernel
theorem dX4_hear_47 : decode cX4_hear 47 = .ok (.getfield 41, 3) := by decide +kernel
theorem dX4_hear_50 : decode cX4_hear 50 = .ok (.iload_n 2, 1) := by decide +kernel
theorem dX4_hear_51 : decode cX4_hear 51 = .ok (.iload 5, 2) := by decide +kernel
theorem dX4_hear_53 : decode cX4_hear 53 = .ok (.iastore, 1) := by decide +kernel
theorem dX4_hear_54 : decode cX4_hear 54 = .ok (.iconst 1, 1) := by decide +kernel
theorem dX4_hear_55 : decode cX4_hear 55 = .ok (.ireturn, 1) := by decide +kernel
theorem dX4_hearStop_0 : decode cX4_hearStop 0 = .ok (.aload_n 0, 1) := by decide +kernel
theorem dX4_hearStop_1 : decode cX4_hearStop 1 = .ok (.invokevirtual 100, 3) := by decide +kernel
theorem dX4_hearStop_4 : decode cX4_hearStop 4 = .ok (.aload_n 0, 1) := by decide +kernel
theorem dX4_hearStop_5 : decode cX4_hearStop 5 = .ok (.invokevirtual 103, 3) := by decide +kernel
theorem dX4_hearStop_8 : decode cX4_hearStop 8 = .ok (.iconst 3, 1) := by decide +kernel
theorem dX4_hearStop_9 : decode cX4_hearStop 9 = .ok (.if_icmp .ne 7, 3) := by decide +kernel
theorem dX4_hearStop_12 : decode cX4_hearStop 12 = .ok (.iconst 1, 1) := by decide +kernel
theorem dX4_hearStop_13 : decode cX4_hearStop 13 = .ok (.goto 4, 3) := by decide +kernel
theorem dX4_hearStop_16 : decode cX4_hearStop 16 = .ok (.iconst 0, 1) := by decide +kernel
theorem dX4_hearStop_17 : decode cX4_hearStop 17 = .ok (.ireturn, 1) := by decide +kernel
theorem dX5_init_0 : decode cX5_init 0 = .ok (.aload_n 0, 1) := by decide +kernel
theorem dX5_init_1 : decode cX5_init 1 = .ok (.invokespecial 3, 3) := by decide +kernel
theorem dX5_init_4 : decode cX5_init 4 = .ok (.aload_n 0, 1) := by decide +kernel
theorem dX5_init_5 : decode cX5_init 5 = .ok (.bipush 64, 2) := by decide +kernel
theorem dX5_init_7 : decode cX5_init 7 = .ok (.newarray .int, 2) := by decide +kernel
theorem dX5_init_9 : decode cX5_init 9 = .ok (.putfield 11, 3) := by decide +kernel
theorem dX5_init_12 : decode cX5_init 12 = .ok (.return_, 1) := by decide +kernel
theorem dX5_fewestPayments_0 : decode cX5_fewestPayments 0 = .ok (.iconst 1, 1) := by decide +kernel
theorem dX5_fewestPayments_1 : decode cX5_fewestPayments 1 = .ok (.iconst 0, 1) := by decide +kernel
theorem dX5_fewestPayments_2 : decode cX5_fewestPayments 2 = .ok (.iload_n 2, 1) := by decide +kernel
theorem dX5_fewestPayments_3 : decode cX5_fewestPayments 3 = .ok (.bipush 6, 2) := by decide +kernel
theorem dX5_fewestPayments_5 : decode cX5_fewestPayments 5 = .ok (.invokestatic 15, 3) := by decide +kernel
theorem dX5_fewestPayments_8 : decode cX5_fewestPayments 8 = .ok (.invokestatic 21, 3) := by decide +kernel
theorem dX5_fewestPayments_11 : decode cX5_fewestPayments 11 = .ok (.ishl, 1) := by decide +kernel
theorem dX5_fewestPayments_12 : decode cX5_fewestPayments 12 = .ok (.istore_n 3, 1) := by decide +kernel
theorem dX5_fewestPayments_13 : decode cX5_fewestPayments 13 = .ok (.iconst 1, 1) := by decide +kernel
theorem dX5_fewestPayments_14 : decode cX5_fewestPayments 14 = .ok (.istore 4, 2) := by decide +kernel
theorem dX5_fewestPayments_16 : decode cX5_fewestPayments 16 = .ok (.iload 4, 2) := by decide +kernel
theorem dX5_fewestPayments_18 : decode cX5_fewestPayments 18 = .ok (.iload_n 3, 1) := by decide +kernel
theorem dX5_fewestPayments_19 : decode cX5_fewestPayments 19 = .ok (.if_icmp .ge 99, 3) := by decide +kernel
theorem dX5_fewestPayments_22 : decode cX5_fewestPayments 22 = .ok (.iload 4, 2) := by decide +kernel
theorem dX5_fewestPayments_24 : decode cX5_fewestPayments 24 = .ok (.bipush 64, 2) := by decide +kernel
theorem dX5_fewestPayments_26 : decode cX5_fewestPayments 26 = .ok (.if_icmp .ge 92, 3) := by decide +kernel
theorem dX5_fewestPayments_29 : decode cX5_fewestPayments 29 = .ok (.iconst 0, 1) := by decide +kernel
theorem dX5_fewestPayments_30 : decode cX5_fewestPayments 30 = .ok (.istore 5, 2) := by decide +kernel
theorem dX5_fewestPayments_32 : decode cX5_fewestPayments 32 = .ok (.iconst 0, 1) := by decide +kernel
theorem dX5_fewestPayments_33 : decode cX5_fewestPayments 33 = .ok (.istore 6, 2) := by decide +kernel
theorem dX5_fewestPayments_35 : decode cX5_fewestPayments 35 = .ok (.iconst 0, 1) := by decide +kernel
theorem dX5_fewestPayments_36 : decode cX5_fewestPayments 36 = .ok (.istore 7, 2) := by decide +kernel
theorem dX5_fewestPayments_38 : decode cX5_fewestPayments 38 = .ok (.iload 7, 2) := by decide +kernel
theorem dX5_fewestPayments_40 : decode cX5_fewestPayments 40 = .ok (.bipush 6, 2) := by decide +kernel
theorem dX5_fewestPayments_42 : decode cX5_fewestPayments 42 = .ok (.if_icmp .ge 49, 3) := by decide +kernel
theorem dX5_fewestPayments_45 : decode cX5_fewestPayments 45 = .ok (.iload 4, 2) := by decide +kernel
theorem dX5_fewestPayments_47 : decode cX5_fewestPayments 47 = .ok (.iload 7, 2) := by decide +kernel
theorem dX5_fewestPayments_49 : decode cX5_fewestPayments 49 = .ok (.invokestatic 24, 3) := by decide +kernel
theorem dX5_fewestPayments_52 : decode cX5_fewestPayments 52 = .ok (.ifCond .eq 33, 3) := by decide +kernel
theorem dX5_fewestPayments_55 : decode cX5_fewestPayments 55 = .ok (.iload 5, 2) := by decide +kernel
theorem dX5_fewestPayments_57 : decode cX5_fewestPayments 57 = .ok (.aload_n 1, 1) := by decide +kernel
theorem dX5_fewestPayments_58 : decode cX5_fewestPayments 58 = .ok (.iload 7, 2) := by decide +kernel
theorem dX5_fewestPayments_60 : decode cX5_fewestPayments 60 = .ok (.invokevirtual 28, 3) := by decide +kernel
theorem dX5_fewestPayments_63 : decode cX5_fewestPayments 63 = .ok (.iadd, 1) := by decide +kernel
theorem dX5_fewestPayments_64 : decode cX5_fewestPayments 64 = .ok (.istore 5, 2) := by decide +kernel
theorem dX5_fewestPayments_66 : decode cX5_fewestPayments 66 = .ok (.iload 6, 2) := by decide +kernel
theorem dX5_fewestPayments_68 : decode cX5_fewestPayments 68 = .ok (.aload_n 0, 1) := by decide +kernel
theorem dX5_fewestPayments_69 : decode cX5_fewestPayments 69 = .ok (.getfield 11, 3) := by decide +kernel
theorem dX5_fewestPayments_72 : decode cX5_fewestPayments 72 = .ok (.iload 4, 2) := by decide +kernel
theorem dX5_fewestPayments_74 : decode cX5_fewestPayments 74 = .ok (.iconst 1, 1) := by decide +kernel
theorem dX5_fewestPayments_75 : decode cX5_fewestPayments 75 = .ok (.iload 7, 2) := by decide +kernel
theorem dX5_fewestPayments_77 : decode cX5_fewestPayments 77 = .ok (.ishl, 1) := by decide +kernel
theorem dX5_fewestPayments_78 : decode cX5_fewestPayments 78 = .ok (.ixor, 1) := by decide +kernel
theorem dX5_fewestPayments_79 : decode cX5_fewestPayments 79 = .ok (.iaload, 1) := by decide +kernel
theorem dX5_fewestPayments_80 : decode cX5_fewestPayments 80 = .ok (.invokestatic 21, 3) := by decide +kernel
theorem dX5_fewestPayments_83 : decode cX5_fewestPayments 83 = .ok (.istore 6, 2) := by decide +kernel
theorem dX5_fewestPayments_85 : decode cX5_fewestPayments 85 = .ok (.iinc 7 1, 3) := by decide +kernel
theorem dX5_fewestPayments_88 : decode cX5_fewestPayments 88 = .ok (.goto (-50), 3) := by decide +kernel
theorem dX5_fewestPayments_91 : decode cX5_fewestPayments 91 = .ok (.aload_n 0, 1) := by decide +kernel
theorem dX5_fewestPayments_92 : decode cX5_fewestPayments 92 = .ok (.getfield 11, 3) := by decide +kernel
theorem dX5_fewestPayments_95 : decode cX5_fewestPayments 95 = .ok (.iload 4, 2) := by decide +kernel
theorem dX5_fewestPayments_97 : decode cX5_fewestPayments 97 = .ok (.iload 5, 2) := by decide +kernel
theorem dX5_fewestPayments_99 : decode cX5_fewestPayments 99 = .ok (.ifCond .ne 10, 3) := by decide +kernel
theorem dX5_fewestPayments_102 : decode cX5_fewestPayments 102 = .ok (.iload 6, 2) := by decide +kernel
theorem dX5_fewestPayments_104 : decode cX5_fewestPayments 104 = .ok (.iconst 1, 1) := by decide +kernel
theorem dX5_fewestPayments_105 : decode cX5_fewestPayments 105 = .ok (.iadd, 1) := by decide +kernel
theorem dX5_fewestPayments_106 : decode cX5_fewestPayments 106 = .ok (.goto 5, 3) := by decide +kernel
theorem dX5_fewestPayments_109 : decode cX5_fewestPayments 109 = .ok (.iload 6, 2) := by decide +kernel
theorem dX5_fewestPayments_111 : decode cX5_fewestPayments 111 = .ok (.iastore, 1) := by decide +kernel
theorem dX5_fewestPayments_112 : decode cX5_fewestPayments 112 = .ok (.iinc 4 1, 3) := by decide +kernel
theorem dX5_fewestPayments_115 : decode cX5_fewestPayments 115 = .ok (.goto (-99), 3) := by decide +kernel
theorem dX5_fewestPayments_118 : decode cX5_fewestPayments 118 = .ok (.iload_n 2, 1) := by decide +kernel
theorem dX5_fewestPayments_119 : decode cX5_fewestPayments 119 = .ok (.aload_n 0, 1) := by decide +kernel
theorem dX5_fewestPayments_120 : decode cX5_fewestPayments 120 = .ok (.getfield 11, 3) := by decide +kernel
theorem dX5_fewestPayments_123 : decode cX5_fewestPayments 123 = .ok (.iload_n 3, 1) := by decide +kernel
theorem dX5_fewestPayments_124 : decode cX5_fewestPayments 124 = .ok (.iconst 1, 1) := by decide +kernel
theorem dX5_fewestPayments_125 : decode cX5_fewestPayments 125 = .ok (.isub, 1) := by decide +kernel
theorem dX5_fewestPayments_126 : decode cX5_fewestPayments 126 = .ok (.iaload, 1) := by decide +kernel
theorem dX5_fewestPayments_127 : decode cX5_fewestPayments 127 = .ok (.isub, 1) := by decide +kernel
theorem dX5_fewestPayments_128 : decode cX5_fewestPayments 128 = .ok (.ireturn, 1) := by decide +kernel
theorem dX6_init_0 : decode cX6_init 0 = .ok (.aload_n 0, 1) := by decide +kernel
theorem dX6_init_1 : decode cX6_init 1 = .ok (.invokespecial 3, 3) := by decide +kernel
theorem dX6_init_4 : decode cX6_init 4 = .ok (.aload_n 0, 1) := by decide +kernel
theorem dX6_init_5 : decode cX6_init 5 = .ok (.sipush 200, 3) := by decide +kernel
theorem dX6_init_8 : decode cX6_init 8 = .ok (.newarray .int, 2) := by decide +kernel
theorem dX6_init_10 : decode cX6_init 10 = .ok (.putfield 9, 3) := by decide +kernel
theorem dX6_init_13 : decode cX6_init 13 = .ok (.return_, 1) := by decide +kernel
theorem dX6_append_0 : decode cX6_append 0 = .ok (.aload_n 0, 1) := by decide +kernel
theorem dX6_append_1 : decode cX6_append 1 = .ok (.getfield 15, 3) := by decide +kernel
theorem dX6_append_4 : decode cX6_append 4 = .ok (.sipush 200, 3) := by decide +kernel
theorem dX6_append_7 : decode cX6_append 7 = .ok (.if_icmp .lt 5, 3) := by decide +kernel
theorem dX6_append_10 : decode cX6_append 10 = .ok (.iconst 0, 1) := by decide +kernel
theorem dX6_append_11 : decode cX6_append 11 = .ok (.ireturn, 1) := by decide +kernel
theorem dX6_append_12 : decode cX6_append 12 = .ok (.aload_n 0, 1) := by decide +kernel
theorem dX6_append_13 : decode cX6_append 13 = .ok (.getfield 9, 3) := by decide +kernel
theorem dX6_append_16 : decode cX6_append 16 = .ok (.aload_n 0, 1) := by decide +kernel
theorem dX6_append_17 : decode cX6_append 17 = .ok (.getfield 15, 3) := by decide +kernel
theorem dX6_append_20 : decode cX6_append 20 = .ok (.iload_n 1, 1) := by decide +kernel
theorem dX6_append_21 : decode cX6_append 21 = .ok (.iastore, 1) := by decide +kernel
theorem dX6_append_22 : decode cX6_append 22 = .ok (.aload_n 0, 1) := by decide +kernel
theorem dX6_append_23 : decode cX6_append 23 = .ok (.dup, 1) := by decide +kernel
theorem dX6_append_24 : decode cX6_append 24 = .ok (.getfield 15, 3) := by decide +kernel
theorem dX6_append_27 : decode cX6_append 27 = .ok (.iconst 1, 1) := by decide +kernel
theorem dX6_append_28 : decode cX6_append 28 = .ok (.iadd, 1) := by decide +kernel
theorem dX6_append_29 : decode cX6_append 29 = .ok (.putfield 15, 3) := by decide +kernel
theorem dX6_append_32 : decode cX6_append 32 = .ok (.iconst 1, 1) := by decide +kernel
theorem dX6_append_33 : decode cX6_append 33 = .ok (.ireturn, 1) := by decide +kernel
theorem dX6_size_0 : decode cX6_size 0 = .ok (.aload_n 0, 1) := by decide +kernel
theorem dX6_size_1 : decode cX6_size 1 = .ok (.getfield 15, 3) := by decide +kernel
theorem dX6_size_4 : decode cX6_size 4 = .ok (.ireturn, 1) := by decide +kernel
theorem dX6_empty_0 : decode cX6_empty 0 = .ok (.aload_n 0, 1) := by decide +kernel
theorem dX6_empty_1 : decode cX6_empty 1 = .ok (.getfield 15, 3) := by decide +kernel
theorem dX6_empty_4 : decode cX6_empty 4 = .ok (.istore_n 1, 1) := by decide +kernel
theorem dX6_empty_5 : decode cX6_empty 5 = .ok (.aload_n 0, 1) := by decide +kernel
theorem dX6_empty_6 : decode cX6_empty 6 = .ok (.iconst 0, 1) := by decide +kernel
theorem dX6_empty_7 : decode cX6_empty 7 = .ok (.putfield 15, 3) := by decide +kernel
theorem dX6_empty_10 : decode cX6_empty 10 = .ok (.iload_n 1, 1) := by decide +kernel
theorem dX6_empty_11 : decode cX6_empty 11 = .ok (.ireturn, 1) := by decide +kernel
theorem dX6_rewind_0 : decode cX6_rewind 0 = .ok (.aload_n 0, 1) := by decide +kernel
theorem dX6_rewind_1 : decode cX6_rewind 1 = .ok (.iconst 0, 1) := by decide +kernel
theorem dX6_rewind_2 : decode cX6_rewind 2 = .ok (.putfield 19, 3) := by decide +kernel
theorem dX6_rewind_5 : decode cX6_rewind 5 = .ok (.return_, 1) := by decide +kernel
theorem dX6_tokenKind_0 : decode cX6_tokenKind 0 = .ok (.aload_n 0, 1) := by decide +kernel
theorem dX6_tokenKind_1 : decode cX6_tokenKind 1 = .ok (.getfield 22, 3) := by decide +kernel
theorem dX6_tokenKind_4 : decode cX6_tokenKind 4 = .ok (.ireturn, 1) := by decide +kernel
theorem dX6_tokenPlace_0 : decode cX6_tokenPlace 0 = .ok (.aload_n 0, 1) := by decide +kernel
theorem dX6_tokenPlace_1 : decode cX6_tokenPlace 1 = .ok (.getfield 25, 3) := by decide +kernel
theorem dX6_tokenPlace_4 : decode cX6_tokenPlace 4 = .ok (.ireturn, 1) := by decide +kernel
theorem dX6_tokenValue_0 : decode cX6_tokenValue 0 = .ok (.aload_n 0, 1) := by decide +kernel
theorem dX6_tokenValue_1 : decode cX6_tokenValue 1 = .ok (.getfield 28, 3) := by decide +kernel
theorem dX6_tokenValue_4 : decode cX6_tokenValue 4 = .ok (.ireturn, 1) := by decide +kernel
theorem dX6_scan_0 : decode cX6_scan 0 = .ok (.aload_n 0, 1) := by decide +kernel
theorem dX6_scan_1 : decode cX6_scan 1 = .ok (.aload_n 0, 1) := by decide +kernel
theorem dX6_scan_2 : decode cX6_scan 2 = .ok (.aload_n 0, 1) := by decide +kernel
theorem dX6_scan_3 : decode cX6_scan 3 = .ok (.getfield 19, 3) := by decide +kernel
theorem dX6_scan_6 : decode cX6_scan 6 = .ok (.bipush 32, 2) := by decide +kernel
theorem dX6_scan_8 : decode cX6_scan 8 = .ok (.bipush 32, 2) := by decide +kernel
theorem dX6_scan_10 : decode cX6_scan 10 = .ok (.invokevirtual 31, 3) := by decide +kernel
theorem dX6_scan_13 : decode cX6_scan 13 = .ok (.putfield 25, 3) := by decide +kernel
theorem dX6_scan_16 : decode cX6_scan 16 = .ok (.aload_n 0, 1) := by decide +kernel
theorem dX6_scan_17 : decode cX6_scan 17 = .ok (.aload_n 0, 1) := by decide +kernel
theorem dX6_scan_18 : decode cX6_scan 18 = .ok (.getfield 25, 3) := by decide +kernel
theorem dX6_scan_21 : decode cX6_scan 21 = .ok (.putfield 19, 3) := by decide +kernel
theorem dX6_scan_24 : decode cX6_scan 24 = .ok (.aload_n 0, 1) := by decide +kernel
theorem dX6_scan_25 : decode cX6_scan 25 = .ok (.iconst 0, 1) := by decide +kernel
theorem dX6_scan_26 : decode cX6_scan 26 = .ok (.putfield 28, 3) := by decide +kernel
theorem dX6_scan_29 : decode cX6_scan 29 = .ok (.aload_n 0, 1) := by decide +kernel
theorem dX6_scan_30 : decode cX6_scan 30 = .ok (.getfield 25, 3) := by decide +kernel
theorem dX6_scan_33 : decode cX6_scan 33 = .ok (.ifCond .lt 24, 3) := by decide +kernel
theorem dX6_scan_36 : decode cX6_scan 36 = .ok (.aload_n 0, 1) := by decide +kernel
theorem dX6_scan_37 : decode cX6_scan 37 = .ok (.getfield 25, 3) := by decide +kernel
theorem dX6_scan_40 : decode cX6_scan 40 = .ok (.aload_n 0, 1) := by decide +kernel
theorem dX6_scan_41 : decode cX6_scan 41 = .ok (.getfield 15, 3) := by decide +kernel
theorem dX6_scan_44 : decode cX6_scan 44 = .ok (.if_icmp .ge 13, 3) := by decide +kernel
theorem dX6_scan_47 : decode cX6_scan 47 = .ok (.aload_n 0, 1) := by decide +kernel
theorem dX6_scan_48 : decode cX6_scan 48 = .ok (.getfield 25, 3) := by decide +kernel
theorem dX6_scan_51 : decode cX6_scan 51 = .ok (.sipush 200, 3) := by decide +kernel
theorem dX6_scan_54 : decode cX6_scan 54 = .ok (.if_icmp .lt 9, 3) := by decide +kernel
theorem dX6_scan_57 : decode cX6_scan 57 = .ok (.aload_n 0, 1) := by decide +kernel
theorem dX6_scan_58 : decode cX6_scan 58 = .ok (.iconst 0, 1) := by decide +kernel
theorem dX6_scan_59 : decode cX6_scan 59 = .ok (.putfield 22, 3) := by decide +kernel
theorem dX6_scan_62 : decode cX6_scan 62 = .ok (.return_, 1) := by decide +kernel
theorem dX6_scan_63 : decode cX6_scan 63 = .ok (.aload_n 0, 1) := by decide +kernel
theorem dX6_scan_64 : decode cX6_scan 64 = .ok (.getfield 9, 3) := by decide +kernel
theorem dX6_scan_67 : decode cX6_scan 67 = .ok (.aload_n 0, 1) := by decide +kernel
theorem dX6_scan_68 : decode cX6_scan 68 = .ok (.getfield 25, 3) := by decide +kernel
theorem dX6_scan_71 : decode cX6_scan 71 = .ok (.iaload, 1) := by decide +kernel
theorem dX6_scan_72 : decode cX6_scan 72 = .ok (.istore_n 1, 1) := by decide +kernel
theorem dX6_scan_73 : decode cX6_scan 73 = .ok (.iload_n 1, 1) := by decide +kernel
theorem dX6_scan_74 : decode cX6_scan 74 = .ok (.bipush 48, 2) := by decide +kernel
theorem dX6_scan_76 : decode cX6_scan 76 = .ok (.bipush 57, 2) := by decide +kernel
theorem dX6_scan_78 : decode cX6_scan 78 = .ok (.invokestatic 35, 3) := by decide +kernel
theorem dX6_scan_81 : decode cX6_scan 81 = .ok (.ifCond .eq 37, 3) := by decide +kernel
theorem dX6_scan_84 : decode cX6_scan 84 = .ok (.aload_n 0, 1) := by decide +kernel
theorem dX6_scan_85 : decode cX6_scan 85 = .ok (.aload_n 0, 1) := by decide +kernel
theorem dX6_scan_86 : decode cX6_scan 86 = .ok (.aload_n 0, 1) := by decide +kernel
theorem dX6_scan_87 : decode cX6_scan 87 = .ok (.getfield 25, 3) := by decide +kernel
theorem dX6_scan_90 : decode cX6_scan 90 = .ok (.bipush 48, 2) := by decide +kernel
theorem dX6_scan_92 : decode cX6_scan 92 = .ok (.bipush 57, 2) := by decide +kernel
theorem dX6_scan_94 : decode cX6_scan 94 = .ok (.invokevirtual 31, 3) := by decide +kernel
theorem dX6_scan_97 : decode cX6_scan 97 = .ok (.putfield 19, 3) := by decide +kernel
theorem dX6_scan_100 : decode cX6_scan 100 = .ok (.aload_n 0, 1) := by decide +kernel
theorem dX6_scan_101 : decode cX6_scan 101 = .ok (.iload_n 1, 1) := by decide +kernel
theorem dX6_scan_102 : decode cX6_scan 102 = .ok (.bipush 48, 2) := by decide +kernel
theorem dX6_scan_104 : decode cX6_scan 104 = .ok (.if_icmp .ne 7, 3) := by decide +kernel
theorem dX6_scan_107 : decode cX6_scan 107 = .ok (.iconst 1, 1) := by decide +kernel
theorem dX6_scan_108 : decode cX6_scan 108 = .ok (.goto 4, 3) := by decide +kernel
theorem dX6_scan_111 : decode cX6_scan 111 = .ok (.iconst 0, 1) := by decide +kernel
theorem dX6_scan_112 : decode cX6_scan 112 = .ok (.invokevirtual 39, 3) := by decide +kernel
theorem dX6_scan_115 : decode cX6_scan 115 = .ok (.goto 85, 3) := by decide +kernel
theorem dX6_scan_118 : decode cX6_scan 118 = .ok (.iload_n 1, 1) := by decide +kernel
theorem dX6_scan_119 : decode cX6_scan 119 = .ok (.bipush 97, 2) := by decide +kernel
theorem dX6_scan_121 : decode cX6_scan 121 = .ok (.bipush 122, 2) := by decide +kernel
theorem dX6_scan_123 : decode cX6_scan 123 = .ok (.invokestatic 35, 3) := by decide +kernel
theorem dX6_scan_126 : decode cX6_scan 126 = .ok (.ifCond .eq 49, 3) := by decide +kernel
theorem dX6_scan_129 : decode cX6_scan 129 = .ok (.aload_n 0, 1) := by decide +kernel
theorem dX6_scan_130 : decode cX6_scan 130 = .ok (.aload_n 0, 1) := by decide +kernel
theorem dX6_scan_131 : decode cX6_scan 131 = .ok (.aload_n 0, 1) := by decide +kernel
theorem dX6_scan_132 : decode cX6_scan 132 = .ok (.getfield 25, 3) := by decide +kernel
theorem dX6_scan_135 : decode cX6_scan 135 = .ok (.bipush 97, 2) := by decide +kernel
theorem dX6_scan_137 : decode cX6_scan 137 = .ok (.bipush 122, 2) := by decide +kernel
theorem dX6_scan_139 : decode cX6_scan 139 = .ok (.invokevirtual 31, 3) := by decide +kernel
theorem dX6_scan_142 : decode cX6_scan 142 = .ok (.putfield 19, 3) := by decide +kernel
theorem dX6_scan_145 : decode cX6_scan 145 = .ok (.aload_n 0, 1) := by decide +kernel
theorem dX6_scan_146 : decode cX6_scan 146 = .ok (.iconst 1, 1) := by decide +kernel
theorem dX6_scan_147 : decode cX6_scan 147 = .ok (.putfield 22, 3) := by decide +kernel
theorem dX6_scan_150 : decode cX6_scan 150 = .ok (.aload_n 0, 1) := by decide +kernel
theorem dX6_scan_151 : decode cX6_scan 151 = .ok (.aload_n 0, 1) := by decide +kernel
theorem dX6_scan_152 : decode cX6_scan 152 = .ok (.getfield 19, 3) := by decide +kernel
theorem dX6_scan_155 : decode cX6_scan 155 = .ok (.aload_n 0, 1) := by decide +kernel
theorem dX6_scan_156 : decode cX6_scan 156 = .ok (.getfield 25, 3) := by decide +kernel
theorem dX6_scan_159 : decode cX6_scan 159 = .ok (.isub, 1) := by decide +kernel
theorem dX6_scan_160 : decode cX6_scan 160 = .ok (.iconst 1, 1) := by decide +kernel
theorem dX6_scan_161 : decode cX6_scan 161 = .ok (.if_icmp .ne 7, 3) := by decide +kernel
theorem dX6_scan_164 : decode cX6_scan 164 = .ok (.iload_n 1, 1) := by decide +kernel
theorem dX6_scan_165 : decode cX6_scan 165 = .ok (.goto 4, 3) := by decide +kernel
theorem dX6_scan_168 : decode cX6_scan 168 = .ok (.iconst 0, 1) := by decide +kernel
theorem dX6_scan_169 : decode cX6_scan 169 = .ok (.putfield 28, 3) := by decide +kernel
theorem dX6_scan_172 : decode cX6_scan 172 = .ok (.goto 28, 3) := by decide +kernel
theorem dX6_scan_175 : decode cX6_scan 175 = .ok (.aload_n 0, 1) := by decide +kernel
theorem dX6_scan_176 : decode cX6_scan 176 = .ok (.aload_n 0, 1) := by decide +kernel
theorem dX6_scan_177 : decode cX6_scan 177 = .ok (.getfield 25, 3) := by decide +kernel
theorem dX6_scan_180 : decode cX6_scan 180 = .ok (.iconst 1, 1) := by decide +kernel
theorem dX6_scan_181 : decode cX6_scan 181 = .ok (.iadd, 1) := by decide +kernel
theorem dX6_scan_182 : decode cX6_scan 182 = .ok (.putfield 19, 3) := by decide +kernel
theorem dX6_scan_185 : decode cX6_scan 185 = .ok (.aload_n 0, 1) := by decide +kernel
theorem dX6_scan_186 : decode cX6_scan 186 = .ok (.iload_n 1, 1) := by decide +kernel
theorem dX6_scan_187 : decode cX6_scan 187 = .ok (.bipush 59, 2) := by decide +kernel
theorem dX6_scan_189 : decode cX6_scan 189 = .ok (.if_icmp .ne 7, 3) := by decide +kernel
theorem dX6_scan_192 : decode cX6_scan 192 = .ok (.iconst 3, 1) := by decide +kernel
theorem dX6_scan_193 : decode cX6_scan 193 = .ok (.goto 4, 3) := by decide +kernel
theorem dX6_scan_196 : decode cX6_scan 196 = .ok (.iconst 4, 1) := by decide +kernel
theorem dX6_scan_197 : decode cX6_scan 197 = .ok (.putfield 22, 3) := by decide +kernel
theorem dX6_scan_200 : decode cX6_scan 200 = .ok (.return_, 1) := by decide +kernel
theorem dX6_readNumber_0 : decode cX6_readNumber 0 = .ok (.aload_n 0, 1) := by decide +kernel
theorem dX6_readNumber_1 : decode cX6_readNumber 1 = .ok (.getfield 25, 3) := by decide +kernel
theorem dX6_readNumber_4 : decode cX6_readNumber 4 = .ok (.istore_n 2, 1) := by decide +kernel
theorem dX6_readNumber_5 : decode cX6_readNumber 5 = .ok (.iload_n 2, 1) := by decide +kernel
theorem dX6_readNumber_6 : decode cX6_readNumber 6 = .ok (.aload_n 0, 1) := by decide +kernel
theorem dX6_readNumber_7 : decode cX6_readNumber 7 = .ok (.getfield 19, 3) := by decide +kernel
theorem dX6_readNumber_10 : decode cX6_readNumber 10 = .ok (.if_icmp .ge 42, 3) := by decide +kernel
theorem dX6_readNumber_13 : decode cX6_readNumber 13 = .ok (.iload_n 2, 1) := by decide +kernel
theorem dX6_readNumber_14 : decode cX6_readNumber 14 = .ok (.sipush 200, 3) := by decide +kernel
theorem dX6_readNumber_17 : decode cX6_readNumber 17 = .ok (.if_icmp .ge 35, 3) := by decide +kernel
theorem dX6_readNumber_20 : decode cX6_readNumber 20 = .ok (.aload_n 0, 1) := by decide +kernel
theorem dX6_readNumber_21 : decode cX6_readNumber 21 = .ok (.bipush 100, 2) := by decide +kernel
theorem dX6_readNumber_23 : decode cX6_readNumber 23 = .ok (.aload_n 0, 1) := by decide +kernel
theorem dX6_readNumber_24 : decode cX6_readNumber 24 = .ok (.getfield 28, 3) := by decide +kernel
theorem dX6_readNumber_27 : decode cX6_readNumber 27 = .ok (.bipush 10, 2) := by decide +kernel
theorem dX6_readNumber_29 : decode cX6_readNumber 29 = .ok (.imul, 1) := by decide +kernel
theorem dX6_readNumber_30 : decode cX6_readNumber 30 = .ok (.aload_n 0, 1) := by decide +kernel
theorem dX6_readNumber_31 : decode cX6_readNumber 31 = .ok (.getfield 9, 3) := by decide +kernel
theorem dX6_readNumber_34 : decode cX6_readNumber 34 = .ok (.iload_n 2, 1) := by decide +kernel
theorem dX6_readNumber_35 : decode cX6_readNumber 35 = .ok (.iaload, 1) := by decide +kernel
theorem dX6_readNumber_36 : decode cX6_readNumber 36 = .ok (.iadd, 1) := by decide +kernel
theorem dX6_readNumber_37 : decode cX6_readNumber 37 = .ok (.bipush 48, 2) := by decide +kernel
theorem dX6_readNumber_39 : decode cX6_readNumber 39 = .ok (.isub, 1) := by decide +kernel
theorem dX6_readNumber_40 : decode cX6_readNumber 40 = .ok (.invokestatic 43, 3) := by decide +kernel
theorem dX6_readNumber_43 : decode cX6_readNumber 43 = .ok (.putfield 28, 3) := by decide +kernel
theorem dX6_readNumber_46 : decode cX6_readNumber 46 = .ok (.iinc 2 1, 3) := by decide +kernel
theorem dX6_readNumber_49 : decode cX6_readNumber 49 = .ok (.goto (-44), 3) := by decide +kernel
theorem dX6_readNumber_52 : decode cX6_readNumber 52 = .ok (.aload_n 0, 1) := by decide +kernel
theorem dX6_readNumber_53 : decode cX6_readNumber 53 = .ok (.aload_n 0, 1) := by decide +kernel
theorem dX6_readNumber_54 : decode cX6_readNumber 54 = .ok (.getfield 28, 3) := by decide +kernel
theorem dX6_readNumber_57 : decode cX6_readNumber 57 = .ok (.bipush 99, 2) := by decide +kernel
theorem dX6_readNumber_59 : decode cX6_readNumber 59 = .ok (.if_icmp .gt 20, 3) := by decide +kernel
theorem dX6_readNumber_62 : decode cX6_readNumber 62 = .ok (.iload_n 1, 1) := by decide +kernel
theorem dX6_readNumber_63 : decode cX6_readNumber 63 = .ok (.ifCond .eq 20, 3) := by decide +kernel
theorem dX6_readNumber_66 : decode cX6_readNumber 66 = .ok (.aload_n 0, 1) := by decide +kernel
theorem dX6_readNumber_67 : decode cX6_readNumber 67 = .ok (.getfield 19, 3) := by decide +kernel
theorem dX6_readNumber_70 : decode cX6_readNumber 70 = .ok (.aload_n 0, 1) := by decide +kernel
theorem dX6_readNumber_71 : decode cX6_readNumber 71 = .ok (.getfield 25, 3) := by decide +kernel
theorem dX6_readNumber_74 : decode cX6_readNumber 74 = .ok (.isub, 1) := by decide +kernel
theorem dX6_readNumber_75 : decode cX6_readNumber 75 = .ok (.iconst 1, 1) := by decide +kernel
theorem dX6_readNumber_76 : decode cX6_readNumber 76 = .ok (.if_icmp .le 7, 3) := by decide +kernel
theorem dX6_readNumber_79 : decode cX6_readNumber 79 = .ok (.iconst 4, 1) := by decide +kernel
theorem dX6_readNumber_80 : decode cX6_readNumber 80 = .ok (.goto 4, 3) := by decide +kernel
theorem dX6_readNumber_83 : decode cX6_readNumber 83 = .ok (.iconst 2, 1) := by decide +kernel
theorem dX6_readNumber_84 : decode cX6_readNumber 84 = .ok (.putfield 22, 3) := by decide +kernel
theorem dX6_readNumber_87 : decode cX6_readNumber 87 = .ok (.return_, 1) := by decide +kernel
theorem dX6_endOfRow_0 : decode cX6_endOfRow 0 = .ok (.iconst 0, 1) := by decide +kernel
theorem dX6_endOfRow_1 : decode cX6_endOfRow 1 = .ok (.iload_n 1, 1) := by decide +kernel
theorem dX6_endOfRow_2 : decode cX6_endOfRow 2 = .ok (.invokestatic 49, 3) := by decide +kernel
theorem dX6_endOfRow_5 : decode cX6_endOfRow 5 = .ok (.istore 4, 2) := by decide +kernel
theorem dX6_endOfRow_7 : decode cX6_endOfRow 7 = .ok (.iload 4, 2) := by decide +kernel
theorem dX6_endOfRow_9 : decode cX6_endOfRow 9 = .ok (.aload_n 0, 1) := by decide +kernel
theorem dX6_endOfRow_10 : decode cX6_endOfRow 10 = .ok (.getfield 15, 3) := by decide +kernel
theorem dX6_endOfRow_13 : decode cX6_endOfRow 13 = .ok (.if_icmp .ge 39, 3) := by decide +kernel
theorem dX6_endOfRow_16 : decode cX6_endOfRow 16 = .ok (.iload 4, 2) := by decide +kernel
theorem dX6_endOfRow_18 : decode cX6_endOfRow 18 = .ok (.sipush 200, 3) := by decide +kernel
theorem dX6_endOfRow_21 : decode cX6_endOfRow 21 = .ok (.if_icmp .ge 31, 3) := by decide +kernel
theorem dX6_endOfRow_24 : decode cX6_endOfRow 24 = .ok (.iload_n 2, 1) := by decide +kernel
theorem dX6_endOfRow_25 : decode cX6_endOfRow 25 = .ok (.aload_n 0, 1) := by decide +kernel
theorem dX6_endOfRow_26 : decode cX6_endOfRow 26 = .ok (.getfield 9, 3) := by decide +kernel
theorem dX6_endOfRow_29 : decode cX6_endOfRow 29 = .ok (.iload 4, 2) := by decide +kernel
theorem dX6_endOfRow_31 : decode cX6_endOfRow 31 = .ok (.iaload, 1) := by decide +kernel
theorem dX6_endOfRow_32 : decode cX6_endOfRow 32 = .ok (.if_icmp .gt 20, 3) := by decide +kernel
theorem dX6_endOfRow_35 : decode cX6_endOfRow 35 = .ok (.aload_n 0, 1) := by decide +kernel
theorem dX6_endOfRow_36 : decode cX6_endOfRow 36 = .ok (.getfield 9, 3) := by decide +kernel
theorem dX6_endOfRow_39 : decode cX6_endOfRow 39 = .ok (.iload 4, 2) := by decide +kernel
theorem dX6_endOfRow_41 : decode cX6_endOfRow 41 = .ok (.iaload, 1) := by decide +kernel
theorem dX6_endOfRow_42 : decode cX6_endOfRow 42 = .ok (.iload_n 3, 1) := by decide +kernel
theorem dX6_endOfRow_43 : decode cX6_endOfRow 43 = .ok (.if_icmp .gt 9, 3) := by decide +kernel
theorem dX6_endOfRow_46 : decode cX6_endOfRow 46 = .ok (.iinc 4 1, 3) := by decide +kernel
theorem dX6_endOfRow_49 : decode cX6_endOfRow 49 = .ok (.goto (-42), 3) := by decide +kernel
theorem dX6_endOfRow_52 : decode cX6_endOfRow 52 = .ok (.iload 4, 2) := by decide +kernel
theorem dX6_endOfRow_54 : decode cX6_endOfRow 54 = .ok (.ireturn, 1) := by decide +kernel
theorem dX7_init_0 : decode cX7_init 0 = .ok (.aload_n 0, 1) := by decide +kernel
theorem dX7_init_1 : decode cX7_init 1 = .ok (.invokespecial 3, 3) := by decide +kernel
theorem dX7_init_4 : decode cX7_init 4 = .ok (.aload_n 0, 1) := by decide +kernel
theorem dX7_init_5 : decode cX7_init 5 = .ok (.bipush 6, 2) := by decide +kernel
theorem dX7_init_7 : decode cX7_init 7 = .ok (.newarray .int, 2) := by decide +kernel
theorem dX7_init_9 : decode cX7_init 9 = .ok (.putfield 9, 3) := by decide +kernel
theorem dX7_init_12 : decode cX7_init 12 = .ok (.aload_n 0, 1) := by decide +kernel
theorem dX7_init_13 : decode cX7_init 13 = .ok (.bipush 6, 2) := by decide +kernel
theorem dX7_init_15 : decode cX7_init 15 = .ok (.newarray .int, 2) := by decide +kernel
theorem dX7_init_17 : decode cX7_init 17 = .ok (.putfield 15, 3) := by decide +kernel
theorem dX7_init_20 : decode cX7_init 20 = .ok (.return_, 1) := by decide +kernel
theorem dX7_find_0 : decode cX7_find 0 = .ok (.aload_n 2, 1) := by decide +kernel
theorem dX7_find_1 : decode cX7_find 1 = .ok (.iload_n 3, 1) := by decide +kernel
theorem dX7_find_2 : decode cX7_find 2 = .ok (.invokevirtual 18, 3) := by decide +kernel
theorem dX7_find_5 : decode cX7_find 5 = .ok (.istore 5, 2) := by decide +kernel
theorem dX7_find_7 : decode cX7_find 7 = .ok (.aload_n 1, 1) := by decide +kernel
theorem dX7_find_8 : decode cX7_find 8 = .ok (.iload_n 3, 1) := by decide +kernel
theorem dX7_find_9 : decode cX7_find 9 = .ok (.invokevirtual 24, 3) := by decide +kernel
theorem dX7_find_12 : decode cX7_find 12 = .ok (.aload_n 2, 1) := by decide +kernel
theorem dX7_find_13 : decode cX7_find 13 = .ok (.iload_n 3, 1) := by decide +kernel
theorem dX7_find_14 : decode cX7_find 14 = .ok (.invokevirtual 29, 3) := by decide +kernel
theorem dX7_find_17 : decode cX7_find 17 = .ok (.isub, 1) := by decide +kernel
theorem dX7_find_18 : decode cX7_find 18 = .ok (.istore 6, 2) := by decide +kernel
theorem dX7_find_20 : decode cX7_find 20 = .ok (.aload_n 0, 1) := by decide +kernel
theorem dX7_find_21 : decode cX7_find 21 = .ok (.iload 5, 2) := by decide +kernel
theorem dX7_find_23 : decode cX7_find 23 = .ok (.iload 4, 2) := by decide +kernel
theorem dX7_find_25 : decode cX7_find 25 = .ok (.if_icmp .ne 7, 3) := by decide +kernel
theorem dX7_find_28 : decode cX7_find 28 = .ok (.iconst 0, 1) := by decide +kernel
theorem dX7_find_29 : decode cX7_find 29 = .ok (.goto 5, 3) := by decide +kernel
theorem dX7_find_32 : decode cX7_find 32 = .ok (.bipush (-9), 2) := by decide +kernel
theorem dX7_find_34 : decode cX7_find 34 = .ok (.putfield 32, 3) := by decide +kernel
theorem dX7_find_37 : decode cX7_find 37 = .ok (.aload_n 0, 1) := by decide +kernel
theorem dX7_find_38 : decode cX7_find 38 = .ok (.bipush (-9), 2) := by decide +kernel
theorem dX7_find_40 : decode cX7_find 40 = .ok (.putfield 36, 3) := by decide +kernel
theorem dX7_find_43 : decode cX7_find 43 = .ok (.aload_n 0, 1) := by decide +kernel
theorem dX7_find_44 : decode cX7_find 44 = .ok (.bipush (-9), 2) := by decide +kernel
theorem dX7_find_46 : decode cX7_find 46 = .ok (.putfield 39, 3) := by decide +kernel
theorem dX7_find_49 : decode cX7_find 49 = .ok (.aload_n 0, 1) := by decide +kernel
theorem dX7_find_50 : decode cX7_find 50 = .ok (.getfield 9, 3) := by decide +kernel
theorem dX7_find_53 : decode cX7_find 53 = .ok (.sipush 1000, 3) := by decide +kernel
theorem dX7_find_56 : decode cX7_find 56 = .ok (.invokestatic 42, 3) := by decide +kernel
theorem dX7_find_59 : decode cX7_find 59 = .ok (.iconst 0, 1) := by decide +kernel
theorem dX7_find_60 : decode cX7_find 60 = .ok (.iload 4, 2) := by decide +kernel
theorem dX7_find_62 : decode cX7_find 62 = .ok (.if_icmp .gt 18, 3) := by decide +kernel
theorem dX7_find_65 : decode cX7_find 65 = .ok (.iload 4, 2) := by decide +kernel
theorem dX7_find_67 : decode cX7_find 67 = .ok (.bipush 6, 2) := by decide +kernel
theorem dX7_find_69 : decode cX7_find 69 = .ok (.if_icmp .ge 11, 3) := by decide +kernel
theorem dX7_find_72 : decode cX7_find 72 = .ok (.aload_n 0, 1) := by decide +kernel
theorem dX7_find_73 : decode cX7_find 73 = .ok (.getfield 9, 3) := by decide +kernel
theorem dX7_find_76 : decode cX7_find 76 = .ok (.iload 4, 2) := by decide +kernel
theorem dX7_find_78 : decode cX7_find 78 = .ok (.iconst 0, 1) := by decide +kernel
theorem dX7_find_79 : decode cX7_find 79 = .ok (.iastore, 1) := by decide +kernel
theorem dX7_find_80 : decode cX7_find 80 = .ok (.iconst 1, 1) := by decide +kernel
theorem dX7_find_81 : decode cX7_find 81 = .ok (.istore 7, 2) := by decide +kernel
theorem dX7_find_83 : decode cX7_find 83 = .ok (.iload 7, 2) := by decide +kernel
theorem dX7_find_85 : decode cX7_find 85 = .ok (.aload_n 1, 1) := by decide +kernel
theorem dX7_find_86 : decode cX7_find 86 = .ok (.getfield 48, 3) := by decide +kernel
theorem dX7_find_89 : decode cX7_find 89 = .ok (.if_icmp .ge 76, 3) := by decide +kernel
theorem dX7_find_92 : decode cX7_find 92 = .ok (.aload_n 0, 1) := by decide +kernel
theorem dX7_find_93 : decode cX7_find 93 = .ok (.getfield 32, 3) := by decide +kernel
theorem dX7_find_96 : decode cX7_find 96 = .ok (.bipush (-9), 2) := by decide +kernel
theorem dX7_find_98 : decode cX7_find 98 = .ok (.if_icmp .ne 67, 3) := by decide +kernel
theorem dX7_find_101 : decode cX7_find 101 = .ok (.aload_n 0, 1) := by decide +kernel
theorem dX7_find_102 : decode cX7_find 102 = .ok (.aload_n 1, 1) := by decide +kernel
theorem dX7_find_103 : decode cX7_find 103 = .ok (.iload 5, 2) := by decide +kernel
theorem dX7_find_105 : decode cX7_find 105 = .ok (.aload_n 2, 1) := by decide +kernel
theorem dX7_find_106 : decode cX7_find 106 = .ok (.iload_n 3, 1) := by decide +kernel
theorem dX7_find_107 : decode cX7_find 107 = .ok (.invokevirtual 51, 3) := by decide +kernel
theorem dX7_find_110 : decode cX7_find 110 = .ok (.iload 6, 2) := by decide +kernel
theorem dX7_find_112 : decode cX7_find 112 = .ok (.iadd, 1) := by decide +kernel
theorem dX7_find_113 : decode cX7_find 113 = .ok (.invokevirtual 54, 3) := by decide +kernel
theorem dX7_find_116 : decode cX7_find 116 = .ok (.istore 8, 2) := by decide +kernel
theorem dX7_find_118 : decode cX7_find 118 = .ok (.iload 8, 2) := by decide +kernel
theorem dX7_find_120 : decode cX7_find 120 = .ok (.bipush (-9), 2) := by decide +kernel
theorem dX7_find_122 : decode cX7_find 122 = .ok (.if_icmp .eq 32, 3) := by decide +kernel
theorem dX7_find_125 : decode cX7_find 125 = .ok (.aload_n 0, 1) := by decide +kernel
theorem dX7_find_126 : decode cX7_find 126 = .ok (.iload 7, 2) := by decide +kernel
theorem dX7_find_128 : decode cX7_find 128 = .ok (.putfield 32, 3) := by decide +kernel
theorem dX7_find_131 : decode cX7_find 131 = .ok (.aload_n 0, 1) := by decide +kernel
theorem dX7_find_132 : decode cX7_find 132 = .ok (.iload 8, 2) := by decide +kernel
theorem dX7_find_134 : decode cX7_find 134 = .ok (.putfield 36, 3) := by decide +kernel
theorem dX7_find_137 : decode cX7_find 137 = .ok (.aload_n 0, 1) := by decide +kernel
theorem dX7_find_138 : decode cX7_find 138 = .ok (.iconst 0, 1) := by decide +kernel
theorem dX7_find_139 : decode cX7_find 139 = .ok (.aload_n 1, 1) := by decide +kernel
theorem dX7_find_140 : decode cX7_find 140 = .ok (.iload 8, 2) := by decide +kernel
theorem dX7_find_142 : decode cX7_find 142 = .ok (.invokevirtual 58, 3) := by decide +kernel
theorem dX7_find_145 : decode cX7_find 145 = .ok (.iload 6, 2) := by decide +kernel
theorem dX7_find_147 : decode cX7_find 147 = .ok (.isub, 1) := by decide +kernel
theorem dX7_find_148 : decode cX7_find 148 = .ok (.invokestatic 61, 3) := by decide +kernel
theorem dX7_find_151 : decode cX7_find 151 = .ok (.putfield 39, 3) := by decide +kernel
theorem dX7_find_154 : decode cX7_find 154 = .ok (.aload_n 0, 1) := by decide +kernel
theorem dX7_find_155 : decode cX7_find 155 = .ok (.aload_n 1, 1) := by decide +kernel
theorem dX7_find_156 : decode cX7_find 156 = .ok (.invokevirtual 67, 3) := by decide +kernel
theorem dX7_find_159 : decode cX7_find 159 = .ok (.iinc 7 1, 3) := by decide +kernel
theorem dX7_find_162 : decode cX7_find 162 = .ok (.goto (-79), 3) := by decide +kernel
theorem dX7_find_165 : decode cX7_find 165 = .ok (.return_, 1) := by decide +kernel
theorem dX7_firstOnto_0 : decode cX7_firstOnto 0 = .ok (.iconst 0, 1) := by decide +kernel
theorem dX7_firstOnto_1 : decode cX7_firstOnto 1 = .ok (.istore 4, 2) := by decide +kernel
theorem dX7_firstOnto_3 : decode cX7_firstOnto 3 = .ok (.iload 4, 2) := by decide +kernel
theorem dX7_firstOnto_5 : decode cX7_firstOnto 5 = .ok (.aload_n 1, 1) := by decide +kernel
theorem dX7_firstOnto_6 : decode cX7_firstOnto 6 = .ok (.getfield 71, 3) := by decide +kernel
theorem dX7_firstOnto_9 : decode cX7_firstOnto 9 = .ok (.if_icmp .ge 24, 3) := by decide +kernel
theorem dX7_firstOnto_12 : decode cX7_firstOnto 12 = .ok (.aload_n 0, 1) := by decide +kernel
theorem dX7_firstOnto_13 : decode cX7_firstOnto 13 = .ok (.aload_n 1, 1) := by decide +kernel
theorem dX7_firstOnto_14 : decode cX7_firstOnto 14 = .ok (.iload 4, 2) := by decide +kernel
theorem dX7_firstOnto_16 : decode cX7_firstOnto 16 = .ok (.iload_n 2, 1) := by decide +kernel
theorem dX7_firstOnto_17 : decode cX7_firstOnto 17 = .ok (.invokevirtual 74, 3) := by decide +kernel
theorem dX7_firstOnto_20 : decode cX7_firstOnto 20 = .ok (.iload_n 3, 1) := by decide +kernel
theorem dX7_firstOnto_21 : decode cX7_firstOnto 21 = .ok (.if_icmp .gt 6, 3) := by decide +kernel
theorem dX7_firstOnto_24 : decode cX7_firstOnto 24 = .ok (.iload 4, 2) := by decide +kernel
theorem dX7_firstOnto_26 : decode cX7_firstOnto 26 = .ok (.ireturn, 1) := by decide +kernel
theorem dX7_firstOnto_27 : decode cX7_firstOnto 27 = .ok (.iinc 4 1, 3) := by decide +kernel
theorem dX7_firstOnto_30 : decode cX7_firstOnto 30 = .ok (.goto (-27), 3) := by decide +kernel
theorem dX7_firstOnto_33 : decode cX7_firstOnto 33 = .ok (.bipush (-9), 2) := by decide +kernel
theorem dX7_firstOnto_35 : decode cX7_firstOnto 35 = .ok (.ireturn, 1) := by decide +kernel
theorem dX7_lengthen_0 : decode cX7_lengthen 0 = .ok (.iconst 0, 1) := by decide +kernel
theorem dX7_lengthen_1 : decode cX7_lengthen 1 = .ok (.istore_n 2, 1) := by decide +kernel
theorem dX7_lengthen_2 : decode cX7_lengthen 2 = .ok (.iload_n 2, 1) := by decide +kernel
theorem dX7_lengthen_3 : decode cX7_lengthen 3 = .ok (.bipush 6, 2) := by decide +kernel
theorem dX7_lengthen_5 : decode cX7_lengthen 5 = .ok (.if_icmp .ge 56, 3) := by decide +kernel
theorem dX7_lengthen_8 : decode cX7_lengthen 8 = .ok (.aload_n 0, 1) := by decide +kernel
theorem dX7_lengthen_9 : decode cX7_lengthen 9 = .ok (.getfield 15, 3) := by decide +kernel
theorem dX7_lengthen_12 : decode cX7_lengthen 12 = .ok (.iload_n 2, 1) := by decide +kernel
theorem dX7_lengthen_13 : decode cX7_lengthen 13 = .ok (.sipush 1000, 3) := by decide +kernel
theorem dX7_lengthen_16 : decode cX7_lengthen 16 = .ok (.iastore, 1) := by decide +kernel
theorem dX7_lengthen_17 : decode cX7_lengthen 17 = .ok (.iconst 0, 1) := by decide +kernel
theorem dX7_lengthen_18 : decode cX7_lengthen 18 = .ok (.istore_n 3, 1) := by decide +kernel
theorem dX7_lengthen_19 : decode cX7_lengthen 19 = .ok (.iload_n 3, 1) := by decide +kernel
theorem dX7_lengthen_20 : decode cX7_lengthen 20 = .ok (.aload_n 1, 1) := by decide +kernel
theorem dX7_lengthen_21 : decode cX7_lengthen 21 = .ok (.getfield 71, 3) := by decide +kernel
theorem dX7_lengthen_24 : decode cX7_lengthen 24 = .ok (.if_icmp .ge 31, 3) := by decide +kernel
theorem dX7_lengthen_27 : decode cX7_lengthen 27 = .ok (.aload_n 0, 1) := by decide +kernel
theorem dX7_lengthen_28 : decode cX7_lengthen 28 = .ok (.getfield 15, 3) := by decide +kernel
theorem dX7_lengthen_31 : decode cX7_lengthen 31 = .ok (.iload_n 2, 1) := by decide +kernel
theorem dX7_lengthen_32 : decode cX7_lengthen 32 = .ok (.aload_n 0, 1) := by decide +kernel
theorem dX7_lengthen_33 : decode cX7_lengthen 33 = .ok (.getfield 15, 3) := by decide +kernel
theorem dX7_lengthen_36 : decode cX7_lengthen 36 = .ok (.iload_n 2, 1) := by decide +kernel
theorem dX7_lengthen_37 : decode cX7_lengthen 37 = .ok (.iaload, 1) := by decide +kernel
theorem dX7_lengthen_38 : decode cX7_lengthen 38 = .ok (.aload_n 0, 1) := by decide +kernel
theorem dX7_lengthen_39 : decode cX7_lengthen 39 = .ok (.aload_n 1, 1) := by decide +kernel
theorem dX7_lengthen_40 : decode cX7_lengthen 40 = .ok (.iload_n 3, 1) := by decide +kernel
theorem dX7_lengthen_41 : decode cX7_lengthen 41 = .ok (.iload_n 2, 1) := by decide +kernel
theorem dX7_lengthen_42 : decode cX7_lengthen 42 = .ok (.invokevirtual 74, 3) := by decide +kernel
theorem dX7_lengthen_45 : decode cX7_lengthen 45 = .ok (.invokestatic 77, 3) := by decide +kernel
theorem dX7_lengthen_48 : decode cX7_lengthen 48 = .ok (.iastore, 1) := by decide +kernel
theorem dX7_lengthen_49 : decode cX7_lengthen 49 = .ok (.iinc 3 1, 3) := by decide +kernel
theorem dX7_lengthen_52 : decode cX7_lengthen 52 = .ok (.goto (-33), 3) := by decide +kernel
theorem dX7_lengthen_55 : decode cX7_lengthen 55 = .ok (.iinc 2 1, 3) := by decide +kernel
theorem dX7_lengthen_58 : decode cX7_lengthen 58 = .ok (.goto (-56), 3) := by decide +kernel
theorem dX7_lengthen_61 : decode cX7_lengthen 61 = .ok (.aload_n 0, 1) := by decide +kernel
theorem dX7_lengthen_62 : decode cX7_lengthen 62 = .ok (.getfield 15, 3) := by decide +kernel
theorem dX7_lengthen_65 : decode cX7_lengthen 65 = .ok (.iconst 0, 1) := by decide +kernel
theorem dX7_lengthen_66 : decode cX7_lengthen 66 = .ok (.aload_n 0, 1) := by decide +kernel
theorem dX7_lengthen_67 : decode cX7_lengthen 67 = .ok (.getfield 9, 3) := by decide +kernel
theorem dX7_lengthen_70 : decode cX7_lengthen 70 = .ok (.iconst 0, 1) := by decide +kernel
theorem dX7_lengthen_71 : decode cX7_lengthen 71 = .ok (.bipush 6, 2) := by decide +kernel
theorem dX7_lengthen_73 : decode cX7_lengthen 73 = .ok (.invokestatic 80, 3) := by decide +kernel
theorem dX7_lengthen_76 : decode cX7_lengthen 76 = .ok (.return_, 1) := by decide +kernel
theorem dX7_heatOver_0 : decode cX7_heatOver 0 = .ok (.aload_n 1, 1) := by decide +kernel
theorem dX7_heatOver_1 : decode cX7_heatOver 1 = .ok (.iload_n 2, 1) := by decide +kernel
theorem dX7_heatOver_2 : decode cX7_heatOver 2 = .ok (.iload_n 3, 1) := by decide +kernel
theorem dX7_heatOver_3 : decode cX7_heatOver 3 = .ok (.invokevirtual 86, 3) := by decide +kernel
theorem dX7_heatOver_6 : decode cX7_heatOver 6 = .ok (.istore 4, 2) := by decide +kernel
theorem dX7_heatOver_8 : decode cX7_heatOver 8 = .ok (.iconst 0, 1) := by decide +kernel
theorem dX7_heatOver_9 : decode cX7_heatOver 9 = .ok (.iload 4, 2) := by decide +kernel
theorem dX7_heatOver_11 : decode cX7_heatOver 11 = .ok (.if_icmp .gt 32, 3) := by decide +kernel
theorem dX7_heatOver_14 : decode cX7_heatOver 14 = .ok (.iload 4, 2) := by decide +kernel
theorem dX7_heatOver_16 : decode cX7_heatOver 16 = .ok (.bipush 6, 2) := by decide +kernel
theorem dX7_heatOver_18 : decode cX7_heatOver 18 = .ok (.if_icmp .ge 25, 3) := by decide +kernel
theorem dX7_heatOver_21 : decode cX7_heatOver 21 = .ok (.sipush 1000, 3) := by decide +kernel
theorem dX7_heatOver_24 : decode cX7_heatOver 24 = .ok (.aload_n 1, 1) := by decide +kernel
theorem dX7_heatOver_25 : decode cX7_heatOver 25 = .ok (.iload_n 2, 1) := by decide +kernel
theorem dX7_heatOver_26 : decode cX7_heatOver 26 = .ok (.invokevirtual 58, 3) := by decide +kernel
theorem dX7_heatOver_29 : decode cX7_heatOver 29 = .ok (.aload_n 0, 1) := by decide +kernel
theorem dX7_heatOver_30 : decode cX7_heatOver 30 = .ok (.getfield 9, 3) := by decide +kernel
theorem dX7_heatOver_33 : decode cX7_heatOver 33 = .ok (.iload 4, 2) := by decide +kernel
theorem dX7_heatOver_35 : decode cX7_heatOver 35 = .ok (.iaload, 1) := by decide +kernel
theorem dX7_heatOver_36 : decode cX7_heatOver 36 = .ok (.iadd, 1) := by decide +kernel
theorem dX7_heatOver_37 : decode cX7_heatOver 37 = .ok (.invokestatic 77, 3) := by decide +kernel
theorem dX7_heatOver_40 : decode cX7_heatOver 40 = .ok (.goto 6, 3) := by decide +kernel
theorem dX7_heatOver_43 : decode cX7_heatOver 43 = .ok (.sipush 1000, 3) := by decide +kernel
theorem dX7_heatOver_46 : decode cX7_heatOver 46 = .ok (.ireturn, 1) := by decide +kernel
theorem dX8_init_0 : decode cX8_init 0 = .ok (.aload_n 0, 1) := by decide +kernel
theorem dX8_init_1 : decode cX8_init 1 = .ok (.invokespecial 1, 3) := by decide +kernel
theorem dX8_init_4 : decode cX8_init 4 = .ok (.aload_n 0, 1) := by decide +kernel
theorem dX8_init_5 : decode cX8_init 5 = .ok (.new 7, 3) := by decide +kernel
theorem dX8_init_8 : decode cX8_init 8 = .ok (.dup, 1) := by decide +kernel
theorem dX8_init_9 : decode cX8_init 9 = .ok (.invokespecial 9, 3) := by decide +kernel
theorem dX8_init_12 : decode cX8_init 12 = .ok (.putfield 10, 3) := by decide +kernel
theorem dX8_init_15 : decode cX8_init 15 = .ok (.aload_n 0, 1) := by decide +kernel
theorem dX8_init_16 : decode cX8_init 16 = .ok (.new 16, 3) := by decide +kernel
theorem dX8_init_19 : decode cX8_init 19 = .ok (.dup, 1) := by decide +kernel
theorem dX8_init_20 : decode cX8_init 20 = .ok (.invokespecial 18, 3) := by decide +kernel
theorem dX8_init_23 : decode cX8_init 23 = .ok (.putfield 19, 3) := by decide +kernel
theorem dX8_init_26 : decode cX8_init 26 = .ok (.aload_n 0, 1) := by decide +kernel
theorem dX8_init_27 : decode cX8_init 27 = .ok (.new 16, 3) := by decide +kernel
theorem dX8_init_30 : decode cX8_init 30 = .ok (.dup, 1) := by decide +kernel
theorem dX8_init_31 : decode cX8_init 31 = .ok (.invokespecial 18, 3) := by decide +kernel
theorem dX8_init_34 : decode cX8_init 34 = .ok (.putfield 23, 3) := by decide +kernel
theorem dX8_init_37 : decode cX8_init 37 = .ok (.aload_n 0, 1) := by decide +kernel
theorem dX8_init_38 : decode cX8_init 38 = .ok (.new 26, 3) := by decide +kernel
theorem dX8_init_41 : decode cX8_init 41 = .ok (.dup, 1) := by decide +kernel
theorem dX8_init_42 : decode cX8_init 42 = .ok (.invokespecial 28, 3) := by decide +kernel
theorem dX8_init_45 : decode cX8_init 45 = .ok (.putfield 29, 3) := by decide +kernel
theorem dX8_init_48 : decode cX8_init 48 = .ok (.aload_n 0, 1) := by decide +kernel
theorem dX8_init_49 : decode cX8_init 49 = .ok (.new 26, 3) := by decide +kernel
theorem dX8_init_52 : decode cX8_init 52 = .ok (.dup, 1) := by decide +kernel
theorem dX8_init_53 : decode cX8_init 53 = .ok (.invokespecial 28, 3) := by decide +kernel
theorem dX8_init_56 : decode cX8_init 56 = .ok (.putfield 33, 3) := by decide +kernel
theorem dX8_init_59 : decode cX8_init 59 = .ok (.aload_n 0, 1) := by decide +kernel
theorem dX8_init_60 : decode cX8_init 60 = .ok (.new 26, 3) := by decide +kernel
theorem dX8_init_63 : decode cX8_init 63 = .ok (.dup, 1) := by decide +kernel
theorem dX8_init_64 : decode cX8_init 64 = .ok (.invokespecial 28, 3) := by decide +kernel
theorem dX8_init_67 : decode cX8_init 67 = .ok (.putfield 36, 3) := by decide +kernel
theorem dX8_init_70 : decode cX8_init 70 = .ok (.aload_n 0, 1) := by decide +kernel
theorem dX8_init_71 : decode cX8_init 71 = .ok (.new 39, 3) := by decide +kernel
theorem dX8_init_74 : decode cX8_init 74 = .ok (.dup, 1) := by decide +kernel
theorem dX8_init_75 : decode cX8_init 75 = .ok (.invokespecial 41, 3) := by decide +kernel
theorem dX8_init_78 : decode cX8_init 78 = .ok (.putfield 42, 3) := by decide +kernel
theorem dX8_init_81 : decode cX8_init 81 = .ok (.aload_n 0, 1) := by decide +kernel
theorem dX8_init_82 : decode cX8_init 82 = .ok (.new 46, 3) := by decide +kernel
theorem dX8_init_85 : decode cX8_init 85 = .ok (.dup, 1) := by decide +kernel
theorem dX8_init_86 : decode cX8_init 86 = .ok (.invokespecial 48, 3) := by decide +kernel
theorem dX8_init_89 : decode cX8_init 89 = .ok (.putfield 49, 3) := by decide +kernel
theorem dX8_init_92 : decode cX8_init 92 = .ok (.aload_n 0, 1) := by decide +kernel
theorem dX8_init_93 : decode cX8_init 93 = .ok (.new 53, 3) := by decide +kernel
theorem dX8_init_96 : decode cX8_init 96 = .ok (.dup, 1) := by decide +kernel
theorem dX8_init_97 : decode cX8_init 97 = .ok (.invokespecial 55, 3) := by decide +kernel
theorem dX8_init_100 : decode cX8_init 100 = .ok (.putfield 56, 3) := by decide +kernel
theorem dX8_init_103 : decode cX8_init 103 = .ok (.aload_n 0, 1) := by decide +kernel
theorem dX8_init_104 : decode cX8_init 104 = .ok (.new 60, 3) := by decide +kernel
theorem dX8_init_107 : decode cX8_init 107 = .ok (.dup, 1) := by decide +kernel
theorem dX8_init_108 : decode cX8_init 108 = .ok (.invokespecial 62, 3) := by decide +kernel
theorem dX8_init_111 : decode cX8_init 111 = .ok (.putfield 63, 3) := by decide +kernel
theorem dX8_init_114 : decode cX8_init 114 = .ok (.return_, 1) := by decide +kernel
theorem dX8_type_0 : decode cX8_type 0 = .ok (.iload_n 1, 1) := by decide +kernel
theorem dX8_type_1 : decode cX8_type 1 = .ok (.iconst 0, 1) := by decide +kernel
theorem dX8_type_2 : decode cX8_type 2 = .ok (.sipush 255, 3) := by decide +kernel
theorem dX8_type_5 : decode cX8_type 5 = .ok (.invokestatic 67, 3) := by decide +kernel
theorem dX8_type_8 : decode cX8_type 8 = .ok (.ifCond .ne 5, 3) := by decide +kernel
theorem dX8_type_11 : decode cX8_type 11 = .ok (.iconst (-1), 1) := by decide +kernel
theorem dX8_type_12 : decode cX8_type 12 = .ok (.ireturn, 1) := by decide +kernel
theorem dX8_type_13 : decode cX8_type 13 = .ok (.aload_n 0, 1) := by decide +kernel
theorem dX8_type_14 : decode cX8_type 14 = .ok (.getfield 10, 3) := by decide +kernel
theorem dX8_type_17 : decode cX8_type 17 = .ok (.iload_n 1, 1) := by decide +kernel
theorem dX8_type_18 : decode cX8_type 18 = .ok (.invokevirtual 71, 3) := by decide +kernel
theorem dX8_type_21 : decode cX8_type 21 = .ok (.ifCond .eq 13, 3) := by decide +kernel
theorem dX8_type_24 : decode cX8_type 24 = .ok (.aload_n 0, 1) := by decide +kernel
theorem dX8_type_25 : decode cX8_type 25 = .ok (.getfield 10, 3) := by decide +kernel
theorem dX8_type_28 : decode cX8_type 28 = .ok (.invokevirtual 75, 3) := by decide +kernel
theorem dX8_type_31 : decode cX8_type 31 = .ok (.goto 5, 3) := by decide +kernel
theorem dX8_type_34 : decode cX8_type 34 = .ok (.bipush (-3), 2) := by decide +kernel
theorem dX8_type_36 : decode cX8_type 36 = .ok (.ireturn, 1) := by decide +kernel
theorem dX8_clear_0 : decode cX8_clear 0 = .ok (.aload_n 0, 1) := by decide +kernel
theorem dX8_clear_1 : decode cX8_clear 1 = .ok (.getfield 10, 3) := by decide +kernel
theorem dX8_clear_4 : decode cX8_clear 4 = .ok (.invokevirtual 79, 3) := by decide +kernel
theorem dX8_clear_7 : decode cX8_clear 7 = .ok (.ireturn, 1) := by decide +kernel
theorem dX8_road_0 : decode cX8_road 0 = .ok (.aload_n 0, 1) := by decide +kernel
theorem dX8_road_1 : decode cX8_road 1 = .ok (.getfield 23, 3) := by decide +kernel
theorem dX8_road_4 : decode cX8_road 4 = .ok (.aload_n 0, 1) := by decide +kernel
theorem dX8_road_5 : decode cX8_road 5 = .ok (.getfield 10, 3) := by decide +kernel
theorem dX8_road_8 : decode cX8_road 8 = .ok (.invokevirtual 82, 3) := by decide +kernel
theorem dX8_road_11 : decode cX8_road 11 = .ok (.istore_n 1, 1) := by decide +kernel
theorem dX8_road_12 : decode cX8_road 12 = .ok (.iload_n 1, 1) := by decide +kernel
theorem dX8_road_13 : decode cX8_road 13 = .ok (.ifCond .ge 5, 3) := by decide +kernel
theorem dX8_road_16 : decode cX8_road 16 = .ok (.iload_n 1, 1) := by decide +kernel
theorem dX8_road_17 : decode cX8_road 17 = .ok (.ireturn, 1) := by decide +kernel
theorem dX8_road_18 : decode cX8_road 18 = .ok (.aload_n 0, 1) := by decide +kernel
theorem dX8_road_19 : decode cX8_road 19 = .ok (.getfield 19, 3) := by decide +kernel
theorem dX8_road_22 : decode cX8_road 22 = .ok (.astore_n 2, 1) := by decide +kernel
theorem dX8_road_23 : decode cX8_road 23 = .ok (.aload_n 0, 1) := by decide +kernel
theorem dX8_road_24 : decode cX8_road 24 = .ok (.aload_n 0, 1) := by decide +kernel
theorem dX8_road_25 : decode cX8_road 25 = .ok (.getfield 23, 3) := by decide +kernel
theorem dX8_road_28 : decode cX8_road 28 = .ok (.putfield 19, 3) := by decide +kernel
theorem dX8_road_31 : decode cX8_road 31 = .ok (.aload_n 0, 1) := by decide +kernel
theorem dX8_road_32 : decode cX8_road 32 = .ok (.aload_n 2, 1) := by decide +kernel
theorem dX8_road_33 : decode cX8_road 33 = .ok (.putfield 23, 3) := by decide +kernel
theorem dX8_road_36 : decode cX8_road 36 = .ok (.aload_n 0, 1) := by decide +kernel
theorem dX8_road_37 : decode cX8_road 37 = .ok (.getfield 10, 3) := by decide +kernel
theorem dX8_road_40 : decode cX8_road 40 = .ok (.invokevirtual 79, 3) := by decide +kernel
theorem dX8_road_43 : decode cX8_road 43 = .ok (.pop, 1) := by decide +kernel
theorem dX8_road_44 : decode cX8_road 44 = .ok (.aload_n 0, 1) := by decide +kernel
theorem dX8_road_45 : decode cX8_road 45 = .ok (.getfield 29, 3) := by decide +kernel
theorem dX8_road_48 : decode cX8_road 48 = .ok (.aload_n 0, 1) := by decide +kernel
theorem dX8_road_49 : decode cX8_road 49 = .ok (.getfield 19, 3) := by decide +kernel
theorem dX8_road_52 : decode cX8_road 52 = .ok (.getfield 86, 3) := by decide +kernel
theorem dX8_road_55 : decode cX8_road 55 = .ok (.invokevirtual 90, 3) := by decide +kernel
theorem dX8_road_58 : decode cX8_road 58 = .ok (.aload_n 0, 1) := by decide +kernel
theorem dX8_road_59 : decode cX8_road 59 = .ok (.getfield 42, 3) := by decide +kernel
theorem dX8_road_62 : decode cX8_road 62 = .ok (.invokevirtual 94, 3) := by decide +kernel
theorem dX8_road_65 : decode cX8_road 65 = .ok (.pop, 1) := by decide +kernel
theorem dX8_road_66 : decode cX8_road 66 = .ok (.aload_n 0, 1) := by decide +kernel
theorem dX8_road_67 : decode cX8_road 67 = .ok (.iconst 0, 1) := by decide +kernel
theorem dX8_road_68 : decode cX8_road 68 = .ok (.putfield 97, 3) := by decide +kernel
theorem dX8_road_71 : decode cX8_road 71 = .ok (.iload_n 1, 1) := by decide +kernel
theorem dX8_road_72 : decode cX8_road 72 = .ok (.ireturn, 1) := by decide +kernel
theorem dX8_stage_0 : decode cX8_stage 0 = .ok (.aload_n 0, 1) := by decide +kernel
theorem dX8_stage_1 : decode cX8_stage 1 = .ok (.getfield 19, 3) := by decide +kernel
theorem dX8_stage_4 : decode cX8_stage 4 = .ok (.iload_n 1, 1) := by decide +kernel
theorem dX8_stage_5 : decode cX8_stage 5 = .ok (.invokevirtual 101, 3) := by decide +kernel
theorem dX8_stage_8 : decode cX8_stage 8 = .ok (.ifCond .ne 5, 3) := by decide +kernel
theorem dX8_stage_11 : decode cX8_stage 11 = .ok (.iconst (-1), 1) := by decide +kernel
theorem dX8_stage_12 : decode cX8_stage 12 = .ok (.ireturn, 1) := by decide +kernel
theorem dX8_stage_13 : decode cX8_stage 13 = .ok (.iload_n 2, 1) := by decide +kernel
theorem dX8_stage_14 : decode cX8_stage 14 = .ok (.tableswitch 87 0 4 #[34, 43, 52, 61, 78], 34) := by decide +kernel
theorem dX8_stage_48 : decode cX8_stage 48 = .ok (.aload_n 0, 1) := by decide +kernel
theorem dX8_stage_49 : decode cX8_stage 49 = .ok (.getfield 19, 3) := by decide +kernel
theorem dX8_stage_52 : decode cX8_stage 52 = .ok (.iload_n 1, 1) := by decide +kernel
theorem dX8_stage_53 : decode cX8_stage 53 = .ok (.invokevirtual 104, 3) := by decide +kernel
theorem dX8_stage_56 : decode cX8_stage 56 = .ok (.ireturn, 1) := by decide +kernel
theorem dX8_stage_57 : decode cX8_stage 57 = .ok (.aload_n 0, 1) := by decide +kernel
theorem dX8_stage_58 : decode cX8_stage 58 = .ok (.getfield 19, 3) := by decide +kernel
theorem dX8_stage_61 : decode cX8_stage 61 = .ok (.iload_n 1, 1) := by decide +kernel
theorem dX8_stage_62 : decode cX8_stage 62 = .ok (.invokevirtual 108, 3) := by decide +kernel
theorem dX8_stage_65 : decode cX8_stage 65 = .ok (.ireturn, 1) := by decide +kernel
theorem dX8_stage_66 : decode cX8_stage 66 = .ok (.aload_n 0, 1) := by decide +kernel
theorem dX8_stage_67 : decode cX8_stage 67 = .ok (.getfield 19, 3) := by decide +kernel
theorem dX8_stage_70 : decode cX8_stage 70 = .ok (.iload_n 1, 1) := by decide +kernel
theorem dX8_stage_71 : decode cX8_stage 71 = .ok (.invokevirtual 111, 3) := by decide +kernel
theorem dX8_stage_74 : decode cX8_stage 74 = .ok (.ireturn, 1) := by decide +kernel
theorem dX8_stage_75 : decode cX8_stage 75 = .ok (.aload_n 0, 1) := by decide +kernel
theorem dX8_stage_76 : decode cX8_stage 76 = .ok (.getfield 19, 3) := by decide +kernel
theorem dX8_stage_79 : decode cX8_stage 79 = .ok (.iload_n 1, 1) := by decide +kernel
theorem dX8_stage_80 : decode cX8_stage 80 = .ok (.invokevirtual 114, 3) := by decide +kernel
theorem dX8_stage_83 : decode cX8_stage 83 = .ok (.ifCond .eq 7, 3) := by decide +kernel
theorem dX8_stage_86 : decode cX8_stage 86 = .ok (.iconst 1, 1) := by decide +kernel
theorem dX8_stage_87 : decode cX8_stage 87 = .ok (.goto 4, 3) := by decide +kernel
theorem dX8_stage_90 : decode cX8_stage 90 = .ok (.iconst 0, 1) := by decide +kernel
theorem dX8_stage_91 : decode cX8_stage 91 = .ok (.ireturn, 1) := by decide +kernel
theorem dX8_stage_92 : decode cX8_stage 92 = .ok (.aload_n 0, 1) := by decide +kernel
theorem dX8_stage_93 : decode cX8_stage 93 = .ok (.getfield 19, 3) := by decide +kernel
theorem dX8_stage_96 : decode cX8_stage 96 = .ok (.iload_n 1, 1) := by decide +kernel
theorem dX8_stage_97 : decode cX8_stage 97 = .ok (.invokevirtual 117, 3) := by decide +kernel
theorem dX8_stage_100 : decode cX8_stage 100 = .ok (.ireturn, 1) := by decide +kernel
theorem dX8_stage_101 : decode cX8_stage 101 = .ok (.iconst (-1), 1) := by decide +kernel
theorem dX8_stage_102 : decode cX8_stage 102 = .ok (.ireturn, 1) := by decide +kernel
theorem dX8_caravan_0 : decode cX8_caravan 0 = .ok (.aload_n 0, 1) := by decide +kernel
theorem dX8_caravan_1 : decode cX8_caravan 1 = .ok (.getfield 19, 3) := by decide +kernel
theorem dX8_caravan_4 : decode cX8_caravan 4 = .ok (.iload_n 1, 1) := by decide +kernel
theorem dX8_caravan_5 : decode cX8_caravan 5 = .ok (.invokevirtual 120, 3) := by decide +kernel
theorem dX8_caravan_8 : decode cX8_caravan 8 = .ok (.ifCond .ne 5, 3) := by decide +kernel
theorem dX8_caravan_11 : decode cX8_caravan 11 = .ok (.iconst (-1), 1) := by decide +kernel
theorem dX8_caravan_12 : decode cX8_caravan 12 = .ok (.ireturn, 1) := by decide +kernel
theorem dX8_caravan_13 : decode cX8_caravan 13 = .ok (.aload_n 0, 1) := by decide +kernel
theorem dX8_caravan_14 : decode cX8_caravan 14 = .ok (.getfield 29, 3) := by decide +kernel
theorem dX8_caravan_17 : decode cX8_caravan 17 = .ok (.getfield 123, 3) := by decide +kernel
theorem dX8_caravan_20 : decode cX8_caravan 20 = .ok (.astore_n 3, 1) := by decide +kernel
theorem dX8_caravan_21 : decode cX8_caravan 21 = .ok (.iload_n 2, 1) := by decide +kernel
theorem dX8_caravan_22 : decode cX8_caravan 22 = .ok (.tableswitch 85 0 5 #[38, 44, 50, 59, 65, 79], 38) := by decide +kernel
theorem dX8_caravan_60 : decode cX8_caravan 60 = .ok (.aload_n 3, 1) := by decide +kernel
theorem dX8_caravan_61 : decode cX8_caravan 61 = .ok (.iload_n 1, 1) := by decide +kernel
theorem dX8_caravan_62 : decode cX8_caravan 62 = .ok (.invokevirtual 126, 3) := by decide +kernel
theorem dX8_caravan_65 : decode cX8_caravan 65 = .ok (.ireturn, 1) := by decide +kernel
theorem dX8_caravan_66 : decode cX8_caravan 66 = .ok (.aload_n 3, 1) := by decide +kernel
theorem dX8_caravan_67 : decode cX8_caravan 67 = .ok (.iload_n 1, 1) := by decide +kernel
theorem dX8_caravan_68 : decode cX8_caravan 68 = .ok (.invokevirtual 131, 3) := by decide +kernel
theorem dX8_caravan_71 : decode cX8_caravan 71 = .ok (.ireturn, 1) := by decide +kernel
theorem dX8_caravan_72 : decode cX8_caravan 72 = .ok (.aload_n 0, 1) := by decide +kernel
theorem dX8_caravan_73 : decode cX8_caravan 73 = .ok (.getfield 19, 3) := by decide +kernel
theorem dX8_caravan_76 : decode cX8_caravan 76 = .ok (.iload_n 1, 1) := by decide +kernel
theorem dX8_caravan_77 : decode cX8_caravan 77 = .ok (.invokevirtual 134, 3) := by decide +kernel
theorem dX8_caravan_80 : decode cX8_caravan 80 = .ok (.ireturn, 1) := by decide +kernel
theorem dX8_caravan_81 : decode cX8_caravan 81 = .ok (.aload_n 3, 1) := by decide +kernel
theorem dX8_caravan_82 : decode cX8_caravan 82 = .ok (.iload_n 1, 1) := by decide +kernel
theorem dX8_caravan_83 : decode cX8_caravan 83 = .ok (.invokevirtual 137, 3) := by decide +kernel
theorem dX8_caravan_86 : decode cX8_caravan 86 = .ok (.ireturn, 1) := by decide +kernel
theorem dX8_caravan_87 : decode cX8_caravan 87 = .ok (.aload_n 3, 1) := by decide +kernel
theorem dX8_caravan_88 : decode cX8_caravan 88 = .ok (.iload_n 1, 1) := by decide +kernel
theorem dX8_caravan_89 : decode cX8_caravan 89 = .ok (.invokevirtual 140, 3) := by decide +kernel
theorem dX8_caravan_92 : decode cX8_caravan 92 = .ok (.ifCond .eq 7, 3) := by decide +kernel
theorem dX8_caravan_95 : decode cX8_caravan 95 = .ok (.iconst 1, 1) := by decide +kernel
theorem dX8_caravan_96 : decode cX8_caravan 96 = .ok (.goto 4, 3) := by decide +kernel
theorem dX8_caravan_99 : decode cX8_caravan 99 = .ok (.iconst 0, 1) := by decide +kernel
theorem dX8_caravan_100 : decode cX8_caravan 100 = .ok (.ireturn, 1) := by decide +kernel
theorem dX8_caravan_101 : decode cX8_caravan 101 = .ok (.aload_n 3, 1) := by decide +kernel
theorem dX8_caravan_102 : decode cX8_caravan 102 = .ok (.iload_n 1, 1) := by decide +kernel
theorem dX8_caravan_103 : decode cX8_caravan 103 = .ok (.invokevirtual 143, 3) := by decide +kernel
theorem dX8_caravan_106 : decode cX8_caravan 106 = .ok (.ireturn, 1) := by decide +kernel
theorem dX8_caravan_107 : decode cX8_caravan 107 = .ok (.iconst (-1), 1) := by decide +kernel
theorem dX8_caravan_108 : decode cX8_caravan 108 = .ok (.ireturn, 1) := by decide +kernel
theorem dX8_well_0 : decode cX8_well 0 = .ok (.aload_n 0, 1) := by decide +kernel
theorem dX8_well_1 : decode cX8_well 1 = .ok (.getfield 19, 3) := by decide +kernel
theorem dX8_well_4 : decode cX8_well 4 = .ok (.iload_n 1, 1) := by decide +kernel
theorem dX8_well_5 : decode cX8_well 5 = .ok (.invokevirtual 146, 3) := by decide +kernel
theorem dX8_well_8 : decode cX8_well 8 = .ok (.ifCond .ne 6, 3) := by decide +kernel
theorem dX8_well_11 : decode cX8_well 11 = .ok (.ldc 149, 2) := by decide +kernel
theorem dX8_well_13 : decode cX8_well 13 = .ok (.ireturn, 1) := by decide +kernel
theorem dX8_well_14 : decode cX8_well 14 = .ok (.aload_n 0, 1) := by decide +kernel
theorem dX8_well_15 : decode cX8_well 15 = .ok (.getfield 29, 3) := by decide +kernel
theorem dX8_well_18 : decode cX8_well 18 = .ok (.getfield 123, 3) := by decide +kernel
theorem dX8_well_21 : decode cX8_well 21 = .ok (.astore_n 3, 1) := by decide +kernel
theorem dX8_well_22 : decode cX8_well 22 = .ok (.iload_n 2, 1) := by decide +kernel
theorem dX8_well_23 : decode cX8_well 23 = .ok (.tableswitch 64 0 3 #[29, 46, 52, 58], 29) := by decide +kernel
theorem dX8_well_52 : decode cX8_well 52 = .ok (.aload_n 0, 1) := by decide +kernel
theorem dX8_well_53 : decode cX8_well 53 = .ok (.getfield 19, 3) := by decide +kernel
theorem dX8_well_56 : decode cX8_well 56 = .ok (.iload_n 1, 1) := by decide +kernel
theorem dX8_well_57 : decode cX8_well 57 = .ok (.invokevirtual 150, 3) := by decide +kernel
theorem dX8_well_60 : decode cX8_well 60 = .ok (.ifCond .eq 7, 3) := by decide +kernel
theorem dX8_well_63 : decode cX8_well 63 = .ok (.iconst 1, 1) := by decide +kernel
theorem dX8_well_64 : decode cX8_well 64 = .ok (.goto 4, 3) := by decide +kernel
theorem dX8_well_67 : decode cX8_well 67 = .ok (.iconst 0, 1) := by decide +kernel
theorem dX8_well_68 : decode cX8_well 68 = .ok (.ireturn, 1) := by decide +kernel
theorem dX8_well_69 : decode cX8_well 69 = .ok (.aload_n 3, 1) := by decide +kernel
theorem dX8_well_70 : decode cX8_well 70 = .ok (.iload_n 1, 1) := by decide +kernel
theorem dX8_well_71 : decode cX8_well 71 = .ok (.invokevirtual 153, 3) := by decide +kernel
theorem dX8_well_74 : decode cX8_well 74 = .ok (.ireturn, 1) := by decide +kernel
theorem dX8_well_75 : decode cX8_well 75 = .ok (.aload_n 3, 1) := by decide +kernel
theorem dX8_well_76 : decode cX8_well 76 = .ok (.iload_n 1, 1) := by decide +kernel
theorem dX8_well_77 : decode cX8_well 77 = .ok (.invokevirtual 156, 3) := by decide +kernel
theorem dX8_well_80 : decode cX8_well 80 = .ok (.ireturn, 1) := by decide +kernel
theorem dX8_well_81 : decode cX8_well 81 = .ok (.aload_n 3, 1) := by decide +kernel
theorem dX8_well_82 : decode cX8_well 82 = .ok (.iload_n 1, 1) := by decide +kernel
theorem dX8_well_83 : decode cX8_well 83 = .ok (.invokevirtual 159, 3) := by decide +kernel
theorem dX8_well_86 : decode cX8_well 86 = .ok (.ireturn, 1) := by decide +kernel
theorem dX8_well_87 : decode cX8_well 87 = .ok (.ldc 149, 2) := by decide +kernel
theorem dX8_well_89 : decode cX8_well 89 = .ok (.ireturn, 1) := by decide +kernel
theorem dX8_knots_0 : decode cX8_knots 0 = .ok (.aload_n 0, 1) := by decide +kernel
theorem dX8_knots_1 : decode cX8_knots 1 = .ok (.getfield 19, 3) := by decide +kernel
theorem dX8_knots_4 : decode cX8_knots 4 = .ok (.iload_n 1, 1) := by decide +kernel
theorem dX8_knots_5 : decode cX8_knots 5 = .ok (.invokevirtual 120, 3) := by decide +kernel
theorem dX8_knots_8 : decode cX8_knots 8 = .ok (.ifCond .eq 29, 3) := by decide +kernel
theorem dX8_knots_11 : decode cX8_knots 11 = .ok (.aload_n 0, 1) := by decide +kernel
theorem dX8_knots_12 : decode cX8_knots 12 = .ok (.getfield 19, 3) := by decide +kernel
theorem dX8_knots_15 : decode cX8_knots 15 = .ok (.iload_n 2, 1) := by decide +kernel
theorem dX8_knots_16 : decode cX8_knots 16 = .ok (.invokevirtual 146, 3) := by decide +kernel
theorem dX8_knots_19 : decode cX8_knots 19 = .ok (.ifCond .eq 18, 3) := by decide +kernel
theorem dX8_knots_22 : decode cX8_knots 22 = .ok (.aload_n 0, 1) := by decide +kernel
theorem dX8_knots_23 : decode cX8_knots 23 = .ok (.getfield 29, 3) := by decide +kernel
theorem dX8_knots_26 : decode cX8_knots 26 = .ok (.getfield 123, 3) := by decide +kernel
theorem dX8_knots_29 : decode cX8_knots 29 = .ok (.iload_n 1, 1) := by decide +kernel
theorem dX8_knots_30 : decode cX8_knots 30 = .ok (.iload_n 2, 1) := by decide +kernel
theorem dX8_knots_31 : decode cX8_knots 31 = .ok (.invokevirtual 162, 3) := by decide +kernel
theorem dX8_knots_34 : decode cX8_knots 34 = .ok (.goto 4, 3) := by decide +kernel
theorem dX8_knots_37 : decode cX8_knots 37 = .ok (.iconst (-1), 1) := by decide +kernel
theorem dX8_knots_38 : decode cX8_knots 38 = .ok (.ireturn, 1) := by decide +kernel
theorem dX8_dues_0 : decode cX8_dues 0 = .ok (.aload_n 0, 1) := by decide +kernel
theorem dX8_dues_1 : decode cX8_dues 1 = .ok (.getfield 19, 3) := by decide +kernel
theorem dX8_dues_4 : decode cX8_dues 4 = .ok (.iload_n 1, 1) := by decide +kernel
theorem dX8_dues_5 : decode cX8_dues 5 = .ok (.invokevirtual 146, 3) := by decide +kernel
theorem dX8_dues_8 : decode cX8_dues 8 = .ok (.ifCond .eq 34, 3) := by decide +kernel
theorem dX8_dues_11 : decode cX8_dues 11 = .ok (.aload_n 0, 1) := by decide +kernel
theorem dX8_dues_12 : decode cX8_dues 12 = .ok (.getfield 19, 3) := by decide +kernel
theorem dX8_dues_15 : decode cX8_dues 15 = .ok (.iload_n 2, 1) := by decide +kernel
theorem dX8_dues_16 : decode cX8_dues 16 = .ok (.invokevirtual 146, 3) := by decide +kernel
theorem dX8_dues_19 : decode cX8_dues 19 = .ok (.ifCond .eq 23, 3) := by decide +kernel
theorem dX8_dues_22 : decode cX8_dues 22 = .ok (.iload_n 1, 1) := by decide +kernel
theorem dX8_dues_23 : decode cX8_dues 23 = .ok (.iload_n 2, 1) := by decide +kernel
theorem dX8_dues_24 : decode cX8_dues 24 = .ok (.if_icmp .eq 18, 3) := by decide +kernel
theorem dX8_dues_27 : decode cX8_dues 27 = .ok (.aload_n 0, 1) := by decide +kernel
theorem dX8_dues_28 : decode cX8_dues 28 = .ok (.getfield 29, 3) := by decide +kernel
theorem dX8_dues_31 : decode cX8_dues 31 = .ok (.getfield 123, 3) := by decide +kernel
theorem dX8_dues_34 : decode cX8_dues 34 = .ok (.iload_n 1, 1) := by decide +kernel
theorem dX8_dues_35 : decode cX8_dues 35 = .ok (.iload_n 2, 1) := by decide +kernel
theorem dX8_dues_36 : decode cX8_dues 36 = .ok (.invokevirtual 166, 3) := by decide +kernel
theorem dX8_dues_39 : decode cX8_dues 39 = .ok (.goto 4, 3) := by decide +kernel
theorem dX8_dues_42 : decode cX8_dues 42 = .ok (.iconst (-1), 1) := by decide +kernel
theorem dX8_dues_43 : decode cX8_dues 43 = .ok (.ireturn, 1) := by decide +kernel
theorem dX8_goes_0 : decode cX8_goes 0 = .ok (.aload_n 0, 1) := by decide +kernel
theorem dX8_goes_1 : decode cX8_goes 1 = .ok (.getfield 19, 3) := by decide +kernel
theorem dX8_goes_4 : decode cX8_goes 4 = .ok (.iload_n 1, 1) := by decide +kernel
theorem dX8_goes_5 : decode cX8_goes 5 = .ok (.invokevirtual 120, 3) := by decide +kernel
theorem dX8_goes_8 : decode cX8_goes 8 = .ok (.ifCond .eq 24, 3) := by decide +kernel
theorem dX8_goes_11 : decode cX8_goes 11 = .ok (.aload_n 0, 1) := by decide +kernel
theorem dX8_goes_12 : decode cX8_goes 12 = .ok (.getfield 19, 3) := by decide +kernel
theorem dX8_goes_15 : decode cX8_goes 15 = .ok (.iload_n 2, 1) := by decide +kernel
theorem dX8_goes_16 : decode cX8_goes 16 = .ok (.invokevirtual 101, 3) := by decide +kernel
theorem dX8_goes_19 : decode cX8_goes 19 = .ok (.ifCond .eq 13, 3) := by decide +kernel
theorem dX8_goes_22 : decode cX8_goes 22 = .ok (.iload_n 3, 1) := by decide +kernel
theorem dX8_goes_23 : decode cX8_goes 23 = .ok (.iconst 0, 1) := by decide +kernel
theorem dX8_goes_24 : decode cX8_goes 24 = .ok (.bipush 9, 2) := by decide +kernel
theorem dX8_goes_26 : decode cX8_goes 26 = .ok (.invokestatic 67, 3) := by decide +kernel
theorem dX8_goes_29 : decode cX8_goes 29 = .ok (.ifCond .ne 5, 3) := by decide +kernel
theorem dX8_goes_32 : decode cX8_goes 32 = .ok (.iconst (-1), 1) := by decide +kernel
theorem dX8_goes_33 : decode cX8_goes 33 = .ok (.ireturn, 1) := by decide +kernel
theorem dX8_goes_34 : decode cX8_goes 34 = .ok (.aload_n 0, 1) := by decide +kernel
theorem dX8_goes_35 : decode cX8_goes 35 = .ok (.getfield 29, 3) := by decide +kernel
theorem dX8_goes_38 : decode cX8_goes 38 = .ok (.getfield 123, 3) := by decide +kernel
theorem dX8_goes_41 : decode cX8_goes 41 = .ok (.astore 4, 2) := by decide +kernel
theorem dX8_goes_43 : decode cX8_goes 43 = .ok (.aload_n 0, 1) := by decide +kernel
theorem dX8_goes_44 : decode cX8_goes 44 = .ok (.getfield 19, 3) := by decide +kernel
theorem dX8_goes_47 : decode cX8_goes 47 = .ok (.iload_n 2, 1) := by decide +kernel
theorem dX8_goes_48 : decode cX8_goes 48 = .ok (.aload 4, 2) := by decide +kernel
theorem dX8_goes_50 : decode cX8_goes 50 = .ok (.iload_n 1, 1) := by decide +kernel
theorem dX8_goes_51 : decode cX8_goes 51 = .ok (.invokevirtual 126, 3) := by decide +kernel
theorem dX8_goes_54 : decode cX8_goes 54 = .ok (.invokevirtual 169, 3) := by decide +kernel
theorem dX8_goes_57 : decode cX8_goes 57 = .ok (.istore 5, 2) := by decide +kernel
theorem dX8_goes_59 : decode cX8_goes 59 = .ok (.aload 4, 2) := by decide +kernel
theorem dX8_goes_61 : decode cX8_goes 61 = .ok (.iload_n 1, 1) := by decide +kernel
theorem dX8_goes_62 : decode cX8_goes 62 = .ok (.invokevirtual 140, 3) := by decide +kernel
theorem dX8_goes_65 : decode cX8_goes 65 = .ok (.ifCond .eq 32, 3) := by decide +kernel
theorem dX8_goes_68 : decode cX8_goes 68 = .ok (.iload 5, 2) := by decide +kernel
theorem dX8_goes_70 : decode cX8_goes 70 = .ok (.bipush (-9), 2) := by decide +kernel
theorem dX8_goes_72 : decode cX8_goes 72 = .ok (.if_icmp .eq 25, 3) := by decide +kernel
theorem dX8_goes_75 : decode cX8_goes 75 = .ok (.iload_n 3, 1) := by decide +kernel
theorem dX8_goes_76 : decode cX8_goes 76 = .ok (.aload 4, 2) := by decide +kernel
theorem dX8_goes_78 : decode cX8_goes 78 = .ok (.iload_n 1, 1) := by decide +kernel
theorem dX8_goes_79 : decode cX8_goes 79 = .ok (.invokevirtual 131, 3) := by decide +kernel
theorem dX8_goes_82 : decode cX8_goes 82 = .ok (.if_icmp .gt 15, 3) := by decide +kernel
theorem dX8_goes_85 : decode cX8_goes 85 = .ok (.iload_n 3, 1) := by decide +kernel
theorem dX8_goes_86 : decode cX8_goes 86 = .ok (.aload_n 0, 1) := by decide +kernel
theorem dX8_goes_87 : decode cX8_goes 87 = .ok (.getfield 19, 3) := by decide +kernel
theorem dX8_goes_90 : decode cX8_goes 90 = .ok (.iload_n 2, 1) := by decide +kernel
theorem dX8_goes_91 : decode cX8_goes 91 = .ok (.invokevirtual 111, 3) := by decide +kernel
theorem dX8_goes_94 : decode cX8_goes 94 = .ok (.if_icmp .le 6, 3) := by decide +kernel
theorem dX8_goes_97 : decode cX8_goes 97 = .ok (.bipush (-2), 2) := by decide +kernel
theorem dX8_goes_99 : decode cX8_goes 99 = .ok (.ireturn, 1) := by decide +kernel
theorem dX8_goes_100 : decode cX8_goes 100 = .ok (.aload_n 0, 1) := by decide +kernel
theorem dX8_goes_101 : decode cX8_goes 101 = .ok (.getfield 29, 3) := by decide +kernel
theorem dX8_goes_104 : decode cX8_goes 104 = .ok (.invokevirtual 172, 3) := by decide +kernel
theorem dX8_goes_107 : decode cX8_goes 107 = .ok (.aload_n 0, 1) := by decide +kernel
theorem dX8_goes_108 : decode cX8_goes 108 = .ok (.getfield 19, 3) := by decide +kernel
theorem dX8_goes_111 : decode cX8_goes 111 = .ok (.iload_n 2, 1) := by decide +kernel
theorem dX8_goes_112 : decode cX8_goes 112 = .ok (.invokevirtual 111, 3) := by decide +kernel
theorem dX8_goes_115 : decode cX8_goes 115 = .ok (.iload_n 3, 1) := by decide +kernel
theorem dX8_goes_116 : decode cX8_goes 116 = .ok (.isub, 1) := by decide +kernel
theorem dX8_goes_117 : decode cX8_goes 117 = .ok (.istore 6, 2) := by decide +kernel
theorem dX8_goes_119 : decode cX8_goes 119 = .ok (.aload 4, 2) := by decide +kernel
theorem dX8_goes_121 : decode cX8_goes 121 = .ok (.iload_n 1, 1) := by decide +kernel
theorem dX8_goes_122 : decode cX8_goes 122 = .ok (.aload 4, 2) := by decide +kernel
theorem dX8_goes_124 : decode cX8_goes 124 = .ok (.iload_n 1, 1) := by decide +kernel
theorem dX8_goes_125 : decode cX8_goes 125 = .ok (.invokevirtual 131, 3) := by decide +kernel
theorem dX8_goes_128 : decode cX8_goes 128 = .ok (.iload_n 3, 1) := by decide +kernel
theorem dX8_goes_129 : decode cX8_goes 129 = .ok (.isub, 1) := by decide +kernel
theorem dX8_goes_130 : decode cX8_goes 130 = .ok (.invokevirtual 175, 3) := by decide +kernel
theorem dX8_goes_133 : decode cX8_goes 133 = .ok (.aload 4, 2) := by decide +kernel
theorem dX8_goes_135 : decode cX8_goes 135 = .ok (.iload_n 1, 1) := by decide +kernel
theorem dX8_goes_136 : decode cX8_goes 136 = .ok (.iload 5, 2) := by decide +kernel
theorem dX8_goes_138 : decode cX8_goes 138 = .ok (.invokevirtual 179, 3) := by decide +kernel
theorem dX8_goes_141 : decode cX8_goes 141 = .ok (.aload 4, 2) := by decide +kernel
theorem dX8_goes_143 : decode cX8_goes 143 = .ok (.iload_n 1, 1) := by decide +kernel
theorem dX8_goes_144 : decode cX8_goes 144 = .ok (.aload 4, 2) := by decide +kernel
theorem dX8_goes_146 : decode cX8_goes 146 = .ok (.iload_n 1, 1) := by decide +kernel
theorem dX8_goes_147 : decode cX8_goes 147 = .ok (.invokevirtual 137, 3) := by decide +kernel
theorem dX8_goes_150 : decode cX8_goes 150 = .ok (.iload 6, 2) := by decide +kernel
theorem dX8_goes_152 : decode cX8_goes 152 = .ok (.iadd, 1) := by decide +kernel
theorem dX8_goes_153 : decode cX8_goes 153 = .ok (.invokevirtual 182, 3) := by decide +kernel
theorem dX8_goes_156 : decode cX8_goes 156 = .ok (.aload 4, 2) := by decide +kernel
theorem dX8_goes_158 : decode cX8_goes 158 = .ok (.iload_n 1, 1) := by decide +kernel
theorem dX8_goes_159 : decode cX8_goes 159 = .ok (.invokevirtual 137, 3) := by decide +kernel
theorem dX8_goes_162 : decode cX8_goes 162 = .ok (.aload_n 0, 1) := by decide +kernel
theorem dX8_goes_163 : decode cX8_goes 163 = .ok (.getfield 19, 3) := by decide +kernel
theorem dX8_goes_166 : decode cX8_goes 166 = .ok (.iload_n 1, 1) := by decide +kernel
theorem dX8_goes_167 : decode cX8_goes 167 = .ok (.invokevirtual 134, 3) := by decide +kernel
theorem dX8_goes_170 : decode cX8_goes 170 = .ok (.if_icmp .le 11, 3) := by decide +kernel
theorem dX8_goes_173 : decode cX8_goes 173 = .ok (.aload 4, 2) := by decide +kernel
theorem dX8_goes_175 : decode cX8_goes 175 = .ok (.iload_n 1, 1) := by decide +kernel
theorem dX8_goes_176 : decode cX8_goes 176 = .ok (.invokevirtual 185, 3) := by decide +kernel
theorem dX8_goes_179 : decode cX8_goes 179 = .ok (.iconst 0, 1) := by decide +kernel
theorem dX8_goes_180 : decode cX8_goes 180 = .ok (.ireturn, 1) := by decide +kernel
theorem dX8_goes_181 : decode cX8_goes 181 = .ok (.aload_n 0, 1) := by decide +kernel
theorem dX8_goes_182 : decode cX8_goes 182 = .ok (.getfield 19, 3) := by decide +kernel
theorem dX8_goes_185 : decode cX8_goes 185 = .ok (.iload_n 2, 1) := by decide +kernel
theorem dX8_goes_186 : decode cX8_goes 186 = .ok (.invokevirtual 117, 3) := by decide +kernel
theorem dX8_goes_189 : decode cX8_goes 189 = .ok (.istore 7, 2) := by decide +kernel
theorem dX8_goes_191 : decode cX8_goes 191 = .ok (.aload 4, 2) := by decide +kernel
theorem dX8_goes_193 : decode cX8_goes 193 = .ok (.iload_n 1, 1) := by decide +kernel
theorem dX8_goes_194 : decode cX8_goes 194 = .ok (.iload 7, 2) := by decide +kernel
theorem dX8_goes_196 : decode cX8_goes 196 = .ok (.iconst 0, 1) := by decide +kernel
theorem dX8_goes_197 : decode cX8_goes 197 = .ok (.aload 4, 2) := by decide +kernel
theorem dX8_goes_199 : decode cX8_goes 199 = .ok (.iload_n 1, 1) := by decide +kernel
theorem dX8_goes_200 : decode cX8_goes 200 = .ok (.iload 7, 2) := by decide +kernel
theorem dX8_goes_202 : decode cX8_goes 202 = .ok (.invokevirtual 162, 3) := by decide +kernel
theorem dX8_goes_205 : decode cX8_goes 205 = .ok (.aload_n 0, 1) := by decide +kernel
theorem dX8_goes_206 : decode cX8_goes 206 = .ok (.getfield 19, 3) := by decide +kernel
theorem dX8_goes_209 : decode cX8_goes 209 = .ok (.iload_n 2, 1) := by decide +kernel
theorem dX8_goes_210 : decode cX8_goes 210 = .ok (.iload 6, 2) := by decide +kernel
theorem dX8_goes_212 : decode cX8_goes 212 = .ok (.invokevirtual 189, 3) := by decide +kernel
theorem dX8_goes_215 : decode cX8_goes 215 = .ok (.isub, 1) := by decide +kernel
theorem dX8_goes_216 : decode cX8_goes 216 = .ok (.invokestatic 192, 3) := by decide +kernel
theorem dX8_goes_219 : decode cX8_goes 219 = .ok (.invokevirtual 197, 3) := by decide +kernel
theorem dX8_goes_222 : decode cX8_goes 222 = .ok (.iconst 1, 1) := by decide +kernel
theorem dX8_goes_223 : decode cX8_goes 223 = .ok (.ireturn, 1) := by decide +kernel
theorem dX8_drinks_0 : decode cX8_drinks 0 = .ok (.aload_n 0, 1) := by decide +kernel
