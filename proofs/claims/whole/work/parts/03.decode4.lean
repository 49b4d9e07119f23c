theorem dX9_hands_99 : decode cX9_hands 99 = .ok (.iload 4, 2) := by decide +kernel
theorem dX9_hands_101 : decode cX9_hands 101 = .ok (.iadd, 1) := by decide +kernel
theorem dX9_hands_102 : decode cX9_hands 102 = .ok (.bipush 99, 2) := by decide +kernel
theorem dX9_hands_104 : decode cX9_hands 104 = .ok (.if_icmp .le 6, 3) := by decide +kernel
theorem dX9_hands_107 : decode cX9_hands 107 = .ok (.bipush (-2), 2) := by decide +kernel
theorem dX9_hands_109 : decode cX9_hands 109 = .ok (.ireturn, 1) := by decide +kernel
theorem dX9_hands_110 : decode cX9_hands 110 = .ok (.aload_n 0, 1) := by decide +kernel
theorem dX9_hands_111 : decode cX9_hands 111 = .ok (.invokevirtual 136, 3) := by decide +kernel
theorem dX9_hands_114 : decode cX9_hands 114 = .ok (.aload_n 0, 1) := by decide +kernel
theorem dX9_hands_115 : decode cX9_hands 115 = .ok (.getfield 22, 3) := by decide +kernel
theorem dX9_hands_118 : decode cX9_hands 118 = .ok (.iload 5, 2) := by decide +kernel
theorem dX9_hands_120 : decode cX9_hands 120 = .ok (.dup2, 1) := by decide +kernel
theorem dX9_hands_121 : decode cX9_hands 121 = .ok (.iaload, 1) := by decide +kernel
theorem dX9_hands_122 : decode cX9_hands 122 = .ok (.iload 4, 2) := by decide +kernel
theorem dX9_hands_124 : decode cX9_hands 124 = .ok (.isub, 1) := by decide +kernel
theorem dX9_hands_125 : decode cX9_hands 125 = .ok (.iastore, 1) := by decide +kernel
theorem dX9_hands_126 : decode cX9_hands 126 = .ok (.aload_n 0, 1) := by decide +kernel
theorem dX9_hands_127 : decode cX9_hands 127 = .ok (.getfield 22, 3) := by decide +kernel
theorem dX9_hands_130 : decode cX9_hands 130 = .ok (.iload 6, 2) := by decide +kernel
theorem dX9_hands_132 : decode cX9_hands 132 = .ok (.dup2, 1) := by decide +kernel
theorem dX9_hands_133 : decode cX9_hands 133 = .ok (.iaload, 1) := by decide +kernel
theorem dX9_hands_134 : decode cX9_hands 134 = .ok (.iload 4, 2) := by decide +kernel
theorem dX9_hands_136 : decode cX9_hands 136 = .ok (.iadd, 1) := by decide +kernel
theorem dX9_hands_137 : decode cX9_hands 137 = .ok (.iastore, 1) := by decide +kernel
theorem dX9_hands_138 : decode cX9_hands 138 = .ok (.aload_n 0, 1) := by decide +kernel
theorem dX9_hands_139 : decode cX9_hands 139 = .ok (.getfield 22, 3) := by decide +kernel
theorem dX9_hands_142 : decode cX9_hands 142 = .ok (.iload 6, 2) := by decide +kernel
theorem dX9_hands_144 : decode cX9_hands 144 = .ok (.iaload, 1) := by decide +kernel
theorem dX9_hands_145 : decode cX9_hands 145 = .ok (.ireturn, 1) := by decide +kernel
theorem dX9_strikeOf_0 : decode cX9_strikeOf 0 = .ok (.sipush 999, 3) := by decide +kernel
theorem dX9_strikeOf_3 : decode cX9_strikeOf 3 = .ok (.istore_n 2, 1) := by decide +kernel
theorem dX9_strikeOf_4 : decode cX9_strikeOf 4 = .ok (.iconst 0, 1) := by decide +kernel
theorem dX9_strikeOf_5 : decode cX9_strikeOf 5 = .ok (.istore_n 3, 1) := by decide +kernel
theorem dX9_strikeOf_6 : decode cX9_strikeOf 6 = .ok (.iload_n 3, 1) := by decide +kernel
theorem dX9_strikeOf_7 : decode cX9_strikeOf 7 = .ok (.iload_n 1, 1) := by decide +kernel
theorem dX9_strikeOf_8 : decode cX9_strikeOf 8 = .ok (.if_icmp .ge 52, 3) := by decide +kernel
theorem dX9_strikeOf_11 : decode cX9_strikeOf 11 = .ok (.aload_n 0, 1) := by decide +kernel
theorem dX9_strikeOf_12 : decode cX9_strikeOf 12 = .ok (.getfield 22, 3) := by decide +kernel
theorem dX9_strikeOf_15 : decode cX9_strikeOf 15 = .ok (.bipush 38, 2) := by decide +kernel
theorem dX9_strikeOf_17 : decode cX9_strikeOf 17 = .ok (.bipush 6, 2) := by decide +kernel
theorem dX9_strikeOf_19 : decode cX9_strikeOf 19 = .ok (.aload_n 0, 1) := by decide +kernel
theorem dX9_strikeOf_20 : decode cX9_strikeOf 20 = .ok (.getfield 35, 3) := by decide +kernel
theorem dX9_strikeOf_23 : decode cX9_strikeOf 23 = .ok (.iload_n 3, 1) := by decide +kernel
theorem dX9_strikeOf_24 : decode cX9_strikeOf 24 = .ok (.iaload, 1) := by decide +kernel
theorem dX9_strikeOf_25 : decode cX9_strikeOf 25 = .ok (.imul, 1) := by decide +kernel
theorem dX9_strikeOf_26 : decode cX9_strikeOf 26 = .ok (.iadd, 1) := by decide +kernel
theorem dX9_strikeOf_27 : decode cX9_strikeOf 27 = .ok (.aload_n 0, 1) := by decide +kernel
theorem dX9_strikeOf_28 : decode cX9_strikeOf 28 = .ok (.getfield 35, 3) := by decide +kernel
theorem dX9_strikeOf_31 : decode cX9_strikeOf 31 = .ok (.iload_n 3, 1) := by decide +kernel
theorem dX9_strikeOf_32 : decode cX9_strikeOf 32 = .ok (.iconst 1, 1) := by decide +kernel
theorem dX9_strikeOf_33 : decode cX9_strikeOf 33 = .ok (.iadd, 1) := by decide +kernel
theorem dX9_strikeOf_34 : decode cX9_strikeOf 34 = .ok (.iload_n 1, 1) := by decide +kernel
theorem dX9_strikeOf_35 : decode cX9_strikeOf 35 = .ok (.irem, 1) := by decide +kernel
theorem dX9_strikeOf_36 : decode cX9_strikeOf 36 = .ok (.iaload, 1) := by decide +kernel
theorem dX9_strikeOf_37 : decode cX9_strikeOf 37 = .ok (.iadd, 1) := by decide +kernel
theorem dX9_strikeOf_38 : decode cX9_strikeOf 38 = .ok (.iaload, 1) := by decide +kernel
theorem dX9_strikeOf_39 : decode cX9_strikeOf 39 = .ok (.istore 4, 2) := by decide +kernel
theorem dX9_strikeOf_41 : decode cX9_strikeOf 41 = .ok (.iload 4, 2) := by decide +kernel
theorem dX9_strikeOf_43 : decode cX9_strikeOf 43 = .ok (.iload_n 2, 1) := by decide +kernel
theorem dX9_strikeOf_44 : decode cX9_strikeOf 44 = .ok (.if_icmp .ge 8, 3) := by decide +kernel
theorem dX9_strikeOf_47 : decode cX9_strikeOf 47 = .ok (.iload 4, 2) := by decide +kernel
theorem dX9_strikeOf_49 : decode cX9_strikeOf 49 = .ok (.goto 4, 3) := by decide +kernel
theorem dX9_strikeOf_52 : decode cX9_strikeOf 52 = .ok (.iload_n 2, 1) := by decide +kernel
theorem dX9_strikeOf_53 : decode cX9_strikeOf 53 = .ok (.istore_n 2, 1) := by decide +kernel
theorem dX9_strikeOf_54 : decode cX9_strikeOf 54 = .ok (.iinc 3 1, 3) := by decide +kernel
theorem dX9_strikeOf_57 : decode cX9_strikeOf 57 = .ok (.goto (-51), 3) := by decide +kernel
theorem dX9_strikeOf_60 : decode cX9_strikeOf 60 = .ok (.iload_n 2, 1) := by decide +kernel
theorem dX9_strikeOf_61 : decode cX9_strikeOf 61 = .ok (.ireturn, 1) := by decide +kernel
theorem dX9_tries_0 : decode cX9_tries 0 = .ok (.iload_n 1, 1) := by decide +kernel
theorem dX9_tries_1 : decode cX9_tries 1 = .ok (.iconst 2, 1) := by decide +kernel
theorem dX9_tries_2 : decode cX9_tries 2 = .ok (.if_icmp .ge 7, 3) := by decide +kernel
theorem dX9_tries_5 : decode cX9_tries 5 = .ok (.iconst 0, 1) := by decide +kernel
theorem dX9_tries_6 : decode cX9_tries 6 = .ok (.goto 8, 3) := by decide +kernel
theorem dX9_tries_9 : decode cX9_tries 9 = .ok (.aload_n 0, 1) := by decide +kernel
theorem dX9_tries_10 : decode cX9_tries 10 = .ok (.iload_n 1, 1) := by decide +kernel
theorem dX9_tries_11 : decode cX9_tries 11 = .ok (.invokevirtual 147, 3) := by decide +kernel
theorem dX9_tries_14 : decode cX9_tries 14 = .ok (.istore_n 2, 1) := by decide +kernel
theorem dX9_tries_15 : decode cX9_tries 15 = .ok (.iload_n 2, 1) := by decide +kernel
theorem dX9_tries_16 : decode cX9_tries 16 = .ok (.iload_n 1, 1) := by decide +kernel
theorem dX9_tries_17 : decode cX9_tries 17 = .ok (.imul, 1) := by decide +kernel
theorem dX9_tries_18 : decode cX9_tries 18 = .ok (.aload_n 0, 1) := by decide +kernel
theorem dX9_tries_19 : decode cX9_tries 19 = .ok (.getfield 150, 3) := by decide +kernel
theorem dX9_tries_22 : decode cX9_tries 22 = .ok (.aload_n 0, 1) := by decide +kernel
theorem dX9_tries_23 : decode cX9_tries 23 = .ok (.getfield 153, 3) := by decide +kernel
theorem dX9_tries_26 : decode cX9_tries 26 = .ok (.imul, 1) := by decide +kernel
theorem dX9_tries_27 : decode cX9_tries 27 = .ok (.isub, 1) := by decide +kernel
theorem dX9_tries_28 : decode cX9_tries 28 = .ok (.istore_n 3, 1) := by decide +kernel
theorem dX9_tries_29 : decode cX9_tries 29 = .ok (.iload_n 2, 1) := by decide +kernel
theorem dX9_tries_30 : decode cX9_tries 30 = .ok (.ifCond .le 58, 3) := by decide +kernel
theorem dX9_tries_33 : decode cX9_tries 33 = .ok (.iload_n 3, 1) := by decide +kernel
theorem dX9_tries_34 : decode cX9_tries 34 = .ok (.ifCond .gt 15, 3) := by decide +kernel
theorem dX9_tries_37 : decode cX9_tries 37 = .ok (.iload_n 3, 1) := by decide +kernel
theorem dX9_tries_38 : decode cX9_tries 38 = .ok (.ifCond .ne 50, 3) := by decide +kernel
theorem dX9_tries_41 : decode cX9_tries 41 = .ok (.iload_n 1, 1) := by decide +kernel
theorem dX9_tries_42 : decode cX9_tries 42 = .ok (.aload_n 0, 1) := by decide +kernel
theorem dX9_tries_43 : decode cX9_tries 43 = .ok (.getfield 153, 3) := by decide +kernel
theorem dX9_tries_46 : decode cX9_tries 46 = .ok (.if_icmp .ge 42, 3) := by decide +kernel
theorem dX9_tries_49 : decode cX9_tries 49 = .ok (.aload_n 0, 1) := by decide +kernel
theorem dX9_tries_50 : decode cX9_tries 50 = .ok (.iload_n 1, 1) := by decide +kernel
theorem dX9_tries_51 : decode cX9_tries 51 = .ok (.putfield 153, 3) := by decide +kernel
theorem dX9_tries_54 : decode cX9_tries 54 = .ok (.aload_n 0, 1) := by decide +kernel
theorem dX9_tries_55 : decode cX9_tries 55 = .ok (.iload_n 2, 1) := by decide +kernel
theorem dX9_tries_56 : decode cX9_tries 56 = .ok (.putfield 150, 3) := by decide +kernel
theorem dX9_tries_59 : decode cX9_tries 59 = .ok (.iconst 0, 1) := by decide +kernel
theorem dX9_tries_60 : decode cX9_tries 60 = .ok (.istore 4, 2) := by decide +kernel
theorem dX9_tries_62 : decode cX9_tries 62 = .ok (.iload 4, 2) := by decide +kernel
theorem dX9_tries_64 : decode cX9_tries 64 = .ok (.iload_n 1, 1) := by decide +kernel
theorem dX9_tries_65 : decode cX9_tries 65 = .ok (.if_icmp .ge 23, 3) := by decide +kernel
theorem dX9_tries_68 : decode cX9_tries 68 = .ok (.aload_n 0, 1) := by decide +kernel
theorem dX9_tries_69 : decode cX9_tries 69 = .ok (.getfield 38, 3) := by decide +kernel
theorem dX9_tries_72 : decode cX9_tries 72 = .ok (.iload 4, 2) := by decide +kernel
theorem dX9_tries_74 : decode cX9_tries 74 = .ok (.aload_n 0, 1) := by decide +kernel
theorem dX9_tries_75 : decode cX9_tries 75 = .ok (.getfield 35, 3) := by decide +kernel
theorem dX9_tries_78 : decode cX9_tries 78 = .ok (.iload 4, 2) := by decide +kernel
theorem dX9_tries_80 : decode cX9_tries 80 = .ok (.iaload, 1) := by decide +kernel
theorem dX9_tries_81 : decode cX9_tries 81 = .ok (.iastore, 1) := by decide +kernel
theorem dX9_tries_82 : decode cX9_tries 82 = .ok (.iinc 4 1, 3) := by decide +kernel
theorem dX9_tries_85 : decode cX9_tries 85 = .ok (.goto (-23), 3) := by decide +kernel
theorem dX9_tries_88 : decode cX9_tries 88 = .ok (.return_, 1) := by decide +kernel
theorem dX9_mayWalk_0 : decode cX9_mayWalk 0 = .ok (.iload_n 2, 1) := by decide +kernel
theorem dX9_mayWalk_1 : decode cX9_mayWalk 1 = .ok (.aload_n 0, 1) := by decide +kernel
theorem dX9_mayWalk_2 : decode cX9_mayWalk 2 = .ok (.getfield 35, 3) := by decide +kernel
theorem dX9_mayWalk_5 : decode cX9_mayWalk 5 = .ok (.iconst 0, 1) := by decide +kernel
theorem dX9_mayWalk_6 : decode cX9_mayWalk 6 = .ok (.iaload, 1) := by decide +kernel
theorem dX9_mayWalk_7 : decode cX9_mayWalk 7 = .ok (.if_icmp .le 31, 3) := by decide +kernel
theorem dX9_mayWalk_10 : decode cX9_mayWalk 10 = .ok (.aload_n 0, 1) := by decide +kernel
theorem dX9_mayWalk_11 : decode cX9_mayWalk 11 = .ok (.getfield 22, 3) := by decide +kernel
theorem dX9_mayWalk_14 : decode cX9_mayWalk 14 = .ok (.bipush 38, 2) := by decide +kernel
theorem dX9_mayWalk_16 : decode cX9_mayWalk 16 = .ok (.bipush 6, 2) := by decide +kernel
theorem dX9_mayWalk_18 : decode cX9_mayWalk 18 = .ok (.aload_n 0, 1) := by decide +kernel
theorem dX9_mayWalk_19 : decode cX9_mayWalk 19 = .ok (.getfield 35, 3) := by decide +kernel
theorem dX9_mayWalk_22 : decode cX9_mayWalk 22 = .ok (.iload_n 1, 1) := by decide +kernel
theorem dX9_mayWalk_23 : decode cX9_mayWalk 23 = .ok (.iconst 1, 1) := by decide +kernel
theorem dX9_mayWalk_24 : decode cX9_mayWalk 24 = .ok (.isub, 1) := by decide +kernel
theorem dX9_mayWalk_25 : decode cX9_mayWalk 25 = .ok (.iaload, 1) := by decide +kernel
theorem dX9_mayWalk_26 : decode cX9_mayWalk 26 = .ok (.imul, 1) := by decide +kernel
theorem dX9_mayWalk_27 : decode cX9_mayWalk 27 = .ok (.iadd, 1) := by decide +kernel
theorem dX9_mayWalk_28 : decode cX9_mayWalk 28 = .ok (.iload_n 2, 1) := by decide +kernel
theorem dX9_mayWalk_29 : decode cX9_mayWalk 29 = .ok (.iadd, 1) := by decide +kernel
theorem dX9_mayWalk_30 : decode cX9_mayWalk 30 = .ok (.iaload, 1) := by decide +kernel
theorem dX9_mayWalk_31 : decode cX9_mayWalk 31 = .ok (.ifCond .le 7, 3) := by decide +kernel
theorem dX9_mayWalk_34 : decode cX9_mayWalk 34 = .ok (.iconst 1, 1) := by decide +kernel
theorem dX9_mayWalk_35 : decode cX9_mayWalk 35 = .ok (.goto 4, 3) := by decide +kernel
theorem dX9_mayWalk_38 : decode cX9_mayWalk 38 = .ok (.iconst 0, 1) := by decide +kernel
theorem dX9_mayWalk_39 : decode cX9_mayWalk 39 = .ok (.istore_n 3, 1) := by decide +kernel
theorem dX9_mayWalk_40 : decode cX9_mayWalk 40 = .ok (.iconst 0, 1) := by decide +kernel
theorem dX9_mayWalk_41 : decode cX9_mayWalk 41 = .ok (.istore 4, 2) := by decide +kernel
theorem dX9_mayWalk_43 : decode cX9_mayWalk 43 = .ok (.iload 4, 2) := by decide +kernel
theorem dX9_mayWalk_45 : decode cX9_mayWalk 45 = .ok (.iload_n 1, 1) := by decide +kernel
theorem dX9_mayWalk_46 : decode cX9_mayWalk 46 = .ok (.if_icmp .ge 30, 3) := by decide +kernel
theorem dX9_mayWalk_49 : decode cX9_mayWalk 49 = .ok (.iload_n 3, 1) := by decide +kernel
theorem dX9_mayWalk_50 : decode cX9_mayWalk 50 = .ok (.ifCond .eq 18, 3) := by decide +kernel
theorem dX9_mayWalk_53 : decode cX9_mayWalk 53 = .ok (.aload_n 0, 1) := by decide +kernel
theorem dX9_mayWalk_54 : decode cX9_mayWalk 54 = .ok (.getfield 35, 3) := by decide +kernel
theorem dX9_mayWalk_57 : decode cX9_mayWalk 57 = .ok (.iload 4, 2) := by decide +kernel
theorem dX9_mayWalk_59 : decode cX9_mayWalk 59 = .ok (.iaload, 1) := by decide +kernel
theorem dX9_mayWalk_60 : decode cX9_mayWalk 60 = .ok (.iload_n 2, 1) := by decide +kernel
theorem dX9_mayWalk_61 : decode cX9_mayWalk 61 = .ok (.if_icmp .eq 7, 3) := by decide +kernel
theorem dX9_mayWalk_64 : decode cX9_mayWalk 64 = .ok (.iconst 1, 1) := by decide +kernel
theorem dX9_mayWalk_65 : decode cX9_mayWalk 65 = .ok (.goto 4, 3) := by decide +kernel
theorem dX9_mayWalk_68 : decode cX9_mayWalk 68 = .ok (.iconst 0, 1) := by decide +kernel
theorem dX9_mayWalk_69 : decode cX9_mayWalk 69 = .ok (.istore_n 3, 1) := by decide +kernel
theorem dX9_mayWalk_70 : decode cX9_mayWalk 70 = .ok (.iinc 4 1, 3) := by decide +kernel
theorem dX9_mayWalk_73 : decode cX9_mayWalk 73 = .ok (.goto (-30), 3) := by decide +kernel
theorem dX9_mayWalk_76 : decode cX9_mayWalk 76 = .ok (.iload_n 3, 1) := by decide +kernel
theorem dX9_mayWalk_77 : decode cX9_mayWalk 77 = .ok (.ireturn, 1) := by decide +kernel
theorem dX9_rings_0 : decode cX9_rings 0 = .ok (.aload_n 0, 1) := by decide +kernel
theorem dX9_rings_1 : decode cX9_rings 1 = .ok (.iconst 0, 1) := by decide +kernel
theorem dX9_rings_2 : decode cX9_rings 2 = .ok (.putfield 153, 3) := by decide +kernel
theorem dX9_rings_5 : decode cX9_rings 5 = .ok (.aload_n 0, 1) := by decide +kernel
theorem dX9_rings_6 : decode cX9_rings 6 = .ok (.iconst 0, 1) := by decide +kernel
theorem dX9_rings_7 : decode cX9_rings 7 = .ok (.putfield 150, 3) := by decide +kernel
theorem dX9_rings_10 : decode cX9_rings 10 = .ok (.iconst 0, 1) := by decide +kernel
theorem dX9_rings_11 : decode cX9_rings 11 = .ok (.istore_n 1, 1) := by decide +kernel
theorem dX9_rings_12 : decode cX9_rings 12 = .ok (.iload_n 1, 1) := by decide +kernel
theorem dX9_rings_13 : decode cX9_rings 13 = .ok (.aload_n 0, 1) := by decide +kernel
theorem dX9_rings_14 : decode cX9_rings 14 = .ok (.getfield 13, 3) := by decide +kernel
theorem dX9_rings_17 : decode cX9_rings 17 = .ok (.iconst 0, 1) := by decide +kernel
theorem dX9_rings_18 : decode cX9_rings 18 = .ok (.iaload, 1) := by decide +kernel
theorem dX9_rings_19 : decode cX9_rings 19 = .ok (.if_icmp .ge 94, 3) := by decide +kernel
theorem dX9_rings_22 : decode cX9_rings 22 = .ok (.aload_n 0, 1) := by decide +kernel
theorem dX9_rings_23 : decode cX9_rings 23 = .ok (.getfield 35, 3) := by decide +kernel
theorem dX9_rings_26 : decode cX9_rings 26 = .ok (.iconst 0, 1) := by decide +kernel
theorem dX9_rings_27 : decode cX9_rings 27 = .ok (.iload_n 1, 1) := by decide +kernel
theorem dX9_rings_28 : decode cX9_rings 28 = .ok (.iastore, 1) := by decide +kernel
theorem dX9_rings_29 : decode cX9_rings 29 = .ok (.iconst 1, 1) := by decide +kernel
theorem dX9_rings_30 : decode cX9_rings 30 = .ok (.istore_n 2, 1) := by decide +kernel
theorem dX9_rings_31 : decode cX9_rings 31 = .ok (.iconst 0, 1) := by decide +kernel
theorem dX9_rings_32 : decode cX9_rings 32 = .ok (.istore_n 3, 1) := by decide +kernel
theorem dX9_rings_33 : decode cX9_rings 33 = .ok (.iload_n 2, 1) := by decide +kernel
theorem dX9_rings_34 : decode cX9_rings 34 = .ok (.ifCond .le 73, 3) := by decide +kernel
theorem dX9_rings_37 : decode cX9_rings 37 = .ok (.iload_n 3, 1) := by decide +kernel
theorem dX9_rings_38 : decode cX9_rings 38 = .ok (.aload_n 0, 1) := by decide +kernel
theorem dX9_rings_39 : decode cX9_rings 39 = .ok (.getfield 13, 3) := by decide +kernel
theorem dX9_rings_42 : decode cX9_rings 42 = .ok (.iconst 0, 1) := by decide +kernel
theorem dX9_rings_43 : decode cX9_rings 43 = .ok (.iaload, 1) := by decide +kernel
theorem dX9_rings_44 : decode cX9_rings 44 = .ok (.if_icmp .ge 18, 3) := by decide +kernel
theorem dX9_rings_47 : decode cX9_rings 47 = .ok (.aload_n 0, 1) := by decide +kernel
theorem dX9_rings_48 : decode cX9_rings 48 = .ok (.iload_n 2, 1) := by decide +kernel
theorem dX9_rings_49 : decode cX9_rings 49 = .ok (.iload_n 3, 1) := by decide +kernel
theorem dX9_rings_50 : decode cX9_rings 50 = .ok (.invokevirtual 156, 3) := by decide +kernel
theorem dX9_rings_53 : decode cX9_rings 53 = .ok (.ifCond .ne 9, 3) := by decide +kernel
theorem dX9_rings_56 : decode cX9_rings 56 = .ok (.iinc 3 1, 3) := by decide +kernel
theorem dX9_rings_59 : decode cX9_rings 59 = .ok (.goto (-22), 3) := by decide +kernel
theorem dX9_rings_62 : decode cX9_rings 62 = .ok (.iload_n 3, 1) := by decide +kernel
theorem dX9_rings_63 : decode cX9_rings 63 = .ok (.aload_n 0, 1) := by decide +kernel
theorem dX9_rings_64 : decode cX9_rings 64 = .ok (.getfield 13, 3) := by decide +kernel
theorem dX9_rings_67 : decode cX9_rings 67 = .ok (.iconst 0, 1) := by decide +kernel
theorem dX9_rings_68 : decode cX9_rings 68 = .ok (.iaload, 1) := by decide +kernel
theorem dX9_rings_69 : decode cX9_rings 69 = .ok (.if_icmp .ge 23, 3) := by decide +kernel
theorem dX9_rings_72 : decode cX9_rings 72 = .ok (.aload_n 0, 1) := by decide +kernel
theorem dX9_rings_73 : decode cX9_rings 73 = .ok (.getfield 35, 3) := by decide +kernel
theorem dX9_rings_76 : decode cX9_rings 76 = .ok (.iload_n 2, 1) := by decide +kernel
theorem dX9_rings_77 : decode cX9_rings 77 = .ok (.iload_n 3, 1) := by decide +kernel
theorem dX9_rings_78 : decode cX9_rings 78 = .ok (.iastore, 1) := by decide +kernel
theorem dX9_rings_79 : decode cX9_rings 79 = .ok (.iinc 2 1, 3) := by decide +kernel
theorem dX9_rings_82 : decode cX9_rings 82 = .ok (.aload_n 0, 1) := by decide +kernel
theorem dX9_rings_83 : decode cX9_rings 83 = .ok (.iload_n 2, 1) := by decide +kernel
theorem dX9_rings_84 : decode cX9_rings 84 = .ok (.invokevirtual 159, 3) := by decide +kernel
theorem dX9_rings_87 : decode cX9_rings 87 = .ok (.iconst 0, 1) := by decide +kernel
theorem dX9_rings_88 : decode cX9_rings 88 = .ok (.istore_n 3, 1) := by decide +kernel
theorem dX9_rings_89 : decode cX9_rings 89 = .ok (.goto (-56), 3) := by decide +kernel
theorem dX9_rings_92 : decode cX9_rings 92 = .ok (.iinc 2 (-1), 3) := by decide +kernel
theorem dX9_rings_95 : decode cX9_rings 95 = .ok (.aload_n 0, 1) := by decide +kernel
theorem dX9_rings_96 : decode cX9_rings 96 = .ok (.getfield 35, 3) := by decide +kernel
theorem dX9_rings_99 : decode cX9_rings 99 = .ok (.iload_n 2, 1) := by decide +kernel
theorem dX9_rings_100 : decode cX9_rings 100 = .ok (.iaload, 1) := by decide +kernel
theorem dX9_rings_101 : decode cX9_rings 101 = .ok (.iconst 1, 1) := by decide +kernel
theorem dX9_rings_102 : decode cX9_rings 102 = .ok (.iadd, 1) := by decide +kernel
theorem dX9_rings_103 : decode cX9_rings 103 = .ok (.istore_n 3, 1) := by decide +kernel
theorem dX9_rings_104 : decode cX9_rings 104 = .ok (.goto (-71), 3) := by decide +kernel
theorem dX9_rings_107 : decode cX9_rings 107 = .ok (.iinc 1 1, 3) := by decide +kernel
theorem dX9_rings_110 : decode cX9_rings 110 = .ok (.goto (-98), 3) := by decide +kernel
theorem dX9_rings_113 : decode cX9_rings 113 = .ok (.return_, 1) := by decide +kernel
theorem dX9_strikes_0 : decode cX9_strikes 0 = .ok (.aload_n 0, 1) := by decide +kernel
theorem dX9_strikes_1 : decode cX9_strikes 1 = .ok (.invokevirtual 162, 3) := by decide +kernel
theorem dX9_strikes_4 : decode cX9_strikes 4 = .ok (.aload_n 0, 1) := by decide +kernel
theorem dX9_strikes_5 : decode cX9_strikes 5 = .ok (.getfield 153, 3) := by decide +kernel
theorem dX9_strikes_8 : decode cX9_strikes 8 = .ok (.ifCond .ne 6, 3) := by decide +kernel
theorem dX9_strikes_11 : decode cX9_strikes 11 = .ok (.bipush (-2), 2) := by decide +kernel
theorem dX9_strikes_13 : decode cX9_strikes 13 = .ok (.ireturn, 1) := by decide +kernel
theorem dX9_strikes_14 : decode cX9_strikes 14 = .ok (.aload_n 0, 1) := by decide +kernel
theorem dX9_strikes_15 : decode cX9_strikes 15 = .ok (.invokevirtual 136, 3) := by decide +kernel
theorem dX9_strikes_18 : decode cX9_strikes 18 = .ok (.iconst 0, 1) := by decide +kernel
theorem dX9_strikes_19 : decode cX9_strikes 19 = .ok (.istore_n 1, 1) := by decide +kernel
theorem dX9_strikes_20 : decode cX9_strikes 20 = .ok (.iload_n 1, 1) := by decide +kernel
theorem dX9_strikes_21 : decode cX9_strikes 21 = .ok (.aload_n 0, 1) := by decide +kernel
theorem dX9_strikes_22 : decode cX9_strikes 22 = .ok (.getfield 153, 3) := by decide +kernel
theorem dX9_strikes_25 : decode cX9_strikes 25 = .ok (.if_icmp .ge 47, 3) := by decide +kernel
theorem dX9_strikes_28 : decode cX9_strikes 28 = .ok (.aload_n 0, 1) := by decide +kernel
theorem dX9_strikes_29 : decode cX9_strikes 29 = .ok (.getfield 22, 3) := by decide +kernel
theorem dX9_strikes_32 : decode cX9_strikes 32 = .ok (.bipush 38, 2) := by decide +kernel
theorem dX9_strikes_34 : decode cX9_strikes 34 = .ok (.bipush 6, 2) := by decide +kernel
theorem dX9_strikes_36 : decode cX9_strikes 36 = .ok (.aload_n 0, 1) := by decide +kernel
theorem dX9_strikes_37 : decode cX9_strikes 37 = .ok (.getfield 38, 3) := by decide +kernel
theorem dX9_strikes_40 : decode cX9_strikes 40 = .ok (.iload_n 1, 1) := by decide +kernel
theorem dX9_strikes_41 : decode cX9_strikes 41 = .ok (.iaload, 1) := by decide +kernel
theorem dX9_strikes_42 : decode cX9_strikes 42 = .ok (.imul, 1) := by decide +kernel
theorem dX9_strikes_43 : decode cX9_strikes 43 = .ok (.iadd, 1) := by decide +kernel
theorem dX9_strikes_44 : decode cX9_strikes 44 = .ok (.aload_n 0, 1) := by decide +kernel
theorem dX9_strikes_45 : decode cX9_strikes 45 = .ok (.getfield 38, 3) := by decide +kernel
theorem dX9_strikes_48 : decode cX9_strikes 48 = .ok (.iload_n 1, 1) := by decide +kernel
theorem dX9_strikes_49 : decode cX9_strikes 49 = .ok (.iconst 1, 1) := by decide +kernel
theorem dX9_strikes_50 : decode cX9_strikes 50 = .ok (.iadd, 1) := by decide +kernel
theorem dX9_strikes_51 : decode cX9_strikes 51 = .ok (.aload_n 0, 1) := by decide +kernel
theorem dX9_strikes_52 : decode cX9_strikes 52 = .ok (.getfield 153, 3) := by decide +kernel
theorem dX9_strikes_55 : decode cX9_strikes 55 = .ok (.irem, 1) := by decide +kernel
theorem dX9_strikes_56 : decode cX9_strikes 56 = .ok (.iaload, 1) := by decide +kernel
theorem dX9_strikes_57 : decode cX9_strikes 57 = .ok (.iadd, 1) := by decide +kernel
theorem dX9_strikes_58 : decode cX9_strikes 58 = .ok (.dup2, 1) := by decide +kernel
theorem dX9_strikes_59 : decode cX9_strikes 59 = .ok (.iaload, 1) := by decide +kernel
theorem dX9_strikes_60 : decode cX9_strikes 60 = .ok (.aload_n 0, 1) := by decide +kernel
theorem dX9_strikes_61 : decode cX9_strikes 61 = .ok (.getfield 150, 3) := by decide +kernel
theorem dX9_strikes_64 : decode cX9_strikes 64 = .ok (.isub, 1) := by decide +kernel
theorem dX9_strikes_65 : decode cX9_strikes 65 = .ok (.iastore, 1) := by decide +kernel
theorem dX9_strikes_66 : decode cX9_strikes 66 = .ok (.iinc 1 1, 3) := by decide +kernel
theorem dX9_strikes_69 : decode cX9_strikes 69 = .ok (.goto (-49), 3) := by decide +kernel
theorem dX9_strikes_72 : decode cX9_strikes 72 = .ok (.aload_n 0, 1) := by decide +kernel
theorem dX9_strikes_73 : decode cX9_strikes 73 = .ok (.getfield 153, 3) := by decide +kernel
theorem dX9_strikes_76 : decode cX9_strikes 76 = .ok (.aload_n 0, 1) := by decide +kernel
theorem dX9_strikes_77 : decode cX9_strikes 77 = .ok (.getfield 150, 3) := by decide +kernel
theorem dX9_strikes_80 : decode cX9_strikes 80 = .ok (.imul, 1) := by decide +kernel
theorem dX9_strikes_81 : decode cX9_strikes 81 = .ok (.ireturn, 1) := by decide +kernel
theorem dX9_undo_0 : decode cX9_undo 0 = .ok (.aload_n 0, 1) := by decide +kernel
theorem dX9_undo_1 : decode cX9_undo 1 = .ok (.getfield 22, 3) := by decide +kernel
theorem dX9_undo_4 : decode cX9_undo 4 = .ok (.bipush 74, 2) := by decide +kernel
theorem dX9_undo_6 : decode cX9_undo 6 = .ok (.iaload, 1) := by decide +kernel
theorem dX9_undo_7 : decode cX9_undo 7 = .ok (.ifCond .ne 6, 3) := by decide +kernel
theorem dX9_undo_10 : decode cX9_undo 10 = .ok (.bipush (-2), 2) := by decide +kernel
theorem dX9_undo_12 : decode cX9_undo 12 = .ok (.ireturn, 1) := by decide +kernel
theorem dX9_undo_13 : decode cX9_undo 13 = .ok (.aload_n 0, 1) := by decide +kernel
theorem dX9_undo_14 : decode cX9_undo 14 = .ok (.getfield 22, 3) := by decide +kernel
theorem dX9_undo_17 : decode cX9_undo 17 = .ok (.bipush 74, 2) := by decide +kernel
theorem dX9_undo_19 : decode cX9_undo 19 = .ok (.dup2, 1) := by decide +kernel
theorem dX9_undo_20 : decode cX9_undo 20 = .ok (.iaload, 1) := by decide +kernel
theorem dX9_undo_21 : decode cX9_undo 21 = .ok (.iconst 1, 1) := by decide +kernel
theorem dX9_undo_22 : decode cX9_undo 22 = .ok (.isub, 1) := by decide +kernel
theorem dX9_undo_23 : decode cX9_undo 23 = .ok (.iastore, 1) := by decide +kernel
theorem dX9_undo_24 : decode cX9_undo 24 = .ok (.bipush 75, 2) := by decide +kernel
theorem dX9_undo_26 : decode cX9_undo 26 = .ok (.bipush 74, 2) := by decide +kernel
theorem dX9_undo_28 : decode cX9_undo 28 = .ok (.aload_n 0, 1) := by decide +kernel
theorem dX9_undo_29 : decode cX9_undo 29 = .ok (.getfield 22, 3) := by decide +kernel
theorem dX9_undo_32 : decode cX9_undo 32 = .ok (.bipush 74, 2) := by decide +kernel
theorem dX9_undo_34 : decode cX9_undo 34 = .ok (.iaload, 1) := by decide +kernel
theorem dX9_undo_35 : decode cX9_undo 35 = .ok (.imul, 1) := by decide +kernel
theorem dX9_undo_36 : decode cX9_undo 36 = .ok (.iadd, 1) := by decide +kernel
theorem dX9_undo_37 : decode cX9_undo 37 = .ok (.istore_n 1, 1) := by decide +kernel
theorem dX9_undo_38 : decode cX9_undo 38 = .ok (.iconst 0, 1) := by decide +kernel
theorem dX9_undo_39 : decode cX9_undo 39 = .ok (.istore_n 2, 1) := by decide +kernel
theorem dX9_undo_40 : decode cX9_undo 40 = .ok (.iload_n 2, 1) := by decide +kernel
theorem dX9_undo_41 : decode cX9_undo 41 = .ok (.bipush 74, 2) := by decide +kernel
theorem dX9_undo_43 : decode cX9_undo 43 = .ok (.if_icmp .ge 23, 3) := by decide +kernel
theorem dX9_undo_46 : decode cX9_undo 46 = .ok (.aload_n 0, 1) := by decide +kernel
theorem dX9_undo_47 : decode cX9_undo 47 = .ok (.getfield 22, 3) := by decide +kernel
theorem dX9_undo_50 : decode cX9_undo 50 = .ok (.iload_n 2, 1) := by decide +kernel
theorem dX9_undo_51 : decode cX9_undo 51 = .ok (.aload_n 0, 1) := by decide +kernel
theorem dX9_undo_52 : decode cX9_undo 52 = .ok (.getfield 22, 3) := by decide +kernel
theorem dX9_undo_55 : decode cX9_undo 55 = .ok (.iload_n 1, 1) := by decide +kernel
theorem dX9_undo_56 : decode cX9_undo 56 = .ok (.iload_n 2, 1) := by decide +kernel
theorem dX9_undo_57 : decode cX9_undo 57 = .ok (.iadd, 1) := by decide +kernel
theorem dX9_undo_58 : decode cX9_undo 58 = .ok (.iaload, 1) := by decide +kernel
theorem dX9_undo_59 : decode cX9_undo 59 = .ok (.iastore, 1) := by decide +kernel
theorem dX9_undo_60 : decode cX9_undo 60 = .ok (.iinc 2 1, 3) := by decide +kernel
theorem dX9_undo_63 : decode cX9_undo 63 = .ok (.goto (-23), 3) := by decide +kernel
theorem dX9_undo_66 : decode cX9_undo 66 = .ok (.aload_n 0, 1) := by decide +kernel
theorem dX9_undo_67 : decode cX9_undo 67 = .ok (.getfield 22, 3) := by decide +kernel
theorem dX9_undo_70 : decode cX9_undo 70 = .ok (.bipush 74, 2) := by decide +kernel
theorem dX9_undo_72 : decode cX9_undo 72 = .ok (.iaload, 1) := by decide +kernel
theorem dX9_undo_73 : decode cX9_undo 73 = .ok (.ireturn, 1) := by decide +kernel
theorem dX9_netOf_0 : decode cX9_netOf 0 = .ok (.iconst 0, 1) := by decide +kernel
theorem dX9_netOf_1 : decode cX9_netOf 1 = .ok (.istore_n 2, 1) := by decide +kernel
theorem dX9_netOf_2 : decode cX9_netOf 2 = .ok (.iconst 0, 1) := by decide +kernel
theorem dX9_netOf_3 : decode cX9_netOf 3 = .ok (.istore_n 3, 1) := by decide +kernel
theorem dX9_netOf_4 : decode cX9_netOf 4 = .ok (.iload_n 3, 1) := by decide +kernel
theorem dX9_netOf_5 : decode cX9_netOf 5 = .ok (.aload_n 0, 1) := by decide +kernel
theorem dX9_netOf_6 : decode cX9_netOf 6 = .ok (.getfield 13, 3) := by decide +kernel
theorem dX9_netOf_9 : decode cX9_netOf 9 = .ok (.iconst 0, 1) := by decide +kernel
theorem dX9_netOf_10 : decode cX9_netOf 10 = .ok (.iaload, 1) := by decide +kernel
theorem dX9_netOf_11 : decode cX9_netOf 11 = .ok (.if_icmp .ge 29, 3) := by decide +kernel
theorem dX9_netOf_14 : decode cX9_netOf 14 = .ok (.iload_n 2, 1) := by decide +kernel
theorem dX9_netOf_15 : decode cX9_netOf 15 = .ok (.iload_n 1, 1) := by decide +kernel
theorem dX9_netOf_16 : decode cX9_netOf 16 = .ok (.iload_n 3, 1) := by decide +kernel
theorem dX9_netOf_17 : decode cX9_netOf 17 = .ok (.invokestatic 111, 3) := by decide +kernel
theorem dX9_netOf_20 : decode cX9_netOf 20 = .ok (.ifCond .eq 11, 3) := by decide +kernel
theorem dX9_netOf_23 : decode cX9_netOf 23 = .ok (.aload_n 0, 1) := by decide +kernel
theorem dX9_netOf_24 : decode cX9_netOf 24 = .ok (.iload_n 3, 1) := by decide +kernel
theorem dX9_netOf_25 : decode cX9_netOf 25 = .ok (.invokevirtual 133, 3) := by decide +kernel
theorem dX9_netOf_28 : decode cX9_netOf 28 = .ok (.goto 4, 3) := by decide +kernel
theorem dX9_netOf_31 : decode cX9_netOf 31 = .ok (.iconst 0, 1) := by decide +kernel
theorem dX9_netOf_32 : decode cX9_netOf 32 = .ok (.iadd, 1) := by decide +kernel
theorem dX9_netOf_33 : decode cX9_netOf 33 = .ok (.istore_n 2, 1) := by decide +kernel
theorem dX9_netOf_34 : decode cX9_netOf 34 = .ok (.iinc 3 1, 3) := by decide +kernel
theorem dX9_netOf_37 : decode cX9_netOf 37 = .ok (.goto (-33), 3) := by decide +kernel
theorem dX9_netOf_40 : decode cX9_netOf 40 = .ok (.iload_n 2, 1) := by decide +kernel
theorem dX9_netOf_41 : decode cX9_netOf 41 = .ok (.ireturn, 1) := by decide +kernel
theorem dX9_settle_0 : decode cX9_settle 0 = .ok (.iconst 1, 1) := by decide +kernel
theorem dX9_settle_1 : decode cX9_settle 1 = .ok (.aload_n 0, 1) := by decide +kernel
theorem dX9_settle_2 : decode cX9_settle 2 = .ok (.getfield 13, 3) := by decide +kernel
theorem dX9_settle_5 : decode cX9_settle 5 = .ok (.iconst 0, 1) := by decide +kernel
theorem dX9_settle_6 : decode cX9_settle 6 = .ok (.iaload, 1) := by decide +kernel
theorem dX9_settle_7 : decode cX9_settle 7 = .ok (.ishl, 1) := by decide +kernel
theorem dX9_settle_8 : decode cX9_settle 8 = .ok (.iconst 1, 1) := by decide +kernel
theorem dX9_settle_9 : decode cX9_settle 9 = .ok (.isub, 1) := by decide +kernel
theorem dX9_settle_10 : decode cX9_settle 10 = .ok (.istore_n 1, 1) := by decide +kernel
theorem dX9_settle_11 : decode cX9_settle 11 = .ok (.iconst 0, 1) := by decide +kernel
theorem dX9_settle_12 : decode cX9_settle 12 = .ok (.istore_n 2, 1) := by decide +kernel
theorem dX9_settle_13 : decode cX9_settle 13 = .ok (.iload_n 2, 1) := by decide +kernel
theorem dX9_settle_14 : decode cX9_settle 14 = .ok (.iload_n 1, 1) := by decide +kernel
theorem dX9_settle_15 : decode cX9_settle 15 = .ok (.if_icmp .gt 97, 3) := by decide +kernel
theorem dX9_settle_18 : decode cX9_settle 18 = .ok (.iconst 0, 1) := by decide +kernel
theorem dX9_settle_19 : decode cX9_settle 19 = .ok (.istore_n 3, 1) := by decide +kernel
theorem dX9_settle_20 : decode cX9_settle 20 = .ok (.iconst 0, 1) := by decide +kernel
theorem dX9_settle_21 : decode cX9_settle 21 = .ok (.istore 4, 2) := by decide +kernel
theorem dX9_settle_23 : decode cX9_settle 23 = .ok (.iload 4, 2) := by decide +kernel
theorem dX9_settle_25 : decode cX9_settle 25 = .ok (.aload_n 0, 1) := by decide +kernel
theorem dX9_settle_26 : decode cX9_settle 26 = .ok (.getfield 13, 3) := by decide +kernel
theorem dX9_settle_29 : decode cX9_settle 29 = .ok (.iconst 0, 1) := by decide +kernel
theorem dX9_settle_30 : decode cX9_settle 30 = .ok (.iaload, 1) := by decide +kernel
theorem dX9_settle_31 : decode cX9_settle 31 = .ok (.if_icmp .ge 50, 3) := by decide +kernel
theorem dX9_settle_34 : decode cX9_settle 34 = .ok (.iload_n 2, 1) := by decide +kernel
theorem dX9_settle_35 : decode cX9_settle 35 = .ok (.iload 4, 2) := by decide +kernel
theorem dX9_settle_37 : decode cX9_settle 37 = .ok (.invokestatic 111, 3) := by decide +kernel
theorem dX9_settle_40 : decode cX9_settle 40 = .ok (.ifCond .eq 19, 3) := by decide +kernel
theorem dX9_settle_43 : decode cX9_settle 43 = .ok (.aload_n 0, 1) := by decide +kernel
theorem dX9_settle_44 : decode cX9_settle 44 = .ok (.getfield 41, 3) := by decide +kernel
theorem dX9_settle_47 : decode cX9_settle 47 = .ok (.iload_n 2, 1) := by decide +kernel
theorem dX9_settle_48 : decode cX9_settle 48 = .ok (.iconst 1, 1) := by decide +kernel
theorem dX9_settle_49 : decode cX9_settle 49 = .ok (.iload 4, 2) := by decide +kernel
theorem dX9_settle_51 : decode cX9_settle 51 = .ok (.ishl, 1) := by decide +kernel
theorem dX9_settle_52 : decode cX9_settle 52 = .ok (.iconst (-1), 1) := by decide +kernel
theorem dX9_settle_53 : decode cX9_settle 53 = .ok (.ixor, 1) := by decide +kernel
theorem dX9_settle_54 : decode cX9_settle 54 = .ok (.iand, 1) := by decide +kernel
theorem dX9_settle_55 : decode cX9_settle 55 = .ok (.iaload, 1) := by decide +kernel
theorem dX9_settle_56 : decode cX9_settle 56 = .ok (.goto 4, 3) := by decide +kernel
theorem dX9_settle_59 : decode cX9_settle 59 = .ok (.iconst 0, 1) := by decide +kernel
theorem dX9_settle_60 : decode cX9_settle 60 = .ok (.istore 5, 2) := by decide +kernel
theorem dX9_settle_62 : decode cX9_settle 62 = .ok (.iload 5, 2) := by decide +kernel
theorem dX9_settle_64 : decode cX9_settle 64 = .ok (.iload_n 3, 1) := by decide +kernel
theorem dX9_settle_65 : decode cX9_settle 65 = .ok (.if_icmp .le 8, 3) := by decide +kernel
theorem dX9_settle_68 : decode cX9_settle 68 = .ok (.iload 5, 2) := by decide +kernel
theorem dX9_settle_70 : decode cX9_settle 70 = .ok (.goto 4, 3) := by decide +kernel
theorem dX9_settle_73 : decode cX9_settle 73 = .ok (.iload_n 3, 1) := by decide +kernel
theorem dX9_settle_74 : decode cX9_settle 74 = .ok (.istore_n 3, 1) := by decide +kernel
theorem dX9_settle_75 : decode cX9_settle 75 = .ok (.iinc 4 1, 3) := by decide +kernel
theorem dX9_settle_78 : decode cX9_settle 78 = .ok (.goto (-55), 3) := by decide +kernel
theorem dX9_settle_81 : decode cX9_settle 81 = .ok (.aload_n 0, 1) := by decide +kernel
theorem dX9_settle_82 : decode cX9_settle 82 = .ok (.getfield 41, 3) := by decide +kernel
theorem dX9_settle_85 : decode cX9_settle 85 = .ok (.iload_n 2, 1) := by decide +kernel
theorem dX9_settle_86 : decode cX9_settle 86 = .ok (.iload_n 3, 1) := by decide +kernel
theorem dX9_settle_87 : decode cX9_settle 87 = .ok (.iload_n 2, 1) := by decide +kernel
theorem dX9_settle_88 : decode cX9_settle 88 = .ok (.ifCond .le 15, 3) := by decide +kernel
theorem dX9_settle_91 : decode cX9_settle 91 = .ok (.aload_n 0, 1) := by decide +kernel
theorem dX9_settle_92 : decode cX9_settle 92 = .ok (.iload_n 2, 1) := by decide +kernel
theorem dX9_settle_93 : decode cX9_settle 93 = .ok (.invokevirtual 165, 3) := by decide +kernel
theorem dX9_settle_96 : decode cX9_settle 96 = .ok (.ifCond .ne 7, 3) := by decide +kernel
theorem dX9_settle_99 : decode cX9_settle 99 = .ok (.iconst 1, 1) := by decide +kernel
theorem dX9_settle_100 : decode cX9_settle 100 = .ok (.goto 4, 3) := by decide +kernel
theorem dX9_settle_103 : decode cX9_settle 103 = .ok (.iconst 0, 1) := by decide +kernel
theorem dX9_settle_104 : decode cX9_settle 104 = .ok (.iadd, 1) := by decide +kernel
theorem dX9_settle_105 : decode cX9_settle 105 = .ok (.iastore, 1) := by decide +kernel
theorem dX9_settle_106 : decode cX9_settle 106 = .ok (.iinc 2 1, 3) := by decide +kernel
theorem dX9_settle_109 : decode cX9_settle 109 = .ok (.goto (-96), 3) := by decide +kernel
theorem dX9_settle_112 : decode cX9_settle 112 = .ok (.iload_n 1, 1) := by decide +kernel
theorem dX9_settle_113 : decode cX9_settle 113 = .ok (.invokestatic 168, 3) := by decide +kernel
theorem dX9_settle_116 : decode cX9_settle 116 = .ok (.aload_n 0, 1) := by decide +kernel
theorem dX9_settle_117 : decode cX9_settle 117 = .ok (.getfield 41, 3) := by decide +kernel
theorem dX9_settle_120 : decode cX9_settle 120 = .ok (.iload_n 1, 1) := by decide +kernel
theorem dX9_settle_121 : decode cX9_settle 121 = .ok (.iaload, 1) := by decide +kernel
theorem dX9_settle_122 : decode cX9_settle 122 = .ok (.isub, 1) := by decide +kernel
theorem dX9_settle_123 : decode cX9_settle 123 = .ok (.ireturn, 1) := by decide +kernel
theorem dX9_salt_0 : decode cX9_salt 0 = .ok (.bipush (-9), 2) := by decide +kernel
theorem dX9_salt_2 : decode cX9_salt 2 = .ok (.istore_n 1, 1) := by decide +kernel
theorem dX9_salt_3 : decode cX9_salt 3 = .ok (.iconst 0, 1) := by decide +kernel
theorem dX9_salt_4 : decode cX9_salt 4 = .ok (.istore_n 2, 1) := by decide +kernel
theorem dX9_salt_5 : decode cX9_salt 5 = .ok (.iload_n 2, 1) := by decide +kernel
theorem dX9_salt_6 : decode cX9_salt 6 = .ok (.iconst 1, 1) := by decide +kernel
theorem dX9_salt_7 : decode cX9_salt 7 = .ok (.aload_n 0, 1) := by decide +kernel
theorem dX9_salt_8 : decode cX9_salt 8 = .ok (.getfield 13, 3) := by decide +kernel
theorem dX9_salt_11 : decode cX9_salt 11 = .ok (.iconst 0, 1) := by decide +kernel
theorem dX9_salt_12 : decode cX9_salt 12 = .ok (.iaload, 1) := by decide +kernel
theorem dX9_salt_13 : decode cX9_salt 13 = .ok (.ishl, 1) := by decide +kernel
theorem dX9_salt_14 : decode cX9_salt 14 = .ok (.if_icmp .ge 102, 3) := by decide +kernel
theorem dX9_salt_17 : decode cX9_salt 17 = .ok (.iconst 1, 1) := by decide +kernel
theorem dX9_salt_18 : decode cX9_salt 18 = .ok (.istore_n 3, 1) := by decide +kernel
theorem dX9_salt_19 : decode cX9_salt 19 = .ok (.iconst 0, 1) := by decide +kernel
theorem dX9_salt_20 : decode cX9_salt 20 = .ok (.istore 4, 2) := by decide +kernel
theorem dX9_salt_22 : decode cX9_salt 22 = .ok (.iload 4, 2) := by decide +kernel
theorem dX9_salt_24 : decode cX9_salt 24 = .ok (.aload_n 0, 1) := by decide +kernel
theorem dX9_salt_25 : decode cX9_salt 25 = .ok (.getfield 13, 3) := by decide +kernel
theorem dX9_salt_28 : decode cX9_salt 28 = .ok (.iconst 1, 1) := by decide +kernel
theorem dX9_salt_29 : decode cX9_salt 29 = .ok (.iaload, 1) := by decide +kernel
theorem dX9_salt_30 : decode cX9_salt 30 = .ok (.if_icmp .ge 53, 3) := by decide +kernel
theorem dX9_salt_33 : decode cX9_salt 33 = .ok (.iload_n 3, 1) := by decide +kernel
theorem dX9_salt_34 : decode cX9_salt 34 = .ok (.ifCond .eq 41, 3) := by decide +kernel
theorem dX9_salt_37 : decode cX9_salt 37 = .ok (.iload_n 2, 1) := by decide +kernel
theorem dX9_salt_38 : decode cX9_salt 38 = .ok (.aload_n 0, 1) := by decide +kernel
theorem dX9_salt_39 : decode cX9_salt 39 = .ok (.getfield 13, 3) := by decide +kernel
theorem dX9_salt_42 : decode cX9_salt 42 = .ok (.bipush 10, 2) := by decide +kernel
theorem dX9_salt_44 : decode cX9_salt 44 = .ok (.iload 4, 2) := by decide +kernel
theorem dX9_salt_46 : decode cX9_salt 46 = .ok (.iadd, 1) := by decide +kernel
theorem dX9_salt_47 : decode cX9_salt 47 = .ok (.iaload, 1) := by decide +kernel
theorem dX9_salt_48 : decode cX9_salt 48 = .ok (.invokestatic 111, 3) := by decide +kernel
theorem dX9_salt_51 : decode cX9_salt 51 = .ok (.ifCond .ne 20, 3) := by decide +kernel
theorem dX9_salt_54 : decode cX9_salt 54 = .ok (.iload_n 2, 1) := by decide +kernel
theorem dX9_salt_55 : decode cX9_salt 55 = .ok (.aload_n 0, 1) := by decide +kernel
theorem dX9_salt_56 : decode cX9_salt 56 = .ok (.getfield 13, 3) := by decide +kernel
theorem dX9_salt_59 : decode cX9_salt 59 = .ok (.bipush 18, 2) := by decide +kernel
theorem dX9_salt_61 : decode cX9_salt 61 = .ok (.iload 4, 2) := by decide +kernel
theorem dX9_salt_63 : decode cX9_salt 63 = .ok (.iadd, 1) := by decide +kernel
theorem dX9_salt_64 : decode cX9_salt 64 = .ok (.iaload, 1) := by decide +kernel
theorem dX9_salt_65 : decode cX9_salt 65 = .ok (.invokestatic 111, 3) := by decide +kernel
theorem dX9_salt_68 : decode cX9_salt 68 = .ok (.ifCond .eq 7, 3) := by decide +kernel
theorem dX9_salt_71 : decode cX9_salt 71 = .ok (.iconst 1, 1) := by decide +kernel
theorem dX9_salt_72 : decode cX9_salt 72 = .ok (.goto 4, 3) := by decide +kernel
theorem dX9_salt_75 : decode cX9_salt 75 = .ok (.iconst 0, 1) := by decide +kernel
theorem dX9_salt_76 : decode cX9_salt 76 = .ok (.istore_n 3, 1) := by decide +kernel
theorem dX9_salt_77 : decode cX9_salt 77 = .ok (.iinc 4 1, 3) := by decide +kernel
theorem dX9_salt_80 : decode cX9_salt 80 = .ok (.goto (-58), 3) := by decide +kernel
theorem dX9_salt_83 : decode cX9_salt 83 = .ok (.iload_n 3, 1) := by decide +kernel
theorem dX9_salt_84 : decode cX9_salt 84 = .ok (.ifCond .eq 24, 3) := by decide +kernel
theorem dX9_salt_87 : decode cX9_salt 87 = .ok (.iload_n 1, 1) := by decide +kernel
theorem dX9_salt_88 : decode cX9_salt 88 = .ok (.bipush (-9), 2) := by decide +kernel
theorem dX9_salt_90 : decode cX9_salt 90 = .ok (.if_icmp .eq 14, 3) := by decide +kernel
theorem dX9_salt_93 : decode cX9_salt 93 = .ok (.iload_n 2, 1) := by decide +kernel
theorem dX9_salt_94 : decode cX9_salt 94 = .ok (.invokestatic 168, 3) := by decide +kernel
theorem dX9_salt_97 : decode cX9_salt 97 = .ok (.iload_n 1, 1) := by decide +kernel
theorem dX9_salt_98 : decode cX9_salt 98 = .ok (.invokestatic 168, 3) := by decide +kernel
theorem dX9_salt_101 : decode cX9_salt 101 = .ok (.if_icmp .ge 7, 3) := by decide +kernel
theorem dX9_salt_104 : decode cX9_salt 104 = .ok (.iload_n 2, 1) := by decide +kernel
theorem dX9_salt_105 : decode cX9_salt 105 = .ok (.goto 4, 3) := by decide +kernel
theorem dX9_salt_108 : decode cX9_salt 108 = .ok (.iload_n 1, 1) := by decide +kernel
theorem dX9_salt_109 : decode cX9_salt 109 = .ok (.istore_n 1, 1) := by decide +kernel
theorem dX9_salt_110 : decode cX9_salt 110 = .ok (.iinc 2 1, 3) := by decide +kernel
theorem dX9_salt_113 : decode cX9_salt 113 = .ok (.goto (-108), 3) := by decide +kernel
theorem dX9_salt_116 : decode cX9_salt 116 = .ok (.iload_n 1, 1) := by decide +kernel
theorem dX9_salt_117 : decode cX9_salt 117 = .ok (.ireturn, 1) := by decide +kernel
theorem dX9_now_0 : decode cX9_now 0 = .ok (.iconst 0, 1) := by decide +kernel
theorem dX9_now_1 : decode cX9_now 1 = .ok (.istore_n 2, 1) := by decide +kernel
theorem dX9_now_2 : decode cX9_now 2 = .ok (.iconst 0, 1) := by decide +kernel
theorem dX9_now_3 : decode cX9_now 3 = .ok (.istore_n 3, 1) := by decide +kernel
theorem dX9_now_4 : decode cX9_now 4 = .ok (.iconst 0, 1) := by decide +kernel
theorem dX9_now_5 : decode cX9_now 5 = .ok (.istore 4, 2) := by decide +kernel
theorem dX9_now_7 : decode cX9_now 7 = .ok (.iload 4, 2) := by decide +kernel
theorem dX9_now_9 : decode cX9_now 9 = .ok (.bipush 6, 2) := by decide +kernel
theorem dX9_now_11 : decode cX9_now 11 = .ok (.if_icmp .ge 27, 3) := by decide +kernel
theorem dX9_now_14 : decode cX9_now 14 = .ok (.iload_n 2, 1) := by decide +kernel
theorem dX9_now_15 : decode cX9_now 15 = .ok (.aload_n 0, 1) := by decide +kernel
theorem dX9_now_16 : decode cX9_now 16 = .ok (.iload 4, 2) := by decide +kernel
theorem dX9_now_18 : decode cX9_now 18 = .ok (.invokevirtual 130, 3) := by decide +kernel
theorem dX9_now_21 : decode cX9_now 21 = .ok (.iadd, 1) := by decide +kernel
theorem dX9_now_22 : decode cX9_now 22 = .ok (.istore_n 2, 1) := by decide +kernel
theorem dX9_now_23 : decode cX9_now 23 = .ok (.iload_n 3, 1) := by decide +kernel
theorem dX9_now_24 : decode cX9_now 24 = .ok (.aload_n 0, 1) := by decide +kernel
theorem dX9_now_25 : decode cX9_now 25 = .ok (.iload 4, 2) := by decide +kernel
theorem dX9_now_27 : decode cX9_now 27 = .ok (.invokevirtual 123, 3) := by decide +kernel
theorem dX9_now_30 : decode cX9_now 30 = .ok (.iadd, 1) := by decide +kernel
theorem dX9_now_31 : decode cX9_now 31 = .ok (.istore_n 3, 1) := by decide +kernel
theorem dX9_now_32 : decode cX9_now 32 = .ok (.iinc 4 1, 3) := by decide +kernel
theorem dX9_now_35 : decode cX9_now 35 = .ok (.goto (-28), 3) := by decide +kernel
theorem dX9_now_38 : decode cX9_now 38 = .ok (.iload_n 1, 1) := by decide +kernel
theorem dX9_now_39 : decode cX9_now 39 = .ok (.tableswitch 67 0 5 #[37, 45, 53, 55, 57, 62], 37) := by decide +kernel
theorem dX9_now_76 : decode cX9_now 76 = .ok (.aload_n 0, 1) := by decide +kernel
theorem dX9_now_77 : decode cX9_now 77 = .ok (.getfield 22, 3) := by decide +kernel
theorem dX9_now_80 : decode cX9_now 80 = .ok (.bipush 13, 2) := by decide +kernel
theorem dX9_now_82 : decode cX9_now 82 = .ok (.iaload, 1) := by decide +kernel
theorem dX9_now_83 : decode cX9_now 83 = .ok (.ireturn, 1) := by decide +kernel
theorem dX9_now_84 : decode cX9_now 84 = .ok (.aload_n 0, 1) := by decide +kernel
theorem dX9_now_85 : decode cX9_now 85 = .ok (.getfield 22, 3) := by decide +kernel
theorem dX9_now_88 : decode cX9_now 88 = .ok (.bipush 12, 2) := by decide +kernel
theorem dX9_now_90 : decode cX9_now 90 = .ok (.iaload, 1) := by decide +kernel
theorem dX9_now_91 : decode cX9_now 91 = .ok (.ireturn, 1) := by decide +kernel
theorem dX9_now_92 : decode cX9_now 92 = .ok (.iload_n 2, 1) := by decide +kernel
theorem dX9_now_93 : decode cX9_now 93 = .ok (.ireturn, 1) := by decide +kernel
theorem dX9_now_94 : decode cX9_now 94 = .ok (.iload_n 3, 1) := by decide +kernel
theorem dX9_now_95 : decode cX9_now 95 = .ok (.ireturn, 1) := by decide +kernel
theorem dX9_now_96 : decode cX9_now 96 = .ok (.aload_n 0, 1) := by decide +kernel
theorem dX9_now_97 : decode cX9_now 97 = .ok (.invokevirtual 171, 3) := by decide +kernel
theorem dX9_now_100 : decode cX9_now 100 = .ok (.ireturn, 1) := by decide +kernel
theorem dX9_now_101 : decode cX9_now 101 = .ok (.aload_n 0, 1) := by decide +kernel
theorem dX9_now_102 : decode cX9_now 102 = .ok (.invokevirtual 175, 3) := by decide +kernel
theorem dX9_now_105 : decode cX9_now 105 = .ok (.ireturn, 1) := by decide +kernel
theorem dX9_now_106 : decode cX9_now 106 = .ok (.iconst (-1), 1) := by decide +kernel
theorem dX9_now_107 : decode cX9_now 107 = .ok (.ireturn, 1) := by decide +kernel
theorem dX9_reckons_0 : decode cX9_reckons 0 = .ok (.iconst 0, 1) := by decide +kernel
theorem dX9_reckons_1 : decode cX9_reckons 1 = .ok (.istore_n 2, 1) := by decide +kernel
theorem dX9_reckons_2 : decode cX9_reckons 2 = .ok (.iload_n 2, 1) := by decide +kernel
theorem dX9_reckons_3 : decode cX9_reckons 3 = .ok (.bipush 6, 2) := by decide +kernel
theorem dX9_reckons_5 : decode cX9_reckons 5 = .ok (.if_icmp .ge 27, 3) := by decide +kernel
theorem dX9_reckons_8 : decode cX9_reckons 8 = .ok (.aload_n 0, 1) := by decide +kernel
theorem dX9_reckons_9 : decode cX9_reckons 9 = .ok (.getfield 44, 3) := by decide +kernel
theorem dX9_reckons_12 : decode cX9_reckons 12 = .ok (.iload_n 2, 1) := by decide +kernel
theorem dX9_reckons_13 : decode cX9_reckons 13 = .ok (.iload_n 2, 1) := by decide +kernel
theorem dX9_reckons_14 : decode cX9_reckons 14 = .ok (.iload_n 1, 1) := by decide +kernel
theorem dX9_reckons_15 : decode cX9_reckons 15 = .ok (.if_icmp .ne 7, 3) := by decide +kernel
theorem dX9_reckons_18 : decode cX9_reckons 18 = .ok (.iconst 0, 1) := by decide +kernel
theorem dX9_reckons_19 : decode cX9_reckons 19 = .ok (.goto 6, 3) := by decide +kernel
theorem dX9_reckons_22 : decode cX9_reckons 22 = .ok (.sipush 999, 3) := by decide +kernel
theorem dX9_reckons_25 : decode cX9_reckons 25 = .ok (.iastore, 1) := by decide +kernel
theorem dX9_reckons_26 : decode cX9_reckons 26 = .ok (.iinc 2 1, 3) := by decide +kernel
theorem dX9_reckons_29 : decode cX9_reckons 29 = .ok (.goto (-27), 3) := by decide +kernel
theorem dX9_reckons_32 : decode cX9_reckons 32 = .ok (.iconst 1, 1) := by decide +kernel
theorem dX9_reckons_33 : decode cX9_reckons 33 = .ok (.istore_n 2, 1) := by decide +kernel
theorem dX9_reckons_34 : decode cX9_reckons 34 = .ok (.iload_n 2, 1) := by decide +kernel
theorem dX9_reckons_35 : decode cX9_reckons 35 = .ok (.bipush 7, 2) := by decide +kernel
theorem dX9_reckons_37 : decode cX9_reckons 37 = .ok (.if_icmp .ge 221, 3) := by decide +kernel
theorem dX9_reckons_40 : decode cX9_reckons 40 = .ok (.iconst 0, 1) := by decide +kernel
theorem dX9_reckons_41 : decode cX9_reckons 41 = .ok (.istore_n 3, 1) := by decide +kernel
theorem dX9_reckons_42 : decode cX9_reckons 42 = .ok (.iload_n 3, 1) := by decide +kernel
theorem dX9_reckons_43 : decode cX9_reckons 43 = .ok (.bipush 6, 2) := by decide +kernel
theorem dX9_reckons_45 : decode cX9_reckons 45 = .ok (.if_icmp .ge 23, 3) := by decide +kernel
theorem dX9_reckons_48 : decode cX9_reckons 48 = .ok (.aload_n 0, 1) := by decide +kernel
theorem dX9_reckons_49 : decode cX9_reckons 49 = .ok (.getfield 44, 3) := by decide +kernel
theorem dX9_reckons_52 : decode cX9_reckons 52 = .ok (.bipush 6, 2) := by decide +kernel
theorem dX9_reckons_54 : decode cX9_reckons 54 = .ok (.iload_n 2, 1) := by decide +kernel
theorem dX9_reckons_55 : decode cX9_reckons 55 = .ok (.imul, 1) := by decide +kernel
theorem dX9_reckons_56 : decode cX9_reckons 56 = .ok (.iload_n 3, 1) := by decide +kernel
theorem dX9_reckons_57 : decode cX9_reckons 57 = .ok (.iadd, 1) := by decide +kernel
theorem dX9_reckons_58 : decode cX9_reckons 58 = .ok (.sipush 999, 3) := by decide +kernel
theorem dX9_reckons_61 : decode cX9_reckons 61 = .ok (.iastore, 1) := by decide +kernel
theorem dX9_reckons_62 : decode cX9_reckons 62 = .ok (.iinc 3 1, 3) := by decide +kernel
theorem dX9_reckons_65 : decode cX9_reckons 65 = .ok (.goto (-23), 3) := by decide +kernel
theorem dX9_reckons_68 : decode cX9_reckons 68 = .ok (.iconst 0, 1) := by decide +kernel
theorem dX9_reckons_69 : decode cX9_reckons 69 = .ok (.istore_n 3, 1) := by decide +kernel
theorem dX9_reckons_70 : decode cX9_reckons 70 = .ok (.iload_n 3, 1) := by decide +kernel
theorem dX9_reckons_71 : decode cX9_reckons 71 = .ok (.aload_n 0, 1) := by decide +kernel
theorem dX9_reckons_72 : decode cX9_reckons 72 = .ok (.getfield 13, 3) := by decide +kernel
theorem dX9_reckons_75 : decode cX9_reckons 75 = .ok (.iconst 1, 1) := by decide +kernel
theorem dX9_reckons_76 : decode cX9_reckons 76 = .ok (.iaload, 1) := by decide +kernel
theorem dX9_reckons_77 : decode cX9_reckons 77 = .ok (.if_icmp .ge 175, 3) := by decide +kernel
theorem dX9_reckons_80 : decode cX9_reckons 80 = .ok (.aload_n 0, 1) := by decide +kernel
theorem dX9_reckons_81 : decode cX9_reckons 81 = .ok (.getfield 13, 3) := by decide +kernel
theorem dX9_reckons_84 : decode cX9_reckons 84 = .ok (.bipush 10, 2) := by decide +kernel
theorem dX9_reckons_86 : decode cX9_reckons 86 = .ok (.iload_n 3, 1) := by decide +kernel
theorem dX9_reckons_87 : decode cX9_reckons 87 = .ok (.iadd, 1) := by decide +kernel
theorem dX9_reckons_88 : decode cX9_reckons 88 = .ok (.iaload, 1) := by decide +kernel
theorem dX9_reckons_89 : decode cX9_reckons 89 = .ok (.istore 4, 2) := by decide +kernel
theorem dX9_reckons_91 : decode cX9_reckons 91 = .ok (.aload_n 0, 1) := by decide +kernel
theorem dX9_reckons_92 : decode cX9_reckons 92 = .ok (.getfield 13, 3) := by decide +kernel
theorem dX9_reckons_95 : decode cX9_reckons 95 = .ok (.bipush 18, 2) := by decide +kernel
theorem dX9_reckons_97 : decode cX9_reckons 97 = .ok (.iload_n 3, 1) := by decide +kernel
theorem dX9_reckons_98 : decode cX9_reckons 98 = .ok (.iadd, 1) := by decide +kernel
theorem dX9_reckons_99 : decode cX9_reckons 99 = .ok (.iaload, 1) := by decide +kernel
theorem dX9_reckons_100 : decode cX9_reckons 100 = .ok (.istore 5, 2) := by decide +kernel
theorem dX9_reckons_102 : decode cX9_reckons 102 = .ok (.aload_n 0, 1) := by decide +kernel
theorem dX9_reckons_103 : decode cX9_reckons 103 = .ok (.getfield 13, 3) := by decide +kernel
theorem dX9_reckons_106 : decode cX9_reckons 106 = .ok (.bipush 26, 2) := by decide +kernel
theorem dX9_reckons_108 : decode cX9_reckons 108 = .ok (.iload_n 3, 1) := by decide +kernel
theorem dX9_reckons_109 : decode cX9_reckons 109 = .ok (.iadd, 1) := by decide +kernel
theorem dX9_reckons_110 : decode cX9_reckons 110 = .ok (.iaload, 1) := by decide +kernel
theorem dX9_reckons_111 : decode cX9_reckons 111 = .ok (.aload_n 0, 1) := by decide +kernel
theorem dX9_reckons_112 : decode cX9_reckons 112 = .ok (.getfield 44, 3) := by decide +kernel
theorem dX9_reckons_115 : decode cX9_reckons 115 = .ok (.bipush 6, 2) := by decide +kernel
theorem dX9_reckons_117 : decode cX9_reckons 117 = .ok (.iload_n 2, 1) := by decide +kernel
theorem dX9_reckons_118 : decode cX9_reckons 118 = .ok (.iconst 1, 1) := by decide +kernel
theorem dX9_reckons_119 : decode cX9_reckons 119 = .ok (.isub, 1) := by decide +kernel
theorem dX9_reckons_120 : decode cX9_reckons 120 = .ok (.imul, 1) := by decide +kernel
theorem dX9_reckons_121 : decode cX9_reckons 121 = .ok (.iload 5, 2) := by decide +kernel
theorem dX9_reckons_123 : decode cX9_reckons 123 = .ok (.iadd, 1) := by decide +kernel
theorem dX9_reckons_124 : decode cX9_reckons 124 = .ok (.iaload, 1) := by decide +kernel
theorem dX9_reckons_125 : decode cX9_reckons 125 = .ok (.iadd, 1) := by decide +kernel
theorem dX9_reckons_126 : decode cX9_reckons 126 = .ok (.istore 6, 2) := by decide +kernel
theorem dX9_reckons_128 : decode cX9_reckons 128 = .ok (.aload_n 0, 1) := by decide +kernel
theorem dX9_reckons_129 : decode cX9_reckons 129 = .ok (.getfield 13, 3) := by decide +kernel
theorem dX9_reckons_132 : decode cX9_reckons 132 = .ok (.bipush 26, 2) := by decide +kernel
theorem dX9_reckons_134 : decode cX9_reckons 134 = .ok (.iload_n 3, 1) := by decide +kernel
theorem dX9_reckons_135 : decode cX9_reckons 135 = .ok (.iadd, 1) := by decide +kernel
theorem dX9_reckons_136 : decode cX9_reckons 136 = .ok (.iaload, 1) := by decide +kernel
theorem dX9_reckons_137 : decode cX9_reckons 137 = .ok (.aload_n 0, 1) := by decide +kernel
theorem dX9_reckons_138 : decode cX9_reckons 138 = .ok (.getfield 44, 3) := by decide +kernel
theorem dX9_reckons_141 : decode cX9_reckons 141 = .ok (.bipush 6, 2) := by decide +kernel
theorem dX9_reckons_143 : decode cX9_reckons 143 = .ok (.iload_n 2, 1) := by decide +kernel
theorem dX9_reckons_144 : decode cX9_reckons 144 = .ok (.iconst 1, 1) := by decide +kernel
theorem dX9_reckons_145 : decode cX9_reckons 145 = .ok (.isub, 1) := by decide +kernel
theorem dX9_reckons_146 : decode cX9_reckons 146 = .ok (.imul, 1) := by decide +kernel
theorem dX9_reckons_147 : decode cX9_reckons 147 = .ok (.iload 4, 2) := by decide +kernel
theorem dX9_reckons_149 : decode cX9_reckons 149 = .ok (.iadd, 1) := by decide +kernel
theorem dX9_reckons_150 : decode cX9_reckons 150 = .ok (.iaload, 1) := by decide +kernel
theorem dX9_reckons_151 : decode cX9_reckons 151 = .ok (.iadd, 1) := by decide +kernel
theorem dX9_reckons_152 : decode cX9_reckons 152 = .ok (.istore 7, 2) := by decide +kernel
theorem dX9_reckons_154 : decode cX9_reckons 154 = .ok (.aload_n 0, 1) := by decide +kernel
theorem dX9_reckons_155 : decode cX9_reckons 155 = .ok (.getfield 44, 3) := by decide +kernel
theorem dX9_reckons_158 : decode cX9_reckons 158 = .ok (.bipush 6, 2) := by decide +kernel
theorem dX9_reckons_160 : decode cX9_reckons 160 = .ok (.iload_n 2, 1) := by decide +kernel
theorem dX9_reckons_161 : decode cX9_reckons 161 = .ok (.imul, 1) := by decide +kernel
theorem dX9_reckons_162 : decode cX9_reckons 162 = .ok (.iload 4, 2) := by decide +kernel
theorem dX9_reckons_164 : decode cX9_reckons 164 = .ok (.iadd, 1) := by decide +kernel
theorem dX9_reckons_165 : decode cX9_reckons 165 = .ok (.iload 6, 2) := by decide +kernel
theorem dX9_reckons_167 : decode cX9_reckons 167 = .ok (.aload_n 0, 1) := by decide +kernel
theorem dX9_reckons_168 : decode cX9_reckons 168 = .ok (.getfield 44, 3) := by decide +kernel
theorem dX9_reckons_171 : decode cX9_reckons 171 = .ok (.bipush 6, 2) := by decide +kernel
theorem dX9_reckons_173 : decode cX9_reckons 173 = .ok (.iload_n 2, 1) := by decide +kernel
theorem dX9_reckons_174 : decode cX9_reckons 174 = .ok (.imul, 1) := by decide +kernel
theorem dX9_reckons_175 : decode cX9_reckons 175 = .ok (.iload 4, 2) := by decide +kernel
theorem dX9_reckons_177 : decode cX9_reckons 177 = .ok (.iadd, 1) := by decide +kernel
theorem dX9_reckons_178 : decode cX9_reckons 178 = .ok (.iaload, 1) := by decide +kernel
theorem dX9_reckons_179 : decode cX9_reckons 179 = .ok (.if_icmp .ge 8, 3) := by decide +kernel
theorem dX9_reckons_182 : decode cX9_reckons 182 = .ok (.iload 6, 2) := by decide +kernel
theorem dX9_reckons_184 : decode cX9_reckons 184 = .ok (.goto 15, 3) := by decide +kernel
theorem dX9_reckons_187 : decode cX9_reckons 187 = .ok (.aload_n 0, 1) := by decide +kernel
theorem dX9_reckons_188 : decode cX9_reckons 188 = .ok (.getfield 44, 3) := by decide +kernel
theorem dX9_reckons_191 : decode cX9_reckons 191 = .ok (.bipush 6, 2) := by decide +kernel
theorem dX9_reckons_193 : decode cX9_reckons 193 = .ok (.iload_n 2, 1) := by decide +kernel
theorem dX9_reckons_194 : decode cX9_reckons 194 = .ok (.imul, 1) := by decide +kernel
theorem dX9_reckons_195 : decode cX9_reckons 195 = .ok (.iload 4, 2) := by decide +kernel
theorem dX9_reckons_197 : decode cX9_reckons 197 = .ok (.iadd, 1) := by decide +kernel
theorem dX9_reckons_198 : decode cX9_reckons 198 = .ok (.iaload, 1) := by decide +kernel
theorem dX9_reckons_199 : decode cX9_reckons 199 = .ok (.iastore, 1) := by decide +kernel
theorem dX9_reckons_200 : decode cX9_reckons 200 = .ok (.aload_n 0, 1) := by decide +kernel
theorem dX9_reckons_201 : decode cX9_reckons 201 = .ok (.getfield 44, 3) := by decide +kernel
theorem dX9_reckons_204 : decode cX9_reckons 204 = .ok (.bipush 6, 2) := by decide +kernel
theorem dX9_reckons_206 : decode cX9_reckons 206 = .ok (.iload_n 2, 1) := by decide +kernel
theorem dX9_reckons_207 : decode cX9_reckons 207 = .ok (.imul, 1) := by decide +kernel
theorem dX9_reckons_208 : decode cX9_reckons 208 = .ok (.iload 5, 2) := by decide +kernel
theorem dX9_reckons_210 : decode cX9_reckons 210 = .ok (.iadd, 1) := by decide +kernel
theorem dX9_reckons_211 : decode cX9_reckons 211 = .ok (.iload 7, 2) := by decide +kernel
theorem dX9_reckons_213 : decode cX9_reckons 213 = .ok (.aload_n 0, 1) := by decide +kernel
theorem dX9_reckons_214 : decode cX9_reckons 214 = .ok (.getfield 44, 3) := by decide +kernel
theorem dX9_reckons_217 : decode cX9_reckons 217 = .ok (.bipush 6, 2) := by decide +kernel
theorem dX9_reckons_219 : decode cX9_reckons 219 = .ok (.iload_n 2, 1) := by decide +kernel
theorem dX9_reckons_220 : decode cX9_reckons 220 = .ok (.imul, 1) := by decide +kernel
theorem dX9_reckons_221 : decode cX9_reckons 221 = .ok (.iload 5, 2) := by decide +kernel
theorem dX9_reckons_223 : decode cX9_reckons 223 = .ok (.iadd, 1) := by decide +kernel
theorem dX9_reckons_224 : decode cX9_reckons 224 = .ok (.iaload, 1) := by decide +kernel
theorem dX9_reckons_225 : decode cX9_reckons 225 = .ok (.if_icmp .ge 8, 3) := by decide +kernel
theorem dX9_reckons_228 : decode cX9_reckons 228 = .ok (.iload 7, 2) := by decide +kernel
theorem dX9_reckons_230 : decode cX9_reckons 230 = .ok (.goto 15, 3) := by decide +kernel
theorem dX9_reckons_233 : decode cX9_reckons 233 = .ok (.aload_n 0, 1) := by decide +kernel
theorem dX9_reckons_234 : decode cX9_reckons 234 = .ok (.getfield 44, 3) := by decide +kernel
theorem dX9_reckons_237 : decode cX9_reckons 237 = .ok (.bipush 6, 2) := by decide +kernel
theorem dX9_reckons_239 : decode cX9_reckons 239 = .ok (.iload_n 2, 1) := by decide +kernel
theorem dX9_reckons_240 : decode cX9_reckons 240 = .ok (.imul, 1) := by decide +kernel
theorem dX9_reckons_241 : decode cX9_reckons 241 = .ok (.iload 5, 2) := by decide +kernel
theorem dX9_reckons_243 : decode cX9_reckons 243 = .ok (.iadd, 1) := by decide +kernel
theorem dX9_reckons_244 : decode cX9_reckons 244 = .ok (.iaload, 1) := by decide +kernel
theorem dX9_reckons_245 : decode cX9_reckons 245 = .ok (.iastore, 1) := by decide +kernel
theorem dX9_reckons_246 : decode cX9_reckons 246 = .ok (.iinc 3 1, 3) := by decide +kernel
theorem dX9_reckons_249 : decode cX9_reckons 249 = .ok (.goto (-179), 3) := by decide +kernel
theorem dX9_reckons_252 : decode cX9_reckons 252 = .ok (.iinc 2 1, 3) := by decide +kernel
theorem dX9_reckons_255 : decode cX9_reckons 255 = .ok (.goto (-221), 3) := by decide +kernel
theorem dX9_reckons_258 : decode cX9_reckons 258 = .ok (.return_, 1) := by decide +kernel
theorem dX9_pass_0 : decode cX9_pass 0 = .ok (.aload_n 0, 1) := by decide +kernel
theorem dX9_pass_1 : decode cX9_pass 1 = .ok (.iload_n 1, 1) := by decide +kernel
theorem dX9_pass_2 : decode cX9_pass 2 = .ok (.invokevirtual 114, 3) := by decide +kernel
theorem dX9_pass_5 : decode cX9_pass 5 = .ok (.ifCond .eq 20, 3) := by decide +kernel
theorem dX9_pass_8 : decode cX9_pass 8 = .ok (.aload_n 0, 1) := by decide +kernel
theorem dX9_pass_9 : decode cX9_pass 9 = .ok (.iload_n 2, 1) := by decide +kernel
theorem dX9_pass_10 : decode cX9_pass 10 = .ok (.invokevirtual 126, 3) := by decide +kernel
theorem dX9_pass_13 : decode cX9_pass 13 = .ok (.ifCond .eq 12, 3) := by decide +kernel
theorem dX9_pass_16 : decode cX9_pass 16 = .ok (.iload_n 3, 1) := by decide +kernel
theorem dX9_pass_17 : decode cX9_pass 17 = .ok (.iconst 0, 1) := by decide +kernel
theorem dX9_pass_18 : decode cX9_pass 18 = .ok (.iconst 2, 1) := by decide +kernel
theorem dX9_pass_19 : decode cX9_pass 19 = .ok (.invokestatic 54, 3) := by decide +kernel
theorem dX9_pass_22 : decode cX9_pass 22 = .ok (.ifCond .ne 5, 3) := by decide +kernel
theorem dX9_pass_25 : decode cX9_pass 25 = .ok (.iconst (-1), 1) := by decide +kernel
theorem dX9_pass_26 : decode cX9_pass 26 = .ok (.ireturn, 1) := by decide +kernel
theorem dX9_pass_27 : decode cX9_pass 27 = .ok (.aload_n 0, 1) := by decide +kernel
theorem dX9_pass_28 : decode cX9_pass 28 = .ok (.iload_n 1, 1) := by decide +kernel
theorem dX9_pass_29 : decode cX9_pass 29 = .ok (.invokevirtual 117, 3) := by decide +kernel
theorem dX9_pass_32 : decode cX9_pass 32 = .ok (.ifCond .ne 6, 3) := by decide +kernel
theorem dX9_pass_35 : decode cX9_pass 35 = .ok (.bipush (-2), 2) := by decide +kernel
theorem dX9_pass_37 : decode cX9_pass 37 = .ok (.ireturn, 1) := by decide +kernel
theorem dX9_pass_38 : decode cX9_pass 38 = .ok (.aload_n 0, 1) := by decide +kernel
theorem dX9_pass_39 : decode cX9_pass 39 = .ok (.getfield 22, 3) := by decide +kernel
theorem dX9_pass_42 : decode cX9_pass 42 = .ok (.iload_n 1, 1) := by decide +kernel
theorem dX9_pass_43 : decode cX9_pass 43 = .ok (.iaload, 1) := by decide +kernel
theorem dX9_pass_44 : decode cX9_pass 44 = .ok (.iload_n 2, 1) := by decide +kernel
theorem dX9_pass_45 : decode cX9_pass 45 = .ok (.if_icmp .ne 14, 3) := by decide +kernel
theorem dX9_pass_48 : decode cX9_pass 48 = .ok (.iload_n 3, 1) := by decide +kernel
theorem dX9_pass_49 : decode cX9_pass 49 = .ok (.ifCond .ne 7, 3) := by decide +kernel
theorem dX9_pass_52 : decode cX9_pass 52 = .ok (.iconst 0, 1) := by decide +kernel
theorem dX9_pass_53 : decode cX9_pass 53 = .ok (.goto 5, 3) := by decide +kernel
theorem dX9_pass_56 : decode cX9_pass 56 = .ok (.bipush (-9), 2) := by decide +kernel
theorem dX9_pass_58 : decode cX9_pass 58 = .ok (.ireturn, 1) := by decide +kernel
theorem dX9_pass_59 : decode cX9_pass 59 = .ok (.aload_n 0, 1) := by decide +kernel
theorem dX9_pass_60 : decode cX9_pass 60 = .ok (.iload_n 2, 1) := by decide +kernel
theorem dX9_pass_61 : decode cX9_pass 61 = .ok (.invokevirtual 178, 3) := by decide +kernel
theorem dX9_pass_64 : decode cX9_pass 64 = .ok (.aload_n 0, 1) := by decide +kernel
theorem dX9_pass_65 : decode cX9_pass 65 = .ok (.getfield 13, 3) := by decide +kernel
theorem dX9_pass_68 : decode cX9_pass 68 = .ok (.bipush 50, 2) := by decide +kernel
theorem dX9_pass_70 : decode cX9_pass 70 = .ok (.iload_n 1, 1) := by decide +kernel
theorem dX9_pass_71 : decode cX9_pass 71 = .ok (.iadd, 1) := by decide +kernel
theorem dX9_pass_72 : decode cX9_pass 72 = .ok (.iaload, 1) := by decide +kernel
theorem dX9_pass_73 : decode cX9_pass 73 = .ok (.aload_n 0, 1) := by decide +kernel
theorem dX9_pass_74 : decode cX9_pass 74 = .ok (.getfield 22, 3) := by decide +kernel
theorem dX9_pass_77 : decode cX9_pass 77 = .ok (.bipush 8, 2) := by decide +kernel
theorem dX9_pass_79 : decode cX9_pass 79 = .ok (.iload_n 1, 1) := by decide +kernel
theorem dX9_pass_80 : decode cX9_pass 80 = .ok (.iadd, 1) := by decide +kernel
theorem dX9_pass_81 : decode cX9_pass 81 = .ok (.iaload, 1) := by decide +kernel
theorem dX9_pass_82 : decode cX9_pass 82 = .ok (.isub, 1) := by decide +kernel
theorem dX9_pass_83 : decode cX9_pass 83 = .ok (.istore 4, 2) := by decide +kernel
theorem dX9_pass_85 : decode cX9_pass 85 = .ok (.iload 4, 2) := by decide +kernel
theorem dX9_pass_87 : decode cX9_pass 87 = .ok (.aload_n 0, 1) := by decide +kernel
theorem dX9_pass_88 : decode cX9_pass 88 = .ok (.getfield 22, 3) := by decide +kernel
theorem dX9_pass_91 : decode cX9_pass 91 = .ok (.iconst 4, 1) := by decide +kernel
theorem dX9_pass_92 : decode cX9_pass 92 = .ok (.iload_n 1, 1) := by decide +kernel
theorem dX9_pass_93 : decode cX9_pass 93 = .ok (.iadd, 1) := by decide +kernel
theorem dX9_pass_94 : decode cX9_pass 94 = .ok (.iaload, 1) := by decide +kernel
theorem dX9_pass_95 : decode cX9_pass 95 = .ok (.iadd, 1) := by decide +kernel
theorem dX9_pass_96 : decode cX9_pass 96 = .ok (.istore 5, 2) := by decide +kernel
theorem dX9_pass_98 : decode cX9_pass 98 = .ok (.iconst 1, 1) := by decide +kernel
theorem dX9_pass_99 : decode cX9_pass 99 = .ok (.istore 6, 2) := by decide +kernel
theorem dX9_pass_101 : decode cX9_pass 101 = .ok (.iload 6, 2) := by decide +kernel
theorem dX9_pass_103 : decode cX9_pass 103 = .ok (.bipush 7, 2) := by decide +kernel
theorem dX9_pass_105 : decode cX9_pass 105 = .ok (.if_icmp .ge 31, 3) := by decide +kernel
theorem dX9_pass_108 : decode cX9_pass 108 = .ok (.aload_n 0, 1) := by decide +kernel
theorem dX9_pass_109 : decode cX9_pass 109 = .ok (.getfield 44, 3) := by decide +kernel
theorem dX9_pass_112 : decode cX9_pass 112 = .ok (.bipush 6, 2) := by decide +kernel
theorem dX9_pass_114 : decode cX9_pass 114 = .ok (.iload 6, 2) := by decide +kernel
theorem dX9_pass_116 : decode cX9_pass 116 = .ok (.imul, 1) := by decide +kernel
theorem dX9_pass_117 : decode cX9_pass 117 = .ok (.aload_n 0, 1) := by decide +kernel
theorem dX9_pass_118 : decode cX9_pass 118 = .ok (.getfield 22, 3) := by decide +kernel
theorem dX9_pass_121 : decode cX9_pass 121 = .ok (.iload_n 1, 1) := by decide +kernel
theorem dX9_pass_122 : decode cX9_pass 122 = .ok (.iaload, 1) := by decide +kernel
theorem dX9_pass_123 : decode cX9_pass 123 = .ok (.iadd, 1) := by decide +kernel
theorem dX9_pass_124 : decode cX9_pass 124 = .ok (.iaload, 1) := by decide +kernel
theorem dX9_pass_125 : decode cX9_pass 125 = .ok (.iload 5, 2) := by decide +kernel
theorem dX9_pass_127 : decode cX9_pass 127 = .ok (.if_icmp .le 9, 3) := by decide +kernel
theorem dX9_pass_130 : decode cX9_pass 130 = .ok (.iinc 6 1, 3) := by decide +kernel
theorem dX9_pass_133 : decode cX9_pass 133 = .ok (.goto (-32), 3) := by decide +kernel
theorem dX9_pass_136 : decode cX9_pass 136 = .ok (.iload 6, 2) := by decide +kernel
theorem dX9_pass_138 : decode cX9_pass 138 = .ok (.bipush 7, 2) := by decide +kernel
theorem dX9_pass_140 : decode cX9_pass 140 = .ok (.if_icmp .ne 6, 3) := by decide +kernel
theorem dX9_pass_143 : decode cX9_pass 143 = .ok (.bipush (-9), 2) := by decide +kernel
theorem dX9_pass_145 : decode cX9_pass 145 = .ok (.ireturn, 1) := by decide +kernel
theorem dX9_pass_146 : decode cX9_pass 146 = .ok (.bipush (-9), 2) := by decide +kernel
theorem dX9_pass_148 : decode cX9_pass 148 = .ok (.istore 7, 2) := by decide +kernel
theorem dX9_pass_150 : decode cX9_pass 150 = .ok (.aload_n 0, 1) := by decide +kernel
theorem dX9_pass_151 : decode cX9_pass 151 = .ok (.getfield 13, 3) := by decide +kernel
theorem dX9_pass_154 : decode cX9_pass 154 = .ok (.iconst 1, 1) := by decide +kernel
theorem dX9_pass_155 : decode cX9_pass 155 = .ok (.iaload, 1) := by decide +kernel
theorem dX9_pass_156 : decode cX9_pass 156 = .ok (.iconst 1, 1) := by decide +kernel
theorem dX9_pass_157 : decode cX9_pass 157 = .ok (.isub, 1) := by decide +kernel
theorem dX9_pass_158 : decode cX9_pass 158 = .ok (.istore 8, 2) := by decide +kernel
theorem dX9_pass_160 : decode cX9_pass 160 = .ok (.iload 8, 2) := by decide +kernel
theorem dX9_pass_162 : decode cX9_pass 162 = .ok (.ifCond .lt 127, 3) := by decide +kernel
theorem dX9_pass_165 : decode cX9_pass 165 = .ok (.aload_n 0, 1) := by decide +kernel
theorem dX9_pass_166 : decode cX9_pass 166 = .ok (.getfield 13, 3) := by decide +kernel
theorem dX9_pass_169 : decode cX9_pass 169 = .ok (.bipush 10, 2) := by decide +kernel
theorem dX9_pass_171 : decode cX9_pass 171 = .ok (.iload 8, 2) := by decide +kernel
theorem dX9_pass_173 : decode cX9_pass 173 = .ok (.iadd, 1) := by decide +kernel
theorem dX9_pass_174 : decode cX9_pass 174 = .ok (.iaload, 1) := by decide +kernel
theorem dX9_pass_175 : decode cX9_pass 175 = .ok (.istore 9, 2) := by decide +kernel
theorem dX9_pass_177 : decode cX9_pass 177 = .ok (.aload_n 0, 1) := by decide +kernel
theorem dX9_pass_178 : decode cX9_pass 178 = .ok (.getfield 13, 3) := by decide +kernel
theorem dX9_pass_181 : decode cX9_pass 181 = .ok (.bipush 18, 2) := by decide +kernel
theorem dX9_pass_183 : decode cX9_pass 183 = .ok (.iload 8, 2) := by decide +kernel
theorem dX9_pass_185 : decode cX9_pass 185 = .ok (.iadd, 1) := by decide +kernel
theorem dX9_pass_186 : decode cX9_pass 186 = .ok (.iaload, 1) := by decide +kernel
theorem dX9_pass_187 : decode cX9_pass 187 = .ok (.istore 10, 2) := by decide +kernel
theorem dX9_pass_189 : decode cX9_pass 189 = .ok (.iload 9, 2) := by decide +kernel
theorem dX9_pass_191 : decode cX9_pass 191 = .ok (.aload_n 0, 1) := by decide +kernel
theorem dX9_pass_192 : decode cX9_pass 192 = .ok (.getfield 22, 3) := by decide +kernel
theorem dX9_pass_195 : decode cX9_pass 195 = .ok (.iload_n 1, 1) := by decide +kernel
theorem dX9_pass_196 : decode cX9_pass 196 = .ok (.iaload, 1) := by decide +kernel
theorem dX9_pass_197 : decode cX9_pass 197 = .ok (.if_icmp .ne 8, 3) := by decide +kernel
theorem dX9_pass_200 : decode cX9_pass 200 = .ok (.iload 10, 2) := by decide +kernel
theorem dX9_pass_202 : decode cX9_pass 202 = .ok (.goto 5, 3) := by decide +kernel
theorem dX9_pass_205 : decode cX9_pass 205 = .ok (.iload 9, 2) := by decide +kernel
theorem dX9_pass_207 : decode cX9_pass 207 = .ok (.istore 11, 2) := by decide +kernel
theorem dX9_pass_209 : decode cX9_pass 209 = .ok (.iload 9, 2) := by decide +kernel
theorem dX9_pass_211 : decode cX9_pass 211 = .ok (.aload_n 0, 1) := by decide +kernel
theorem dX9_pass_212 : decode cX9_pass 212 = .ok (.getfield 22, 3) := by decide +kernel
theorem dX9_pass_215 : decode cX9_pass 215 = .ok (.iload_n 1, 1) := by decide +kernel
theorem dX9_pass_216 : decode cX9_pass 216 = .ok (.iaload, 1) := by decide +kernel
theorem dX9_pass_217 : decode cX9_pass 217 = .ok (.if_icmp .eq 14, 3) := by decide +kernel
theorem dX9_pass_220 : decode cX9_pass 220 = .ok (.iload 10, 2) := by decide +kernel
theorem dX9_pass_222 : decode cX9_pass 222 = .ok (.aload_n 0, 1) := by decide +kernel
theorem dX9_pass_223 : decode cX9_pass 223 = .ok (.getfield 22, 3) := by decide +kernel
theorem dX9_pass_226 : decode cX9_pass 226 = .ok (.iload_n 1, 1) := by decide +kernel
theorem dX9_pass_227 : decode cX9_pass 227 = .ok (.iaload, 1) := by decide +kernel
theorem dX9_pass_228 : decode cX9_pass 228 = .ok (.if_icmp .ne 38, 3) := by decide +kernel
theorem dX9_pass_231 : decode cX9_pass 231 = .ok (.aload_n 0, 1) := by decide +kernel
theorem dX9_pass_232 : decode cX9_pass 232 = .ok (.getfield 13, 3) := by decide +kernel
theorem dX9_pass_235 : decode cX9_pass 235 = .ok (.bipush 26, 2) := by decide +kernel
theorem dX9_pass_237 : decode cX9_pass 237 = .ok (.iload 8, 2) := by decide +kernel
theorem dX9_pass_239 : decode cX9_pass 239 = .ok (.iadd, 1) := by decide +kernel
theorem dX9_pass_240 : decode cX9_pass 240 = .ok (.iaload, 1) := by decide +kernel
theorem dX9_pass_241 : decode cX9_pass 241 = .ok (.aload_n 0, 1) := by decide +kernel
theorem dX9_pass_242 : decode cX9_pass 242 = .ok (.getfield 44, 3) := by decide +kernel
theorem dX9_pass_245 : decode cX9_pass 245 = .ok (.bipush 6, 2) := by decide +kernel
theorem dX9_pass_247 : decode cX9_pass 247 = .ok (.iload 6, 2) := by decide +kernel
theorem dX9_pass_249 : decode cX9_pass 249 = .ok (.iconst 1, 1) := by decide +kernel
theorem dX9_pass_250 : decode cX9_pass 250 = .ok (.isub, 1) := by decide +kernel
theorem dX9_pass_251 : decode cX9_pass 251 = .ok (.imul, 1) := by decide +kernel
theorem dX9_pass_252 : decode cX9_pass 252 = .ok (.iload 11, 2) := by decide +kernel
theorem dX9_pass_254 : decode cX9_pass 254 = .ok (.iadd, 1) := by decide +kernel
theorem dX9_pass_255 : decode cX9_pass 255 = .ok (.iaload, 1) := by decide +kernel
theorem dX9_pass_256 : decode cX9_pass 256 = .ok (.iadd, 1) := by decide +kernel
theorem dX9_pass_257 : decode cX9_pass 257 = .ok (.iload 5, 2) := by decide +kernel
theorem dX9_pass_259 : decode cX9_pass 259 = .ok (.if_icmp .gt 7, 3) := by decide +kernel
theorem dX9_pass_262 : decode cX9_pass 262 = .ok (.iconst 1, 1) := by decide +kernel
theorem dX9_pass_263 : decode cX9_pass 263 = .ok (.goto 4, 3) := by decide +kernel
theorem dX9_pass_266 : decode cX9_pass 266 = .ok (.iconst 0, 1) := by decide +kernel
theorem dX9_pass_267 : decode cX9_pass 267 = .ok (.istore 12, 2) := by decide +kernel
theorem dX9_pass_269 : decode cX9_pass 269 = .ok (.iload 12, 2) := by decide +kernel
theorem dX9_pass_271 : decode cX9_pass 271 = .ok (.ifCond .eq 8, 3) := by decide +kernel
theorem dX9_pass_274 : decode cX9_pass 274 = .ok (.iload 8, 2) := by decide +kernel
theorem dX9_pass_276 : decode cX9_pass 276 = .ok (.goto 5, 3) := by decide +kernel
theorem dX9_pass_279 : decode cX9_pass 279 = .ok (.iload 7, 2) := by decide +kernel
theorem dX9_pass_281 : decode cX9_pass 281 = .ok (.istore 7, 2) := by decide +kernel
theorem dX9_pass_283 : decode cX9_pass 283 = .ok (.iinc 8 (-1), 3) := by decide +kernel
theorem dX9_pass_286 : decode cX9_pass 286 = .ok (.goto (-126), 3) := by decide +kernel
theorem dX9_pass_289 : decode cX9_pass 289 = .ok (.aload_n 0, 1) := by decide +kernel
theorem dX9_pass_290 : decode cX9_pass 290 = .ok (.getfield 13, 3) := by decide +kernel
theorem dX9_pass_293 : decode cX9_pass 293 = .ok (.bipush 26, 2) := by decide +kernel
theorem dX9_pass_295 : decode cX9_pass 295 = .ok (.iload 7, 2) := by decide +kernel
theorem dX9_pass_297 : decode cX9_pass 297 = .ok (.iadd, 1) := by decide +kernel
theorem dX9_pass_298 : decode cX9_pass 298 = .ok (.iaload, 1) := by decide +kernel
theorem dX9_pass_299 : decode cX9_pass 299 = .ok (.iload 4, 2) := by decide +kernel
theorem dX9_pass_301 : decode cX9_pass 301 = .ok (.if_icmp .le 19, 3) := by decide +kernel
theorem dX9_pass_304 : decode cX9_pass 304 = .ok (.aload_n 0, 1) := by decide +kernel
theorem dX9_pass_305 : decode cX9_pass 305 = .ok (.getfield 13, 3) := by decide +kernel
theorem dX9_pass_308 : decode cX9_pass 308 = .ok (.bipush 26, 2) := by decide +kernel
theorem dX9_pass_310 : decode cX9_pass 310 = .ok (.iload 7, 2) := by decide +kernel
theorem dX9_pass_312 : decode cX9_pass 312 = .ok (.iadd, 1) := by decide +kernel
theorem dX9_pass_313 : decode cX9_pass 313 = .ok (.iaload, 1) := by decide +kernel
theorem dX9_pass_314 : decode cX9_pass 314 = .ok (.iload 4, 2) := by decide +kernel
theorem dX9_pass_316 : decode cX9_pass 316 = .ok (.isub, 1) := by decide +kernel
theorem dX9_pass_317 : decode cX9_pass 317 = .ok (.goto 4, 3) := by decide +kernel
theorem dX9_pass_320 : decode cX9_pass 320 = .ok (.iconst 0, 1) := by decide +kernel
theorem dX9_pass_321 : decode cX9_pass 321 = .ok (.istore 8, 2) := by decide +kernel
theorem dX9_pass_323 : decode cX9_pass 323 = .ok (.iload_n 3, 1) := by decide +kernel
theorem dX9_pass_324 : decode cX9_pass 324 = .ok (.ifCond .ne 8, 3) := by decide +kernel
theorem dX9_pass_327 : decode cX9_pass 327 = .ok (.iload 6, 2) := by decide +kernel
theorem dX9_pass_329 : decode cX9_pass 329 = .ok (.goto 15, 3) := by decide +kernel
theorem dX9_pass_332 : decode cX9_pass 332 = .ok (.iload_n 3, 1) := by decide +kernel
theorem dX9_pass_333 : decode cX9_pass 333 = .ok (.iconst 1, 1) := by decide +kernel
theorem dX9_pass_334 : decode cX9_pass 334 = .ok (.if_icmp .ne 8, 3) := by decide +kernel
theorem dX9_pass_337 : decode cX9_pass 337 = .ok (.iload 7, 2) := by decide +kernel
theorem dX9_pass_339 : decode cX9_pass 339 = .ok (.goto 5, 3) := by decide +kernel
theorem dX9_pass_342 : decode cX9_pass 342 = .ok (.iload 8, 2) := by decide +kernel
theorem dX9_pass_344 : decode cX9_pass 344 = .ok (.ireturn, 1) := by decide +kernel
theorem dX9_ring_0 : decode cX9_ring 0 = .ok (.iload_n 1, 1) := by decide +kernel
theorem dX9_ring_1 : decode cX9_ring 1 = .ok (.bipush (-2), 2) := by decide +kernel
theorem dX9_ring_3 : decode cX9_ring 3 = .ok (.iconst 5, 1) := by decide +kernel
theorem dX9_ring_4 : decode cX9_ring 4 = .ok (.invokestatic 54, 3) := by decide +kernel
theorem dX9_ring_7 : decode cX9_ring 7 = .ok (.ifCond .ne 5, 3) := by decide +kernel
theorem dX9_ring_10 : decode cX9_ring 10 = .ok (.iconst (-1), 1) := by decide +kernel
theorem dX9_ring_11 : decode cX9_ring 11 = .ok (.ireturn, 1) := by decide +kernel
theorem dX9_ring_12 : decode cX9_ring 12 = .ok (.aload_n 0, 1) := by decide +kernel
theorem dX9_ring_13 : decode cX9_ring 13 = .ok (.invokevirtual 162, 3) := by decide +kernel
theorem dX9_ring_16 : decode cX9_ring 16 = .ok (.aload_n 0, 1) := by decide +kernel
theorem dX9_ring_17 : decode cX9_ring 17 = .ok (.getfield 153, 3) := by decide +kernel
theorem dX9_ring_20 : decode cX9_ring 20 = .ok (.ifCond .ne 6, 3) := by decide +kernel
theorem dX9_ring_23 : decode cX9_ring 23 = .ok (.bipush (-9), 2) := by decide +kernel
theorem dX9_ring_25 : decode cX9_ring 25 = .ok (.ireturn, 1) := by decide +kernel
theorem dX9_ring_26 : decode cX9_ring 26 = .ok (.iload_n 1, 1) := by decide +kernel
theorem dX9_ring_27 : decode cX9_ring 27 = .ok (.iconst (-1), 1) := by decide +kernel
theorem dX9_ring_28 : decode cX9_ring 28 = .ok (.if_icmp .ne 10, 3) := by decide +kernel
theorem dX9_ring_31 : decode cX9_ring 31 = .ok (.aload_n 0, 1) := by decide +kernel
theorem dX9_ring_32 : decode cX9_ring 32 = .ok (.getfield 153, 3) := by decide +kernel
theorem dX9_ring_35 : decode cX9_ring 35 = .ok (.goto 35, 3) := by decide +kernel
theorem dX9_ring_38 : decode cX9_ring 38 = .ok (.iload_n 1, 1) := by decide +kernel
theorem dX9_ring_39 : decode cX9_ring 39 = .ok (.bipush (-2), 2) := by decide +kernel
theorem dX9_ring_41 : decode cX9_ring 41 = .ok (.if_icmp .ne 10, 3) := by decide +kernel
theorem dX9_ring_44 : decode cX9_ring 44 = .ok (.aload_n 0, 1) := by decide +kernel
theorem dX9_ring_45 : decode cX9_ring 45 = .ok (.getfield 150, 3) := by decide +kernel
theorem dX9_ring_48 : decode cX9_ring 48 = .ok (.goto 22, 3) := by decide +kernel
theorem dX9_ring_51 : decode cX9_ring 51 = .ok (.iload_n 1, 1) := by decide +kernel
theorem dX9_ring_52 : decode cX9_ring 52 = .ok (.aload_n 0, 1) := by decide +kernel
theorem dX9_ring_53 : decode cX9_ring 53 = .ok (.getfield 153, 3) := by decide +kernel
theorem dX9_ring_56 : decode cX9_ring 56 = .ok (.if_icmp .ge 12, 3) := by decide +kernel
theorem dX9_ring_59 : decode cX9_ring 59 = .ok (.aload_n 0, 1) := by decide +kernel
theorem dX9_ring_60 : decode cX9_ring 60 = .ok (.getfield 38, 3) := by decide +kernel
theorem dX9_ring_63 : decode cX9_ring 63 = .ok (.iload_n 1, 1) := by decide +kernel
theorem dX9_ring_64 : decode cX9_ring 64 = .ok (.iaload, 1) := by decide +kernel
theorem dX9_ring_65 : decode cX9_ring 65 = .ok (.goto 5, 3) := by decide +kernel
theorem dX9_ring_68 : decode cX9_ring 68 = .ok (.bipush (-9), 2) := by decide +kernel
theorem dX9_ring_70 : decode cX9_ring 70 = .ok (.ireturn, 1) := by decide +kernel
theorem dX9_safe_0 : decode cX9_safe 0 = .ok (.aload_n 0, 1) := by decide +kernel
theorem dX9_safe_1 : decode cX9_safe 1 = .ok (.iload_n 1, 1) := by decide +kernel
theorem dX9_safe_2 : decode cX9_safe 2 = .ok (.invokevirtual 114, 3) := by decide +kernel
theorem dX9_safe_5 : decode cX9_safe 5 = .ok (.ifCond .eq 55, 3) := by decide +kernel
theorem dX9_safe_8 : decode cX9_safe 8 = .ok (.iload_n 2, 1) := by decide +kernel
theorem dX9_safe_9 : decode cX9_safe 9 = .ok (.iconst 0, 1) := by decide +kernel
theorem dX9_safe_10 : decode cX9_safe 10 = .ok (.bipush 9, 2) := by decide +kernel
theorem dX9_safe_12 : decode cX9_safe 12 = .ok (.invokestatic 54, 3) := by decide +kernel
theorem dX9_safe_15 : decode cX9_safe 15 = .ok (.ifCond .eq 45, 3) := by decide +kernel
theorem dX9_safe_18 : decode cX9_safe 18 = .ok (.iload_n 3, 1) := by decide +kernel
theorem dX9_safe_19 : decode cX9_safe 19 = .ok (.iconst 0, 1) := by decide +kernel
theorem dX9_safe_20 : decode cX9_safe 20 = .ok (.bipush 9, 2) := by decide +kernel
theorem dX9_safe_22 : decode cX9_safe 22 = .ok (.invokestatic 54, 3) := by decide +kernel
theorem dX9_safe_25 : decode cX9_safe 25 = .ok (.ifCond .eq 35, 3) := by decide +kernel
theorem dX9_safe_28 : decode cX9_safe 28 = .ok (.iload 4, 2) := by decide +kernel
theorem dX9_safe_30 : decode cX9_safe 30 = .ok (.iconst 0, 1) := by decide +kernel
theorem dX9_safe_31 : decode cX9_safe 31 = .ok (.bipush 6, 2) := by decide +kernel
theorem dX9_safe_33 : decode cX9_safe 33 = .ok (.invokestatic 54, 3) := by decide +kernel
theorem dX9_safe_36 : decode cX9_safe 36 = .ok (.ifCond .eq 24, 3) := by decide +kernel
theorem dX9_safe_39 : decode cX9_safe 39 = .ok (.iload 5, 2) := by decide +kernel
theorem dX9_safe_41 : decode cX9_safe 41 = .ok (.iconst 0, 1) := by decide +kernel
theorem dX9_safe_42 : decode cX9_safe 42 = .ok (.bipush 10, 2) := by decide +kernel
theorem dX9_safe_44 : decode cX9_safe 44 = .ok (.invokestatic 54, 3) := by decide +kernel
theorem dX9_safe_47 : decode cX9_safe 47 = .ok (.ifCond .eq 13, 3) := by decide +kernel
theorem dX9_safe_50 : decode cX9_safe 50 = .ok (.iload 6, 2) := by decide +kernel
theorem dX9_safe_52 : decode cX9_safe 52 = .ok (.iconst 0, 1) := by decide +kernel
theorem dX9_safe_53 : decode cX9_safe 53 = .ok (.iconst 1, 1) := by decide +kernel
theorem dX9_safe_54 : decode cX9_safe 54 = .ok (.invokestatic 54, 3) := by decide +kernel
theorem dX9_safe_57 : decode cX9_safe 57 = .ok (.ifCond .ne 5, 3) := by decide +kernel
theorem dX9_safe_60 : decode cX9_safe 60 = .ok (.iconst (-1), 1) := by decide +kernel
theorem dX9_safe_61 : decode cX9_safe 61 = .ok (.ireturn, 1) := by decide +kernel
theorem dX9_safe_62 : decode cX9_safe 62 = .ok (.aload_n 0, 1) := by decide +kernel
theorem dX9_safe_63 : decode cX9_safe 63 = .ok (.iload_n 1, 1) := by decide +kernel
theorem dX9_safe_64 : decode cX9_safe 64 = .ok (.invokevirtual 117, 3) := by decide +kernel
theorem dX9_safe_67 : decode cX9_safe 67 = .ok (.ifCond .ne 6, 3) := by decide +kernel
theorem dX9_safe_70 : decode cX9_safe 70 = .ok (.bipush (-2), 2) := by decide +kernel
theorem dX9_safe_72 : decode cX9_safe 72 = .ok (.ireturn, 1) := by decide +kernel
theorem dX9_safe_73 : decode cX9_safe 73 = .ok (.iconst 0, 1) := by decide +kernel
theorem dX9_safe_74 : decode cX9_safe 74 = .ok (.istore 7, 2) := by decide +kernel
theorem dX9_safe_76 : decode cX9_safe 76 = .ok (.iconst 1, 1) := by decide +kernel
theorem dX9_safe_77 : decode cX9_safe 77 = .ok (.istore 8, 2) := by decide +kernel
theorem dX9_safe_79 : decode cX9_safe 79 = .ok (.iconst 0, 1) := by decide +kernel
theorem dX9_safe_80 : decode cX9_safe 80 = .ok (.istore 9, 2) := by decide +kernel
theorem dX9_safe_82 : decode cX9_safe 82 = .ok (.iload 9, 2) := by decide +kernel
theorem dX9_safe_84 : decode cX9_safe 84 = .ok (.iload 4, 2) := by decide +kernel
theorem dX9_safe_86 : decode cX9_safe 86 = .ok (.if_icmp .ge 16, 3) := by decide +kernel
theorem dX9_safe_89 : decode cX9_safe 89 = .ok (.iload 8, 2) := by decide +kernel
theorem dX9_safe_91 : decode cX9_safe 91 = .ok (.bipush 10, 2) := by decide +kernel
theorem dX9_safe_93 : decode cX9_safe 93 = .ok (.imul, 1) := by decide +kernel
theorem dX9_safe_94 : decode cX9_safe 94 = .ok (.istore 8, 2) := by decide +kernel
theorem dX9_safe_96 : decode cX9_safe 96 = .ok (.iinc 9 1, 3) := by decide +kernel
theorem dX9_safe_99 : decode cX9_safe 99 = .ok (.goto (-17), 3) := by decide +kernel
theorem dX9_safe_102 : decode cX9_safe 102 = .ok (.iconst 0, 1) := by decide +kernel
theorem dX9_safe_103 : decode cX9_safe 103 = .ok (.istore 9, 2) := by decide +kernel
theorem dX9_safe_105 : decode cX9_safe 105 = .ok (.iload 9, 2) := by decide +kernel
theorem dX9_safe_107 : decode cX9_safe 107 = .ok (.iconst 1, 1) := by decide +kernel
theorem dX9_safe_108 : decode cX9_safe 108 = .ok (.iload 4, 2) := by decide +kernel
theorem dX9_safe_110 : decode cX9_safe 110 = .ok (.ishl, 1) := by decide +kernel
theorem dX9_safe_111 : decode cX9_safe 111 = .ok (.if_icmp .ge 111, 3) := by decide +kernel
theorem dX9_safe_114 : decode cX9_safe 114 = .ok (.iconst 1, 1) := by decide +kernel
theorem dX9_safe_115 : decode cX9_safe 115 = .ok (.istore 10, 2) := by decide +kernel
theorem dX9_safe_117 : decode cX9_safe 117 = .ok (.aload_n 0, 1) := by decide +kernel
theorem dX9_safe_118 : decode cX9_safe 118 = .ok (.getfield 22, 3) := by decide +kernel
theorem dX9_safe_121 : decode cX9_safe 121 = .ok (.bipush 8, 2) := by decide +kernel
theorem dX9_safe_123 : decode cX9_safe 123 = .ok (.iload_n 1, 1) := by decide +kernel
theorem dX9_safe_124 : decode cX9_safe 124 = .ok (.iadd, 1) := by decide +kernel
theorem dX9_safe_125 : decode cX9_safe 125 = .ok (.iaload, 1) := by decide +kernel
theorem dX9_safe_126 : decode cX9_safe 126 = .ok (.istore 11, 2) := by decide +kernel
theorem dX9_safe_128 : decode cX9_safe 128 = .ok (.iconst 0, 1) := by decide +kernel
theorem dX9_safe_129 : decode cX9_safe 129 = .ok (.istore 12, 2) := by decide +kernel
theorem dX9_safe_131 : decode cX9_safe 131 = .ok (.iload 12, 2) := by decide +kernel
theorem dX9_safe_133 : decode cX9_safe 133 = .ok (.iload 4, 2) := by decide +kernel
theorem dX9_safe_135 : decode cX9_safe 135 = .ok (.if_icmp .ge 56, 3) := by decide +kernel
theorem dX9_safe_138 : decode cX9_safe 138 = .ok (.iload 10, 2) := by decide +kernel
theorem dX9_safe_140 : decode cX9_safe 140 = .ok (.iload 9, 2) := by decide +kernel
theorem dX9_safe_142 : decode cX9_safe 142 = .ok (.iload 12, 2) := by decide +kernel
theorem dX9_safe_144 : decode cX9_safe 144 = .ok (.invokestatic 111, 3) := by decide +kernel
theorem dX9_safe_147 : decode cX9_safe 147 = .ok (.ifCond .eq 8, 3) := by decide +kernel
theorem dX9_safe_150 : decode cX9_safe 150 = .ok (.iload 5, 2) := by decide +kernel
theorem dX9_safe_152 : decode cX9_safe 152 = .ok (.goto 8, 3) := by decide +kernel
theorem dX9_safe_155 : decode cX9_safe 155 = .ok (.bipush 10, 2) := by decide +kernel
theorem dX9_safe_157 : decode cX9_safe 157 = .ok (.iload 5, 2) := by decide +kernel
theorem dX9_safe_159 : decode cX9_safe 159 = .ok (.isub, 1) := by decide +kernel
theorem dX9_safe_160 : decode cX9_safe 160 = .ok (.imul, 1) := by decide +kernel
theorem dX9_safe_161 : decode cX9_safe 161 = .ok (.istore 10, 2) := by decide +kernel
theorem dX9_safe_163 : decode cX9_safe 163 = .ok (.iload 11, 2) := by decide +kernel
theorem dX9_safe_165 : decode cX9_safe 165 = .ok (.iload 9, 2) := by decide +kernel
theorem dX9_safe_167 : decode cX9_safe 167 = .ok (.iload 12, 2) := by decide +kernel
theorem dX9_safe_169 : decode cX9_safe 169 = .ok (.invokestatic 111, 3) := by decide +kernel
theorem dX9_safe_172 : decode cX9_safe 172 = .ok (.ifCond .eq 9, 3) := by decide +kernel
theorem dX9_safe_175 : decode cX9_safe 175 = .ok (.iload_n 2, 1) := by decide +kernel
theorem dX9_safe_176 : decode cX9_safe 176 = .ok (.iload_n 3, 1) := by decide +kernel
theorem dX9_safe_177 : decode cX9_safe 177 = .ok (.iadd, 1) := by decide +kernel
theorem dX9_safe_178 : decode cX9_safe 178 = .ok (.goto 4, 3) := by decide +kernel
theorem dX9_safe_181 : decode cX9_safe 181 = .ok (.iload_n 2, 1) := by decide +kernel
theorem dX9_safe_182 : decode cX9_safe 182 = .ok (.iadd, 1) := by decide +kernel
theorem dX9_safe_183 : decode cX9_safe 183 = .ok (.istore 11, 2) := by decide +kernel
theorem dX9_safe_185 : decode cX9_safe 185 = .ok (.iinc 12 1, 3) := by decide +kernel
theorem dX9_safe_188 : decode cX9_safe 188 = .ok (.goto (-57), 3) := by decide +kernel
theorem dX9_safe_191 : decode cX9_safe 191 = .ok (.iload 7, 2) := by decide +kernel
theorem dX9_safe_193 : decode cX9_safe 193 = .ok (.iload 11, 2) := by decide +kernel
theorem dX9_safe_195 : decode cX9_safe 195 = .ok (.aload_n 0, 1) := by decide +kernel
theorem dX9_safe_196 : decode cX9_safe 196 = .ok (.getfield 13, 3) := by decide +kernel
theorem dX9_safe_199 : decode cX9_safe 199 = .ok (.bipush 50, 2) := by decide +kernel
theorem dX9_safe_201 : decode cX9_safe 201 = .ok (.iload_n 1, 1) := by decide +kernel
theorem dX9_safe_202 : decode cX9_safe 202 = .ok (.iadd, 1) := by decide +kernel
theorem dX9_safe_203 : decode cX9_safe 203 = .ok (.iaload, 1) := by decide +kernel
theorem dX9_safe_204 : decode cX9_safe 204 = .ok (.if_icmp .gt 8, 3) := by decide +kernel
theorem dX9_safe_207 : decode cX9_safe 207 = .ok (.iload 10, 2) := by decide +kernel
theorem dX9_safe_209 : decode cX9_safe 209 = .ok (.goto 4, 3) := by decide +kernel
theorem dX9_safe_212 : decode cX9_safe 212 = .ok (.iconst 0, 1) := by decide +kernel
theorem dX9_safe_213 : decode cX9_safe 213 = .ok (.iadd, 1) := by decide +kernel
theorem dX9_safe_214 : decode cX9_safe 214 = .ok (.istore 7, 2) := by decide +kernel
theorem dX9_safe_216 : decode cX9_safe 216 = .ok (.iinc 9 1, 3) := by decide +kernel
theorem dX9_safe_219 : decode cX9_safe 219 = .ok (.goto (-114), 3) := by decide +kernel
theorem dX9_safe_222 : decode cX9_safe 222 = .ok (.iload 7, 2) := by decide +kernel
theorem dX9_safe_224 : decode cX9_safe 224 = .ok (.istore 9, 2) := by decide +kernel
theorem dX9_safe_226 : decode cX9_safe 226 = .ok (.iload 8, 2) := by decide +kernel
theorem dX9_safe_228 : decode cX9_safe 228 = .ok (.istore 10, 2) := by decide +kernel
theorem dX9_safe_230 : decode cX9_safe 230 = .ok (.iload 10, 2) := by decide +kernel
theorem dX9_safe_232 : decode cX9_safe 232 = .ok (.ifCond .le 21, 3) := by decide +kernel
theorem dX9_safe_235 : decode cX9_safe 235 = .ok (.iload 9, 2) := by decide +kernel
theorem dX9_safe_237 : decode cX9_safe 237 = .ok (.iload 10, 2) := by decide +kernel
theorem dX9_safe_239 : decode cX9_safe 239 = .ok (.irem, 1) := by decide +kernel
theorem dX9_safe_240 : decode cX9_safe 240 = .ok (.istore 11, 2) := by decide +kernel
theorem dX9_safe_242 : decode cX9_safe 242 = .ok (.iload 10, 2) := by decide +kernel
theorem dX9_safe_244 : decode cX9_safe 244 = .ok (.istore 9, 2) := by decide +kernel
theorem dX9_safe_246 : decode cX9_safe 246 = .ok (.iload 11, 2) := by decide +kernel
theorem dX9_safe_248 : decode cX9_safe 248 = .ok (.istore 10, 2) := by decide +kernel
theorem dX9_safe_250 : decode cX9_safe 250 = .ok (.goto (-20), 3) := by decide +kernel
theorem dX9_safe_253 : decode cX9_safe 253 = .ok (.iload 6, 2) := by decide +kernel
theorem dX9_safe_255 : decode cX9_safe 255 = .ok (.ifCond .ne 11, 3) := by decide +kernel
theorem dX9_safe_258 : decode cX9_safe 258 = .ok (.iload 7, 2) := by decide +kernel
theorem dX9_safe_260 : decode cX9_safe 260 = .ok (.iload 9, 2) := by decide +kernel
theorem dX9_safe_262 : decode cX9_safe 262 = .ok (.idiv, 1) := by decide +kernel
theorem dX9_safe_263 : decode cX9_safe 263 = .ok (.goto 8, 3) := by decide +kernel
theorem dX9_safe_266 : decode cX9_safe 266 = .ok (.iload 8, 2) := by decide +kernel
theorem dX9_safe_268 : decode cX9_safe 268 = .ok (.iload 9, 2) := by decide +kernel
theorem dX9_safe_270 : decode cX9_safe 270 = .ok (.idiv, 1) := by decide +kernel
theorem dX9_safe_271 : decode cX9_safe 271 = .ok (.ireturn, 1) := by decide +kernel
theorem dX9_hears_0 : decode cX9_hears 0 = .ok (.aload_n 0, 1) := by decide +kernel
theorem dX9_hears_1 : decode cX9_hears 1 = .ok (.iload_n 1, 1) := by decide +kernel
theorem dX9_hears_2 : decode cX9_hears 2 = .ok (.invokevirtual 114, 3) := by decide +kernel
theorem dX9_hears_5 : decode cX9_hears 5 = .ok (.ifCond .eq 32, 3) := by decide +kernel
theorem dX9_hears_8 : decode cX9_hears 8 = .ok (.aload_n 0, 1) := by decide +kernel
theorem dX9_hears_9 : decode cX9_hears 9 = .ok (.iload_n 2, 1) := by decide +kernel
theorem dX9_hears_10 : decode cX9_hears 10 = .ok (.invokevirtual 108, 3) := by decide +kernel
theorem dX9_hears_13 : decode cX9_hears 13 = .ok (.ifCond .eq 24, 3) := by decide +kernel
theorem dX9_hears_16 : decode cX9_hears 16 = .ok (.iload_n 3, 1) := by decide +kernel
theorem dX9_hears_17 : decode cX9_hears 17 = .ok (.iconst 0, 1) := by decide +kernel
theorem dX9_hears_18 : decode cX9_hears 18 = .ok (.bipush 9, 2) := by decide +kernel
theorem dX9_hears_20 : decode cX9_hears 20 = .ok (.invokestatic 54, 3) := by decide +kernel
theorem dX9_hears_23 : decode cX9_hears 23 = .ok (.ifCond .eq 14, 3) := by decide +kernel
theorem dX9_hears_26 : decode cX9_hears 26 = .ok (.iload 4, 2) := by decide +kernel
theorem dX9_hears_28 : decode cX9_hears 28 = .ok (.iconst 0, 1) := by decide +kernel
theorem dX9_hears_29 : decode cX9_hears 29 = .ok (.bipush 9, 2) := by decide +kernel
theorem dX9_hears_31 : decode cX9_hears 31 = .ok (.invokestatic 54, 3) := by decide +kernel
theorem dX9_hears_34 : decode cX9_hears 34 = .ok (.ifCond .ne 5, 3) := by decide +kernel
theorem dX9_hears_37 : decode cX9_hears 37 = .ok (.iconst (-1), 1) := by decide +kernel
theorem dX9_hears_38 : decode cX9_hears 38 = .ok (.ireturn, 1) := by decide +kernel
theorem dX9_hears_39 : decode cX9_hears 39 = .ok (.aload_n 0, 1) := by decide +kernel
theorem dX9_hears_40 : decode cX9_hears 40 = .ok (.getfield 105, 3) := by decide +kernel
theorem dX9_hears_43 : decode cX9_hears 43 = .ok (.bipush 6, 2) := by decide +kernel
theorem dX9_hears_45 : decode cX9_hears 45 = .ok (.if_icmp .ne 6, 3) := by decide +kernel
theorem dX9_hears_48 : decode cX9_hears 48 = .ok (.bipush (-3), 2) := by decide +kernel
theorem dX9_hears_50 : decode cX9_hears 50 = .ok (.ireturn, 1) := by decide +kernel
theorem dX9_hears_51 : decode cX9_hears 51 = .ok (.aload_n 0, 1) := by decide +kernel
theorem dX9_hears_52 : decode cX9_hears 52 = .ok (.getfield 32, 3) := by decide +kernel
theorem dX9_hears_55 : decode cX9_hears 55 = .ok (.aload_n 0, 1) := by decide +kernel
theorem dX9_hears_56 : decode cX9_hears 56 = .ok (.getfield 105, 3) := by decide +kernel
theorem dX9_hears_59 : decode cX9_hears 59 = .ok (.bipush 100, 2) := by decide +kernel
theorem dX9_hears_61 : decode cX9_hears 61 = .ok (.iload_n 1, 1) := by decide +kernel
theorem dX9_hears_62 : decode cX9_hears 62 = .ok (.imul, 1) := by decide +kernel
theorem dX9_hears_63 : decode cX9_hears 63 = .ok (.bipush 50, 2) := by decide +kernel
theorem dX9_hears_65 : decode cX9_hears 65 = .ok (.iadd, 1) := by decide +kernel
theorem dX9_hears_66 : decode cX9_hears 66 = .ok (.aload_n 0, 1) := by decide +kernel
theorem dX9_hears_67 : decode cX9_hears 67 = .ok (.getfield 13, 3) := by decide +kernel
theorem dX9_hears_70 : decode cX9_hears 70 = .ok (.bipush 26, 2) := by decide +kernel
theorem dX9_hears_72 : decode cX9_hears 72 = .ok (.iload_n 2, 1) := by decide +kernel
theorem dX9_hears_73 : decode cX9_hears 73 = .ok (.iadd, 1) := by decide +kernel
theorem dX9_hears_74 : decode cX9_hears 74 = .ok (.iaload, 1) := by decide +kernel
theorem dX9_hears_75 : decode cX9_hears 75 = .ok (.iadd, 1) := by decide +kernel
theorem dX9_hears_76 : decode cX9_hears 76 = .ok (.iload_n 3, 1) := by decide +kernel
theorem dX9_hears_77 : decode cX9_hears 77 = .ok (.isub, 1) := by decide +kernel
theorem dX9_hears_78 : decode cX9_hears 78 = .ok (.iload 4, 2) := by decide +kernel
theorem dX9_hears_80 : decode cX9_hears 80 = .ok (.isub, 1) := by decide +kernel
theorem dX9_hears_81 : decode cX9_hears 81 = .ok (.iastore, 1) := by decide +kernel
theorem dX9_hears_82 : decode cX9_hears 82 = .ok (.aload_n 0, 1) := by decide +kernel
theorem dX9_hears_83 : decode cX9_hears 83 = .ok (.dup, 1) := by decide +kernel
theorem dX9_hears_84 : decode cX9_hears 84 = .ok (.getfield 105, 3) := by decide +kernel
theorem dX9_hears_87 : decode cX9_hears 87 = .ok (.iconst 1, 1) := by decide +kernel
theorem dX9_hears_88 : decode cX9_hears 88 = .ok (.iadd, 1) := by decide +kernel
theorem dX9_hears_89 : decode cX9_hears 89 = .ok (.putfield 105, 3) := by decide +kernel
theorem dX9_hears_92 : decode cX9_hears 92 = .ok (.aload_n 0, 1) := by decide +kernel
theorem dX9_hears_93 : decode cX9_hears 93 = .ok (.getfield 105, 3) := by decide +kernel
theorem dX9_hears_96 : decode cX9_hears 96 = .ok (.ireturn, 1) := by decide +kernel
theorem dX9_forget_0 : decode cX9_forget 0 = .ok (.aload_n 0, 1) := by decide +kernel
theorem dX9_forget_1 : decode cX9_forget 1 = .ok (.getfield 105, 3) := by decide +kernel
theorem dX9_forget_4 : decode cX9_forget 4 = .ok (.istore_n 1, 1) := by decide +kernel
theorem dX9_forget_5 : decode cX9_forget 5 = .ok (.aload_n 0, 1) := by decide +kernel
theorem dX9_forget_6 : decode cX9_forget 6 = .ok (.iconst 0, 1) := by decide +kernel
theorem dX9_forget_7 : decode cX9_forget 7 = .ok (.putfield 105, 3) := by decide +kernel
theorem dX9_forget_10 : decode cX9_forget 10 = .ok (.iload_n 1, 1) := by decide +kernel
theorem dX9_forget_11 : decode cX9_forget 11 = .ok (.ireturn, 1) := by decide +kernel
theorem dX9_stones_0 : decode cX9_stones 0 = .ok (.iload_n 1, 1) := by decide +kernel
theorem dX9_stones_1 : decode cX9_stones 1 = .ok (.iconst 0, 1) := by decide +kernel
theorem dX9_stones_2 : decode cX9_stones 2 = .ok (.iconst 1, 1) := by decide +kernel
theorem dX9_stones_3 : decode cX9_stones 3 = .ok (.invokestatic 54, 3) := by decide +kernel
theorem dX9_stones_6 : decode cX9_stones 6 = .ok (.ifCond .ne 5, 3) := by decide +kernel
theorem dX9_stones_9 : decode cX9_stones 9 = .ok (.iconst (-1), 1) := by decide +kernel
theorem dX9_stones_10 : decode cX9_stones 10 = .ok (.ireturn, 1) := by decide +kernel
theorem dX9_stones_11 : decode cX9_stones 11 = .ok (.iconst 0, 1) := by decide +kernel
theorem dX9_stones_12 : decode cX9_stones 12 = .ok (.istore_n 2, 1) := by decide +kernel
theorem dX9_stones_13 : decode cX9_stones 13 = .ok (.iconst 0, 1) := by decide +kernel
theorem dX9_stones_14 : decode cX9_stones 14 = .ok (.istore_n 3, 1) := by decide +kernel
theorem dX9_stones_15 : decode cX9_stones 15 = .ok (.iload_n 3, 1) := by decide +kernel
theorem dX9_stones_16 : decode cX9_stones 16 = .ok (.aload_n 0, 1) := by decide +kernel
theorem dX9_stones_17 : decode cX9_stones 17 = .ok (.getfield 105, 3) := by decide +kernel
theorem dX9_stones_20 : decode cX9_stones 20 = .ok (.if_icmp .ge 77, 3) := by decide +kernel
theorem dX9_stones_23 : decode cX9_stones 23 = .ok (.aload_n 0, 1) := by decide +kernel
theorem dX9_stones_24 : decode cX9_stones 24 = .ok (.getfield 32, 3) := by decide +kernel
theorem dX9_stones_27 : decode cX9_stones 27 = .ok (.iload_n 3, 1) := by decide +kernel
theorem dX9_stones_28 : decode cX9_stones 28 = .ok (.iaload, 1) := by decide +kernel
theorem dX9_stones_29 : decode cX9_stones 29 = .ok (.bipush 100, 2) := by decide +kernel
theorem dX9_stones_31 : decode cX9_stones 31 = .ok (.irem, 1) := by decide +kernel
theorem dX9_stones_32 : decode cX9_stones 32 = .ok (.bipush 50, 2) := by decide +kernel
theorem dX9_stones_34 : decode cX9_stones 34 = .ok (.isub, 1) := by decide +kernel
theorem dX9_stones_35 : decode cX9_stones 35 = .ok (.istore 4, 2) := by decide +kernel
theorem dX9_stones_37 : decode cX9_stones 37 = .ok (.iload_n 1, 1) := by decide +kernel
theorem dX9_stones_38 : decode cX9_stones 38 = .ok (.ifCond .ne 13, 3) := by decide +kernel
theorem dX9_stones_41 : decode cX9_stones 41 = .ok (.iload 4, 2) := by decide +kernel
theorem dX9_stones_43 : decode cX9_stones 43 = .ok (.iconst 1, 1) := by decide +kernel
theorem dX9_stones_44 : decode cX9_stones 44 = .ok (.iconst 3, 1) := by decide +kernel
theorem dX9_stones_45 : decode cX9_stones 45 = .ok (.invokestatic 54, 3) := by decide +kernel
theorem dX9_stones_48 : decode cX9_stones 48 = .ok (.goto 18, 3) := by decide +kernel
theorem dX9_stones_51 : decode cX9_stones 51 = .ok (.iload 4, 2) := by decide +kernel
theorem dX9_stones_53 : decode cX9_stones 53 = .ok (.iconst 0, 1) := by decide +kernel
theorem dX9_stones_54 : decode cX9_stones 54 = .ok (.iconst 3, 1) := by decide +kernel
theorem dX9_stones_55 : decode cX9_stones 55 = .ok (.invokestatic 54, 3) := by decide +kernel
theorem dX9_stones_58 : decode cX9_stones 58 = .ok (.ifCond .ne 7, 3) := by decide +kernel
theorem dX9_stones_61 : decode cX9_stones 61 = .ok (.iconst 1, 1) := by decide +kernel
theorem dX9_stones_62 : decode cX9_stones 62 = .ok (.goto 4, 3) := by decide +kernel
theorem dX9_stones_65 : decode cX9_stones 65 = .ok (.iconst 0, 1) := by decide +kernel
theorem dX9_stones_66 : decode cX9_stones 66 = .ok (.istore 5, 2) := by decide +kernel
theorem dX9_stones_68 : decode cX9_stones 68 = .ok (.iload_n 2, 1) := by decide +kernel
theorem dX9_stones_69 : decode cX9_stones 69 = .ok (.iload 5, 2) := by decide +kernel
theorem dX9_stones_71 : decode cX9_stones 71 = .ok (.ifCond .eq 17, 3) := by decide +kernel
theorem dX9_stones_74 : decode cX9_stones 74 = .ok (.iconst 1, 1) := by decide +kernel
theorem dX9_stones_75 : decode cX9_stones 75 = .ok (.aload_n 0, 1) := by decide +kernel
theorem dX9_stones_76 : decode cX9_stones 76 = .ok (.getfield 32, 3) := by decide +kernel
theorem dX9_stones_79 : decode cX9_stones 79 = .ok (.iload_n 3, 1) := by decide +kernel
theorem dX9_stones_80 : decode cX9_stones 80 = .ok (.iaload, 1) := by decide +kernel
theorem dX9_stones_81 : decode cX9_stones 81 = .ok (.bipush 100, 2) := by decide +kernel
theorem dX9_stones_83 : decode cX9_stones 83 = .ok (.idiv, 1) := by decide +kernel
theorem dX9_stones_84 : decode cX9_stones 84 = .ok (.ishl, 1) := by decide +kernel
theorem dX9_stones_85 : decode cX9_stones 85 = .ok (.goto 4, 3) := by decide +kernel
theorem dX9_stones_88 : decode cX9_stones 88 = .ok (.iconst 0, 1) := by decide +kernel
theorem dX9_stones_89 : decode cX9_stones 89 = .ok (.ior, 1) := by decide +kernel
theorem dX9_stones_90 : decode cX9_stones 90 = .ok (.istore_n 2, 1) := by decide +kernel
theorem dX9_stones_91 : decode cX9_stones 91 = .ok (.iinc 3 1, 3) := by decide +kernel
theorem dX9_stones_94 : decode cX9_stones 94 = .ok (.goto (-79), 3) := by decide +kernel
theorem dX9_stones_97 : decode cX9_stones 97 = .ok (.iload_n 2, 1) := by decide +kernel
theorem dX9_stones_98 : decode cX9_stones 98 = .ok (.ireturn, 1) := by decide +kernel
theorem dX9_mark_0 : decode cX9_mark 0 = .ok (.iload_n 1, 1) := by decide +kernel
theorem dX9_mark_1 : decode cX9_mark 1 = .ok (.iconst 0, 1) := by decide +kernel
theorem dX9_mark_2 : decode cX9_mark 2 = .ok (.iconst 5, 1) := by decide +kernel
theorem dX9_mark_3 : decode cX9_mark 3 = .ok (.invokestatic 54, 3) := by decide +kernel
theorem dX9_mark_6 : decode cX9_mark 6 = .ok (.ifCond .eq 11, 3) := by decide +kernel
theorem dX9_mark_9 : decode cX9_mark 9 = .ok (.aload_n 0, 1) := by decide +kernel
theorem dX9_mark_10 : decode cX9_mark 10 = .ok (.iload_n 2, 1) := by decide +kernel
theorem dX9_mark_11 : decode cX9_mark 11 = .ok (.invokevirtual 126, 3) := by decide +kernel
