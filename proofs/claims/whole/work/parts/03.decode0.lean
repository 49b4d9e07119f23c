theorem dX0_init_0 : decode cX0_init 0 = .ok (.aload_n 0, 1) := by decide +kernel
theorem dX0_init_1 : decode cX0_init 1 = .ok (.invokespecial 3, 3) := by decide +kernel
theorem dX0_init_4 : decode cX0_init 4 = .ok (.aload_n 0, 1) := by decide +kernel
theorem dX0_init_5 : decode cX0_init 5 = .ok (.bipush 6, 2) := by decide +kernel
theorem dX0_init_7 : decode cX0_init 7 = .ok (.newarray .int, 2) := by decide +kernel
theorem dX0_init_9 : decode cX0_init 9 = .ok (.putfield 9, 3) := by decide +kernel
theorem dX0_init_12 : decode cX0_init 12 = .ok (.aload_n 0, 1) := by decide +kernel
theorem dX0_init_13 : decode cX0_init 13 = .ok (.bipush 6, 2) := by decide +kernel
theorem dX0_init_15 : decode cX0_init 15 = .ok (.newarray .int, 2) := by decide +kernel
theorem dX0_init_17 : decode cX0_init 17 = .ok (.putfield 15, 3) := by decide +kernel
theorem dX0_init_20 : decode cX0_init 20 = .ok (.return_, 1) := by decide +kernel
theorem dX0_append_0 : decode cX0_append 0 = .ok (.aload_n 0, 1) := by decide +kernel
theorem dX0_append_1 : decode cX0_append 1 = .ok (.getfield 18, 3) := by decide +kernel
theorem dX0_append_4 : decode cX0_append 4 = .ok (.bipush 6, 2) := by decide +kernel
theorem dX0_append_6 : decode cX0_append 6 = .ok (.if_icmp .lt 5, 3) := by decide +kernel
theorem dX0_append_9 : decode cX0_append 9 = .ok (.iconst 0, 1) := by decide +kernel
theorem dX0_append_10 : decode cX0_append 10 = .ok (.ireturn, 1) := by decide +kernel
theorem dX0_append_11 : decode cX0_append 11 = .ok (.aload_n 0, 1) := by decide +kernel
theorem dX0_append_12 : decode cX0_append 12 = .ok (.getfield 9, 3) := by decide +kernel
theorem dX0_append_15 : decode cX0_append 15 = .ok (.aload_n 0, 1) := by decide +kernel
theorem dX0_append_16 : decode cX0_append 16 = .ok (.getfield 18, 3) := by decide +kernel
theorem dX0_append_19 : decode cX0_append 19 = .ok (.iload_n 1, 1) := by decide +kernel
theorem dX0_append_20 : decode cX0_append 20 = .ok (.iastore, 1) := by decide +kernel
theorem dX0_append_21 : decode cX0_append 21 = .ok (.aload_n 0, 1) := by decide +kernel
theorem dX0_append_22 : decode cX0_append 22 = .ok (.getfield 15, 3) := by decide +kernel
theorem dX0_append_25 : decode cX0_append 25 = .ok (.aload_n 0, 1) := by decide +kernel
theorem dX0_append_26 : decode cX0_append 26 = .ok (.getfield 18, 3) := by decide +kernel
theorem dX0_append_29 : decode cX0_append 29 = .ok (.iload_n 2, 1) := by decide +kernel
theorem dX0_append_30 : decode cX0_append 30 = .ok (.iastore, 1) := by decide +kernel
theorem dX0_append_31 : decode cX0_append 31 = .ok (.aload_n 0, 1) := by decide +kernel
theorem dX0_append_32 : decode cX0_append 32 = .ok (.dup, 1) := by decide +kernel
theorem dX0_append_33 : decode cX0_append 33 = .ok (.getfield 18, 3) := by decide +kernel
theorem dX0_append_36 : decode cX0_append 36 = .ok (.iconst 1, 1) := by decide +kernel
theorem dX0_append_37 : decode cX0_append 37 = .ok (.iadd, 1) := by decide +kernel
theorem dX0_append_38 : decode cX0_append 38 = .ok (.putfield 18, 3) := by decide +kernel
theorem dX0_append_41 : decode cX0_append 41 = .ok (.iconst 1, 1) := by decide +kernel
theorem dX0_append_42 : decode cX0_append 42 = .ok (.ireturn, 1) := by decide +kernel
theorem dX0_drop_0 : decode cX0_drop 0 = .ok (.aload_n 0, 1) := by decide +kernel
theorem dX0_drop_1 : decode cX0_drop 1 = .ok (.getfield 18, 3) := by decide +kernel
theorem dX0_drop_4 : decode cX0_drop 4 = .ok (.istore_n 1, 1) := by decide +kernel
theorem dX0_drop_5 : decode cX0_drop 5 = .ok (.aload_n 0, 1) := by decide +kernel
theorem dX0_drop_6 : decode cX0_drop 6 = .ok (.iconst 0, 1) := by decide +kernel
theorem dX0_drop_7 : decode cX0_drop 7 = .ok (.putfield 18, 3) := by decide +kernel
theorem dX0_drop_10 : decode cX0_drop 10 = .ok (.iload_n 1, 1) := by decide +kernel
theorem dX0_drop_11 : decode cX0_drop 11 = .ok (.ireturn, 1) := by decide +kernel
theorem dX0_sucked_0 : decode cX0_sucked 0 = .ok (.iconst 0, 1) := by decide +kernel
theorem dX0_sucked_1 : decode cX0_sucked 1 = .ok (.istore_n 1, 1) := by decide +kernel
theorem dX0_sucked_2 : decode cX0_sucked 2 = .ok (.iconst 0, 1) := by decide +kernel
theorem dX0_sucked_3 : decode cX0_sucked 3 = .ok (.istore_n 2, 1) := by decide +kernel
theorem dX0_sucked_4 : decode cX0_sucked 4 = .ok (.iload_n 2, 1) := by decide +kernel
theorem dX0_sucked_5 : decode cX0_sucked 5 = .ok (.aload_n 0, 1) := by decide +kernel
theorem dX0_sucked_6 : decode cX0_sucked 6 = .ok (.getfield 18, 3) := by decide +kernel
theorem dX0_sucked_9 : decode cX0_sucked 9 = .ok (.if_icmp .ge 40, 3) := by decide +kernel
theorem dX0_sucked_12 : decode cX0_sucked 12 = .ok (.iload_n 2, 1) := by decide +kernel
theorem dX0_sucked_13 : decode cX0_sucked 13 = .ok (.bipush 6, 2) := by decide +kernel
theorem dX0_sucked_15 : decode cX0_sucked 15 = .ok (.if_icmp .ge 34, 3) := by decide +kernel
theorem dX0_sucked_18 : decode cX0_sucked 18 = .ok (.aload_n 0, 1) := by decide +kernel
theorem dX0_sucked_19 : decode cX0_sucked 19 = .ok (.getfield 15, 3) := by decide +kernel
theorem dX0_sucked_22 : decode cX0_sucked 22 = .ok (.iload_n 2, 1) := by decide +kernel
theorem dX0_sucked_23 : decode cX0_sucked 23 = .ok (.iaload, 1) := by decide +kernel
theorem dX0_sucked_24 : decode cX0_sucked 24 = .ok (.iconst 1, 1) := by decide +kernel
theorem dX0_sucked_25 : decode cX0_sucked 25 = .ok (.iconst 3, 1) := by decide +kernel
theorem dX0_sucked_26 : decode cX0_sucked 26 = .ok (.invokestatic 22, 3) := by decide +kernel
theorem dX0_sucked_29 : decode cX0_sucked 29 = .ok (.ifCond .eq 14, 3) := by decide +kernel
theorem dX0_sucked_32 : decode cX0_sucked 32 = .ok (.iload_n 1, 1) := by decide +kernel
theorem dX0_sucked_33 : decode cX0_sucked 33 = .ok (.iconst 1, 1) := by decide +kernel
theorem dX0_sucked_34 : decode cX0_sucked 34 = .ok (.aload_n 0, 1) := by decide +kernel
theorem dX0_sucked_35 : decode cX0_sucked 35 = .ok (.getfield 9, 3) := by decide +kernel
theorem dX0_sucked_38 : decode cX0_sucked 38 = .ok (.iload_n 2, 1) := by decide +kernel
theorem dX0_sucked_39 : decode cX0_sucked 39 = .ok (.iaload, 1) := by decide +kernel
theorem dX0_sucked_40 : decode cX0_sucked 40 = .ok (.ishl, 1) := by decide +kernel
theorem dX0_sucked_41 : decode cX0_sucked 41 = .ok (.ior, 1) := by decide +kernel
theorem dX0_sucked_42 : decode cX0_sucked 42 = .ok (.istore_n 1, 1) := by decide +kernel
theorem dX0_sucked_43 : decode cX0_sucked 43 = .ok (.iinc 2 1, 3) := by decide +kernel
theorem dX0_sucked_46 : decode cX0_sucked 46 = .ok (.goto (-42), 3) := by decide +kernel
theorem dX0_sucked_49 : decode cX0_sucked 49 = .ok (.iload_n 1, 1) := by decide +kernel
theorem dX0_sucked_50 : decode cX0_sucked 50 = .ok (.ireturn, 1) := by decide +kernel
theorem dX0_liars_0 : decode cX0_liars 0 = .ok (.iconst 0, 1) := by decide +kernel
theorem dX0_liars_1 : decode cX0_liars 1 = .ok (.istore_n 1, 1) := by decide +kernel
theorem dX0_liars_2 : decode cX0_liars 2 = .ok (.iconst 0, 1) := by decide +kernel
theorem dX0_liars_3 : decode cX0_liars 3 = .ok (.istore_n 2, 1) := by decide +kernel
theorem dX0_liars_4 : decode cX0_liars 4 = .ok (.iload_n 2, 1) := by decide +kernel
theorem dX0_liars_5 : decode cX0_liars 5 = .ok (.aload_n 0, 1) := by decide +kernel
theorem dX0_liars_6 : decode cX0_liars 6 = .ok (.getfield 18, 3) := by decide +kernel
theorem dX0_liars_9 : decode cX0_liars 9 = .ok (.if_icmp .ge 40, 3) := by decide +kernel
theorem dX0_liars_12 : decode cX0_liars 12 = .ok (.iload_n 2, 1) := by decide +kernel
theorem dX0_liars_13 : decode cX0_liars 13 = .ok (.bipush 6, 2) := by decide +kernel
theorem dX0_liars_15 : decode cX0_liars 15 = .ok (.if_icmp .ge 34, 3) := by decide +kernel
theorem dX0_liars_18 : decode cX0_liars 18 = .ok (.aload_n 0, 1) := by decide +kernel
theorem dX0_liars_19 : decode cX0_liars 19 = .ok (.getfield 15, 3) := by decide +kernel
theorem dX0_liars_22 : decode cX0_liars 22 = .ok (.iload_n 2, 1) := by decide +kernel
theorem dX0_liars_23 : decode cX0_liars 23 = .ok (.iaload, 1) := by decide +kernel
theorem dX0_liars_24 : decode cX0_liars 24 = .ok (.iconst 0, 1) := by decide +kernel
theorem dX0_liars_25 : decode cX0_liars 25 = .ok (.iconst 3, 1) := by decide +kernel
theorem dX0_liars_26 : decode cX0_liars 26 = .ok (.invokestatic 22, 3) := by decide +kernel
theorem dX0_liars_29 : decode cX0_liars 29 = .ok (.ifCond .ne 14, 3) := by decide +kernel
theorem dX0_liars_32 : decode cX0_liars 32 = .ok (.iload_n 1, 1) := by decide +kernel
theorem dX0_liars_33 : decode cX0_liars 33 = .ok (.iconst 1, 1) := by decide +kernel
theorem dX0_liars_34 : decode cX0_liars 34 = .ok (.aload_n 0, 1) := by decide +kernel
theorem dX0_liars_35 : decode cX0_liars 35 = .ok (.getfield 9, 3) := by decide +kernel
theorem dX0_liars_38 : decode cX0_liars 38 = .ok (.iload_n 2, 1) := by decide +kernel
theorem dX0_liars_39 : decode cX0_liars 39 = .ok (.iaload, 1) := by decide +kernel
theorem dX0_liars_40 : decode cX0_liars 40 = .ok (.ishl, 1) := by decide +kernel
theorem dX0_liars_41 : decode cX0_liars 41 = .ok (.ior, 1) := by decide +kernel
theorem dX0_liars_42 : decode cX0_liars 42 = .ok (.istore_n 1, 1) := by decide +kernel
theorem dX0_liars_43 : decode cX0_liars 43 = .ok (.iinc 2 1, 3) := by decide +kernel
theorem dX0_liars_46 : decode cX0_liars 46 = .ok (.goto (-42), 3) := by decide +kernel
theorem dX0_liars_49 : decode cX0_liars 49 = .ok (.iload_n 1, 1) := by decide +kernel
theorem dX0_liars_50 : decode cX0_liars 50 = .ok (.ireturn, 1) := by decide +kernel
theorem dX1_init_0 : decode cX1_init 0 = .ok (.aload_n 0, 1) := by decide +kernel
theorem dX1_init_1 : decode cX1_init 1 = .ok (.invokespecial 3, 3) := by decide +kernel
theorem dX1_init_4 : decode cX1_init 4 = .ok (.aload_n 0, 1) := by decide +kernel
theorem dX1_init_5 : decode cX1_init 5 = .ok (.new 9, 3) := by decide +kernel
theorem dX1_init_8 : decode cX1_init 8 = .ok (.dup, 1) := by decide +kernel
theorem dX1_init_9 : decode cX1_init 9 = .ok (.invokespecial 11, 3) := by decide +kernel
theorem dX1_init_12 : decode cX1_init 12 = .ok (.putfield 12, 3) := by decide +kernel
theorem dX1_init_15 : decode cX1_init 15 = .ok (.aload_n 0, 1) := by decide +kernel
theorem dX1_init_16 : decode cX1_init 16 = .ok (.sipush 740, 3) := by decide +kernel
theorem dX1_init_19 : decode cX1_init 19 = .ok (.newarray .int, 2) := by decide +kernel
theorem dX1_init_21 : decode cX1_init 21 = .ok (.putfield 18, 3) := by decide +kernel
theorem dX1_init_24 : decode cX1_init 24 = .ok (.return_, 1) := by decide +kernel
theorem dX1_begin_0 : decode cX1_begin 0 = .ok (.aload_n 0, 1) := by decide +kernel
theorem dX1_begin_1 : decode cX1_begin 1 = .ok (.getfield 12, 3) := by decide +kernel
theorem dX1_begin_4 : decode cX1_begin 4 = .ok (.aload_n 1, 1) := by decide +kernel
theorem dX1_begin_5 : decode cX1_begin 5 = .ok (.invokevirtual 22, 3) := by decide +kernel
theorem dX1_begin_8 : decode cX1_begin 8 = .ok (.aload_n 0, 1) := by decide +kernel
theorem dX1_begin_9 : decode cX1_begin 9 = .ok (.iconst 0, 1) := by decide +kernel
theorem dX1_begin_10 : decode cX1_begin 10 = .ok (.putfield 26, 3) := by decide +kernel
theorem dX1_begin_13 : decode cX1_begin 13 = .ok (.return_, 1) := by decide +kernel
theorem dX1_remember_0 : decode cX1_remember 0 = .ok (.aload_n 0, 1) := by decide +kernel
theorem dX1_remember_1 : decode cX1_remember 1 = .ok (.getfield 26, 3) := by decide +kernel
theorem dX1_remember_4 : decode cX1_remember 4 = .ok (.bipush 10, 2) := by decide +kernel
theorem dX1_remember_6 : decode cX1_remember 6 = .ok (.if_icmp .lt 26, 3) := by decide +kernel
theorem dX1_remember_9 : decode cX1_remember 9 = .ok (.aload_n 0, 1) := by decide +kernel
theorem dX1_remember_10 : decode cX1_remember 10 = .ok (.getfield 18, 3) := by decide +kernel
theorem dX1_remember_13 : decode cX1_remember 13 = .ok (.bipush 74, 2) := by decide +kernel
theorem dX1_remember_15 : decode cX1_remember 15 = .ok (.aload_n 0, 1) := by decide +kernel
theorem dX1_remember_16 : decode cX1_remember 16 = .ok (.getfield 18, 3) := by decide +kernel
theorem dX1_remember_19 : decode cX1_remember 19 = .ok (.iconst 0, 1) := by decide +kernel
theorem dX1_remember_20 : decode cX1_remember 20 = .ok (.sipush 666, 3) := by decide +kernel
theorem dX1_remember_23 : decode cX1_remember 23 = .ok (.invokestatic 30, 3) := by decide +kernel
theorem dX1_remember_26 : decode cX1_remember 26 = .ok (.aload_n 0, 1) := by decide +kernel
theorem dX1_remember_27 : decode cX1_remember 27 = .ok (.bipush 9, 2) := by decide +kernel
theorem dX1_remember_29 : decode cX1_remember 29 = .ok (.putfield 26, 3) := by decide +kernel
theorem dX1_remember_32 : decode cX1_remember 32 = .ok (.aload_n 0, 1) := by decide +kernel
theorem dX1_remember_33 : decode cX1_remember 33 = .ok (.getfield 12, 3) := by decide +kernel
theorem dX1_remember_36 : decode cX1_remember 36 = .ok (.aload_n 0, 1) := by decide +kernel
theorem dX1_remember_37 : decode cX1_remember 37 = .ok (.getfield 18, 3) := by decide +kernel
theorem dX1_remember_40 : decode cX1_remember 40 = .ok (.aload_n 0, 1) := by decide +kernel
theorem dX1_remember_41 : decode cX1_remember 41 = .ok (.getfield 26, 3) := by decide +kernel
theorem dX1_remember_44 : decode cX1_remember 44 = .ok (.invokevirtual 36, 3) := by decide +kernel
theorem dX1_remember_47 : decode cX1_remember 47 = .ok (.aload_n 0, 1) := by decide +kernel
theorem dX1_remember_48 : decode cX1_remember 48 = .ok (.dup, 1) := by decide +kernel
theorem dX1_remember_49 : decode cX1_remember 49 = .ok (.getfield 26, 3) := by decide +kernel
theorem dX1_remember_52 : decode cX1_remember 52 = .ok (.iconst 1, 1) := by decide +kernel
theorem dX1_remember_53 : decode cX1_remember 53 = .ok (.iadd, 1) := by decide +kernel
theorem dX1_remember_54 : decode cX1_remember 54 = .ok (.putfield 26, 3) := by decide +kernel
theorem dX1_remember_57 : decode cX1_remember 57 = .ok (.return_, 1) := by decide +kernel
theorem dX1_takeBack_0 : decode cX1_takeBack 0 = .ok (.aload_n 0, 1) := by decide +kernel
theorem dX1_takeBack_1 : decode cX1_takeBack 1 = .ok (.getfield 26, 3) := by decide +kernel
theorem dX1_takeBack_4 : decode cX1_takeBack 4 = .ok (.ifCond .gt 5, 3) := by decide +kernel
theorem dX1_takeBack_7 : decode cX1_takeBack 7 = .ok (.iconst 0, 1) := by decide +kernel
theorem dX1_takeBack_8 : decode cX1_takeBack 8 = .ok (.ireturn, 1) := by decide +kernel
theorem dX1_takeBack_9 : decode cX1_takeBack 9 = .ok (.aload_n 0, 1) := by decide +kernel
theorem dX1_takeBack_10 : decode cX1_takeBack 10 = .ok (.dup, 1) := by decide +kernel
theorem dX1_takeBack_11 : decode cX1_takeBack 11 = .ok (.getfield 26, 3) := by decide +kernel
theorem dX1_takeBack_14 : decode cX1_takeBack 14 = .ok (.iconst 1, 1) := by decide +kernel
theorem dX1_takeBack_15 : decode cX1_takeBack 15 = .ok (.isub, 1) := by decide +kernel
theorem dX1_takeBack_16 : decode cX1_takeBack 16 = .ok (.putfield 26, 3) := by decide +kernel
theorem dX1_takeBack_19 : decode cX1_takeBack 19 = .ok (.aload_n 0, 1) := by decide +kernel
theorem dX1_takeBack_20 : decode cX1_takeBack 20 = .ok (.getfield 12, 3) := by decide +kernel
theorem dX1_takeBack_23 : decode cX1_takeBack 23 = .ok (.aload_n 0, 1) := by decide +kernel
theorem dX1_takeBack_24 : decode cX1_takeBack 24 = .ok (.getfield 18, 3) := by decide +kernel
theorem dX1_takeBack_27 : decode cX1_takeBack 27 = .ok (.aload_n 0, 1) := by decide +kernel
theorem dX1_takeBack_28 : decode cX1_takeBack 28 = .ok (.getfield 26, 3) := by decide +kernel
theorem dX1_takeBack_31 : decode cX1_takeBack 31 = .ok (.invokevirtual 40, 3) := by decide +kernel
theorem dX1_takeBack_34 : decode cX1_takeBack 34 = .ok (.iconst 1, 1) := by decide +kernel
theorem dX1_takeBack_35 : decode cX1_takeBack 35 = .ok (.ireturn, 1) := by decide +kernel
theorem dX1_become_0 : decode cX1_become 0 = .ok (.aload_n 0, 1) := by decide +kernel
theorem dX1_become_1 : decode cX1_become 1 = .ok (.getfield 12, 3) := by decide +kernel
theorem dX1_become_4 : decode cX1_become 4 = .ok (.aload_n 1, 1) := by decide +kernel
theorem dX1_become_5 : decode cX1_become 5 = .ok (.getfield 12, 3) := by decide +kernel
theorem dX1_become_8 : decode cX1_become 8 = .ok (.invokevirtual 22, 3) := by decide +kernel
theorem dX1_become_11 : decode cX1_become 11 = .ok (.aload_n 1, 1) := by decide +kernel
theorem dX1_become_12 : decode cX1_become 12 = .ok (.getfield 18, 3) := by decide +kernel
theorem dX1_become_15 : decode cX1_become 15 = .ok (.iconst 0, 1) := by decide +kernel
theorem dX1_become_16 : decode cX1_become 16 = .ok (.aload_n 0, 1) := by decide +kernel
theorem dX1_become_17 : decode cX1_become 17 = .ok (.getfield 18, 3) := by decide +kernel
theorem dX1_become_20 : decode cX1_become 20 = .ok (.iconst 0, 1) := by decide +kernel
theorem dX1_become_21 : decode cX1_become 21 = .ok (.aload_n 0, 1) := by decide +kernel
theorem dX1_become_22 : decode cX1_become 22 = .ok (.getfield 18, 3) := by decide +kernel
theorem dX1_become_25 : decode cX1_become 25 = .ok (.arraylength, 1) := by decide +kernel
theorem dX1_become_26 : decode cX1_become 26 = .ok (.invokestatic 30, 3) := by decide +kernel
theorem dX1_become_29 : decode cX1_become 29 = .ok (.aload_n 0, 1) := by decide +kernel
theorem dX1_become_30 : decode cX1_become 30 = .ok (.aload_n 1, 1) := by decide +kernel
theorem dX1_become_31 : decode cX1_become 31 = .ok (.getfield 26, 3) := by decide +kernel
theorem dX1_become_34 : decode cX1_become 34 = .ok (.putfield 26, 3) := by decide +kernel
theorem dX1_become_37 : decode cX1_become 37 = .ok (.return_, 1) := by decide +kernel
theorem dX2_init_0 : decode cX2_init 0 = .ok (.aload_n 0, 1) := by decide +kernel
theorem dX2_init_1 : decode cX2_init 1 = .ok (.invokespecial 5, 3) := by decide +kernel
theorem dX2_init_4 : decode cX2_init 4 = .ok (.aload_n 0, 1) := by decide +kernel
theorem dX2_init_5 : decode cX2_init 5 = .ok (.bipush 74, 2) := by decide +kernel
theorem dX2_init_7 : decode cX2_init 7 = .ok (.newarray .int, 2) := by decide +kernel
theorem dX2_init_9 : decode cX2_init 9 = .ok (.putfield 11, 3) := by decide +kernel
theorem dX2_init_12 : decode cX2_init 12 = .ok (.return_, 1) := by decide +kernel
theorem dX2_wipe_0 : decode cX2_wipe 0 = .ok (.aload_n 0, 1) := by decide +kernel
theorem dX2_wipe_1 : decode cX2_wipe 1 = .ok (.getfield 11, 3) := by decide +kernel
theorem dX2_wipe_4 : decode cX2_wipe 4 = .ok (.iconst 0, 1) := by decide +kernel
theorem dX2_wipe_5 : decode cX2_wipe 5 = .ok (.invokestatic 15, 3) := by decide +kernel
theorem dX2_wipe_8 : decode cX2_wipe 8 = .ok (.return_, 1) := by decide +kernel
theorem dX2_become_0 : decode cX2_become 0 = .ok (.aload_n 1, 1) := by decide +kernel
theorem dX2_become_1 : decode cX2_become 1 = .ok (.getfield 11, 3) := by decide +kernel
theorem dX2_become_4 : decode cX2_become 4 = .ok (.iconst 0, 1) := by decide +kernel
theorem dX2_become_5 : decode cX2_become 5 = .ok (.aload_n 0, 1) := by decide +kernel
theorem dX2_become_6 : decode cX2_become 6 = .ok (.getfield 11, 3) := by decide +kernel
theorem dX2_become_9 : decode cX2_become 9 = .ok (.iconst 0, 1) := by decide +kernel
theorem dX2_become_10 : decode cX2_become 10 = .ok (.bipush 74, 2) := by decide +kernel
theorem dX2_become_12 : decode cX2_become 12 = .ok (.invokestatic 21, 3) := by decide +kernel
theorem dX2_become_15 : decode cX2_become 15 = .ok (.return_, 1) := by decide +kernel
theorem dX2_writeTo_0 : decode cX2_writeTo 0 = .ok (.iload_n 2, 1) := by decide +kernel
theorem dX2_writeTo_1 : decode cX2_writeTo 1 = .ok (.ifCond .lt 29, 3) := by decide +kernel
theorem dX2_writeTo_4 : decode cX2_writeTo 4 = .ok (.iload_n 2, 1) := by decide +kernel
theorem dX2_writeTo_5 : decode cX2_writeTo 5 = .ok (.iconst 1, 1) := by decide +kernel
theorem dX2_writeTo_6 : decode cX2_writeTo 6 = .ok (.iadd, 1) := by decide +kernel
theorem dX2_writeTo_7 : decode cX2_writeTo 7 = .ok (.bipush 74, 2) := by decide +kernel
theorem dX2_writeTo_9 : decode cX2_writeTo 9 = .ok (.imul, 1) := by decide +kernel
theorem dX2_writeTo_10 : decode cX2_writeTo 10 = .ok (.aload_n 1, 1) := by decide +kernel
theorem dX2_writeTo_11 : decode cX2_writeTo 11 = .ok (.arraylength, 1) := by decide +kernel
theorem dX2_writeTo_12 : decode cX2_writeTo 12 = .ok (.if_icmp .gt 18, 3) := by decide +kernel
theorem dX2_writeTo_15 : decode cX2_writeTo 15 = .ok (.aload_n 0, 1) := by decide +kernel
theorem dX2_writeTo_16 : decode cX2_writeTo 16 = .ok (.getfield 11, 3) := by decide +kernel
theorem dX2_writeTo_19 : decode cX2_writeTo 19 = .ok (.iconst 0, 1) := by decide +kernel
theorem dX2_writeTo_20 : decode cX2_writeTo 20 = .ok (.aload_n 1, 1) := by decide +kernel
theorem dX2_writeTo_21 : decode cX2_writeTo 21 = .ok (.iload_n 2, 1) := by decide +kernel
theorem dX2_writeTo_22 : decode cX2_writeTo 22 = .ok (.bipush 74, 2) := by decide +kernel
theorem dX2_writeTo_24 : decode cX2_writeTo 24 = .ok (.imul, 1) := by decide +kernel
theorem dX2_writeTo_25 : decode cX2_writeTo 25 = .ok (.bipush 74, 2) := by decide +kernel
theorem dX2_writeTo_27 : decode cX2_writeTo 27 = .ok (.invokestatic 21, 3) := by decide +kernel
theorem dX2_writeTo_30 : decode cX2_writeTo 30 = .ok (.return_, 1) := by decide +kernel
theorem dX2_readFrom_0 : decode cX2_readFrom 0 = .ok (.iload_n 2, 1) := by decide +kernel
theorem dX2_readFrom_1 : decode cX2_readFrom 1 = .ok (.ifCond .lt 29, 3) := by decide +kernel
theorem dX2_readFrom_4 : decode cX2_readFrom 4 = .ok (.iload_n 2, 1) := by decide +kernel
theorem dX2_readFrom_5 : decode cX2_readFrom 5 = .ok (.iconst 1, 1) := by decide +kernel
theorem dX2_readFrom_6 : decode cX2_readFrom 6 = .ok (.iadd, 1) := by decide +kernel
theorem dX2_readFrom_7 : decode cX2_readFrom 7 = .ok (.bipush 74, 2) := by decide +kernel
theorem dX2_readFrom_9 : decode cX2_readFrom 9 = .ok (.imul, 1) := by decide +kernel
theorem dX2_readFrom_10 : decode cX2_readFrom 10 = .ok (.aload_n 1, 1) := by decide +kernel
theorem dX2_readFrom_11 : decode cX2_readFrom 11 = .ok (.arraylength, 1) := by decide +kernel
theorem dX2_readFrom_12 : decode cX2_readFrom 12 = .ok (.if_icmp .gt 18, 3) := by decide +kernel
theorem dX2_readFrom_15 : decode cX2_readFrom 15 = .ok (.aload_n 1, 1) := by decide +kernel
theorem dX2_readFrom_16 : decode cX2_readFrom 16 = .ok (.iload_n 2, 1) := by decide +kernel
theorem dX2_readFrom_17 : decode cX2_readFrom 17 = .ok (.bipush 74, 2) := by decide +kernel
theorem dX2_readFrom_19 : decode cX2_readFrom 19 = .ok (.imul, 1) := by decide +kernel
theorem dX2_readFrom_20 : decode cX2_readFrom 20 = .ok (.aload_n 0, 1) := by decide +kernel
theorem dX2_readFrom_21 : decode cX2_readFrom 21 = .ok (.getfield 11, 3) := by decide +kernel
theorem dX2_readFrom_24 : decode cX2_readFrom 24 = .ok (.iconst 0, 1) := by decide +kernel
theorem dX2_readFrom_25 : decode cX2_readFrom 25 = .ok (.bipush 74, 2) := by decide +kernel
theorem dX2_readFrom_27 : decode cX2_readFrom 27 = .ok (.invokestatic 21, 3) := by decide +kernel
theorem dX2_readFrom_30 : decode cX2_readFrom 30 = .ok (.return_, 1) := by decide +kernel
theorem dX2_sand_0 : decode cX2_sand 0 = .ok (.aload_n 0, 1) := by decide +kernel
theorem dX2_sand_1 : decode cX2_sand 1 = .ok (.getfield 11, 3) := by decide +kernel
theorem dX2_sand_4 : decode cX2_sand 4 = .ok (.iconst 0, 1) := by decide +kernel
theorem dX2_sand_5 : decode cX2_sand 5 = .ok (.iaload, 1) := by decide +kernel
theorem dX2_sand_6 : decode cX2_sand 6 = .ok (.ireturn, 1) := by decide +kernel
theorem dX2_alive_0 : decode cX2_alive 0 = .ok (.aload_n 0, 1) := by decide +kernel
theorem dX2_alive_1 : decode cX2_alive 1 = .ok (.getfield 11, 3) := by decide +kernel
theorem dX2_alive_4 : decode cX2_alive 4 = .ok (.iconst 1, 1) := by decide +kernel
theorem dX2_alive_5 : decode cX2_alive 5 = .ok (.iaload, 1) := by decide +kernel
theorem dX2_alive_6 : decode cX2_alive 6 = .ok (.ireturn, 1) := by decide +kernel
theorem dX2_isAlive_0 : decode cX2_isAlive 0 = .ok (.iload_n 1, 1) := by decide +kernel
theorem dX2_isAlive_1 : decode cX2_isAlive 1 = .ok (.invokestatic 27, 3) := by decide +kernel
theorem dX2_isAlive_4 : decode cX2_isAlive 4 = .ok (.ifCond .eq 20, 3) := by decide +kernel
theorem dX2_isAlive_7 : decode cX2_isAlive 7 = .ok (.aload_n 0, 1) := by decide +kernel
theorem dX2_isAlive_8 : decode cX2_isAlive 8 = .ok (.getfield 11, 3) := by decide +kernel
theorem dX2_isAlive_11 : decode cX2_isAlive 11 = .ok (.iconst 1, 1) := by decide +kernel
theorem dX2_isAlive_12 : decode cX2_isAlive 12 = .ok (.iaload, 1) := by decide +kernel
theorem dX2_isAlive_13 : decode cX2_isAlive 13 = .ok (.iload_n 1, 1) := by decide +kernel
theorem dX2_isAlive_14 : decode cX2_isAlive 14 = .ok (.invokestatic 31, 3) := by decide +kernel
theorem dX2_isAlive_17 : decode cX2_isAlive 17 = .ok (.ifCond .eq 7, 3) := by decide +kernel
theorem dX2_isAlive_20 : decode cX2_isAlive 20 = .ok (.iconst 1, 1) := by decide +kernel
theorem dX2_isAlive_21 : decode cX2_isAlive 21 = .ok (.goto 4, 3) := by decide +kernel
theorem dX2_isAlive_24 : decode cX2_isAlive 24 = .ok (.iconst 0, 1) := by decide +kernel
theorem dX2_isAlive_25 : decode cX2_isAlive 25 = .ok (.ireturn, 1) := by decide +kernel
theorem dX2_wake_0 : decode cX2_wake 0 = .ok (.iload_n 1, 1) := by decide +kernel
theorem dX2_wake_1 : decode cX2_wake 1 = .ok (.invokestatic 27, 3) := by decide +kernel
theorem dX2_wake_4 : decode cX2_wake 4 = .ok (.ifCond .eq 15, 3) := by decide +kernel
theorem dX2_wake_7 : decode cX2_wake 7 = .ok (.aload_n 0, 1) := by decide +kernel
theorem dX2_wake_8 : decode cX2_wake 8 = .ok (.getfield 11, 3) := by decide +kernel
theorem dX2_wake_11 : decode cX2_wake 11 = .ok (.iconst 1, 1) := by decide +kernel
theorem dX2_wake_12 : decode cX2_wake 12 = .ok (.dup2, 1) := by decide +kernel
theorem dX2_wake_13 : decode cX2_wake 13 = .ok (.iaload, 1) := by decide +kernel
theorem dX2_wake_14 : decode cX2_wake 14 = .ok (.iconst 1, 1) := by decide +kernel
theorem dX2_wake_15 : decode cX2_wake 15 = .ok (.iload_n 1, 1) := by decide +kernel
theorem dX2_wake_16 : decode cX2_wake 16 = .ok (.ishl, 1) := by decide +kernel
theorem dX2_wake_17 : decode cX2_wake 17 = .ok (.ior, 1) := by decide +kernel
theorem dX2_wake_18 : decode cX2_wake 18 = .ok (.iastore, 1) := by decide +kernel
theorem dX2_wake_19 : decode cX2_wake 19 = .ok (.return_, 1) := by decide +kernel
theorem dX2_die_0 : decode cX2_die 0 = .ok (.iload_n 1, 1) := by decide +kernel
theorem dX2_die_1 : decode cX2_die 1 = .ok (.invokestatic 27, 3) := by decide +kernel
theorem dX2_die_4 : decode cX2_die 4 = .ok (.ifCond .ne 4, 3) := by decide +kernel
theorem dX2_die_7 : decode cX2_die 7 = .ok (.return_, 1) := by decide +kernel
theorem dX2_die_8 : decode cX2_die 8 = .ok (.aload_n 0, 1) := by decide +kernel
theorem dX2_die_9 : decode cX2_die 9 = .ok (.getfield 11, 3) := by decide +kernel
theorem dX2_die_12 : decode cX2_die 12 = .ok (.iconst 1, 1) := by decide +kernel
theorem dX2_die_13 : decode cX2_die 13 = .ok (.dup2, 1) := by decide +kernel
theorem dX2_die_14 : decode cX2_die 14 = .ok (.iaload, 1) := by decide +kernel
theorem dX2_die_15 : decode cX2_die 15 = .ok (.iconst 1, 1) := by decide +kernel
theorem dX2_die_16 : decode cX2_die 16 = .ok (.iload_n 1, 1) := by decide +kernel
theorem dX2_die_17 : decode cX2_die 17 = .ok (.ishl, 1) := by decide +kernel
theorem dX2_die_18 : decode cX2_die 18 = .ok (.iconst (-1), 1) := by decide +kernel
theorem dX2_die_19 : decode cX2_die 19 = .ok (.ixor, 1) := by decide +kernel
theorem dX2_die_20 : decode cX2_die 20 = .ok (.iand, 1) := by decide +kernel
theorem dX2_die_21 : decode cX2_die 21 = .ok (.iastore, 1) := by decide +kernel
theorem dX2_die_22 : decode cX2_die 22 = .ok (.aload_n 0, 1) := by decide +kernel
theorem dX2_die_23 : decode cX2_die 23 = .ok (.getfield 11, 3) := by decide +kernel
theorem dX2_die_26 : decode cX2_die 26 = .ok (.iconst 0, 1) := by decide +kernel
theorem dX2_die_27 : decode cX2_die 27 = .ok (.sipush 9999, 3) := by decide +kernel
theorem dX2_die_30 : decode cX2_die 30 = .ok (.aload_n 0, 1) := by decide +kernel
theorem dX2_die_31 : decode cX2_die 31 = .ok (.getfield 11, 3) := by decide +kernel
theorem dX2_die_34 : decode cX2_die 34 = .ok (.iconst 0, 1) := by decide +kernel
theorem dX2_die_35 : decode cX2_die 35 = .ok (.iaload, 1) := by decide +kernel
theorem dX2_die_36 : decode cX2_die 36 = .ok (.aload_n 0, 1) := by decide +kernel
theorem dX2_die_37 : decode cX2_die 37 = .ok (.iload_n 1, 1) := by decide +kernel
theorem dX2_die_38 : decode cX2_die 38 = .ok (.invokevirtual 35, 3) := by decide +kernel
theorem dX2_die_41 : decode cX2_die 41 = .ok (.iadd, 1) := by decide +kernel
theorem dX2_die_42 : decode cX2_die 42 = .ok (.invokestatic 39, 3) := by decide +kernel
theorem dX2_die_45 : decode cX2_die 45 = .ok (.iastore, 1) := by decide +kernel
theorem dX2_die_46 : decode cX2_die 46 = .ok (.iconst 0, 1) := by decide +kernel
theorem dX2_die_47 : decode cX2_die 47 = .ok (.istore_n 2, 1) := by decide +kernel
theorem dX2_die_48 : decode cX2_die 48 = .ok (.iload_n 2, 1) := by decide +kernel
theorem dX2_die_49 : decode cX2_die 49 = .ok (.bipush 6, 2) := by decide +kernel
theorem dX2_die_51 : decode cX2_die 51 = .ok (.if_icmp .ge 16, 3) := by decide +kernel
theorem dX2_die_54 : decode cX2_die 54 = .ok (.aload_n 0, 1) := by decide +kernel
theorem dX2_die_55 : decode cX2_die 55 = .ok (.iload_n 1, 1) := by decide +kernel
theorem dX2_die_56 : decode cX2_die 56 = .ok (.iload_n 2, 1) := by decide +kernel
theorem dX2_die_57 : decode cX2_die 57 = .ok (.iconst 0, 1) := by decide +kernel
theorem dX2_die_58 : decode cX2_die 58 = .ok (.invokevirtual 45, 3) := by decide +kernel
theorem dX2_die_61 : decode cX2_die 61 = .ok (.iinc 2 1, 3) := by decide +kernel
theorem dX2_die_64 : decode cX2_die 64 = .ok (.goto (-16), 3) := by decide +kernel
theorem dX2_die_67 : decode cX2_die 67 = .ok (.return_, 1) := by decide +kernel
theorem dX2_placeOf_0 : decode cX2_placeOf 0 = .ok (.iload_n 1, 1) := by decide +kernel
theorem dX2_placeOf_1 : decode cX2_placeOf 1 = .ok (.invokestatic 27, 3) := by decide +kernel
theorem dX2_placeOf_4 : decode cX2_placeOf 4 = .ok (.ifCond .eq 14, 3) := by decide +kernel
theorem dX2_placeOf_7 : decode cX2_placeOf 7 = .ok (.aload_n 0, 1) := by decide +kernel
theorem dX2_placeOf_8 : decode cX2_placeOf 8 = .ok (.getfield 11, 3) := by decide +kernel
theorem dX2_placeOf_11 : decode cX2_placeOf 11 = .ok (.iconst 2, 1) := by decide +kernel
theorem dX2_placeOf_12 : decode cX2_placeOf 12 = .ok (.iload_n 1, 1) := by decide +kernel
theorem dX2_placeOf_13 : decode cX2_placeOf 13 = .ok (.iadd, 1) := by decide +kernel
theorem dX2_placeOf_14 : decode cX2_placeOf 14 = .ok (.iaload, 1) := by decide +kernel
theorem dX2_placeOf_15 : decode cX2_placeOf 15 = .ok (.goto 5, 3) := by decide +kernel
theorem dX2_placeOf_18 : decode cX2_placeOf 18 = .ok (.bipush (-9), 2) := by decide +kernel
theorem dX2_placeOf_20 : decode cX2_placeOf 20 = .ok (.ireturn, 1) := by decide +kernel
theorem dX2_setPlace_0 : decode cX2_setPlace 0 = .ok (.iload_n 1, 1) := by decide +kernel
theorem dX2_setPlace_1 : decode cX2_setPlace 1 = .ok (.invokestatic 27, 3) := by decide +kernel
theorem dX2_setPlace_4 : decode cX2_setPlace 4 = .ok (.ifCond .eq 12, 3) := by decide +kernel
theorem dX2_setPlace_7 : decode cX2_setPlace 7 = .ok (.aload_n 0, 1) := by decide +kernel
theorem dX2_setPlace_8 : decode cX2_setPlace 8 = .ok (.getfield 11, 3) := by decide +kernel
theorem dX2_setPlace_11 : decode cX2_setPlace 11 = .ok (.iconst 2, 1) := by decide +kernel
theorem dX2_setPlace_12 : decode cX2_setPlace 12 = .ok (.iload_n 1, 1) := by decide +kernel
theorem dX2_setPlace_13 : decode cX2_setPlace 13 = .ok (.iadd, 1) := by decide +kernel
theorem dX2_setPlace_14 : decode cX2_setPlace 14 = .ok (.iload_n 2, 1) := by decide +kernel
theorem dX2_setPlace_15 : decode cX2_setPlace 15 = .ok (.iastore, 1) := by decide +kernel
theorem dX2_setPlace_16 : decode cX2_setPlace 16 = .ok (.return_, 1) := by decide +kernel
theorem dX2_cupsOf_0 : decode cX2_cupsOf 0 = .ok (.iload_n 1, 1) := by decide +kernel
theorem dX2_cupsOf_1 : decode cX2_cupsOf 1 = .ok (.invokestatic 27, 3) := by decide +kernel
theorem dX2_cupsOf_4 : decode cX2_cupsOf 4 = .ok (.ifCond .eq 15, 3) := by decide +kernel
theorem dX2_cupsOf_7 : decode cX2_cupsOf 7 = .ok (.aload_n 0, 1) := by decide +kernel
theorem dX2_cupsOf_8 : decode cX2_cupsOf 8 = .ok (.getfield 11, 3) := by decide +kernel
theorem dX2_cupsOf_11 : decode cX2_cupsOf 11 = .ok (.bipush 6, 2) := by decide +kernel
theorem dX2_cupsOf_13 : decode cX2_cupsOf 13 = .ok (.iload_n 1, 1) := by decide +kernel
theorem dX2_cupsOf_14 : decode cX2_cupsOf 14 = .ok (.iadd, 1) := by decide +kernel
theorem dX2_cupsOf_15 : decode cX2_cupsOf 15 = .ok (.iaload, 1) := by decide +kernel
theorem dX2_cupsOf_16 : decode cX2_cupsOf 16 = .ok (.goto 4, 3) := by decide +kernel
theorem dX2_cupsOf_19 : decode cX2_cupsOf 19 = .ok (.iconst 0, 1) := by decide +kernel
theorem dX2_cupsOf_20 : decode cX2_cupsOf 20 = .ok (.ireturn, 1) := by decide +kernel
theorem dX2_setCups_0 : decode cX2_setCups 0 = .ok (.iload_n 1, 1) := by decide +kernel
theorem dX2_setCups_1 : decode cX2_setCups 1 = .ok (.invokestatic 27, 3) := by decide +kernel
theorem dX2_setCups_4 : decode cX2_setCups 4 = .ok (.ifCond .eq 13, 3) := by decide +kernel
theorem dX2_setCups_7 : decode cX2_setCups 7 = .ok (.aload_n 0, 1) := by decide +kernel
theorem dX2_setCups_8 : decode cX2_setCups 8 = .ok (.getfield 11, 3) := by decide +kernel
theorem dX2_setCups_11 : decode cX2_setCups 11 = .ok (.bipush 6, 2) := by decide +kernel
theorem dX2_setCups_13 : decode cX2_setCups 13 = .ok (.iload_n 1, 1) := by decide +kernel
theorem dX2_setCups_14 : decode cX2_setCups 14 = .ok (.iadd, 1) := by decide +kernel
theorem dX2_setCups_15 : decode cX2_setCups 15 = .ok (.iload_n 2, 1) := by decide +kernel
theorem dX2_setCups_16 : decode cX2_setCups 16 = .ok (.iastore, 1) := by decide +kernel
theorem dX2_setCups_17 : decode cX2_setCups 17 = .ok (.return_, 1) := by decide +kernel
theorem dX2_dryOf_0 : decode cX2_dryOf 0 = .ok (.iload_n 1, 1) := by decide +kernel
theorem dX2_dryOf_1 : decode cX2_dryOf 1 = .ok (.invokestatic 27, 3) := by decide +kernel
theorem dX2_dryOf_4 : decode cX2_dryOf 4 = .ok (.ifCond .eq 15, 3) := by decide +kernel
theorem dX2_dryOf_7 : decode cX2_dryOf 7 = .ok (.aload_n 0, 1) := by decide +kernel
theorem dX2_dryOf_8 : decode cX2_dryOf 8 = .ok (.getfield 11, 3) := by decide +kernel
theorem dX2_dryOf_11 : decode cX2_dryOf 11 = .ok (.bipush 10, 2) := by decide +kernel
theorem dX2_dryOf_13 : decode cX2_dryOf 13 = .ok (.iload_n 1, 1) := by decide +kernel
theorem dX2_dryOf_14 : decode cX2_dryOf 14 = .ok (.iadd, 1) := by decide +kernel
theorem dX2_dryOf_15 : decode cX2_dryOf 15 = .ok (.iaload, 1) := by decide +kernel
theorem dX2_dryOf_16 : decode cX2_dryOf 16 = .ok (.goto 4, 3) := by decide +kernel
theorem dX2_dryOf_19 : decode cX2_dryOf 19 = .ok (.iconst 0, 1) := by decide +kernel
theorem dX2_dryOf_20 : decode cX2_dryOf 20 = .ok (.ireturn, 1) := by decide +kernel
theorem dX2_setDry_0 : decode cX2_setDry 0 = .ok (.iload_n 1, 1) := by decide +kernel
theorem dX2_setDry_1 : decode cX2_setDry 1 = .ok (.invokestatic 27, 3) := by decide +kernel
theorem dX2_setDry_4 : decode cX2_setDry 4 = .ok (.ifCond .eq 13, 3) := by decide +kernel
theorem dX2_setDry_7 : decode cX2_setDry 7 = .ok (.aload_n 0, 1) := by decide +kernel
theorem dX2_setDry_8 : decode cX2_setDry 8 = .ok (.getfield 11, 3) := by decide +kernel
theorem dX2_setDry_11 : decode cX2_setDry 11 = .ok (.bipush 10, 2) := by decide +kernel
theorem dX2_setDry_13 : decode cX2_setDry 13 = .ok (.iload_n 1, 1) := by decide +kernel
theorem dX2_setDry_14 : decode cX2_setDry 14 = .ok (.iadd, 1) := by decide +kernel
theorem dX2_setDry_15 : decode cX2_setDry 15 = .ok (.iload_n 2, 1) := by decide +kernel
theorem dX2_setDry_16 : decode cX2_setDry 16 = .ok (.iastore, 1) := by decide +kernel
theorem dX2_setDry_17 : decode cX2_setDry 17 = .ok (.return_, 1) := by decide +kernel
theorem dX2_knotsOf_0 : decode cX2_knotsOf 0 = .ok (.iload_n 1, 1) := by decide +kernel
theorem dX2_knotsOf_1 : decode cX2_knotsOf 1 = .ok (.invokestatic 27, 3) := by decide +kernel
theorem dX2_knotsOf_4 : decode cX2_knotsOf 4 = .ok (.ifCond .eq 27, 3) := by decide +kernel
theorem dX2_knotsOf_7 : decode cX2_knotsOf 7 = .ok (.iload_n 2, 1) := by decide +kernel
theorem dX2_knotsOf_8 : decode cX2_knotsOf 8 = .ok (.invokestatic 49, 3) := by decide +kernel
theorem dX2_knotsOf_11 : decode cX2_knotsOf 11 = .ok (.ifCond .eq 20, 3) := by decide +kernel
theorem dX2_knotsOf_14 : decode cX2_knotsOf 14 = .ok (.aload_n 0, 1) := by decide +kernel
theorem dX2_knotsOf_15 : decode cX2_knotsOf 15 = .ok (.getfield 11, 3) := by decide +kernel
theorem dX2_knotsOf_18 : decode cX2_knotsOf 18 = .ok (.bipush 14, 2) := by decide +kernel
theorem dX2_knotsOf_20 : decode cX2_knotsOf 20 = .ok (.iload_n 1, 1) := by decide +kernel
theorem dX2_knotsOf_21 : decode cX2_knotsOf 21 = .ok (.bipush 6, 2) := by decide +kernel
theorem dX2_knotsOf_23 : decode cX2_knotsOf 23 = .ok (.imul, 1) := by decide +kernel
theorem dX2_knotsOf_24 : decode cX2_knotsOf 24 = .ok (.iadd, 1) := by decide +kernel
theorem dX2_knotsOf_25 : decode cX2_knotsOf 25 = .ok (.iload_n 2, 1) := by decide +kernel
theorem dX2_knotsOf_26 : decode cX2_knotsOf 26 = .ok (.iadd, 1) := by decide +kernel
theorem dX2_knotsOf_27 : decode cX2_knotsOf 27 = .ok (.iaload, 1) := by decide +kernel
theorem dX2_knotsOf_28 : decode cX2_knotsOf 28 = .ok (.goto 4, 3) := by decide +kernel
theorem dX2_knotsOf_31 : decode cX2_knotsOf 31 = .ok (.iconst 0, 1) := by decide +kernel
theorem dX2_knotsOf_32 : decode cX2_knotsOf 32 = .ok (.ireturn, 1) := by decide +kernel
theorem dX2_setKnots_0 : decode cX2_setKnots 0 = .ok (.iload_n 1, 1) := by decide +kernel
theorem dX2_setKnots_1 : decode cX2_setKnots 1 = .ok (.invokestatic 27, 3) := by decide +kernel
theorem dX2_setKnots_4 : decode cX2_setKnots 4 = .ok (.ifCond .eq 25, 3) := by decide +kernel
theorem dX2_setKnots_7 : decode cX2_setKnots 7 = .ok (.iload_n 2, 1) := by decide +kernel
theorem dX2_setKnots_8 : decode cX2_setKnots 8 = .ok (.invokestatic 49, 3) := by decide +kernel
theorem dX2_setKnots_11 : decode cX2_setKnots 11 = .ok (.ifCond .eq 18, 3) := by decide +kernel
theorem dX2_setKnots_14 : decode cX2_setKnots 14 = .ok (.aload_n 0, 1) := by decide +kernel
theorem dX2_setKnots_15 : decode cX2_setKnots 15 = .ok (.getfield 11, 3) := by decide +kernel
theorem dX2_setKnots_18 : decode cX2_setKnots 18 = .ok (.bipush 14, 2) := by decide +kernel
theorem dX2_setKnots_20 : decode cX2_setKnots 20 = .ok (.iload_n 1, 1) := by decide +kernel
theorem dX2_setKnots_21 : decode cX2_setKnots 21 = .ok (.bipush 6, 2) := by decide +kernel
theorem dX2_setKnots_23 : decode cX2_setKnots 23 = .ok (.imul, 1) := by decide +kernel
theorem dX2_setKnots_24 : decode cX2_setKnots 24 = .ok (.iadd, 1) := by decide +kernel
theorem dX2_setKnots_25 : decode cX2_setKnots 25 = .ok (.iload_n 2, 1) := by decide +kernel
theorem dX2_setKnots_26 : decode cX2_setKnots 26 = .ok (.iadd, 1) := by decide +kernel
theorem dX2_setKnots_27 : decode cX2_setKnots 27 = .ok (.iload_n 3, 1) := by decide +kernel
theorem dX2_setKnots_28 : decode cX2_setKnots 28 = .ok (.iastore, 1) := by decide +kernel
theorem dX2_setKnots_29 : decode cX2_setKnots 29 = .ok (.return_, 1) := by decide +kernel
theorem dX2_duesOf_0 : decode cX2_duesOf 0 = .ok (.iload_n 1, 1) := by decide +kernel
theorem dX2_duesOf_1 : decode cX2_duesOf 1 = .ok (.invokestatic 49, 3) := by decide +kernel
theorem dX2_duesOf_4 : decode cX2_duesOf 4 = .ok (.ifCond .eq 27, 3) := by decide +kernel
theorem dX2_duesOf_7 : decode cX2_duesOf 7 = .ok (.iload_n 2, 1) := by decide +kernel
theorem dX2_duesOf_8 : decode cX2_duesOf 8 = .ok (.invokestatic 49, 3) := by decide +kernel
theorem dX2_duesOf_11 : decode cX2_duesOf 11 = .ok (.ifCond .eq 20, 3) := by decide +kernel
theorem dX2_duesOf_14 : decode cX2_duesOf 14 = .ok (.aload_n 0, 1) := by decide +kernel
theorem dX2_duesOf_15 : decode cX2_duesOf 15 = .ok (.getfield 11, 3) := by decide +kernel
theorem dX2_duesOf_18 : decode cX2_duesOf 18 = .ok (.bipush 38, 2) := by decide +kernel
theorem dX2_duesOf_20 : decode cX2_duesOf 20 = .ok (.iload_n 1, 1) := by decide +kernel
theorem dX2_duesOf_21 : decode cX2_duesOf 21 = .ok (.bipush 6, 2) := by decide +kernel
theorem dX2_duesOf_23 : decode cX2_duesOf 23 = .ok (.imul, 1) := by decide +kernel
theorem dX2_duesOf_24 : decode cX2_duesOf 24 = .ok (.iadd, 1) := by decide +kernel
theorem dX2_duesOf_25 : decode cX2_duesOf 25 = .ok (.iload_n 2, 1) := by decide +kernel
theorem dX2_duesOf_26 : decode cX2_duesOf 26 = .ok (.iadd, 1) := by decide +kernel
theorem dX2_duesOf_27 : decode cX2_duesOf 27 = .ok (.iaload, 1) := by decide +kernel
theorem dX2_duesOf_28 : decode cX2_duesOf 28 = .ok (.goto 4, 3) := by decide +kernel
theorem dX2_duesOf_31 : decode cX2_duesOf 31 = .ok (.iconst 0, 1) := by decide +kernel
theorem dX2_duesOf_32 : decode cX2_duesOf 32 = .ok (.ireturn, 1) := by decide +kernel
theorem dX2_setDues_0 : decode cX2_setDues 0 = .ok (.iload_n 1, 1) := by decide +kernel
theorem dX2_setDues_1 : decode cX2_setDues 1 = .ok (.invokestatic 49, 3) := by decide +kernel
theorem dX2_setDues_4 : decode cX2_setDues 4 = .ok (.ifCond .eq 25, 3) := by decide +kernel
theorem dX2_setDues_7 : decode cX2_setDues 7 = .ok (.iload_n 2, 1) := by decide +kernel
theorem dX2_setDues_8 : decode cX2_setDues 8 = .ok (.invokestatic 49, 3) := by decide +kernel
theorem dX2_setDues_11 : decode cX2_setDues 11 = .ok (.ifCond .eq 18, 3) := by decide +kernel
theorem dX2_setDues_14 : decode cX2_setDues 14 = .ok (.aload_n 0, 1) := by decide +kernel
theorem dX2_setDues_15 : decode cX2_setDues 15 = .ok (.getfield 11, 3) := by decide +kernel
theorem dX2_setDues_18 : decode cX2_setDues 18 = .ok (.bipush 38, 2) := by decide +kernel
theorem dX2_setDues_20 : decode cX2_setDues 20 = .ok (.iload_n 1, 1) := by decide +kernel
theorem dX2_setDues_21 : decode cX2_setDues 21 = .ok (.bipush 6, 2) := by decide +kernel
theorem dX2_setDues_23 : decode cX2_setDues 23 = .ok (.imul, 1) := by decide +kernel
theorem dX2_setDues_24 : decode cX2_setDues 24 = .ok (.iadd, 1) := by decide +kernel
theorem dX2_setDues_25 : decode cX2_setDues 25 = .ok (.iload_n 2, 1) := by decide +kernel
theorem dX2_setDues_26 : decode cX2_setDues 26 = .ok (.iadd, 1) := by decide +kernel
theorem dX2_setDues_27 : decode cX2_setDues 27 = .ok (.iload_n 3, 1) := by decide +kernel
theorem dX2_setDues_28 : decode cX2_setDues 28 = .ok (.iastore, 1) := by decide +kernel
theorem dX2_setDues_29 : decode cX2_setDues 29 = .ok (.return_, 1) := by decide +kernel
theorem dX2_knotsOfCaravan_0 : decode cX2_knotsOfCaravan 0 = .ok (.iconst 0, 1) := by decide +kernel
theorem dX2_knotsOfCaravan_1 : decode cX2_knotsOfCaravan 1 = .ok (.istore_n 2, 1) := by decide +kernel
theorem dX2_knotsOfCaravan_2 : decode cX2_knotsOfCaravan 2 = .ok (.iconst 0, 1) := by decide +kernel
theorem dX2_knotsOfCaravan_3 : decode cX2_knotsOfCaravan 3 = .ok (.istore_n 3, 1) := by decide +kernel
theorem dX2_knotsOfCaravan_4 : decode cX2_knotsOfCaravan 4 = .ok (.iload_n 3, 1) := by decide +kernel
theorem dX2_knotsOfCaravan_5 : decode cX2_knotsOfCaravan 5 = .ok (.bipush 6, 2) := by decide +kernel
theorem dX2_knotsOfCaravan_7 : decode cX2_knotsOfCaravan 7 = .ok (.if_icmp .ge 18, 3) := by decide +kernel
theorem dX2_knotsOfCaravan_10 : decode cX2_knotsOfCaravan 10 = .ok (.iload_n 2, 1) := by decide +kernel
theorem dX2_knotsOfCaravan_11 : decode cX2_knotsOfCaravan 11 = .ok (.aload_n 0, 1) := by decide +kernel
theorem dX2_knotsOfCaravan_12 : decode cX2_knotsOfCaravan 12 = .ok (.iload_n 1, 1) := by decide +kernel
theorem dX2_knotsOfCaravan_13 : decode cX2_knotsOfCaravan 13 = .ok (.iload_n 3, 1) := by decide +kernel
theorem dX2_knotsOfCaravan_14 : decode cX2_knotsOfCaravan 14 = .ok (.invokevirtual 52, 3) := by decide +kernel
theorem dX2_knotsOfCaravan_17 : decode cX2_knotsOfCaravan 17 = .ok (.iadd, 1) := by decide +kernel
theorem dX2_knotsOfCaravan_18 : decode cX2_knotsOfCaravan 18 = .ok (.istore_n 2, 1) := by decide +kernel
theorem dX2_knotsOfCaravan_19 : decode cX2_knotsOfCaravan 19 = .ok (.iinc 3 1, 3) := by decide +kernel
theorem dX2_knotsOfCaravan_22 : decode cX2_knotsOfCaravan 22 = .ok (.goto (-18), 3) := by decide +kernel
theorem dX2_knotsOfCaravan_25 : decode cX2_knotsOfCaravan 25 = .ok (.iload_n 2, 1) := by decide +kernel
theorem dX2_knotsOfCaravan_26 : decode cX2_knotsOfCaravan 26 = .ok (.ireturn, 1) := by decide +kernel
theorem dX2_knotsAtWell_0 : decode cX2_knotsAtWell 0 = .ok (.iconst 0, 1) := by decide +kernel
theorem dX2_knotsAtWell_1 : decode cX2_knotsAtWell 1 = .ok (.istore_n 2, 1) := by decide +kernel
theorem dX2_knotsAtWell_2 : decode cX2_knotsAtWell 2 = .ok (.iconst 0, 1) := by decide +kernel
theorem dX2_knotsAtWell_3 : decode cX2_knotsAtWell 3 = .ok (.istore_n 3, 1) := by decide +kernel
theorem dX2_knotsAtWell_4 : decode cX2_knotsAtWell 4 = .ok (.iload_n 3, 1) := by decide +kernel
theorem dX2_knotsAtWell_5 : decode cX2_knotsAtWell 5 = .ok (.iconst 4, 1) := by decide +kernel
theorem dX2_knotsAtWell_6 : decode cX2_knotsAtWell 6 = .ok (.if_icmp .ge 18, 3) := by decide +kernel
theorem dX2_knotsAtWell_9 : decode cX2_knotsAtWell 9 = .ok (.iload_n 2, 1) := by decide +kernel
theorem dX2_knotsAtWell_10 : decode cX2_knotsAtWell 10 = .ok (.aload_n 0, 1) := by decide +kernel
theorem dX2_knotsAtWell_11 : decode cX2_knotsAtWell 11 = .ok (.iload_n 3, 1) := by decide +kernel
theorem dX2_knotsAtWell_12 : decode cX2_knotsAtWell 12 = .ok (.iload_n 1, 1) := by decide +kernel
theorem dX2_knotsAtWell_13 : decode cX2_knotsAtWell 13 = .ok (.invokevirtual 52, 3) := by decide +kernel
theorem dX2_knotsAtWell_16 : decode cX2_knotsAtWell 16 = .ok (.iadd, 1) := by decide +kernel
theorem dX2_knotsAtWell_17 : decode cX2_knotsAtWell 17 = .ok (.istore_n 2, 1) := by decide +kernel
theorem dX2_knotsAtWell_18 : decode cX2_knotsAtWell 18 = .ok (.iinc 3 1, 3) := by decide +kernel
theorem dX2_knotsAtWell_21 : decode cX2_knotsAtWell 21 = .ok (.goto (-17), 3) := by decide +kernel
theorem dX2_knotsAtWell_24 : decode cX2_knotsAtWell 24 = .ok (.iload_n 2, 1) := by decide +kernel
theorem dX2_knotsAtWell_25 : decode cX2_knotsAtWell 25 = .ok (.ireturn, 1) := by decide +kernel
theorem dX2_allKnots_0 : decode cX2_allKnots 0 = .ok (.iconst 0, 1) := by decide +kernel
theorem dX2_allKnots_1 : decode cX2_allKnots 1 = .ok (.istore_n 1, 1) := by decide +kernel
theorem dX2_allKnots_2 : decode cX2_allKnots 2 = .ok (.iconst 0, 1) := by decide +kernel
theorem dX2_allKnots_3 : decode cX2_allKnots 3 = .ok (.istore_n 2, 1) := by decide +kernel
theorem dX2_allKnots_4 : decode cX2_allKnots 4 = .ok (.iload_n 2, 1) := by decide +kernel
theorem dX2_allKnots_5 : decode cX2_allKnots 5 = .ok (.bipush 6, 2) := by decide +kernel
theorem dX2_allKnots_7 : decode cX2_allKnots 7 = .ok (.if_icmp .ge 17, 3) := by decide +kernel
theorem dX2_allKnots_10 : decode cX2_allKnots 10 = .ok (.iload_n 1, 1) := by decide +kernel
theorem dX2_allKnots_11 : decode cX2_allKnots 11 = .ok (.aload_n 0, 1) := by decide +kernel
theorem dX2_allKnots_12 : decode cX2_allKnots 12 = .ok (.iload_n 2, 1) := by decide +kernel
theorem dX2_allKnots_13 : decode cX2_allKnots 13 = .ok (.invokevirtual 55, 3) := by decide +kernel
theorem dX2_allKnots_16 : decode cX2_allKnots 16 = .ok (.iadd, 1) := by decide +kernel
theorem dX2_allKnots_17 : decode cX2_allKnots 17 = .ok (.istore_n 1, 1) := by decide +kernel
theorem dX2_allKnots_18 : decode cX2_allKnots 18 = .ok (.iinc 2 1, 3) := by decide +kernel
theorem dX2_allKnots_21 : decode cX2_allKnots 21 = .ok (.goto (-17), 3) := by decide +kernel
theorem dX2_allKnots_24 : decode cX2_allKnots 24 = .ok (.iload_n 1, 1) := by decide +kernel
theorem dX2_allKnots_25 : decode cX2_allKnots 25 = .ok (.ireturn, 1) := by decide +kernel
theorem dX2_duesBy_0 : decode cX2_duesBy 0 = .ok (.iconst 0, 1) := by decide +kernel
theorem dX2_duesBy_1 : decode cX2_duesBy 1 = .ok (.istore_n 2, 1) := by decide +kernel
theorem dX2_duesBy_2 : decode cX2_duesBy 2 = .ok (.iconst 0, 1) := by decide +kernel
theorem dX2_duesBy_3 : decode cX2_duesBy 3 = .ok (.istore_n 3, 1) := by decide +kernel
theorem dX2_duesBy_4 : decode cX2_duesBy 4 = .ok (.iload_n 3, 1) := by decide +kernel
theorem dX2_duesBy_5 : decode cX2_duesBy 5 = .ok (.bipush 6, 2) := by decide +kernel
theorem dX2_duesBy_7 : decode cX2_duesBy 7 = .ok (.if_icmp .ge 18, 3) := by decide +kernel
theorem dX2_duesBy_10 : decode cX2_duesBy 10 = .ok (.iload_n 2, 1) := by decide +kernel
theorem dX2_duesBy_11 : decode cX2_duesBy 11 = .ok (.aload_n 0, 1) := by decide +kernel
theorem dX2_duesBy_12 : decode cX2_duesBy 12 = .ok (.iload_n 1, 1) := by decide +kernel
theorem dX2_duesBy_13 : decode cX2_duesBy 13 = .ok (.iload_n 3, 1) := by decide +kernel
theorem dX2_duesBy_14 : decode cX2_duesBy 14 = .ok (.invokevirtual 58, 3) := by decide +kernel
theorem dX2_duesBy_17 : decode cX2_duesBy 17 = .ok (.iadd, 1) := by decide +kernel
theorem dX2_duesBy_18 : decode cX2_duesBy 18 = .ok (.istore_n 2, 1) := by decide +kernel
theorem dX2_duesBy_19 : decode cX2_duesBy 19 = .ok (.iinc 3 1, 3) := by decide +kernel
theorem dX2_duesBy_22 : decode cX2_duesBy 22 = .ok (.goto (-18), 3) := by decide +kernel
theorem dX2_duesBy_25 : decode cX2_duesBy 25 = .ok (.iload_n 2, 1) := by decide +kernel
theorem dX2_duesBy_26 : decode cX2_duesBy 26 = .ok (.ireturn, 1) := by decide +kernel
theorem dX2_duesTo_0 : decode cX2_duesTo 0 = .ok (.iconst 0, 1) := by decide +kernel
theorem dX2_duesTo_1 : decode cX2_duesTo 1 = .ok (.istore_n 2, 1) := by decide +kernel
theorem dX2_duesTo_2 : decode cX2_duesTo 2 = .ok (.iconst 0, 1) := by decide +kernel
theorem dX2_duesTo_3 : decode cX2_duesTo 3 = .ok (.istore_n 3, 1) := by decide +kernel
theorem dX2_duesTo_4 : decode cX2_duesTo 4 = .ok (.iload_n 3, 1) := by decide +kernel
theorem dX2_duesTo_5 : decode cX2_duesTo 5 = .ok (.bipush 6, 2) := by decide +kernel
theorem dX2_duesTo_7 : decode cX2_duesTo 7 = .ok (.if_icmp .ge 18, 3) := by decide +kernel
theorem dX2_duesTo_10 : decode cX2_duesTo 10 = .ok (.iload_n 2, 1) := by decide +kernel
theorem dX2_duesTo_11 : decode cX2_duesTo 11 = .ok (.aload_n 0, 1) := by decide +kernel
theorem dX2_duesTo_12 : decode cX2_duesTo 12 = .ok (.iload_n 3, 1) := by decide +kernel
theorem dX2_duesTo_13 : decode cX2_duesTo 13 = .ok (.iload_n 1, 1) := by decide +kernel
theorem dX2_duesTo_14 : decode cX2_duesTo 14 = .ok (.invokevirtual 58, 3) := by decide +kernel
theorem dX2_duesTo_17 : decode cX2_duesTo 17 = .ok (.iadd, 1) := by decide +kernel
theorem dX2_duesTo_18 : decode cX2_duesTo 18 = .ok (.istore_n 2, 1) := by decide +kernel
theorem dX2_duesTo_19 : decode cX2_duesTo 19 = .ok (.iinc 3 1, 3) := by decide +kernel
theorem dX2_duesTo_22 : decode cX2_duesTo 22 = .ok (.goto (-18), 3) := by decide +kernel
theorem dX2_duesTo_25 : decode cX2_duesTo 25 = .ok (.iload_n 2, 1) := by decide +kernel
theorem dX2_duesTo_26 : decode cX2_duesTo 26 = .ok (.ireturn, 1) := by decide +kernel
theorem dX2_allDues_0 : decode cX2_allDues 0 = .ok (.iconst 0, 1) := by decide +kernel
theorem dX2_allDues_1 : decode cX2_allDues 1 = .ok (.istore_n 1, 1) := by decide +kernel
theorem dX2_allDues_2 : decode cX2_allDues 2 = .ok (.iconst 0, 1) := by decide +kernel
theorem dX2_allDues_3 : decode cX2_allDues 3 = .ok (.istore_n 2, 1) := by decide +kernel
theorem dX2_allDues_4 : decode cX2_allDues 4 = .ok (.iload_n 2, 1) := by decide +kernel
theorem dX2_allDues_5 : decode cX2_allDues 5 = .ok (.bipush 6, 2) := by decide +kernel
theorem dX2_allDues_7 : decode cX2_allDues 7 = .ok (.if_icmp .ge 17, 3) := by decide +kernel
theorem dX2_allDues_10 : decode cX2_allDues 10 = .ok (.iload_n 1, 1) := by decide +kernel
theorem dX2_allDues_11 : decode cX2_allDues 11 = .ok (.aload_n 0, 1) := by decide +kernel
theorem dX2_allDues_12 : decode cX2_allDues 12 = .ok (.iload_n 2, 1) := by decide +kernel
theorem dX2_allDues_13 : decode cX2_allDues 13 = .ok (.invokevirtual 61, 3) := by decide +kernel
theorem dX2_allDues_16 : decode cX2_allDues 16 = .ok (.iadd, 1) := by decide +kernel
theorem dX2_allDues_17 : decode cX2_allDues 17 = .ok (.istore_n 1, 1) := by decide +kernel
theorem dX2_allDues_18 : decode cX2_allDues 18 = .ok (.iinc 2 1, 3) := by decide +kernel
theorem dX2_allDues_21 : decode cX2_allDues 21 = .ok (.goto (-17), 3) := by decide +kernel
theorem dX2_allDues_24 : decode cX2_allDues 24 = .ok (.iload_n 1, 1) := by decide +kernel
theorem dX2_allDues_25 : decode cX2_allDues 25 = .ok (.ireturn, 1) := by decide +kernel
theorem dX2_netOf_0 : decode cX2_netOf 0 = .ok (.aload_n 0, 1) := by decide +kernel
theorem dX2_netOf_1 : decode cX2_netOf 1 = .ok (.iload_n 1, 1) := by decide +kernel
theorem dX2_netOf_2 : decode cX2_netOf 2 = .ok (.invokevirtual 64, 3) := by decide +kernel
theorem dX2_netOf_5 : decode cX2_netOf 5 = .ok (.aload_n 0, 1) := by decide +kernel
theorem dX2_netOf_6 : decode cX2_netOf 6 = .ok (.iload_n 1, 1) := by decide +kernel
theorem dX2_netOf_7 : decode cX2_netOf 7 = .ok (.invokevirtual 61, 3) := by decide +kernel
theorem dX2_netOf_10 : decode cX2_netOf 10 = .ok (.isub, 1) := by decide +kernel
theorem dX2_netOf_11 : decode cX2_netOf 11 = .ok (.ireturn, 1) := by decide +kernel
theorem dX2_isCaravan_0 : decode cX2_isCaravan 0 = .ok (.iconst 0, 1) := by decide +kernel
theorem dX2_isCaravan_1 : decode cX2_isCaravan 1 = .ok (.iload_n 0, 1) := by decide +kernel
theorem dX2_isCaravan_2 : decode cX2_isCaravan 2 = .ok (.if_icmp .gt 12, 3) := by decide +kernel
theorem dX2_isCaravan_5 : decode cX2_isCaravan 5 = .ok (.iload_n 0, 1) := by decide +kernel
theorem dX2_isCaravan_6 : decode cX2_isCaravan 6 = .ok (.iconst 4, 1) := by decide +kernel
theorem dX2_isCaravan_7 : decode cX2_isCaravan 7 = .ok (.if_icmp .ge 7, 3) := by decide +kernel
theorem dX2_isCaravan_10 : decode cX2_isCaravan 10 = .ok (.iconst 1, 1) := by decide +kernel
theorem dX2_isCaravan_11 : decode cX2_isCaravan 11 = .ok (.goto 4, 3) := by decide +kernel
theorem dX2_isCaravan_14 : decode cX2_isCaravan 14 = .ok (.iconst 0, 1) := by decide +kernel
theorem dX2_isCaravan_15 : decode cX2_isCaravan 15 = .ok (.ireturn, 1) := by decide +kernel
theorem dX2_isWell_0 : decode cX2_isWell 0 = .ok (.iconst 0, 1) := by decide +kernel
theorem dX2_isWell_1 : decode cX2_isWell 1 = .ok (.iload_n 0, 1) := by decide +kernel
theorem dX2_isWell_2 : decode cX2_isWell 2 = .ok (.if_icmp .gt 13, 3) := by decide +kernel
theorem dX2_isWell_5 : decode cX2_isWell 5 = .ok (.iload_n 0, 1) := by decide +kernel
theorem dX2_isWell_6 : decode cX2_isWell 6 = .ok (.bipush 6, 2) := by decide +kernel
theorem dX2_isWell_8 : decode cX2_isWell 8 = .ok (.if_icmp .ge 7, 3) := by decide +kernel
theorem dX2_isWell_11 : decode cX2_isWell 11 = .ok (.iconst 1, 1) := by decide +kernel
theorem dX2_isWell_12 : decode cX2_isWell 12 = .ok (.goto 4, 3) := by decide +kernel
theorem dX2_isWell_15 : decode cX2_isWell 15 = .ok (.iconst 0, 1) := by decide +kernel
theorem dX2_isWell_16 : decode cX2_isWell 16 = .ok (.ireturn, 1) := by decide +kernel
theorem dX3_init_0 : decode cX3_init 0 = .ok (.aload_n 0, 1) := by decide +kernel
theorem dX3_init_1 : decode cX3_init 1 = .ok (.invokespecial 3, 3) := by decide +kernel
theorem dX3_init_4 : decode cX3_init 4 = .ok (.aload_n 0, 1) := by decide +kernel
theorem dX3_init_5 : decode cX3_init 5 = .ok (.bipush 6, 2) := by decide +kernel
theorem dX3_init_7 : decode cX3_init 7 = .ok (.newarray .int, 2) := by decide +kernel
theorem dX3_init_9 : decode cX3_init 9 = .ok (.putfield 9, 3) := by decide +kernel
theorem dX3_init_12 : decode cX3_init 12 = .ok (.aload_n 0, 1) := by decide +kernel
theorem dX3_init_13 : decode cX3_init 13 = .ok (.bipush 6, 2) := by decide +kernel
theorem dX3_init_15 : decode cX3_init 15 = .ok (.newarray .int, 2) := by decide +kernel
theorem dX3_init_17 : decode cX3_init 17 = .ok (.putfield 15, 3) := by decide +kernel
theorem dX3_init_20 : decode cX3_init 20 = .ok (.return_, 1) := by decide +kernel
theorem dX3_wellAt_0 : decode cX3_wellAt 0 = .ok (.iconst 0, 1) := by decide +kernel
theorem dX3_wellAt_1 : decode cX3_wellAt 1 = .ok (.iload_n 1, 1) := by decide +kernel
theorem dX3_wellAt_2 : decode cX3_wellAt 2 = .ok (.if_icmp .gt 26, 3) := by decide +kernel
theorem dX3_wellAt_5 : decode cX3_wellAt 5 = .ok (.iload_n 1, 1) := by decide +kernel
theorem dX3_wellAt_6 : decode cX3_wellAt 6 = .ok (.aload_n 0, 1) := by decide +kernel
theorem dX3_wellAt_7 : decode cX3_wellAt 7 = .ok (.getfield 18, 3) := by decide +kernel
theorem dX3_wellAt_10 : decode cX3_wellAt 10 = .ok (.if_icmp .ge 18, 3) := by decide +kernel
theorem dX3_wellAt_13 : decode cX3_wellAt 13 = .ok (.iload_n 1, 1) := by decide +kernel
theorem dX3_wellAt_14 : decode cX3_wellAt 14 = .ok (.bipush 6, 2) := by decide +kernel
theorem dX3_wellAt_16 : decode cX3_wellAt 16 = .ok (.if_icmp .ge 12, 3) := by decide +kernel
theorem dX3_wellAt_19 : decode cX3_wellAt 19 = .ok (.aload_n 0, 1) := by decide +kernel
theorem dX3_wellAt_20 : decode cX3_wellAt 20 = .ok (.getfield 9, 3) := by decide +kernel
theorem dX3_wellAt_23 : decode cX3_wellAt 23 = .ok (.iload_n 1, 1) := by decide +kernel
theorem dX3_wellAt_24 : decode cX3_wellAt 24 = .ok (.iaload, 1) := by decide +kernel
theorem dX3_wellAt_25 : decode cX3_wellAt 25 = .ok (.goto 5, 3) := by decide +kernel
theorem dX3_wellAt_28 : decode cX3_wellAt 28 = .ok (.bipush (-9), 2) := by decide +kernel
theorem dX3_wellAt_30 : decode cX3_wellAt 30 = .ok (.ireturn, 1) := by decide +kernel
theorem dX3_find_0 : decode cX3_find 0 = .ok (.aload_n 0, 1) := by decide +kernel
theorem dX3_find_1 : decode cX3_find 1 = .ok (.iconst 0, 1) := by decide +kernel
theorem dX3_find_2 : decode cX3_find 2 = .ok (.putfield 18, 3) := by decide +kernel
theorem dX3_find_5 : decode cX3_find 5 = .ok (.aload_n 0, 1) := by decide +kernel
theorem dX3_find_6 : decode cX3_find 6 = .ok (.iconst 0, 1) := by decide +kernel
theorem dX3_find_7 : decode cX3_find 7 = .ok (.putfield 22, 3) := by decide +kernel
theorem dX3_find_10 : decode cX3_find 10 = .ok (.iconst 0, 1) := by decide +kernel
theorem dX3_find_11 : decode cX3_find 11 = .ok (.istore_n 3, 1) := by decide +kernel
theorem dX3_find_12 : decode cX3_find 12 = .ok (.iload_n 3, 1) := by decide +kernel
theorem dX3_find_13 : decode cX3_find 13 = .ok (.iload_n 2, 1) := by decide +kernel
theorem dX3_find_14 : decode cX3_find 14 = .ok (.if_icmp .ge 34, 3) := by decide +kernel
theorem dX3_find_17 : decode cX3_find 17 = .ok (.iload_n 3, 1) := by decide +kernel
theorem dX3_find_18 : decode cX3_find 18 = .ok (.bipush 6, 2) := by decide +kernel
theorem dX3_find_20 : decode cX3_find 20 = .ok (.if_icmp .ge 28, 3) := by decide +kernel
theorem dX3_find_23 : decode cX3_find 23 = .ok (.aload_n 0, 1) := by decide +kernel
theorem dX3_find_24 : decode cX3_find 24 = .ok (.getfield 15, 3) := by decide +kernel
theorem dX3_find_27 : decode cX3_find 27 = .ok (.iconst 0, 1) := by decide +kernel
theorem dX3_find_28 : decode cX3_find 28 = .ok (.iload_n 3, 1) := by decide +kernel
theorem dX3_find_29 : decode cX3_find 29 = .ok (.iastore, 1) := by decide +kernel
theorem dX3_find_30 : decode cX3_find 30 = .ok (.aload_n 0, 1) := by decide +kernel
theorem dX3_find_31 : decode cX3_find 31 = .ok (.aload_n 1, 1) := by decide +kernel
theorem dX3_find_32 : decode cX3_find 32 = .ok (.iload_n 2, 1) := by decide +kernel
theorem dX3_find_33 : decode cX3_find 33 = .ok (.iconst 1, 1) := by decide +kernel
theorem dX3_find_34 : decode cX3_find 34 = .ok (.iconst 1, 1) := by decide +kernel
theorem dX3_find_35 : decode cX3_find 35 = .ok (.iload_n 3, 1) := by decide +kernel
theorem dX3_find_36 : decode cX3_find 36 = .ok (.ishl, 1) := by decide +kernel
theorem dX3_find_37 : decode cX3_find 37 = .ok (.bipush 60, 2) := by decide +kernel
theorem dX3_find_39 : decode cX3_find 39 = .ok (.invokevirtual 25, 3) := by decide +kernel
theorem dX3_find_42 : decode cX3_find 42 = .ok (.iinc 3 1, 3) := by decide +kernel
theorem dX3_find_45 : decode cX3_find 45 = .ok (.goto (-33), 3) := by decide +kernel
theorem dX3_find_48 : decode cX3_find 48 = .ok (.return_, 1) := by decide +kernel
theorem dX3_walk_0 : decode cX3_walk 0 = .ok (.iload_n 3, 1) := by decide +kernel
theorem dX3_walk_1 : decode cX3_walk 1 = .ok (.iconst 1, 1) := by decide +kernel
theorem dX3_walk_2 : decode cX3_walk 2 = .ok (.if_icmp .lt 9, 3) := by decide +kernel
theorem dX3_walk_5 : decode cX3_walk 5 = .ok (.iload_n 3, 1) := by decide +kernel
theorem dX3_walk_6 : decode cX3_walk 6 = .ok (.bipush 6, 2) := by decide +kernel
theorem dX3_walk_8 : decode cX3_walk 8 = .ok (.if_icmp .le 4, 3) := by decide +kernel
theorem dX3_walk_11 : decode cX3_walk 11 = .ok (.return_, 1) := by decide +kernel
theorem dX3_walk_12 : decode cX3_walk 12 = .ok (.aload_n 0, 1) := by decide +kernel
theorem dX3_walk_13 : decode cX3_walk 13 = .ok (.getfield 15, 3) := by decide +kernel
theorem dX3_walk_16 : decode cX3_walk 16 = .ok (.iload_n 3, 1) := by decide +kernel
theorem dX3_walk_17 : decode cX3_walk 17 = .ok (.iconst 1, 1) := by decide +kernel
theorem dX3_walk_18 : decode cX3_walk 18 = .ok (.isub, 1) := by decide +kernel
theorem dX3_walk_19 : decode cX3_walk 19 = .ok (.iaload, 1) := by decide +kernel
theorem dX3_walk_20 : decode cX3_walk 20 = .ok (.istore 6, 2) := by decide +kernel
theorem dX3_walk_22 : decode cX3_walk 22 = .ok (.aload_n 1, 1) := by decide +kernel
theorem dX3_walk_23 : decode cX3_walk 23 = .ok (.iload 6, 2) := by decide +kernel
theorem dX3_walk_25 : decode cX3_walk 25 = .ok (.aload_n 0, 1) := by decide +kernel
theorem dX3_walk_26 : decode cX3_walk 26 = .ok (.getfield 15, 3) := by decide +kernel
theorem dX3_walk_29 : decode cX3_walk 29 = .ok (.iconst 0, 1) := by decide +kernel
theorem dX3_walk_30 : decode cX3_walk 30 = .ok (.iaload, 1) := by decide +kernel
theorem dX3_walk_31 : decode cX3_walk 31 = .ok (.invokevirtual 29, 3) := by decide +kernel
theorem dX3_walk_34 : decode cX3_walk 34 = .ok (.istore 7, 2) := by decide +kernel
theorem dX3_walk_36 : decode cX3_walk 36 = .ok (.iload_n 3, 1) := by decide +kernel
theorem dX3_walk_37 : decode cX3_walk 37 = .ok (.iconst 2, 1) := by decide +kernel
theorem dX3_walk_38 : decode cX3_walk 38 = .ok (.if_icmp .lt 20, 3) := by decide +kernel
theorem dX3_walk_41 : decode cX3_walk 41 = .ok (.iload 7, 2) := by decide +kernel
theorem dX3_walk_43 : decode cX3_walk 43 = .ok (.ifCond .le 15, 3) := by decide +kernel
theorem dX3_walk_46 : decode cX3_walk 46 = .ok (.aload_n 0, 1) := by decide +kernel
theorem dX3_walk_47 : decode cX3_walk 47 = .ok (.iload_n 3, 1) := by decide +kernel
theorem dX3_walk_48 : decode cX3_walk 48 = .ok (.iload 5, 2) := by decide +kernel
theorem dX3_walk_50 : decode cX3_walk 50 = .ok (.iload 7, 2) := by decide +kernel
theorem dX3_walk_52 : decode cX3_walk 52 = .ok (.invokestatic 35, 3) := by decide +kernel
theorem dX3_walk_55 : decode cX3_walk 55 = .ok (.invokevirtual 40, 3) := by decide +kernel
theorem dX3_walk_58 : decode cX3_walk 58 = .ok (.aload_n 0, 1) := by decide +kernel
theorem dX3_walk_59 : decode cX3_walk 59 = .ok (.getfield 15, 3) := by decide +kernel
theorem dX3_walk_62 : decode cX3_walk 62 = .ok (.iconst 0, 1) := by decide +kernel
theorem dX3_walk_63 : decode cX3_walk 63 = .ok (.iaload, 1) := by decide +kernel
theorem dX3_walk_64 : decode cX3_walk 64 = .ok (.iconst 1, 1) := by decide +kernel
theorem dX3_walk_65 : decode cX3_walk 65 = .ok (.iadd, 1) := by decide +kernel
theorem dX3_walk_66 : decode cX3_walk 66 = .ok (.istore 8, 2) := by decide +kernel
theorem dX3_walk_68 : decode cX3_walk 68 = .ok (.iload 8, 2) := by decide +kernel
theorem dX3_walk_70 : decode cX3_walk 70 = .ok (.iload_n 2, 1) := by decide +kernel
theorem dX3_walk_71 : decode cX3_walk 71 = .ok (.if_icmp .ge 71, 3) := by decide +kernel
theorem dX3_walk_74 : decode cX3_walk 74 = .ok (.iload_n 3, 1) := by decide +kernel
theorem dX3_walk_75 : decode cX3_walk 75 = .ok (.bipush 6, 2) := by decide +kernel
theorem dX3_walk_77 : decode cX3_walk 77 = .ok (.if_icmp .ge 65, 3) := by decide +kernel
theorem dX3_walk_80 : decode cX3_walk 80 = .ok (.aload_n 1, 1) := by decide +kernel
theorem dX3_walk_81 : decode cX3_walk 81 = .ok (.iload 6, 2) := by decide +kernel
theorem dX3_walk_83 : decode cX3_walk 83 = .ok (.iload 8, 2) := by decide +kernel
theorem dX3_walk_85 : decode cX3_walk 85 = .ok (.invokevirtual 29, 3) := by decide +kernel
theorem dX3_walk_88 : decode cX3_walk 88 = .ok (.istore 9, 2) := by decide +kernel
theorem dX3_walk_90 : decode cX3_walk 90 = .ok (.iload 9, 2) := by decide +kernel
theorem dX3_walk_92 : decode cX3_walk 92 = .ok (.ifCond .le 44, 3) := by decide +kernel
theorem dX3_walk_95 : decode cX3_walk 95 = .ok (.iload 4, 2) := by decide +kernel
theorem dX3_walk_97 : decode cX3_walk 97 = .ok (.iload 8, 2) := by decide +kernel
theorem dX3_walk_99 : decode cX3_walk 99 = .ok (.invokestatic 44, 3) := by decide +kernel
theorem dX3_walk_102 : decode cX3_walk 102 = .ok (.ifCond .ne 34, 3) := by decide +kernel
theorem dX3_walk_105 : decode cX3_walk 105 = .ok (.aload_n 0, 1) := by decide +kernel
theorem dX3_walk_106 : decode cX3_walk 106 = .ok (.getfield 15, 3) := by decide +kernel
theorem dX3_walk_109 : decode cX3_walk 109 = .ok (.iload_n 3, 1) := by decide +kernel
theorem dX3_walk_110 : decode cX3_walk 110 = .ok (.iload 8, 2) := by decide +kernel
theorem dX3_walk_112 : decode cX3_walk 112 = .ok (.iastore, 1) := by decide +kernel
theorem dX3_walk_113 : decode cX3_walk 113 = .ok (.aload_n 0, 1) := by decide +kernel
theorem dX3_walk_114 : decode cX3_walk 114 = .ok (.aload_n 1, 1) := by decide +kernel
theorem dX3_walk_115 : decode cX3_walk 115 = .ok (.iload_n 2, 1) := by decide +kernel
theorem dX3_walk_116 : decode cX3_walk 116 = .ok (.iload_n 3, 1) := by decide +kernel
theorem dX3_walk_117 : decode cX3_walk 117 = .ok (.iconst 1, 1) := by decide +kernel
theorem dX3_walk_118 : decode cX3_walk 118 = .ok (.iadd, 1) := by decide +kernel
theorem dX3_walk_119 : decode cX3_walk 119 = .ok (.iload 4, 2) := by decide +kernel
theorem dX3_walk_121 : decode cX3_walk 121 = .ok (.iconst 1, 1) := by decide +kernel
theorem dX3_walk_122 : decode cX3_walk 122 = .ok (.iload 8, 2) := by decide +kernel
theorem dX3_walk_124 : decode cX3_walk 124 = .ok (.ishl, 1) := by decide +kernel
theorem dX3_walk_125 : decode cX3_walk 125 = .ok (.ior, 1) := by decide +kernel
theorem dX3_walk_126 : decode cX3_walk 126 = .ok (.iload 5, 2) := by decide +kernel
theorem dX3_walk_128 : decode cX3_walk 128 = .ok (.iload 9, 2) := by decide +kernel
theorem dX3_walk_130 : decode cX3_walk 130 = .ok (.invokestatic 35, 3) := by decide +kernel
theorem dX3_walk_133 : decode cX3_walk 133 = .ok (.invokevirtual 25, 3) := by decide +kernel
theorem dX3_walk_136 : decode cX3_walk 136 = .ok (.iinc 8 1, 3) := by decide +kernel
theorem dX3_walk_139 : decode cX3_walk 139 = .ok (.goto (-71), 3) := by decide +kernel
theorem dX3_walk_142 : decode cX3_walk 142 = .ok (.return_, 1) := by decide +kernel
theorem dX3_offer_0 : decode cX3_offer 0 = .ok (.iload_n 1, 1) := by decide +kernel
theorem dX3_offer_1 : decode cX3_offer 1 = .ok (.iload_n 2, 1) := by decide +kernel
theorem dX3_offer_2 : decode cX3_offer 2 = .ok (.imul, 1) := by decide +kernel
theorem dX3_offer_3 : decode cX3_offer 3 = .ok (.istore_n 3, 1) := by decide +kernel
theorem dX3_offer_4 : decode cX3_offer 4 = .ok (.aload_n 0, 1) := by decide +kernel
theorem dX3_offer_5 : decode cX3_offer 5 = .ok (.getfield 18, 3) := by decide +kernel
theorem dX3_offer_8 : decode cX3_offer 8 = .ok (.aload_n 0, 1) := by decide +kernel
theorem dX3_offer_9 : decode cX3_offer 9 = .ok (.getfield 22, 3) := by decide +kernel
theorem dX3_offer_12 : decode cX3_offer 12 = .ok (.imul, 1) := by decide +kernel
theorem dX3_offer_13 : decode cX3_offer 13 = .ok (.istore 4, 2) := by decide +kernel
theorem dX3_offer_15 : decode cX3_offer 15 = .ok (.iload_n 3, 1) := by decide +kernel
theorem dX3_offer_16 : decode cX3_offer 16 = .ok (.iload 4, 2) := by decide +kernel
theorem dX3_offer_18 : decode cX3_offer 18 = .ok (.if_icmp .gt 17, 3) := by decide +kernel
theorem dX3_offer_21 : decode cX3_offer 21 = .ok (.iload_n 3, 1) := by decide +kernel
theorem dX3_offer_22 : decode cX3_offer 22 = .ok (.iload 4, 2) := by decide +kernel
theorem dX3_offer_24 : decode cX3_offer 24 = .ok (.if_icmp .ne 36, 3) := by decide +kernel
theorem dX3_offer_27 : decode cX3_offer 27 = .ok (.iload_n 1, 1) := by decide +kernel
theorem dX3_offer_28 : decode cX3_offer 28 = .ok (.aload_n 0, 1) := by decide +kernel
theorem dX3_offer_29 : decode cX3_offer 29 = .ok (.getfield 18, 3) := by decide +kernel
theorem dX3_offer_32 : decode cX3_offer 32 = .ok (.if_icmp .ge 28, 3) := by decide +kernel
theorem dX3_offer_35 : decode cX3_offer 35 = .ok (.aload_n 0, 1) := by decide +kernel
theorem dX3_offer_36 : decode cX3_offer 36 = .ok (.iload_n 1, 1) := by decide +kernel
theorem dX3_offer_37 : decode cX3_offer 37 = .ok (.putfield 18, 3) := by decide +kernel
theorem dX3_offer_40 : decode cX3_offer 40 = .ok (.aload_n 0, 1) := by decide +kernel
theorem dX3_offer_41 : decode cX3_offer 41 = .ok (.iload_n 2, 1) := by decide +kernel
theorem dX3_offer_42 : decode cX3_offer 42 = .ok (.putfield 22, 3) := by decide +kernel
theorem dX3_offer_45 : decode cX3_offer 45 = .ok (.aload_n 0, 1) := by decide +kernel
theorem dX3_offer_46 : decode cX3_offer 46 = .ok (.getfield 15, 3) := by decide +kernel
theorem dX3_offer_49 : decode cX3_offer 49 = .ok (.iconst 0, 1) := by decide +kernel
theorem dX3_offer_50 : decode cX3_offer 50 = .ok (.aload_n 0, 1) := by decide +kernel
theorem dX3_offer_51 : decode cX3_offer 51 = .ok (.getfield 9, 3) := by decide +kernel
theorem dX3_offer_54 : decode cX3_offer 54 = .ok (.iconst 0, 1) := by decide +kernel
theorem dX3_offer_55 : decode cX3_offer 55 = .ok (.bipush 6, 2) := by decide +kernel
theorem dX3_offer_57 : decode cX3_offer 57 = .ok (.invokestatic 48, 3) := by decide +kernel
theorem dX3_offer_60 : decode cX3_offer 60 = .ok (.return_, 1) := by decide +kernel
theorem dX4_init_0 : decode cX4_init 0 = .ok (.aload_n 0, 1) := by decide +kernel
theorem dX4_init_1 : decode cX4_init 1 = .ok (.invokespecial 3, 3) := by decide +kernel
theorem dX4_init_4 : decode cX4_init 4 = .ok (.aload_n 0, 1) := by decide +kernel
theorem dX4_init_5 : decode cX4_init 5 = .ok (.bipush 6, 2) := by decide +kernel
theorem dX4_init_7 : decode cX4_init 7 = .ok (.newarray .boolean, 2) := by decide +kernel
theorem dX4_init_9 : decode cX4_init 9 = .ok (.putfield 9, 3) := by decide +kernel
theorem dX4_init_12 : decode cX4_init 12 = .ok (.aload_n 0, 1) := by decide +kernel
theorem dX4_init_13 : decode cX4_init 13 = .ok (.bipush 8, 2) := by decide +kernel
theorem dX4_init_15 : decode cX4_init 15 = .ok (.newarray .int, 2) := by decide +kernel
theorem dX4_init_17 : decode cX4_init 17 = .ok (.putfield 15, 3) := by decide +kernel
theorem dX4_init_20 : decode cX4_init 20 = .ok (.aload_n 0, 1) := by decide +kernel
theorem dX4_init_21 : decode cX4_init 21 = .ok (.bipush 8, 2) := by decide +kernel
theorem dX4_init_23 : decode cX4_init 23 = .ok (.newarray .int, 2) := by decide +kernel
theorem dX4_init_25 : decode cX4_init 25 = .ok (.putfield 19, 3) := by decide +kernel
theorem dX4_init_28 : decode cX4_init 28 = .ok (.aload_n 0, 1) := by decide +kernel
theorem dX4_init_29 : decode cX4_init 29 = .ok (.bipush 8, 2) := by decide +kernel
theorem dX4_init_31 : decode cX4_init 31 = .ok (.newarray .int, 2) := by decide +kernel
theorem dX4_init_33 : decode cX4_init 33 = .ok (.putfield 22, 3) := by decide +kernel
theorem dX4_init_36 : decode cX4_init 36 = .ok (.aload_n 0, 1) := by decide +kernel
theorem dX4_init_37 : decode cX4_init 37 = .ok (.bipush 8, 2) := by decide +kernel
theorem dX4_init_39 : decode cX4_init 39 = .ok (.newarray .boolean, 2) := by decide +kernel
theorem dX4_init_41 : decode cX4_init 41 = .ok (.putfield 25, 3) := by decide +kernel
theorem dX4_init_44 : decode cX4_init 44 = .ok (.aload_n 0, 1) := by decide +kernel
theorem dX4_init_45 : decode cX4_init 45 = .ok (.bipush 8, 2) := by decide +kernel
theorem dX4_init_47 : decode cX4_init 47 = .ok (.newarray .int, 2) := by decide +kernel
theorem dX4_init_49 : decode cX4_init 49 = .ok (.putfield 28, 3) := by decide +kernel
theorem dX4_init_52 : decode cX4_init 52 = .ok (.aload_n 0, 1) := by decide +kernel
theorem dX4_init_53 : decode cX4_init 53 = .ok (.iconst 4, 1) := by decide +kernel
theorem dX4_init_54 : decode cX4_init 54 = .ok (.newarray .int, 2) := by decide +kernel
theorem dX4_init_56 : decode cX4_init 56 = .ok (.putfield 31, 3) := by decide +kernel
theorem dX4_init_59 : decode cX4_init 59 = .ok (.aload_n 0, 1) := by decide +kernel
theorem dX4_init_60 : decode cX4_init 60 = .ok (.new 34, 3) := by decide +kernel
theorem dX4_init_63 : decode cX4_init 63 = .ok (.dup, 1) := by decide +kernel
theorem dX4_init_64 : decode cX4_init 64 = .ok (.invokespecial 36, 3) := by decide +kernel
theorem dX4_init_67 : decode cX4_init 67 = .ok (.putfield 37, 3) := by decide +kernel
theorem dX4_init_70 : decode cX4_init 70 = .ok (.aload_n 0, 1) := by decide +kernel
theorem dX4_init_71 : decode cX4_init 71 = .ok (.iconst 5, 1) := by decide +kernel
theorem dX4_init_72 : decode cX4_init 72 = .ok (.newarray .int, 2) := by decide +kernel
theorem dX4_init_74 : decode cX4_init 74 = .ok (.putfield 41, 3) := by decide +kernel
theorem dX4_init_77 : decode cX4_init 77 = .ok (.return_, 1) := by decide +kernel
theorem dX4_hasWell_0 : decode cX4_hasWell 0 = .ok (.iconst 0, 1) := by decide +kernel
theorem dX4_hasWell_1 : decode cX4_hasWell 1 = .ok (.iload_n 1, 1) := by decide +kernel
theorem dX4_hasWell_2 : decode cX4_hasWell 2 = .ok (.if_icmp .gt 21, 3) := by decide +kernel
theorem dX4_hasWell_5 : decode cX4_hasWell 5 = .ok (.iload_n 1, 1) := by decide +kernel
theorem dX4_hasWell_6 : decode cX4_hasWell 6 = .ok (.aload_n 0, 1) := by decide +kernel
theorem dX4_hasWell_7 : decode cX4_hasWell 7 = .ok (.getfield 44, 3) := by decide +kernel
theorem dX4_hasWell_10 : decode cX4_hasWell 10 = .ok (.if_icmp .ge 13, 3) := by decide +kernel
theorem dX4_hasWell_13 : decode cX4_hasWell 13 = .ok (.iload_n 1, 1) := by decide +kernel
theorem dX4_hasWell_14 : decode cX4_hasWell 14 = .ok (.bipush 6, 2) := by decide +kernel
theorem dX4_hasWell_16 : decode cX4_hasWell 16 = .ok (.if_icmp .ge 7, 3) := by decide +kernel
theorem dX4_hasWell_19 : decode cX4_hasWell 19 = .ok (.iconst 1, 1) := by decide +kernel
theorem dX4_hasWell_20 : decode cX4_hasWell 20 = .ok (.goto 4, 3) := by decide +kernel
theorem dX4_hasWell_23 : decode cX4_hasWell 23 = .ok (.iconst 0, 1) := by decide +kernel
theorem dX4_hasWell_24 : decode cX4_hasWell 24 = .ok (.ireturn, 1) := by decide +kernel
theorem dX4_hasStage_0 : decode cX4_hasStage 0 = .ok (.iconst 0, 1) := by decide +kernel
theorem dX4_hasStage_1 : decode cX4_hasStage 1 = .ok (.iload_n 1, 1) := by decide +kernel
theorem dX4_hasStage_2 : decode cX4_hasStage 2 = .ok (.if_icmp .gt 21, 3) := by decide +kernel
theorem dX4_hasStage_5 : decode cX4_hasStage 5 = .ok (.iload_n 1, 1) := by decide +kernel
theorem dX4_hasStage_6 : decode cX4_hasStage 6 = .ok (.aload_n 0, 1) := by decide +kernel
theorem dX4_hasStage_7 : decode cX4_hasStage 7 = .ok (.getfield 48, 3) := by decide +kernel
theorem dX4_hasStage_10 : decode cX4_hasStage 10 = .ok (.if_icmp .ge 13, 3) := by decide +kernel
theorem dX4_hasStage_13 : decode cX4_hasStage 13 = .ok (.iload_n 1, 1) := by decide +kernel
theorem dX4_hasStage_14 : decode cX4_hasStage 14 = .ok (.bipush 8, 2) := by decide +kernel
theorem dX4_hasStage_16 : decode cX4_hasStage 16 = .ok (.if_icmp .ge 7, 3) := by decide +kernel
theorem dX4_hasStage_19 : decode cX4_hasStage 19 = .ok (.iconst 1, 1) := by decide +kernel
theorem dX4_hasStage_20 : decode cX4_hasStage 20 = .ok (.goto 4, 3) := by decide +kernel
theorem dX4_hasStage_23 : decode cX4_hasStage 23 = .ok (.iconst 0, 1) := by decide +kernel
theorem dX4_hasStage_24 : decode cX4_hasStage 24 = .ok (.ireturn, 1) := by decide +kernel
theorem dX4_hasCaravan_0 : decode cX4_hasCaravan 0 = .ok (.iconst 0, 1) := by decide +kernel
theorem dX4_hasCaravan_1 : decode cX4_hasCaravan 1 = .ok (.iload_n 1, 1) := by decide +kernel
theorem dX4_hasCaravan_2 : decode cX4_hasCaravan 2 = .ok (.if_icmp .gt 20, 3) := by decide +kernel
theorem dX4_hasCaravan_5 : decode cX4_hasCaravan 5 = .ok (.iload_n 1, 1) := by decide +kernel
theorem dX4_hasCaravan_6 : decode cX4_hasCaravan 6 = .ok (.aload_n 0, 1) := by decide +kernel
theorem dX4_hasCaravan_7 : decode cX4_hasCaravan 7 = .ok (.getfield 51, 3) := by decide +kernel
theorem dX4_hasCaravan_10 : decode cX4_hasCaravan 10 = .ok (.if_icmp .ge 12, 3) := by decide +kernel
theorem dX4_hasCaravan_13 : decode cX4_hasCaravan 13 = .ok (.iload_n 1, 1) := by decide +kernel
theorem dX4_hasCaravan_14 : decode cX4_hasCaravan 14 = .ok (.iconst 4, 1) := by decide +kernel
theorem dX4_hasCaravan_15 : decode cX4_hasCaravan 15 = .ok (.if_icmp .ge 7, 3) := by decide +kernel
theorem dX4_hasCaravan_18 : decode cX4_hasCaravan 18 = .ok (.iconst 1, 1) := by decide +kernel
theorem dX4_hasCaravan_19 : decode cX4_hasCaravan 19 = .ok (.goto 4, 3) := by decide +kernel
theorem dX4_hasCaravan_22 : decode cX4_hasCaravan 22 = .ok (.iconst 0, 1) := by decide +kernel
theorem dX4_hasCaravan_23 : decode cX4_hasCaravan 23 = .ok (.ireturn, 1) := by decide +kernel
theorem dX4_refusesNight_0 : decode cX4_refusesNight 0 = .ok (.aload_n 0, 1) := by decide +kernel
theorem dX4_refusesNight_1 : decode cX4_refusesNight 1 = .ok (.iload_n 1, 1) := by decide +kernel
theorem dX4_refusesNight_2 : decode cX4_refusesNight 2 = .ok (.invokevirtual 54, 3) := by decide +kernel
theorem dX4_refusesNight_5 : decode cX4_refusesNight 5 = .ok (.ifCond .eq 16, 3) := by decide +kernel
theorem dX4_refusesNight_8 : decode cX4_refusesNight 8 = .ok (.aload_n 0, 1) := by decide +kernel
theorem dX4_refusesNight_9 : decode cX4_refusesNight 9 = .ok (.getfield 9, 3) := by decide +kernel
theorem dX4_refusesNight_12 : decode cX4_refusesNight 12 = .ok (.iload_n 1, 1) := by decide +kernel
theorem dX4_refusesNight_13 : decode cX4_refusesNight 13 = .ok (.baload, 1) := by decide +kernel
theorem dX4_refusesNight_14 : decode cX4_refusesNight 14 = .ok (.ifCond .eq 7, 3) := by decide +kernel
theorem dX4_refusesNight_17 : decode cX4_refusesNight 17 = .ok (.iconst 1, 1) := by decide +kernel
theorem dX4_refusesNight_18 : decode cX4_refusesNight 18 = .ok (.goto 4, 3) := by decide +kernel
theorem dX4_refusesNight_21 : decode cX4_refusesNight 21 = .ok (.iconst 0, 1) := by decide +kernel
theorem dX4_refusesNight_22 : decode cX4_refusesNight 22 = .ok (.ireturn, 1) := by decide +kernel
theorem dX4_firstEnd_0 : decode cX4_firstEnd 0 = .ok (.aload_n 0, 1) := by decide +kernel
theorem dX4_firstEnd_1 : decode cX4_firstEnd 1 = .ok (.iload_n 1, 1) := by decide +kernel
theorem dX4_firstEnd_2 : decode cX4_firstEnd 2 = .ok (.invokevirtual 58, 3) := by decide +kernel
theorem dX4_firstEnd_5 : decode cX4_firstEnd 5 = .ok (.ifCond .eq 12, 3) := by decide +kernel
theorem dX4_firstEnd_8 : decode cX4_firstEnd 8 = .ok (.aload_n 0, 1) := by decide +kernel
theorem dX4_firstEnd_9 : decode cX4_firstEnd 9 = .ok (.getfield 15, 3) := by decide +kernel
theorem dX4_firstEnd_12 : decode cX4_firstEnd 12 = .ok (.iload_n 1, 1) := by decide +kernel
theorem dX4_firstEnd_13 : decode cX4_firstEnd 13 = .ok (.iaload, 1) := by decide +kernel
theorem dX4_firstEnd_14 : decode cX4_firstEnd 14 = .ok (.goto 5, 3) := by decide +kernel
theorem dX4_firstEnd_17 : decode cX4_firstEnd 17 = .ok (.bipush (-9), 2) := by decide +kernel
theorem dX4_firstEnd_19 : decode cX4_firstEnd 19 = .ok (.ireturn, 1) := by decide +kernel
theorem dX4_secondEnd_0 : decode cX4_secondEnd 0 = .ok (.aload_n 0, 1) := by decide +kernel
theorem dX4_secondEnd_1 : decode cX4_secondEnd 1 = .ok (.iload_n 1, 1) := by decide +kernel
theorem dX4_secondEnd_2 : decode cX4_secondEnd 2 = .ok (.invokevirtual 58, 3) := by decide +kernel
theorem dX4_secondEnd_5 : decode cX4_secondEnd 5 = .ok (.ifCond .eq 12, 3) := by decide +kernel
theorem dX4_secondEnd_8 : decode cX4_secondEnd 8 = .ok (.aload_n 0, 1) := by decide +kernel
theorem dX4_secondEnd_9 : decode cX4_secondEnd 9 = .ok (.getfield 19, 3) := by decide +kernel
theorem dX4_secondEnd_12 : decode cX4_secondEnd 12 = .ok (.iload_n 1, 1) := by decide +kernel
theorem dX4_secondEnd_13 : decode cX4_secondEnd 13 = .ok (.iaload, 1) := by decide +kernel
theorem dX4_secondEnd_14 : decode cX4_secondEnd 14 = .ok (.goto 5, 3) := by decide +kernel
theorem dX4_secondEnd_17 : decode cX4_secondEnd 17 = .ok (.bipush (-9), 2) := by decide +kernel
theorem dX4_secondEnd_19 : decode cX4_secondEnd 19 = .ok (.ireturn, 1) := by decide +kernel
theorem dX4_heatOf_0 : decode cX4_heatOf 0 = .ok (.aload_n 0, 1) := by decide +kernel
theorem dX4_heatOf_1 : decode cX4_heatOf 1 = .ok (.iload_n 1, 1) := by decide +kernel
theorem dX4_heatOf_2 : decode cX4_heatOf 2 = .ok (.invokevirtual 58, 3) := by decide +kernel
theorem dX4_heatOf_5 : decode cX4_heatOf 5 = .ok (.ifCond .eq 12, 3) := by decide +kernel
theorem dX4_heatOf_8 : decode cX4_heatOf 8 = .ok (.aload_n 0, 1) := by decide +kernel
theorem dX4_heatOf_9 : decode cX4_heatOf 9 = .ok (.getfield 22, 3) := by decide +kernel
theorem dX4_heatOf_12 : decode cX4_heatOf 12 = .ok (.iload_n 1, 1) := by decide +kernel
theorem dX4_heatOf_13 : decode cX4_heatOf 13 = .ok (.iaload, 1) := by decide +kernel
theorem dX4_heatOf_14 : decode cX4_heatOf 14 = .ok (.goto 4, 3) := by decide +kernel
theorem dX4_heatOf_17 : decode cX4_heatOf 17 = .ok (.iconst 0, 1) := by decide +kernel
theorem dX4_heatOf_18 : decode cX4_heatOf 18 = .ok (.ireturn, 1) := by decide +kernel
theorem dX4_isByNight_0 : decode cX4_isByNight 0 = .ok (.aload_n 0, 1) := by decide +kernel
theorem dX4_isByNight_1 : decode cX4_isByNight 1 = .ok (.iload_n 1, 1) := by decide +kernel
theorem dX4_isByNight_2 : decode cX4_isByNight 2 = .ok (.invokevirtual 58, 3) := by decide +kernel
theorem dX4_isByNight_5 : decode cX4_isByNight 5 = .ok (.ifCond .eq 16, 3) := by decide +kernel
theorem dX4_isByNight_8 : decode cX4_isByNight 8 = .ok (.aload_n 0, 1) := by decide +kernel
theorem dX4_isByNight_9 : decode cX4_isByNight 9 = .ok (.getfield 25, 3) := by decide +kernel
theorem dX4_isByNight_12 : decode cX4_isByNight 12 = .ok (.iload_n 1, 1) := by decide +kernel
theorem dX4_isByNight_13 : decode cX4_isByNight 13 = .ok (.baload, 1) := by decide +kernel
theorem dX4_isByNight_14 : decode cX4_isByNight 14 = .ok (.ifCond .eq 7, 3) := by decide +kernel
theorem dX4_isByNight_17 : decode cX4_isByNight 17 = .ok (.iconst 1, 1) := by decide +kernel
theorem dX4_isByNight_18 : decode cX4_isByNight 18 = .ok (.goto 4, 3) := by decide +kernel
theorem dX4_isByNight_21 : decode cX4_isByNight 21 = .ok (.iconst 0, 1) := by decide +kernel
theorem dX4_isByNight_22 : decode cX4_isByNight 22 = .ok (.ireturn, 1) := by decide +kernel
theorem dX4_lenderOf_0 : decode cX4_lenderOf 0 = .ok (.aload_n 0, 1) := by decide +kernel
theorem dX4_lenderOf_1 : decode cX4_lenderOf 1 = .ok (.iload_n 1, 1) := by decide +kernel
theorem dX4_lenderOf_2 : decode cX4_lenderOf 2 = .ok (.invokevirtual 58, 3) := by decide +kernel
theorem dX4_lenderOf_5 : decode cX4_lenderOf 5 = .ok (.ifCond .eq 12, 3) := by decide +kernel
theorem dX4_lenderOf_8 : decode cX4_lenderOf 8 = .ok (.aload_n 0, 1) := by decide +kernel
theorem dX4_lenderOf_9 : decode cX4_lenderOf 9 = .ok (.getfield 28, 3) := by decide +kernel
theorem dX4_lenderOf_12 : decode cX4_lenderOf 12 = .ok (.iload_n 1, 1) := by decide +kernel
theorem dX4_lenderOf_13 : decode cX4_lenderOf 13 = .ok (.iaload, 1) := by decide +kernel
theorem dX4_lenderOf_14 : decode cX4_lenderOf 14 = .ok (.goto 5, 3) := by decide +kernel
theorem dX4_lenderOf_17 : decode cX4_lenderOf 17 = .ok (.bipush (-9), 2) := by decide +kernel
theorem dX4_lenderOf_19 : decode cX4_lenderOf 19 = .ok (.ireturn, 1) := by decide +kernel
theorem dX4_bearsOf_0 : decode cX4_bearsOf 0 = .ok (.aload_n 0, 1) := by decide +kernel
theorem dX4_bearsOf_1 : decode cX4_bearsOf 1 = .ok (.iload_n 1, 1) := by decide +kernel
theorem dX4_bearsOf_2 : decode cX4_bearsOf 2 = .ok (.invokevirtual 61, 3) := by decide +kernel
theorem dX4_bearsOf_5 : decode cX4_bearsOf 5 = .ok (.ifCond .eq 12, 3) := by decide +kernel
theorem dX4_bearsOf_8 : decode cX4_bearsOf 8 = .ok (.aload_n 0, 1) := by decide +kernel
theorem dX4_bearsOf_9 : decode cX4_bearsOf 9 = .ok (.getfield 31, 3) := by decide +kernel
theorem dX4_bearsOf_12 : decode cX4_bearsOf 12 = .ok (.iload_n 1, 1) := by decide +kernel
theorem dX4_bearsOf_13 : decode cX4_bearsOf 13 = .ok (.iaload, 1) := by decide +kernel
theorem dX4_bearsOf_14 : decode cX4_bearsOf 14 = .ok (.goto 4, 3) := by decide +kernel
theorem dX4_bearsOf_17 : decode cX4_bearsOf 17 = .ok (.iconst 0, 1) := by decide +kernel
theorem dX4_bearsOf_18 : decode cX4_bearsOf 18 = .ok (.ireturn, 1) := by decide +kernel
theorem dX4_otherEnd_0 : decode cX4_otherEnd 0 = .ok (.aload_n 0, 1) := by decide +kernel
theorem dX4_otherEnd_1 : decode cX4_otherEnd 1 = .ok (.iload_n 1, 1) := by decide +kernel
theorem dX4_otherEnd_2 : decode cX4_otherEnd 2 = .ok (.invokevirtual 64, 3) := by decide +kernel
theorem dX4_otherEnd_5 : decode cX4_otherEnd 5 = .ok (.iload_n 2, 1) := by decide +kernel
theorem dX4_otherEnd_6 : decode cX4_otherEnd 6 = .ok (.if_icmp .ne 9, 3) := by decide +kernel
theorem dX4_otherEnd_9 : decode cX4_otherEnd 9 = .ok (.aload_n 0, 1) := by decide +kernel
theorem dX4_otherEnd_10 : decode cX4_otherEnd 10 = .ok (.iload_n 1, 1) := by decide +kernel
theorem dX4_otherEnd_11 : decode cX4_otherEnd 11 = .ok (.invokevirtual 68, 3) := by decide +kernel
theorem dX4_otherEnd_14 : decode cX4_otherEnd 14 = .ok (.ireturn, 1) := by decide +kernel
theorem dX4_otherEnd_15 : decode cX4_otherEnd 15 = .ok (.aload_n 0, 1) := by decide +kernel
theorem dX4_otherEnd_16 : decode cX4_otherEnd 16 = .ok (.iload_n 1, 1) := by decide +kernel
theorem dX4_otherEnd_17 : decode cX4_otherEnd 17 = .ok (.invokevirtual 68, 3) := by decide +kernel
theorem dX4_otherEnd_20 : decode cX4_otherEnd 20 = .ok (.iload_n 2, 1) := by decide +kernel
theorem dX4_otherEnd_21 : decode cX4_otherEnd 21 = .ok (.if_icmp .ne 11, 3) := by decide +kernel
theorem dX4_otherEnd_24 : decode cX4_otherEnd 24 = .ok (.aload_n 0, 1) := by decide +kernel
theorem dX4_otherEnd_25 : decode cX4_otherEnd 25 = .ok (.iload_n 1, 1) := by decide +kernel
theorem dX4_otherEnd_26 : decode cX4_otherEnd 26 = .ok (.invokevirtual 64, 3) := by decide +kernel
theorem dX4_otherEnd_29 : decode cX4_otherEnd 29 = .ok (.goto 5, 3) := by decide +kernel
theorem dX4_otherEnd_32 : decode cX4_otherEnd 32 = .ok (.bipush (-9), 2) := by decide +kernel
theorem dX4_otherEnd_34 : decode cX4_otherEnd 34 = .ok (.ireturn, 1) := by decide +kernel
theorem dX4_paidBy_0 : decode cX4_paidBy 0 = .ok (.aload_n 0, 1) := by decide +kernel
theorem dX4_paidBy_1 : decode cX4_paidBy 1 = .ok (.iload_n 1, 1) := by decide +kernel
theorem dX4_paidBy_2 : decode cX4_paidBy 2 = .ok (.invokevirtual 71, 3) := by decide +kernel
theorem dX4_paidBy_5 : decode cX4_paidBy 5 = .ok (.ifCond .ne 5, 3) := by decide +kernel
theorem dX4_paidBy_8 : decode cX4_paidBy 8 = .ok (.iload_n 2, 1) := by decide +kernel
theorem dX4_paidBy_9 : decode cX4_paidBy 9 = .ok (.ireturn, 1) := by decide +kernel
theorem dX4_paidBy_10 : decode cX4_paidBy 10 = .ok (.aload_n 0, 1) := by decide +kernel
theorem dX4_paidBy_11 : decode cX4_paidBy 11 = .ok (.aload_n 0, 1) := by decide +kernel
theorem dX4_paidBy_12 : decode cX4_paidBy 12 = .ok (.iload_n 1, 1) := by decide +kernel
theorem dX4_paidBy_13 : decode cX4_paidBy 13 = .ok (.invokevirtual 74, 3) := by decide +kernel
theorem dX4_paidBy_16 : decode cX4_paidBy 16 = .ok (.invokevirtual 77, 3) := by decide +kernel
theorem dX4_paidBy_19 : decode cX4_paidBy 19 = .ok (.ifCond .eq 7, 3) := by decide +kernel
theorem dX4_paidBy_22 : decode cX4_paidBy 22 = .ok (.iconst 0, 1) := by decide +kernel
theorem dX4_paidBy_23 : decode cX4_paidBy 23 = .ok (.goto 6, 3) := by decide +kernel
theorem dX4_paidBy_26 : decode cX4_paidBy 26 = .ok (.iload_n 2, 1) := by decide +kernel
theorem dX4_paidBy_27 : decode cX4_paidBy 27 = .ok (.iconst 2, 1) := by decide +kernel
theorem dX4_paidBy_28 : decode cX4_paidBy 28 = .ok (.idiv, 1) := by decide +kernel
theorem dX4_paidBy_29 : decode cX4_paidBy 29 = .ok (.ireturn, 1) := by decide +kernel
theorem dX4_stagesLentBy_0 : decode cX4_stagesLentBy 0 = .ok (.iconst 0, 1) := by decide +kernel
theorem dX4_stagesLentBy_1 : decode cX4_stagesLentBy 1 = .ok (.istore_n 2, 1) := by decide +kernel
theorem dX4_stagesLentBy_2 : decode cX4_stagesLentBy 2 = .ok (.iconst 0, 1) := by decide +kernel
theorem dX4_stagesLentBy_3 : decode cX4_stagesLentBy 3 = .ok (.istore_n 3, 1) := by decide +kernel
theorem dX4_stagesLentBy_4 : decode cX4_stagesLentBy 4 = .ok (.iload_n 3, 1) := by decide +kernel
theorem dX4_stagesLentBy_5 : decode cX4_stagesLentBy 5 = .ok (.aload_n 0, 1) := by decide +kernel
theorem dX4_stagesLentBy_6 : decode cX4_stagesLentBy 6 = .ok (.getfield 48, 3) := by decide +kernel
theorem dX4_stagesLentBy_9 : decode cX4_stagesLentBy 9 = .ok (.if_icmp .ge 21, 3) := by decide +kernel
theorem dX4_stagesLentBy_12 : decode cX4_stagesLentBy 12 = .ok (.aload_n 0, 1) := by decide +kernel
theorem dX4_stagesLentBy_13 : decode cX4_stagesLentBy 13 = .ok (.iload_n 3, 1) := by decide +kernel
theorem dX4_stagesLentBy_14 : decode cX4_stagesLentBy 14 = .ok (.invokevirtual 74, 3) := by decide +kernel
theorem dX4_stagesLentBy_17 : decode cX4_stagesLentBy 17 = .ok (.iload_n 1, 1) := by decide +kernel
theorem dX4_stagesLentBy_18 : decode cX4_stagesLentBy 18 = .ok (.if_icmp .ne 6, 3) := by decide +kernel
theorem dX4_stagesLentBy_21 : decode cX4_stagesLentBy 21 = .ok (.iinc 2 1, 3) := by decide +kernel
theorem dX4_stagesLentBy_24 : decode cX4_stagesLentBy 24 = .ok (.iinc 3 1, 3) := by decide +kernel
theorem dX4_stagesLentBy_27 : decode cX4_stagesLentBy 27 = .ok (.goto (-23), 3) := by decide +kernel
theorem dX4_stagesLentBy_30 : decode cX4_stagesLentBy 30 = .ok (.iload_n 2, 1) := by decide +kernel
theorem dX4_stagesLentBy_31 : decode cX4_stagesLentBy 31 = .ok (.ireturn, 1) := by decide +kernel
theorem dX4_salt_0 : decode cX4_salt 0 = .ok (.iconst 1, 1) := by decide +kernel
theorem dX4_salt_1 : decode cX4_salt 1 = .ok (.aload_n 0, 1) := by decide +kernel
theorem dX4_salt_2 : decode cX4_salt 2 = .ok (.getfield 44, 3) := by decide +kernel
theorem dX4_salt_5 : decode cX4_salt 5 = .ok (.ishl, 1) := by decide +kernel
theorem dX4_salt_6 : decode cX4_salt 6 = .ok (.iconst 1, 1) := by decide +kernel
theorem dX4_salt_7 : decode cX4_salt 7 = .ok (.isub, 1) := by decide +kernel
theorem dX4_salt_8 : decode cX4_salt 8 = .ok (.istore_n 1, 1) := by decide +kernel
theorem dX4_salt_9 : decode cX4_salt 9 = .ok (.iconst 0, 1) := by decide +kernel
theorem dX4_salt_10 : decode cX4_salt 10 = .ok (.istore_n 2, 1) := by decide +kernel
theorem dX4_salt_11 : decode cX4_salt 11 = .ok (.iload_n 2, 1) := by decide +kernel
theorem dX4_salt_12 : decode cX4_salt 12 = .ok (.iconst 1, 1) := by decide +kernel
theorem dX4_salt_13 : decode cX4_salt 13 = .ok (.aload_n 0, 1) := by decide +kernel
theorem dX4_salt_14 : decode cX4_salt 14 = .ok (.getfield 44, 3) := by decide +kernel
theorem dX4_salt_17 : decode cX4_salt 17 = .ok (.ishl, 1) := by decide +kernel
theorem dX4_salt_18 : decode cX4_salt 18 = .ok (.if_icmp .ge 30, 3) := by decide +kernel
theorem dX4_salt_21 : decode cX4_salt 21 = .ok (.iload_n 2, 1) := by decide +kernel
theorem dX4_salt_22 : decode cX4_salt 22 = .ok (.invokestatic 80, 3) := by decide +kernel
theorem dX4_salt_25 : decode cX4_salt 25 = .ok (.iload_n 1, 1) := by decide +kernel
theorem dX4_salt_26 : decode cX4_salt 26 = .ok (.invokestatic 80, 3) := by decide +kernel
theorem dX4_salt_29 : decode cX4_salt 29 = .ok (.if_icmp .ge 13, 3) := by decide +kernel
theorem dX4_salt_32 : decode cX4_salt 32 = .ok (.aload_n 0, 1) := by decide +kernel
theorem dX4_salt_33 : decode cX4_salt 33 = .ok (.iload_n 2, 1) := by decide +kernel
theorem dX4_salt_34 : decode cX4_salt 34 = .ok (.invokevirtual 85, 3) := by decide +kernel
theorem dX4_salt_37 : decode cX4_salt 37 = .ok (.ifCond .eq 5, 3) := by decide +kernel
theorem dX4_salt_40 : decode cX4_salt 40 = .ok (.iload_n 2, 1) := by decide +kernel
theorem dX4_salt_41 : decode cX4_salt 41 = .ok (.istore_n 1, 1) := by decide +kernel
theorem dX4_salt_42 : decode cX4_salt 42 = .ok (.iinc 2 1, 3) := by decide +kernel
theorem dX4_salt_45 : decode cX4_salt 45 = .ok (.goto (-34), 3) := by decide +kernel
theorem dX4_salt_48 : decode cX4_salt 48 = .ok (.iload_n 1, 1) := by decide +kernel
theorem dX4_salt_49 : decode cX4_salt 49 = .ok (.ireturn, 1) := by decide +kernel
theorem dX4_endsEachStage_0 : decode cX4_endsEachStage 0 = .ok (.iconst 0, 1) := by decide +kernel
theorem dX4_endsEachStage_1 : decode cX4_endsEachStage 1 = .ok (.istore_n 2, 1) := by decide +kernel
theorem dX4_endsEachStage_2 : decode cX4_endsEachStage 2 = .ok (.iload_n 2, 1) := by decide +kernel
theorem dX4_endsEachStage_3 : decode cX4_endsEachStage 3 = .ok (.aload_n 0, 1) := by decide +kernel
theorem dX4_endsEachStage_4 : decode cX4_endsEachStage 4 = .ok (.getfield 48, 3) := by decide +kernel
theorem dX4_endsEachStage_7 : decode cX4_endsEachStage 7 = .ok (.if_icmp .ge 35, 3) := by decide +kernel
theorem dX4_endsEachStage_10 : decode cX4_endsEachStage 10 = .ok (.iload_n 1, 1) := by decide +kernel
theorem dX4_endsEachStage_11 : decode cX4_endsEachStage 11 = .ok (.aload_n 0, 1) := by decide +kernel
theorem dX4_endsEachStage_12 : decode cX4_endsEachStage 12 = .ok (.iload_n 2, 1) := by decide +kernel
theorem dX4_endsEachStage_13 : decode cX4_endsEachStage 13 = .ok (.invokevirtual 64, 3) := by decide +kernel
theorem dX4_endsEachStage_16 : decode cX4_endsEachStage 16 = .ok (.invokestatic 88, 3) := by decide +kernel
theorem dX4_endsEachStage_19 : decode cX4_endsEachStage 19 = .ok (.ifCond .ne 17, 3) := by decide +kernel
theorem dX4_endsEachStage_22 : decode cX4_endsEachStage 22 = .ok (.iload_n 1, 1) := by decide +kernel
theorem dX4_endsEachStage_23 : decode cX4_endsEachStage 23 = .ok (.aload_n 0, 1) := by decide +kernel
theorem dX4_endsEachStage_24 : decode cX4_endsEachStage 24 = .ok (.iload_n 2, 1) := by decide +kernel
theorem dX4_endsEachStage_25 : decode cX4_endsEachStage 25 = .ok (.invokevirtual 68, 3) := by decide +kernel
theorem dX4_endsEachStage_28 : decode cX4_endsEachStage 28 = .ok (.invokestatic 88, 3) := by decide +kernel
theorem dX4_endsEachStage_31 : decode cX4_endsEachStage 31 = .ok (.ifCond .ne 5, 3) := by decide +kernel
theorem dX4_endsEachStage_34 : decode cX4_endsEachStage 34 = .ok (.iconst 0, 1) := by decide +kernel
theorem dX4_endsEachStage_35 : decode cX4_endsEachStage 35 = .ok (.ireturn, 1) := by decide +kernel
theorem dX4_endsEachStage_36 : decode cX4_endsEachStage 36 = .ok (.iinc 2 1, 3) := by decide +kernel
theorem dX4_endsEachStage_39 : decode cX4_endsEachStage 39 = .ok (.goto (-37), 3) := by decide +kernel
theorem dX4_endsEachStage_42 : decode cX4_endsEachStage 42 = .ok (.iconst 1, 1) := by decide +kernel
theorem dX4_endsEachStage_43 : decode cX4_endsEachStage 43 = .ok (.ireturn, 1) := by decide +kernel
theorem dX4_tellAll_0 : decode cX4_tellAll 0 = .ok (.aload_n 0, 1) := by decide +kernel
theorem dX4_tellAll_1 : decode cX4_tellAll 1 = .ok (.iconst 0, 1) := by decide +kernel
theorem dX4_tellAll_2 : decode cX4_tellAll 2 = .ok (.putfield 44, 3) := by decide +kernel
theorem dX4_tellAll_5 : decode cX4_tellAll 5 = .ok (.aload_n 0, 1) := by decide +kernel
theorem dX4_tellAll_6 : decode cX4_tellAll 6 = .ok (.iconst 0, 1) := by decide +kernel
theorem dX4_tellAll_7 : decode cX4_tellAll 7 = .ok (.putfield 48, 3) := by decide +kernel
theorem dX4_tellAll_10 : decode cX4_tellAll 10 = .ok (.aload_n 0, 1) := by decide +kernel
theorem dX4_tellAll_11 : decode cX4_tellAll 11 = .ok (.iconst 0, 1) := by decide +kernel
theorem dX4_tellAll_12 : decode cX4_tellAll 12 = .ok (.putfield 51, 3) := by decide +kernel
theorem dX4_tellAll_15 : decode cX4_tellAll 15 = .ok (.aload_n 0, 1) := by decide +kernel
theorem dX4_tellAll_16 : decode cX4_tellAll 16 = .ok (.getfield 37, 3) := by decide +kernel
theorem dX4_tellAll_19 : decode cX4_tellAll 19 = .ok (.invokevirtual 92, 3) := by decide +kernel
theorem dX4_tellAll_22 : decode cX4_tellAll 22 = .ok (.aload_n 1, 1) := by decide +kernel
theorem dX4_tellAll_23 : decode cX4_tellAll 23 = .ok (.invokevirtual 95, 3) := by decide +kernel
theorem dX4_tellAll_26 : decode cX4_tellAll 26 = .ok (.iconst 0, 1) := by decide +kernel
theorem dX4_tellAll_27 : decode cX4_tellAll 27 = .ok (.istore_n 2, 1) := by decide +kernel
theorem dX4_tellAll_28 : decode cX4_tellAll 28 = .ok (.aload_n 1, 1) := by decide +kernel
theorem dX4_tellAll_29 : decode cX4_tellAll 29 = .ok (.invokevirtual 100, 3) := by decide +kernel
theorem dX4_tellAll_32 : decode cX4_tellAll 32 = .ok (.aload_n 1, 1) := by decide +kernel
theorem dX4_tellAll_33 : decode cX4_tellAll 33 = .ok (.invokevirtual 103, 3) := by decide +kernel
theorem dX4_tellAll_36 : decode cX4_tellAll 36 = .ok (.ifCond .eq 36, 3) := by decide +kernel
theorem dX4_tellAll_39 : decode cX4_tellAll 39 = .ok (.iload_n 2, 1) := by decide +kernel
theorem dX4_tellAll_40 : decode cX4_tellAll 40 = .ok (.sipush 200, 3) := by decide +kernel
theorem dX4_tellAll_43 : decode cX4_tellAll 43 = .ok (.if_icmp .ge 29, 3) := by decide +kernel
theorem dX4_tellAll_46 : decode cX4_tellAll 46 = .ok (.aload_n 0, 1) := by decide +kernel
theorem dX4_tellAll_47 : decode cX4_tellAll 47 = .ok (.aload_n 1, 1) := by decide +kernel
theorem dX4_tellAll_48 : decode cX4_tellAll 48 = .ok (.invokevirtual 107, 3) := by decide +kernel
theorem dX4_tellAll_51 : decode cX4_tellAll 51 = .ok (.ifCond .ne 11, 3) := by decide +kernel
theorem dX4_tellAll_54 : decode cX4_tellAll 54 = .ok (.bipush (-10), 2) := by decide +kernel
theorem dX4_tellAll_56 : decode cX4_tellAll 56 = .ok (.aload_n 1, 1) := by decide +kernel
theorem dX4_tellAll_57 : decode cX4_tellAll 57 = .ok (.invokevirtual 111, 3) := by decide +kernel
theorem dX4_tellAll_60 : decode cX4_tellAll 60 = .ok (.isub, 1) := by decide +kernel
theorem dX4_tellAll_61 : decode cX4_tellAll 61 = .ok (.ireturn, 1) := by decide +kernel
theorem dX4_tellAll_62 : decode cX4_tellAll 62 = .ok (.iinc 2 1, 3) := by decide +kernel
theorem dX4_tellAll_65 : decode cX4_tellAll 65 = .ok (.aload_n 1, 1) := by decide +kernel
theorem dX4_tellAll_66 : decode cX4_tellAll 66 = .ok (.invokevirtual 100, 3) := by decide +kernel
theorem dX4_tellAll_69 : decode cX4_tellAll 69 = .ok (.goto (-37), 3) := by decide +kernel
theorem dX4_tellAll_72 : decode cX4_tellAll 72 = .ok (.iload_n 2, 1) := by decide +kernel
theorem dX4_tellAll_73 : decode cX4_tellAll 73 = .ok (.ireturn, 1) := by decide +kernel
theorem dX4_tellItem_0 : decode cX4_tellItem 0 = .ok (.aload_n 1, 1) := by decide +kernel
theorem dX4_tellItem_1 : decode cX4_tellItem 1 = .ok (.invokevirtual 103, 3) := by decide +kernel
theorem dX4_tellItem_4 : decode cX4_tellItem 4 = .ok (.iconst 1, 1) := by decide +kernel
theorem dX4_tellItem_5 : decode cX4_tellItem 5 = .ok (.if_icmp .eq 5, 3) := by decide +kernel
theorem dX4_tellItem_8 : decode cX4_tellItem 8 = .ok (.iconst 0, 1) := by decide +kernel
theorem dX4_tellItem_9 : decode cX4_tellItem 9 = .ok (.ireturn, 1) := by decide +kernel
theorem dX4_tellItem_10 : decode cX4_tellItem 10 = .ok (.aload_n 1, 1) := by decide +kernel
theorem dX4_tellItem_11 : decode cX4_tellItem 11 = .ok (.invokevirtual 114, 3) := by decide +kernel
theorem dX4_tellItem_14 : decode cX4_tellItem 14 = .ok (.lookupswitch 80 #[(99, 62), (100, 74), (107, 68), (115, 56), (119, 50)], 50) := by decide +kernel
theorem dX4_tellItem_64 : decode cX4_tellItem 64 = .ok (.aload_n 0, 1) := by decide +kernel
theorem dX4_tellItem_65 : decode cX4_tellItem 65 = .ok (.aload_n 1, 1) := by decide +kernel
theorem dX4_tellItem_66 : decode cX4_tellItem 66 = .ok (.invokevirtual 117, 3) := by decide +kernel
theorem dX4_tellItem_69 : decode cX4_tellItem 69 = .ok (.ireturn, 1) := by decide +kernel
theorem dX4_tellItem_70 : decode cX4_tellItem 70 = .ok (.aload_n 0, 1) := by decide +kernel
theorem dX4_tellItem_71 : decode cX4_tellItem 71 = .ok (.aload_n 1, 1) := by decide +kernel
theorem dX4_tellItem_72 : decode cX4_tellItem 72 = .ok (.invokevirtual 120, 3) := by decide +kernel
theorem dX4_tellItem_75 : decode cX4_tellItem 75 = .ok (.ireturn, 1) := by decide +kernel
theorem dX4_tellItem_76 : decode cX4_tellItem 76 = .ok (.aload_n 0, 1) := by decide +kernel
theorem dX4_tellItem_77 : decode cX4_tellItem 77 = .ok (.aload_n 1, 1) := by decide +kernel
theorem dX4_tellItem_78 : decode cX4_tellItem 78 = .ok (.invokevirtual 123, 3) := by decide +kernel
theorem dX4_tellItem_81 : decode cX4_tellItem 81 = .ok (.ireturn, 1) := by decide +kernel
theorem dX4_tellItem_82 : decode cX4_tellItem 82 = .ok (.aload_n 0, 1) := by decide +kernel
theorem dX4_tellItem_83 : decode cX4_tellItem 83 = .ok (.aload_n 1, 1) := by decide +kernel
theorem dX4_tellItem_84 : decode cX4_tellItem 84 = .ok (.invokevirtual 126, 3) := by decide +kernel
theorem dX4_tellItem_87 : decode cX4_tellItem 87 = .ok (.ireturn, 1) := by decide +kernel
theorem dX4_tellItem_88 : decode cX4_tellItem 88 = .ok (.aload_n 0, 1) := by decide +kernel
theorem dX4_tellItem_89 : decode cX4_tellItem 89 = .ok (.aload_n 1, 1) := by decide +kernel
theorem dX4_tellItem_90 : decode cX4_tellItem 90 = .ok (.invokevirtual 129, 3) := by decide +kernel
theorem dX4_tellItem_93 : decode cX4_tellItem 93 = .ok (.ireturn, 1) := by decide +kernel
theorem dX4_tellItem_94 : decode cX4_tellItem 94 = .ok (.iconst 0, 1) := by decide +kernel
theorem dX4_tellItem_95 : decode cX4_tellItem 95 = .ok (.ireturn, 1) := by decide +kernel
theorem dX4_tellWell_0 : decode cX4_tellWell 0 = .ok (.aload_n 0, 1) := by decide +kernel
theorem dX4_tellWell_1 : decode cX4_tellWell 1 = .ok (.getfield 44, 3) := by decide +kernel
theorem dX4_tellWell_4 : decode cX4_tellWell 4 = .ok (.bipush 6, 2) := by decide +kernel
theorem dX4_tellWell_6 : decode cX4_tellWell 6 = .ok (.if_icmp .ge 21, 3) := by decide +kernel
theorem dX4_tellWell_9 : decode cX4_tellWell 9 = .ok (.aload_n 0, 1) := by decide +kernel
theorem dX4_tellWell_10 : decode cX4_tellWell 10 = .ok (.aload_n 1, 1) := by decide +kernel
theorem dX4_tellWell_11 : decode cX4_tellWell 11 = .ok (.iconst 0, 1) := by decide +kernel
theorem dX4_tellWell_12 : decode cX4_tellWell 12 = .ok (.iconst 0, 1) := by decide +kernel
theorem dX4_tellWell_13 : decode cX4_tellWell 13 = .ok (.iconst 1, 1) := by decide +kernel
theorem dX4_tellWell_14 : decode cX4_tellWell 14 = .ok (.invokevirtual 132, 3) := by decide +kernel
theorem dX4_tellWell_17 : decode cX4_tellWell 17 = .ok (.ifCond .eq 10, 3) := by decide +kernel
theorem dX4_tellWell_20 : decode cX4_tellWell 20 = .ok (.aload_n 1, 1) := by decide +kernel
theorem dX4_tellWell_21 : decode cX4_tellWell 21 = .ok (.invokestatic 136, 3) := by decide +kernel
theorem dX4_tellWell_24 : decode cX4_tellWell 24 = .ok (.ifCond .ne 5, 3) := by decide +kernel
theorem dX4_tellWell_27 : decode cX4_tellWell 27 = .ok (.iconst 0, 1) := by decide +kernel
theorem dX4_tellWell_28 : decode cX4_tellWell 28 = .ok (.ireturn, 1) := by decide +kernel
theorem dX4_tellWell_29 : decode cX4_tellWell 29 = .ok (.aload_n 0, 1) := by decide +kernel
theorem dX4_tellWell_30 : decode cX4_tellWell 30 = .ok (.getfield 9, 3) := by decide +kernel
theorem dX4_tellWell_33 : decode cX4_tellWell 33 = .ok (.aload_n 0, 1) := by decide +kernel
theorem dX4_tellWell_34 : decode cX4_tellWell 34 = .ok (.getfield 44, 3) := by decide +kernel
theorem dX4_tellWell_37 : decode cX4_tellWell 37 = .ok (.aload_n 0, 1) := by decide +kernel
theorem dX4_tellWell_38 : decode cX4_tellWell 38 = .ok (.getfield 41, 3) := by decide +kernel
theorem dX4_tellWell_41 : decode cX4_tellWell 41 = .ok (.iconst 0, 1) := by decide +kernel
theorem dX4_tellWell_42 : decode cX4_tellWell 42 = .ok (.iaload, 1) := by decide +kernel
theorem dX4_tellWell_43 : decode cX4_tellWell 43 = .ok (.iconst 1, 1) := by decide +kernel
theorem dX4_tellWell_44 : decode cX4_tellWell 44 = .ok (.if_icmp .ne 7, 3) := by decide +kernel
theorem dX4_tellWell_47 : decode cX4_tellWell 47 = .ok (.iconst 1, 1) := by decide +kernel
theorem dX4_tellWell_48 : decode cX4_tellWell 48 = .ok (.goto 4, 3) := by decide +kernel
theorem dX4_tellWell_51 : decode cX4_tellWell 51 = .ok (.iconst 0, 1) := by decide +kernel
theorem dX4_tellWell_52 : decode cX4_tellWell 52 = .ok (.bastore, 1) := by decide +kernel
theorem dX4_tellWell_53 : decode cX4_tellWell 53 = .ok (.aload_n 0, 1) := by decide +kernel
theorem dX4_tellWell_54 : decode cX4_tellWell 54 = .ok (.dup, 1) := by decide +kernel
theorem dX4_tellWell_55 : decode cX4_tellWell 55 = .ok (.getfield 44, 3) := by decide +kernel
theorem dX4_tellWell_58 : decode cX4_tellWell 58 = .ok (.iconst 1, 1) := by decide +kernel
theorem dX4_tellWell_59 : decode cX4_tellWell 59 = .ok (.iadd, 1) := by decide +kernel
theorem dX4_tellWell_60 : decode cX4_tellWell 60 = .ok (.putfield 44, 3) := by decide +kernel
theorem dX4_tellWell_63 : decode cX4_tellWell 63 = .ok (.iconst 1, 1) := by decide +kernel
theorem dX4_tellWell_64 : decode cX4_tellWell 64 = .ok (.ireturn, 1) := by decide +kernel
theorem dX4_tellStage_0 : decode cX4_tellStage 0 = .ok (.aload_n 0, 1) := by decide +kernel
theorem dX4_tellStage_1 : decode cX4_tellStage 1 = .ok (.getfield 48, 3) := by decide +kernel
theorem dX4_tellStage_4 : decode cX4_tellStage 4 = .ok (.bipush 8, 2) := by decide +kernel
theorem dX4_tellStage_6 : decode cX4_tellStage 6 = .ok (.if_icmp .ge 35, 3) := by decide +kernel
theorem dX4_tellStage_9 : decode cX4_tellStage 9 = .ok (.aload_n 0, 1) := by decide +kernel
theorem dX4_tellStage_10 : decode cX4_tellStage 10 = .ok (.aload_n 1, 1) := by decide +kernel
theorem dX4_tellStage_11 : decode cX4_tellStage 11 = .ok (.iconst 0, 1) := by decide +kernel
theorem dX4_tellStage_12 : decode cX4_tellStage 12 = .ok (.iconst 0, 1) := by decide +kernel
theorem dX4_tellStage_13 : decode cX4_tellStage 13 = .ok (.aload_n 0, 1) := by decide +kernel
theorem dX4_tellStage_14 : decode cX4_tellStage 14 = .ok (.getfield 44, 3) := by decide +kernel
theorem dX4_tellStage_17 : decode cX4_tellStage 17 = .ok (.iconst 1, 1) := by decide +kernel
theorem dX4_tellStage_18 : decode cX4_tellStage 18 = .ok (.isub, 1) := by decide +kernel
theorem dX4_tellStage_19 : decode cX4_tellStage 19 = .ok (.invokevirtual 132, 3) := by decide +kernel
theorem dX4_tellStage_22 : decode cX4_tellStage 22 = .ok (.ifCond .eq 19, 3) := by decide +kernel
theorem dX4_tellStage_25 : decode cX4_tellStage 25 = .ok (.aload_n 0, 1) := by decide +kernel
theorem dX4_tellStage_26 : decode cX4_tellStage 26 = .ok (.aload_n 1, 1) := by decide +kernel
theorem dX4_tellStage_27 : decode cX4_tellStage 27 = .ok (.iconst 1, 1) := by decide +kernel
theorem dX4_tellStage_28 : decode cX4_tellStage 28 = .ok (.iconst 0, 1) := by decide +kernel
theorem dX4_tellStage_29 : decode cX4_tellStage 29 = .ok (.aload_n 0, 1) := by decide +kernel
theorem dX4_tellStage_30 : decode cX4_tellStage 30 = .ok (.getfield 44, 3) := by decide +kernel
theorem dX4_tellStage_33 : decode cX4_tellStage 33 = .ok (.iconst 1, 1) := by decide +kernel
theorem dX4_tellStage_34 : decode cX4_tellStage 34 = .ok (.isub, 1) := by decide +kernel
theorem dX4_tellStage_35 : decode cX4_tellStage 35 = .ok (.invokevirtual 132, 3) := by decide +kernel
theorem dX4_tellStage_38 : decode cX4_tellStage 38 = .ok (.ifCond .ne 5, 3) := by decide +kernel
theorem dX4_tellStage_41 : decode cX4_tellStage 41 = .ok (.iconst 0, 1) := by decide +kernel
theorem dX4_tellStage_42 : decode cX4_tellStage 42 = .ok (.ireturn, 1) := by decide +kernel
theorem dX4_tellStage_43 : decode cX4_tellStage 43 = .ok (.aload_n 0, 1) := by decide +kernel
theorem dX4_tellStage_44 : decode cX4_tellStage 44 = .ok (.getfield 41, 3) := by decide +kernel
