theorem dX0_init_0 : decode cX0_init 0 = .ok (.aload_n 0, 1) := by decide +kernel
theorem dX0_init_1 : decode cX0_init 1 = .ok (.invokespecial 3, 3) := by decide +kernel
theorem dX0_init_4 : decode cX0_init 4 = .ok (.aload_n 0, 1) := by decide +kernel
theorem dX0_init_5 : decode cX0_init 5 = .ok (.bipush 40, 2) := by decide +kernel
theorem dX0_init_7 : decode cX0_init 7 = .ok (.newarray .int, 2) := by decide +kernel
theorem dX0_init_9 : decode cX0_init 9 = .ok (.putfield 9, 3) := by decide +kernel
theorem dX0_init_12 : decode cX0_init 12 = .ok (.aload_n 0, 1) := by decide +kernel
theorem dX0_init_13 : decode cX0_init 13 = .ok (.iconst 0, 1) := by decide +kernel
theorem dX0_init_14 : decode cX0_init 14 = .ok (.putfield 15, 3) := by decide +kernel
theorem dX0_init_17 : decode cX0_init 17 = .ok (.aload_n 0, 1) := by decide +kernel
theorem dX0_init_18 : decode cX0_init 18 = .ok (.iconst 0, 1) := by decide +kernel
theorem dX0_init_19 : decode cX0_init 19 = .ok (.putfield 19, 3) := by decide +kernel
theorem dX0_init_22 : decode cX0_init 22 = .ok (.return_, 1) := by decide +kernel
theorem dX0_size_0 : decode cX0_size 0 = .ok (.aload_n 0, 1) := by decide +kernel
theorem dX0_size_1 : decode cX0_size 1 = .ok (.getfield 19, 3) := by decide +kernel
theorem dX0_size_4 : decode cX0_size 4 = .ok (.ireturn, 1) := by decide +kernel
theorem dX0_append_0 : decode cX0_append 0 = .ok (.aload_n 0, 1) := by decide +kernel
theorem dX0_append_1 : decode cX0_append 1 = .ok (.getfield 19, 3) := by decide +kernel
theorem dX0_append_4 : decode cX0_append 4 = .ok (.bipush 40, 2) := by decide +kernel
theorem dX0_append_6 : decode cX0_append 6 = .ok (.if_icmp .lt 5, 3) := by decide +kernel
theorem dX0_append_9 : decode cX0_append 9 = .ok (.iconst 0, 1) := by decide +kernel
theorem dX0_append_10 : decode cX0_append 10 = .ok (.ireturn, 1) := by decide +kernel
theorem dX0_append_11 : decode cX0_append 11 = .ok (.aload_n 0, 1) := by decide +kernel
theorem dX0_append_12 : decode cX0_append 12 = .ok (.getfield 9, 3) := by decide +kernel
theorem dX0_append_15 : decode cX0_append 15 = .ok (.aload_n 0, 1) := by decide +kernel
theorem dX0_append_16 : decode cX0_append 16 = .ok (.getfield 15, 3) := by decide +kernel
theorem dX0_append_19 : decode cX0_append 19 = .ok (.aload_n 0, 1) := by decide +kernel
theorem dX0_append_20 : decode cX0_append 20 = .ok (.getfield 19, 3) := by decide +kernel
theorem dX0_append_23 : decode cX0_append 23 = .ok (.iadd, 1) := by decide +kernel
theorem dX0_append_24 : decode cX0_append 24 = .ok (.bipush 40, 2) := by decide +kernel
theorem dX0_append_26 : decode cX0_append 26 = .ok (.irem, 1) := by decide +kernel
theorem dX0_append_27 : decode cX0_append 27 = .ok (.iload_n 1, 1) := by decide +kernel
theorem dX0_append_28 : decode cX0_append 28 = .ok (.iastore, 1) := by decide +kernel
theorem dX0_append_29 : decode cX0_append 29 = .ok (.aload_n 0, 1) := by decide +kernel
theorem dX0_append_30 : decode cX0_append 30 = .ok (.dup, 1) := by decide +kernel
theorem dX0_append_31 : decode cX0_append 31 = .ok (.getfield 19, 3) := by decide +kernel
theorem dX0_append_34 : decode cX0_append 34 = .ok (.iconst 1, 1) := by decide +kernel
theorem dX0_append_35 : decode cX0_append 35 = .ok (.iadd, 1) := by decide +kernel
theorem dX0_append_36 : decode cX0_append 36 = .ok (.putfield 19, 3) := by decide +kernel
theorem dX0_append_39 : decode cX0_append 39 = .ok (.iconst 1, 1) := by decide +kernel
theorem dX0_append_40 : decode cX0_append 40 = .ok (.ireturn, 1) := by decide +kernel
theorem dX0_thingAt_0 : decode cX0_thingAt 0 = .ok (.iload_n 1, 1) := by decide +kernel
theorem dX0_thingAt_1 : decode cX0_thingAt 1 = .ok (.ifCond .lt 28, 3) := by decide +kernel
theorem dX0_thingAt_4 : decode cX0_thingAt 4 = .ok (.iload_n 1, 1) := by decide +kernel
theorem dX0_thingAt_5 : decode cX0_thingAt 5 = .ok (.aload_n 0, 1) := by decide +kernel
theorem dX0_thingAt_6 : decode cX0_thingAt 6 = .ok (.getfield 19, 3) := by decide +kernel
theorem dX0_thingAt_9 : decode cX0_thingAt 9 = .ok (.if_icmp .ge 20, 3) := by decide +kernel
theorem dX0_thingAt_12 : decode cX0_thingAt 12 = .ok (.aload_n 0, 1) := by decide +kernel
theorem dX0_thingAt_13 : decode cX0_thingAt 13 = .ok (.getfield 9, 3) := by decide +kernel
theorem dX0_thingAt_16 : decode cX0_thingAt 16 = .ok (.aload_n 0, 1) := by decide +kernel
theorem dX0_thingAt_17 : decode cX0_thingAt 17 = .ok (.getfield 15, 3) := by decide +kernel
theorem dX0_thingAt_20 : decode cX0_thingAt 20 = .ok (.iload_n 1, 1) := by decide +kernel
theorem dX0_thingAt_21 : decode cX0_thingAt 21 = .ok (.iadd, 1) := by decide +kernel
theorem dX0_thingAt_22 : decode cX0_thingAt 22 = .ok (.bipush 40, 2) := by decide +kernel
theorem dX0_thingAt_24 : decode cX0_thingAt 24 = .ok (.irem, 1) := by decide +kernel
theorem dX0_thingAt_25 : decode cX0_thingAt 25 = .ok (.iaload, 1) := by decide +kernel
theorem dX0_thingAt_26 : decode cX0_thingAt 26 = .ok (.goto 5, 3) := by decide +kernel
theorem dX0_thingAt_29 : decode cX0_thingAt 29 = .ok (.bipush (-5), 2) := by decide +kernel
theorem dX0_thingAt_31 : decode cX0_thingAt 31 = .ok (.ireturn, 1) := by decide +kernel
theorem dX0_takeFirst_0 : decode cX0_takeFirst 0 = .ok (.aload_n 0, 1) := by decide +kernel
theorem dX0_takeFirst_1 : decode cX0_takeFirst 1 = .ok (.getfield 19, 3) := by decide +kernel
theorem dX0_takeFirst_4 : decode cX0_takeFirst 4 = .ok (.ifCond .ne 6, 3) := by decide +kernel
theorem dX0_takeFirst_7 : decode cX0_takeFirst 7 = .ok (.bipush (-5), 2) := by decide +kernel
theorem dX0_takeFirst_9 : decode cX0_takeFirst 9 = .ok (.ireturn, 1) := by decide +kernel
theorem dX0_takeFirst_10 : decode cX0_takeFirst 10 = .ok (.aload_n 0, 1) := by decide +kernel
theorem dX0_takeFirst_11 : decode cX0_takeFirst 11 = .ok (.getfield 9, 3) := by decide +kernel
theorem dX0_takeFirst_14 : decode cX0_takeFirst 14 = .ok (.aload_n 0, 1) := by decide +kernel
theorem dX0_takeFirst_15 : decode cX0_takeFirst 15 = .ok (.getfield 15, 3) := by decide +kernel
theorem dX0_takeFirst_18 : decode cX0_takeFirst 18 = .ok (.iaload, 1) := by decide +kernel
theorem dX0_takeFirst_19 : decode cX0_takeFirst 19 = .ok (.istore_n 1, 1) := by decide +kernel
theorem dX0_takeFirst_20 : decode cX0_takeFirst 20 = .ok (.aload_n 0, 1) := by decide +kernel
theorem dX0_takeFirst_21 : decode cX0_takeFirst 21 = .ok (.aload_n 0, 1) := by decide +kernel
theorem dX0_takeFirst_22 : decode cX0_takeFirst 22 = .ok (.getfield 15, 3) := by decide +kernel
theorem dX0_takeFirst_25 : decode cX0_takeFirst 25 = .ok (.iconst 1, 1) := by decide +kernel
theorem dX0_takeFirst_26 : decode cX0_takeFirst 26 = .ok (.iadd, 1) := by decide +kernel
theorem dX0_takeFirst_27 : decode cX0_takeFirst 27 = .ok (.bipush 40, 2) := by decide +kernel
theorem dX0_takeFirst_29 : decode cX0_takeFirst 29 = .ok (.irem, 1) := by decide +kernel
theorem dX0_takeFirst_30 : decode cX0_takeFirst 30 = .ok (.putfield 15, 3) := by decide +kernel
theorem dX0_takeFirst_33 : decode cX0_takeFirst 33 = .ok (.aload_n 0, 1) := by decide +kernel
theorem dX0_takeFirst_34 : decode cX0_takeFirst 34 = .ok (.dup, 1) := by decide +kernel
theorem dX0_takeFirst_35 : decode cX0_takeFirst 35 = .ok (.getfield 19, 3) := by decide +kernel
theorem dX0_takeFirst_38 : decode cX0_takeFirst 38 = .ok (.iconst 1, 1) := by decide +kernel
theorem dX0_takeFirst_39 : decode cX0_takeFirst 39 = .ok (.isub, 1) := by decide +kernel
theorem dX0_takeFirst_40 : decode cX0_takeFirst 40 = .ok (.putfield 19, 3) := by decide +kernel
theorem dX0_takeFirst_43 : decode cX0_takeFirst 43 = .ok (.iload_n 1, 1) := by decide +kernel
theorem dX0_takeFirst_44 : decode cX0_takeFirst 44 = .ok (.ireturn, 1) := by decide +kernel
theorem dX0_forget_0 : decode cX0_forget 0 = .ok (.aload_n 0, 1) := by decide +kernel
theorem dX0_forget_1 : decode cX0_forget 1 = .ok (.iconst 0, 1) := by decide +kernel
theorem dX0_forget_2 : decode cX0_forget 2 = .ok (.putfield 15, 3) := by decide +kernel
theorem dX0_forget_5 : decode cX0_forget 5 = .ok (.aload_n 0, 1) := by decide +kernel
theorem dX0_forget_6 : decode cX0_forget 6 = .ok (.iconst 0, 1) := by decide +kernel
theorem dX0_forget_7 : decode cX0_forget 7 = .ok (.putfield 19, 3) := by decide +kernel
theorem dX0_forget_10 : decode cX0_forget 10 = .ok (.return_, 1) := by decide +kernel
theorem dX1_init_0 : decode cX1_init 0 = .ok (.aload_n 0, 1) := by decide +kernel
theorem dX1_init_1 : decode cX1_init 1 = .ok (.invokespecial 3, 3) := by decide +kernel
theorem dX1_init_4 : decode cX1_init 4 = .ok (.aload_n 0, 1) := by decide +kernel
theorem dX1_init_5 : decode cX1_init 5 = .ok (.bipush 20, 2) := by decide +kernel
theorem dX1_init_7 : decode cX1_init 7 = .ok (.newarray .int, 2) := by decide +kernel
theorem dX1_init_9 : decode cX1_init 9 = .ok (.putfield 9, 3) := by decide +kernel
theorem dX1_init_12 : decode cX1_init 12 = .ok (.aload_n 0, 1) := by decide +kernel
theorem dX1_init_13 : decode cX1_init 13 = .ok (.bipush 20, 2) := by decide +kernel
theorem dX1_init_15 : decode cX1_init 15 = .ok (.newarray .int, 2) := by decide +kernel
theorem dX1_init_17 : decode cX1_init 17 = .ok (.putfield 15, 3) := by decide +kernel
theorem dX1_init_20 : decode cX1_init 20 = .ok (.aload_n 0, 1) := by decide +kernel
theorem dX1_init_21 : decode cX1_init 21 = .ok (.bipush 20, 2) := by decide +kernel
theorem dX1_init_23 : decode cX1_init 23 = .ok (.newarray .int, 2) := by decide +kernel
theorem dX1_init_25 : decode cX1_init 25 = .ok (.putfield 18, 3) := by decide +kernel
theorem dX1_init_28 : decode cX1_init 28 = .ok (.aload_n 0, 1) := by decide +kernel
theorem dX1_init_29 : decode cX1_init 29 = .ok (.iconst 0, 1) := by decide +kernel
theorem dX1_init_30 : decode cX1_init 30 = .ok (.putfield 21, 3) := by decide +kernel
theorem dX1_init_33 : decode cX1_init 33 = .ok (.aload_n 0, 1) := by decide +kernel
theorem dX1_init_34 : decode cX1_init 34 = .ok (.iconst 0, 1) := by decide +kernel
theorem dX1_init_35 : decode cX1_init 35 = .ok (.putfield 25, 3) := by decide +kernel
theorem dX1_init_38 : decode cX1_init 38 = .ok (.return_, 1) := by decide +kernel
theorem dX1_add_0 : decode cX1_add 0 = .ok (.aload_n 0, 1) := by decide +kernel
theorem dX1_add_1 : decode cX1_add 1 = .ok (.getfield 9, 3) := by decide +kernel
theorem dX1_add_4 : decode cX1_add 4 = .ok (.aload_n 0, 1) := by decide +kernel
theorem dX1_add_5 : decode cX1_add 5 = .ok (.getfield 21, 3) := by decide +kernel
theorem dX1_add_8 : decode cX1_add 8 = .ok (.iload_n 1, 1) := by decide +kernel
theorem dX1_add_9 : decode cX1_add 9 = .ok (.iastore, 1) := by decide +kernel
theorem dX1_add_10 : decode cX1_add 10 = .ok (.aload_n 0, 1) := by decide +kernel
theorem dX1_add_11 : decode cX1_add 11 = .ok (.getfield 15, 3) := by decide +kernel
theorem dX1_add_14 : decode cX1_add 14 = .ok (.aload_n 0, 1) := by decide +kernel
theorem dX1_add_15 : decode cX1_add 15 = .ok (.getfield 21, 3) := by decide +kernel
theorem dX1_add_18 : decode cX1_add 18 = .ok (.iload_n 2, 1) := by decide +kernel
theorem dX1_add_19 : decode cX1_add 19 = .ok (.iastore, 1) := by decide +kernel
theorem dX1_add_20 : decode cX1_add 20 = .ok (.aload_n 0, 1) := by decide +kernel
theorem dX1_add_21 : decode cX1_add 21 = .ok (.getfield 18, 3) := by decide +kernel
theorem dX1_add_24 : decode cX1_add 24 = .ok (.aload_n 0, 1) := by decide +kernel
theorem dX1_add_25 : decode cX1_add 25 = .ok (.getfield 21, 3) := by decide +kernel
theorem dX1_add_28 : decode cX1_add 28 = .ok (.iload_n 3, 1) := by decide +kernel
theorem dX1_add_29 : decode cX1_add 29 = .ok (.iastore, 1) := by decide +kernel
theorem dX1_add_30 : decode cX1_add 30 = .ok (.aload_n 0, 1) := by decide +kernel
theorem dX1_add_31 : decode cX1_add 31 = .ok (.aload_n 0, 1) := by decide +kernel
theorem dX1_add_32 : decode cX1_add 32 = .ok (.getfield 21, 3) := by decide +kernel
theorem dX1_add_35 : decode cX1_add 35 = .ok (.iconst 1, 1) := by decide +kernel
theorem dX1_add_36 : decode cX1_add 36 = .ok (.iadd, 1) := by decide +kernel
theorem dX1_add_37 : decode cX1_add 37 = .ok (.bipush 20, 2) := by decide +kernel
theorem dX1_add_39 : decode cX1_add 39 = .ok (.irem, 1) := by decide +kernel
theorem dX1_add_40 : decode cX1_add 40 = .ok (.putfield 21, 3) := by decide +kernel
theorem dX1_add_43 : decode cX1_add 43 = .ok (.aload_n 0, 1) := by decide +kernel
theorem dX1_add_44 : decode cX1_add 44 = .ok (.aload_n 0, 1) := by decide +kernel
theorem dX1_add_45 : decode cX1_add 45 = .ok (.getfield 25, 3) := by decide +kernel
theorem dX1_add_48 : decode cX1_add 48 = .ok (.iconst 1, 1) := by decide +kernel
theorem dX1_add_49 : decode cX1_add 49 = .ok (.iadd, 1) := by decide +kernel
theorem dX1_add_50 : decode cX1_add 50 = .ok (.bipush 20, 2) := by decide +kernel
theorem dX1_add_52 : decode cX1_add 52 = .ok (.invokestatic 28, 3) := by decide +kernel
theorem dX1_add_55 : decode cX1_add 55 = .ok (.putfield 25, 3) := by decide +kernel
theorem dX1_add_58 : decode cX1_add 58 = .ok (.return_, 1) := by decide +kernel
theorem dX1_tell_0 : decode cX1_tell 0 = .ok (.iload_n 1, 1) := by decide +kernel
theorem dX1_tell_1 : decode cX1_tell 1 = .ok (.ifCond .lt 11, 3) := by decide +kernel
theorem dX1_tell_4 : decode cX1_tell 4 = .ok (.iload_n 1, 1) := by decide +kernel
theorem dX1_tell_5 : decode cX1_tell 5 = .ok (.aload_n 0, 1) := by decide +kernel
theorem dX1_tell_6 : decode cX1_tell 6 = .ok (.getfield 25, 3) := by decide +kernel
theorem dX1_tell_9 : decode cX1_tell 9 = .ok (.if_icmp .lt 6, 3) := by decide +kernel
theorem dX1_tell_12 : decode cX1_tell 12 = .ok (.bipush (-5), 2) := by decide +kernel
theorem dX1_tell_14 : decode cX1_tell 14 = .ok (.ireturn, 1) := by decide +kernel
theorem dX1_tell_15 : decode cX1_tell 15 = .ok (.aload_n 0, 1) := by decide +kernel
theorem dX1_tell_16 : decode cX1_tell 16 = .ok (.getfield 21, 3) := by decide +kernel
theorem dX1_tell_19 : decode cX1_tell 19 = .ok (.iconst 1, 1) := by decide +kernel
theorem dX1_tell_20 : decode cX1_tell 20 = .ok (.isub, 1) := by decide +kernel
theorem dX1_tell_21 : decode cX1_tell 21 = .ok (.iload_n 1, 1) := by decide +kernel
theorem dX1_tell_22 : decode cX1_tell 22 = .ok (.isub, 1) := by decide +kernel
theorem dX1_tell_23 : decode cX1_tell 23 = .ok (.bipush 20, 2) := by decide +kernel
theorem dX1_tell_25 : decode cX1_tell 25 = .ok (.iadd, 1) := by decide +kernel
theorem dX1_tell_26 : decode cX1_tell 26 = .ok (.bipush 20, 2) := by decide +kernel
theorem dX1_tell_28 : decode cX1_tell 28 = .ok (.irem, 1) := by decide +kernel
theorem dX1_tell_29 : decode cX1_tell 29 = .ok (.istore_n 3, 1) := by decide +kernel
theorem dX1_tell_30 : decode cX1_tell 30 = .ok (.iload_n 2, 1) := by decide +kernel
theorem dX1_tell_31 : decode cX1_tell 31 = .ok (.lookupswitch 43 #[(0, 25), (1, 34)], 25) := by decide +kernel
theorem dX1_tell_56 : decode cX1_tell 56 = .ok (.aload_n 0, 1) := by decide +kernel
theorem dX1_tell_57 : decode cX1_tell 57 = .ok (.getfield 9, 3) := by decide +kernel
theorem dX1_tell_60 : decode cX1_tell 60 = .ok (.iload_n 3, 1) := by decide +kernel
theorem dX1_tell_61 : decode cX1_tell 61 = .ok (.iaload, 1) := by decide +kernel
theorem dX1_tell_62 : decode cX1_tell 62 = .ok (.goto 18, 3) := by decide +kernel
theorem dX1_tell_65 : decode cX1_tell 65 = .ok (.aload_n 0, 1) := by decide +kernel
theorem dX1_tell_66 : decode cX1_tell 66 = .ok (.getfield 15, 3) := by decide +kernel
theorem dX1_tell_69 : decode cX1_tell 69 = .ok (.iload_n 3, 1) := by decide +kernel
theorem dX1_tell_70 : decode cX1_tell 70 = .ok (.iaload, 1) := by decide +kernel
theorem dX1_tell_71 : decode cX1_tell 71 = .ok (.goto 9, 3) := by decide +kernel
theorem dX1_tell_74 : decode cX1_tell 74 = .ok (.aload_n 0, 1) := by decide +kernel
theorem dX1_tell_75 : decode cX1_tell 75 = .ok (.getfield 18, 3) := by decide +kernel
theorem dX1_tell_78 : decode cX1_tell 78 = .ok (.iload_n 3, 1) := by decide +kernel
theorem dX1_tell_79 : decode cX1_tell 79 = .ok (.iaload, 1) := by decide +kernel
theorem dX1_tell_80 : decode cX1_tell 80 = .ok (.ireturn, 1) := by decide +kernel
theorem dX1_forget_0 : decode cX1_forget 0 = .ok (.aload_n 0, 1) := by decide +kernel
theorem dX1_forget_1 : decode cX1_forget 1 = .ok (.iconst 0, 1) := by decide +kernel
theorem dX1_forget_2 : decode cX1_forget 2 = .ok (.putfield 21, 3) := by decide +kernel
theorem dX1_forget_5 : decode cX1_forget 5 = .ok (.aload_n 0, 1) := by decide +kernel
theorem dX1_forget_6 : decode cX1_forget 6 = .ok (.iconst 0, 1) := by decide +kernel
theorem dX1_forget_7 : decode cX1_forget 7 = .ok (.putfield 25, 3) := by decide +kernel
theorem dX1_forget_10 : decode cX1_forget 10 = .ok (.return_, 1) := by decide +kernel
theorem dX2_init_0 : decode cX2_init 0 = .ok (.aload_n 0, 1) := by decide +kernel
theorem dX2_init_1 : decode cX2_init 1 = .ok (.invokespecial 3, 3) := by decide +kernel
theorem dX2_init_4 : decode cX2_init 4 = .ok (.aload_n 0, 1) := by decide +kernel
theorem dX2_init_5 : decode cX2_init 5 = .ok (.bipush 8, 2) := by decide +kernel
theorem dX2_init_7 : decode cX2_init 7 = .ok (.newarray .int, 2) := by decide +kernel
theorem dX2_init_9 : decode cX2_init 9 = .ok (.putfield 9, 3) := by decide +kernel
theorem dX2_init_12 : decode cX2_init 12 = .ok (.aload_n 0, 1) := by decide +kernel
theorem dX2_init_13 : decode cX2_init 13 = .ok (.bipush 8, 2) := by decide +kernel
theorem dX2_init_15 : decode cX2_init 15 = .ok (.newarray .int, 2) := by decide +kernel
theorem dX2_init_17 : decode cX2_init 17 = .ok (.putfield 15, 3) := by decide +kernel
theorem dX2_init_20 : decode cX2_init 20 = .ok (.aload_n 0, 1) := by decide +kernel
theorem dX2_init_21 : decode cX2_init 21 = .ok (.bipush 8, 2) := by decide +kernel
theorem dX2_init_23 : decode cX2_init 23 = .ok (.newarray .long, 2) := by decide +kernel
theorem dX2_init_25 : decode cX2_init 25 = .ok (.putfield 18, 3) := by decide +kernel
theorem dX2_init_28 : decode cX2_init 28 = .ok (.aload_n 0, 1) := by decide +kernel
theorem dX2_init_29 : decode cX2_init 29 = .ok (.bipush 8, 2) := by decide +kernel
theorem dX2_init_31 : decode cX2_init 31 = .ok (.newarray .int, 2) := by decide +kernel
theorem dX2_init_33 : decode cX2_init 33 = .ok (.putfield 22, 3) := by decide +kernel
theorem dX2_init_36 : decode cX2_init 36 = .ok (.aload_n 0, 1) := by decide +kernel
theorem dX2_init_37 : decode cX2_init 37 = .ok (.iconst 0, 1) := by decide +kernel
theorem dX2_init_38 : decode cX2_init 38 = .ok (.putfield 25, 3) := by decide +kernel
theorem dX2_init_41 : decode cX2_init 41 = .ok (.return_, 1) := by decide +kernel
theorem dX2_howMany_0 : decode cX2_howMany 0 = .ok (.aload_n 0, 1) := by decide +kernel
theorem dX2_howMany_1 : decode cX2_howMany 1 = .ok (.getfield 25, 3) := by decide +kernel
theorem dX2_howMany_4 : decode cX2_howMany 4 = .ok (.ireturn, 1) := by decide +kernel
theorem dX2_hold_0 : decode cX2_hold 0 = .ok (.iload_n 1, 1) := by decide +kernel
theorem dX2_hold_1 : decode cX2_hold 1 = .ok (.ifCond .lt 15, 3) := by decide +kernel
theorem dX2_hold_4 : decode cX2_hold 4 = .ok (.iload_n 1, 1) := by decide +kernel
theorem dX2_hold_5 : decode cX2_hold 5 = .ok (.aload_n 0, 1) := by decide +kernel
theorem dX2_hold_6 : decode cX2_hold 6 = .ok (.getfield 25, 3) := by decide +kernel
theorem dX2_hold_9 : decode cX2_hold 9 = .ok (.if_icmp .ge 7, 3) := by decide +kernel
theorem dX2_hold_12 : decode cX2_hold 12 = .ok (.iconst 1, 1) := by decide +kernel
theorem dX2_hold_13 : decode cX2_hold 13 = .ok (.goto 4, 3) := by decide +kernel
theorem dX2_hold_16 : decode cX2_hold 16 = .ok (.iconst 0, 1) := by decide +kernel
theorem dX2_hold_17 : decode cX2_hold 17 = .ok (.ireturn, 1) := by decide +kernel
theorem dX2_add_0 : decode cX2_add 0 = .ok (.aload_n 0, 1) := by decide +kernel
theorem dX2_add_1 : decode cX2_add 1 = .ok (.getfield 25, 3) := by decide +kernel
theorem dX2_add_4 : decode cX2_add 4 = .ok (.bipush 8, 2) := by decide +kernel
theorem dX2_add_6 : decode cX2_add 6 = .ok (.if_icmp .lt 6, 3) := by decide +kernel
theorem dX2_add_9 : decode cX2_add 9 = .ok (.bipush (-4), 2) := by decide +kernel
theorem dX2_add_11 : decode cX2_add 11 = .ok (.ireturn, 1) := by decide +kernel
theorem dX2_add_12 : decode cX2_add 12 = .ok (.aload_n 0, 1) := by decide +kernel
theorem dX2_add_13 : decode cX2_add 13 = .ok (.getfield 25, 3) := by decide +kernel
theorem dX2_add_16 : decode cX2_add 16 = .ok (.istore_n 3, 1) := by decide +kernel
theorem dX2_add_17 : decode cX2_add 17 = .ok (.aload_n 0, 1) := by decide +kernel
theorem dX2_add_18 : decode cX2_add 18 = .ok (.getfield 9, 3) := by decide +kernel
theorem dX2_add_21 : decode cX2_add 21 = .ok (.iload_n 3, 1) := by decide +kernel
theorem dX2_add_22 : decode cX2_add 22 = .ok (.iload_n 1, 1) := by decide +kernel
theorem dX2_add_23 : decode cX2_add 23 = .ok (.iastore, 1) := by decide +kernel
theorem dX2_add_24 : decode cX2_add 24 = .ok (.aload_n 0, 1) := by decide +kernel
theorem dX2_add_25 : decode cX2_add 25 = .ok (.getfield 15, 3) := by decide +kernel
theorem dX2_add_28 : decode cX2_add 28 = .ok (.iload_n 3, 1) := by decide +kernel
theorem dX2_add_29 : decode cX2_add 29 = .ok (.iload_n 2, 1) := by decide +kernel
theorem dX2_add_30 : decode cX2_add 30 = .ok (.iastore, 1) := by decide +kernel
theorem dX2_add_31 : decode cX2_add 31 = .ok (.aload_n 0, 1) := by decide +kernel
theorem dX2_add_32 : decode cX2_add 32 = .ok (.getfield 18, 3) := by decide +kernel
theorem dX2_add_35 : decode cX2_add 35 = .ok (.iload_n 3, 1) := by decide +kernel
theorem dX2_add_36 : decode cX2_add 36 = .ok (.lconst 0, 1) := by decide +kernel
theorem dX2_add_37 : decode cX2_add 37 = .ok (.lastore, 1) := by decide +kernel
theorem dX2_add_38 : decode cX2_add 38 = .ok (.aload_n 0, 1) := by decide +kernel
theorem dX2_add_39 : decode cX2_add 39 = .ok (.getfield 22, 3) := by decide +kernel
theorem dX2_add_42 : decode cX2_add 42 = .ok (.iload_n 3, 1) := by decide +kernel
theorem dX2_add_43 : decode cX2_add 43 = .ok (.bipush (-5), 2) := by decide +kernel
theorem dX2_add_45 : decode cX2_add 45 = .ok (.iastore, 1) := by decide +kernel
theorem dX2_add_46 : decode cX2_add 46 = .ok (.aload_n 0, 1) := by decide +kernel
theorem dX2_add_47 : decode cX2_add 47 = .ok (.dup, 1) := by decide +kernel
theorem dX2_add_48 : decode cX2_add 48 = .ok (.getfield 25, 3) := by decide +kernel
theorem dX2_add_51 : decode cX2_add 51 = .ok (.iconst 1, 1) := by decide +kernel
theorem dX2_add_52 : decode cX2_add 52 = .ok (.iadd, 1) := by decide +kernel
theorem dX2_add_53 : decode cX2_add 53 = .ok (.putfield 25, 3) := by decide +kernel
theorem dX2_add_56 : decode cX2_add 56 = .ok (.iload_n 3, 1) := by decide +kernel
theorem dX2_add_57 : decode cX2_add 57 = .ok (.ireturn, 1) := by decide +kernel
set_option maxRecDepth 20000 in
theorem ggX2_gateOf_X2_hold : GoodIn wsX2_gateOf wsX2_hold := goodIn_r _ [6, 7, 8, 9, 10, 11, 12] (by decide +kernel) (by decide +kernel)
set_option maxRecDepth 20000 in
theorem gX2_gateOf_X2_hold : GoodIn wsX2_gateOf (wsV RX2 29 RX2 yX2_hold wsX2_hold) := goodIn_app (goodIn_of _ (by decide +kernel)) ggX2_gateOf_X2_hold
theorem dX2_gateOf_0 : decode cX2_gateOf 0 = .ok (.aload_n 0, 1) := by decide +kernel
theorem dX2_gateOf_1 : decode cX2_gateOf 1 = .ok (.iload_n 1, 1) := by decide +kernel
theorem dX2_gateOf_2 : decode cX2_gateOf 2 = .ok (.invokevirtual 29, 3) := by decide +kernel
theorem dX2_gateOf_5 : decode cX2_gateOf 5 = .ok (.ifCond .eq 12, 3) := by decide +kernel
theorem dX2_gateOf_8 : decode cX2_gateOf 8 = .ok (.aload_n 0, 1) := by decide +kernel
theorem dX2_gateOf_9 : decode cX2_gateOf 9 = .ok (.getfield 9, 3) := by decide +kernel
theorem dX2_gateOf_12 : decode cX2_gateOf 12 = .ok (.iload_n 1, 1) := by decide +kernel
theorem dX2_gateOf_13 : decode cX2_gateOf 13 = .ok (.iaload, 1) := by decide +kernel
theorem dX2_gateOf_14 : decode cX2_gateOf 14 = .ok (.goto 5, 3) := by decide +kernel
theorem dX2_gateOf_17 : decode cX2_gateOf 17 = .ok (.bipush (-5), 2) := by decide +kernel
theorem dX2_gateOf_19 : decode cX2_gateOf 19 = .ok (.ireturn, 1) := by decide +kernel
set_option maxRecDepth 20000 in
theorem ggX2_workOf_X2_hold : GoodIn wsX2_workOf wsX2_hold := goodIn_r _ [6, 7, 8, 9, 10, 11, 12] (by decide +kernel) (by decide +kernel)
set_option maxRecDepth 20000 in
theorem gX2_workOf_X2_hold : GoodIn wsX2_workOf (wsV RX2 29 RX2 yX2_hold wsX2_hold) := goodIn_app (goodIn_of _ (by decide +kernel)) ggX2_workOf_X2_hold
theorem dX2_workOf_0 : decode cX2_workOf 0 = .ok (.aload_n 0, 1) := by decide +kernel
theorem dX2_workOf_1 : decode cX2_workOf 1 = .ok (.iload_n 1, 1) := by decide +kernel
theorem dX2_workOf_2 : decode cX2_workOf 2 = .ok (.invokevirtual 29, 3) := by decide +kernel
theorem dX2_workOf_5 : decode cX2_workOf 5 = .ok (.ifCond .eq 12, 3) := by decide +kernel
theorem dX2_workOf_8 : decode cX2_workOf 8 = .ok (.aload_n 0, 1) := by decide +kernel
theorem dX2_workOf_9 : decode cX2_workOf 9 = .ok (.getfield 15, 3) := by decide +kernel
theorem dX2_workOf_12 : decode cX2_workOf 12 = .ok (.iload_n 1, 1) := by decide +kernel
theorem dX2_workOf_13 : decode cX2_workOf 13 = .ok (.iaload, 1) := by decide +kernel
theorem dX2_workOf_14 : decode cX2_workOf 14 = .ok (.goto 5, 3) := by decide +kernel
theorem dX2_workOf_17 : decode cX2_workOf 17 = .ok (.bipush (-5), 2) := by decide +kernel
theorem dX2_workOf_19 : decode cX2_workOf 19 = .ok (.ireturn, 1) := by decide +kernel
set_option maxRecDepth 20000 in
theorem ggX2_totalOf_X2_hold : GoodIn wsX2_totalOf wsX2_hold := goodIn_r _ [6, 7, 8, 9, 10, 11, 12] (by decide +kernel) (by decide +kernel)
set_option maxRecDepth 20000 in
theorem gX2_totalOf_X2_hold : GoodIn wsX2_totalOf (wsV RX2 29 RX2 yX2_hold wsX2_hold) := goodIn_app (goodIn_of _ (by decide +kernel)) ggX2_totalOf_X2_hold
theorem dX2_totalOf_0 : decode cX2_totalOf 0 = .ok (.aload_n 0, 1) := by decide +kernel
theorem dX2_totalOf_1 : decode cX2_totalOf 1 = .ok (.iload_n 1, 1) := by decide +kernel
theorem dX2_totalOf_2 : decode cX2_totalOf 2 = .ok (.invokevirtual 29, 3) := by decide +kernel
theorem dX2_totalOf_5 : decode cX2_totalOf 5 = .ok (.ifCond .eq 12, 3) := by decide +kernel
theorem dX2_totalOf_8 : decode cX2_totalOf 8 = .ok (.aload_n 0, 1) := by decide +kernel
theorem dX2_totalOf_9 : decode cX2_totalOf 9 = .ok (.getfield 18, 3) := by decide +kernel
theorem dX2_totalOf_12 : decode cX2_totalOf 12 = .ok (.iload_n 1, 1) := by decide +kernel
theorem dX2_totalOf_13 : decode cX2_totalOf 13 = .ok (.laload, 1) := by decide +kernel
theorem dX2_totalOf_14 : decode cX2_totalOf 14 = .ok (.goto 4, 3) := by decide +kernel
theorem dX2_totalOf_17 : decode cX2_totalOf 17 = .ok (.lconst 0, 1) := by decide +kernel
theorem dX2_totalOf_18 : decode cX2_totalOf 18 = .ok (.lreturn, 1) := by decide +kernel
set_option maxRecDepth 20000 in
theorem ggX2_slotOf_X2_hold : GoodIn wsX2_slotOf wsX2_hold := goodIn_r _ [6, 7, 8, 9, 10, 11, 12] (by decide +kernel) (by decide +kernel)
set_option maxRecDepth 20000 in
theorem gX2_slotOf_X2_hold : GoodIn wsX2_slotOf (wsV RX2 29 RX2 yX2_hold wsX2_hold) := goodIn_app (goodIn_of _ (by decide +kernel)) ggX2_slotOf_X2_hold
theorem dX2_slotOf_0 : decode cX2_slotOf 0 = .ok (.aload_n 0, 1) := by decide +kernel
theorem dX2_slotOf_1 : decode cX2_slotOf 1 = .ok (.iload_n 1, 1) := by decide +kernel
theorem dX2_slotOf_2 : decode cX2_slotOf 2 = .ok (.invokevirtual 29, 3) := by decide +kernel
theorem dX2_slotOf_5 : decode cX2_slotOf 5 = .ok (.ifCond .eq 12, 3) := by decide +kernel
theorem dX2_slotOf_8 : decode cX2_slotOf 8 = .ok (.aload_n 0, 1) := by decide +kernel
theorem dX2_slotOf_9 : decode cX2_slotOf 9 = .ok (.getfield 22, 3) := by decide +kernel
theorem dX2_slotOf_12 : decode cX2_slotOf 12 = .ok (.iload_n 1, 1) := by decide +kernel
theorem dX2_slotOf_13 : decode cX2_slotOf 13 = .ok (.iaload, 1) := by decide +kernel
theorem dX2_slotOf_14 : decode cX2_slotOf 14 = .ok (.goto 5, 3) := by decide +kernel
theorem dX2_slotOf_17 : decode cX2_slotOf 17 = .ok (.bipush (-5), 2) := by decide +kernel
theorem dX2_slotOf_19 : decode cX2_slotOf 19 = .ok (.ireturn, 1) := by decide +kernel
set_option maxRecDepth 20000 in
theorem ggX2_grow_X2_hold : GoodIn wsX2_grow wsX2_hold := goodIn_r _ [6, 7, 8, 9, 10, 11, 12] (by decide +kernel) (by decide +kernel)
set_option maxRecDepth 20000 in
theorem gX2_grow_X2_hold : GoodIn wsX2_grow (wsV RX2 29 RX2 yX2_hold wsX2_hold) := goodIn_app (goodIn_of _ (by decide +kernel)) ggX2_grow_X2_hold
theorem dX2_grow_0 : decode cX2_grow 0 = .ok (.aload_n 0, 1) := by decide +kernel
theorem dX2_grow_1 : decode cX2_grow 1 = .ok (.iload_n 1, 1) := by decide +kernel
theorem dX2_grow_2 : decode cX2_grow 2 = .ok (.invokevirtual 29, 3) := by decide +kernel
theorem dX2_grow_5 : decode cX2_grow 5 = .ok (.ifCond .eq 13, 3) := by decide +kernel
theorem dX2_grow_8 : decode cX2_grow 8 = .ok (.aload_n 0, 1) := by decide +kernel
theorem dX2_grow_9 : decode cX2_grow 9 = .ok (.getfield 18, 3) := by decide +kernel
theorem dX2_grow_12 : decode cX2_grow 12 = .ok (.iload_n 1, 1) := by decide +kernel
theorem dX2_grow_13 : decode cX2_grow 13 = .ok (.dup2, 1) := by decide +kernel
theorem dX2_grow_14 : decode cX2_grow 14 = .ok (.laload, 1) := by decide +kernel
theorem dX2_grow_15 : decode cX2_grow 15 = .ok (.lload_n 2, 1) := by decide +kernel
theorem dX2_grow_16 : decode cX2_grow 16 = .ok (.ladd, 1) := by decide +kernel
theorem dX2_grow_17 : decode cX2_grow 17 = .ok (.lastore, 1) := by decide +kernel
theorem dX2_grow_18 : decode cX2_grow 18 = .ok (.return_, 1) := by decide +kernel
set_option maxRecDepth 20000 in
theorem ggX2_setSlot_X2_hold : GoodIn wsX2_setSlot wsX2_hold := goodIn_r _ [6, 7, 8, 9, 10, 11, 12] (by decide +kernel) (by decide +kernel)
set_option maxRecDepth 20000 in
theorem gX2_setSlot_X2_hold : GoodIn wsX2_setSlot (wsV RX2 29 RX2 yX2_hold wsX2_hold) := goodIn_app (goodIn_of _ (by decide +kernel)) ggX2_setSlot_X2_hold
theorem dX2_setSlot_0 : decode cX2_setSlot 0 = .ok (.aload_n 0, 1) := by decide +kernel
theorem dX2_setSlot_1 : decode cX2_setSlot 1 = .ok (.iload_n 1, 1) := by decide +kernel
theorem dX2_setSlot_2 : decode cX2_setSlot 2 = .ok (.invokevirtual 29, 3) := by decide +kernel
theorem dX2_setSlot_5 : decode cX2_setSlot 5 = .ok (.ifCond .eq 10, 3) := by decide +kernel
theorem dX2_setSlot_8 : decode cX2_setSlot 8 = .ok (.aload_n 0, 1) := by decide +kernel
theorem dX2_setSlot_9 : decode cX2_setSlot 9 = .ok (.getfield 22, 3) := by decide +kernel
theorem dX2_setSlot_12 : decode cX2_setSlot 12 = .ok (.iload_n 1, 1) := by decide +kernel
theorem dX2_setSlot_13 : decode cX2_setSlot 13 = .ok (.iload_n 2, 1) := by decide +kernel
theorem dX2_setSlot_14 : decode cX2_setSlot 14 = .ok (.iastore, 1) := by decide +kernel
theorem dX2_setSlot_15 : decode cX2_setSlot 15 = .ok (.return_, 1) := by decide +kernel
theorem dX2_forget_0 : decode cX2_forget 0 = .ok (.aload_n 0, 1) := by decide +kernel
theorem dX2_forget_1 : decode cX2_forget 1 = .ok (.iconst 0, 1) := by decide +kernel
theorem dX2_forget_2 : decode cX2_forget 2 = .ok (.putfield 25, 3) := by decide +kernel
theorem dX2_forget_5 : decode cX2_forget 5 = .ok (.return_, 1) := by decide +kernel
theorem dX3_init_0 : decode cX3_init 0 = .ok (.aload_n 0, 1) := by decide +kernel
theorem dX3_init_1 : decode cX3_init 1 = .ok (.invokespecial 3, 3) := by decide +kernel
theorem dX3_init_4 : decode cX3_init 4 = .ok (.aload_n 0, 1) := by decide +kernel
theorem dX3_init_5 : decode cX3_init 5 = .ok (.bipush 6, 2) := by decide +kernel
theorem dX3_init_7 : decode cX3_init 7 = .ok (.newarray .int, 2) := by decide +kernel
theorem dX3_init_9 : decode cX3_init 9 = .ok (.putfield 9, 3) := by decide +kernel
theorem dX3_init_12 : decode cX3_init 12 = .ok (.aload_n 0, 1) := by decide +kernel
theorem dX3_init_13 : decode cX3_init 13 = .ok (.iconst 0, 1) := by decide +kernel
theorem dX3_init_14 : decode cX3_init 14 = .ok (.putfield 15, 3) := by decide +kernel
theorem dX3_init_17 : decode cX3_init 17 = .ok (.aload_n 0, 1) := by decide +kernel
theorem dX3_init_18 : decode cX3_init 18 = .ok (.iconst 0, 1) := by decide +kernel
theorem dX3_init_19 : decode cX3_init 19 = .ok (.putfield 19, 3) := by decide +kernel
theorem dX3_init_22 : decode cX3_init 22 = .ok (.aload_n 0, 1) := by decide +kernel
theorem dX3_init_23 : decode cX3_init 23 = .ok (.iconst 0, 1) := by decide +kernel
theorem dX3_init_24 : decode cX3_init 24 = .ok (.putfield 22, 3) := by decide +kernel
theorem dX3_init_27 : decode cX3_init 27 = .ok (.return_, 1) := by decide +kernel
theorem dX3_addWorked_0 : decode cX3_addWorked 0 = .ok (.aload_n 0, 1) := by decide +kernel
theorem dX3_addWorked_1 : decode cX3_addWorked 1 = .ok (.dup, 1) := by decide +kernel
theorem dX3_addWorked_2 : decode cX3_addWorked 2 = .ok (.getfield 15, 3) := by decide +kernel
theorem dX3_addWorked_5 : decode cX3_addWorked 5 = .ok (.iconst 1, 1) := by decide +kernel
theorem dX3_addWorked_6 : decode cX3_addWorked 6 = .ok (.iadd, 1) := by decide +kernel
theorem dX3_addWorked_7 : decode cX3_addWorked 7 = .ok (.putfield 15, 3) := by decide +kernel
theorem dX3_addWorked_10 : decode cX3_addWorked 10 = .ok (.return_, 1) := by decide +kernel
theorem dX3_addPassed_0 : decode cX3_addPassed 0 = .ok (.aload_n 0, 1) := by decide +kernel
theorem dX3_addPassed_1 : decode cX3_addPassed 1 = .ok (.dup, 1) := by decide +kernel
theorem dX3_addPassed_2 : decode cX3_addPassed 2 = .ok (.getfield 19, 3) := by decide +kernel
theorem dX3_addPassed_5 : decode cX3_addPassed 5 = .ok (.iconst 1, 1) := by decide +kernel
theorem dX3_addPassed_6 : decode cX3_addPassed 6 = .ok (.iadd, 1) := by decide +kernel
theorem dX3_addPassed_7 : decode cX3_addPassed 7 = .ok (.putfield 19, 3) := by decide +kernel
theorem dX3_addPassed_10 : decode cX3_addPassed 10 = .ok (.return_, 1) := by decide +kernel
theorem dX3_addFailed_0 : decode cX3_addFailed 0 = .ok (.aload_n 0, 1) := by decide +kernel
theorem dX3_addFailed_1 : decode cX3_addFailed 1 = .ok (.dup, 1) := by decide +kernel
theorem dX3_addFailed_2 : decode cX3_addFailed 2 = .ok (.getfield 22, 3) := by decide +kernel
theorem dX3_addFailed_5 : decode cX3_addFailed 5 = .ok (.iconst 1, 1) := by decide +kernel
theorem dX3_addFailed_6 : decode cX3_addFailed 6 = .ok (.iadd, 1) := by decide +kernel
theorem dX3_addFailed_7 : decode cX3_addFailed 7 = .ok (.putfield 22, 3) := by decide +kernel
theorem dX3_addFailed_10 : decode cX3_addFailed 10 = .ok (.return_, 1) := by decide +kernel
theorem dX3_addFinding_0 : decode cX3_addFinding 0 = .ok (.iload_n 1, 1) := by decide +kernel
theorem dX3_addFinding_1 : decode cX3_addFinding 1 = .ok (.iconst 1, 1) := by decide +kernel
theorem dX3_addFinding_2 : decode cX3_addFinding 2 = .ok (.if_icmp .lt 18, 3) := by decide +kernel
theorem dX3_addFinding_5 : decode cX3_addFinding 5 = .ok (.iload_n 1, 1) := by decide +kernel
theorem dX3_addFinding_6 : decode cX3_addFinding 6 = .ok (.iconst 5, 1) := by decide +kernel
theorem dX3_addFinding_7 : decode cX3_addFinding 7 = .ok (.if_icmp .gt 13, 3) := by decide +kernel
theorem dX3_addFinding_10 : decode cX3_addFinding 10 = .ok (.aload_n 0, 1) := by decide +kernel
theorem dX3_addFinding_11 : decode cX3_addFinding 11 = .ok (.getfield 9, 3) := by decide +kernel
theorem dX3_addFinding_14 : decode cX3_addFinding 14 = .ok (.iload_n 1, 1) := by decide +kernel
theorem dX3_addFinding_15 : decode cX3_addFinding 15 = .ok (.dup2, 1) := by decide +kernel
theorem dX3_addFinding_16 : decode cX3_addFinding 16 = .ok (.iaload, 1) := by decide +kernel
theorem dX3_addFinding_17 : decode cX3_addFinding 17 = .ok (.iconst 1, 1) := by decide +kernel
theorem dX3_addFinding_18 : decode cX3_addFinding 18 = .ok (.iadd, 1) := by decide +kernel
theorem dX3_addFinding_19 : decode cX3_addFinding 19 = .ok (.iastore, 1) := by decide +kernel
theorem dX3_addFinding_20 : decode cX3_addFinding 20 = .ok (.return_, 1) := by decide +kernel
theorem dX3_foundOf_0 : decode cX3_foundOf 0 = .ok (.iload_n 1, 1) := by decide +kernel
theorem dX3_foundOf_1 : decode cX3_foundOf 1 = .ok (.iconst 1, 1) := by decide +kernel
theorem dX3_foundOf_2 : decode cX3_foundOf 2 = .ok (.if_icmp .lt 17, 3) := by decide +kernel
theorem dX3_foundOf_5 : decode cX3_foundOf 5 = .ok (.iload_n 1, 1) := by decide +kernel
theorem dX3_foundOf_6 : decode cX3_foundOf 6 = .ok (.iconst 5, 1) := by decide +kernel
theorem dX3_foundOf_7 : decode cX3_foundOf 7 = .ok (.if_icmp .gt 12, 3) := by decide +kernel
theorem dX3_foundOf_10 : decode cX3_foundOf 10 = .ok (.aload_n 0, 1) := by decide +kernel
theorem dX3_foundOf_11 : decode cX3_foundOf 11 = .ok (.getfield 9, 3) := by decide +kernel
theorem dX3_foundOf_14 : decode cX3_foundOf 14 = .ok (.iload_n 1, 1) := by decide +kernel
theorem dX3_foundOf_15 : decode cX3_foundOf 15 = .ok (.iaload, 1) := by decide +kernel
theorem dX3_foundOf_16 : decode cX3_foundOf 16 = .ok (.goto 4, 3) := by decide +kernel
theorem dX3_foundOf_19 : decode cX3_foundOf 19 = .ok (.iconst 0, 1) := by decide +kernel
theorem dX3_foundOf_20 : decode cX3_foundOf 20 = .ok (.ireturn, 1) := by decide +kernel
theorem dX3_forget_0 : decode cX3_forget 0 = .ok (.aload_n 0, 1) := by decide +kernel
theorem dX3_forget_1 : decode cX3_forget 1 = .ok (.iconst 0, 1) := by decide +kernel
theorem dX3_forget_2 : decode cX3_forget 2 = .ok (.putfield 15, 3) := by decide +kernel
theorem dX3_forget_5 : decode cX3_forget 5 = .ok (.aload_n 0, 1) := by decide +kernel
theorem dX3_forget_6 : decode cX3_forget 6 = .ok (.iconst 0, 1) := by decide +kernel
theorem dX3_forget_7 : decode cX3_forget 7 = .ok (.putfield 19, 3) := by decide +kernel
theorem dX3_forget_10 : decode cX3_forget 10 = .ok (.aload_n 0, 1) := by decide +kernel
theorem dX3_forget_11 : decode cX3_forget 11 = .ok (.iconst 0, 1) := by decide +kernel
theorem dX3_forget_12 : decode cX3_forget 12 = .ok (.putfield 22, 3) := by decide +kernel
theorem dX3_forget_15 : decode cX3_forget 15 = .ok (.iconst 0, 1) := by decide +kernel
theorem dX3_forget_16 : decode cX3_forget 16 = .ok (.istore_n 1, 1) := by decide +kernel
theorem dX3_forget_17 : decode cX3_forget 17 = .ok (.iload_n 1, 1) := by decide +kernel
theorem dX3_forget_18 : decode cX3_forget 18 = .ok (.iconst 5, 1) := by decide +kernel
theorem dX3_forget_19 : decode cX3_forget 19 = .ok (.if_icmp .gt 16, 3) := by decide +kernel
theorem dX3_forget_22 : decode cX3_forget 22 = .ok (.aload_n 0, 1) := by decide +kernel
theorem dX3_forget_23 : decode cX3_forget 23 = .ok (.getfield 9, 3) := by decide +kernel
theorem dX3_forget_26 : decode cX3_forget 26 = .ok (.iload_n 1, 1) := by decide +kernel
theorem dX3_forget_27 : decode cX3_forget 27 = .ok (.iconst 0, 1) := by decide +kernel
theorem dX3_forget_28 : decode cX3_forget 28 = .ok (.iastore, 1) := by decide +kernel
theorem dX3_forget_29 : decode cX3_forget 29 = .ok (.iinc 1 1, 3) := by decide +kernel
theorem dX3_forget_32 : decode cX3_forget 32 = .ok (.goto (-15), 3) := by decide +kernel
theorem dX3_forget_35 : decode cX3_forget 35 = .ok (.return_, 1) := by decide +kernel
theorem dX4_init_0 : decode cX4_init 0 = .ok (.aload_n 0, 1) := by decide +kernel
theorem dX4_init_1 : decode cX4_init 1 = .ok (.invokespecial 3, 3) := by decide +kernel
theorem dX4_init_4 : decode cX4_init 4 = .ok (.aload_n 0, 1) := by decide +kernel
theorem dX4_init_5 : decode cX4_init 5 = .ok (.bipush 100, 2) := by decide +kernel
theorem dX4_init_7 : decode cX4_init 7 = .ok (.newarray .int, 2) := by decide +kernel
theorem dX4_init_9 : decode cX4_init 9 = .ok (.putfield 9, 3) := by decide +kernel
theorem dX4_init_12 : decode cX4_init 12 = .ok (.aload_n 0, 1) := by decide +kernel
theorem dX4_init_13 : decode cX4_init 13 = .ok (.bipush 100, 2) := by decide +kernel
theorem dX4_init_15 : decode cX4_init 15 = .ok (.newarray .int, 2) := by decide +kernel
theorem dX4_init_17 : decode cX4_init 17 = .ok (.putfield 15, 3) := by decide +kernel
theorem dX4_init_20 : decode cX4_init 20 = .ok (.aload_n 0, 1) := by decide +kernel
theorem dX4_init_21 : decode cX4_init 21 = .ok (.bipush 100, 2) := by decide +kernel
theorem dX4_init_23 : decode cX4_init 23 = .ok (.newarray .int, 2) := by decide +kernel
theorem dX4_init_25 : decode cX4_init 25 = .ok (.putfield 18, 3) := by decide +kernel
theorem dX4_init_28 : decode cX4_init 28 = .ok (.aload_n 0, 1) := by decide +kernel
theorem dX4_init_29 : decode cX4_init 29 = .ok (.sipush 800, 3) := by decide +kernel
theorem dX4_init_32 : decode cX4_init 32 = .ok (.newarray .long, 2) := by decide +kernel
theorem dX4_init_34 : decode cX4_init 34 = .ok (.putfield 21, 3) := by decide +kernel
theorem dX4_init_37 : decode cX4_init 37 = .ok (.aload_n 0, 1) := by decide +kernel
theorem dX4_init_38 : decode cX4_init 38 = .ok (.sipush 800, 3) := by decide +kernel
theorem dX4_init_41 : decode cX4_init 41 = .ok (.newarray .int, 2) := by decide +kernel
theorem dX4_init_43 : decode cX4_init 43 = .ok (.putfield 25, 3) := by decide +kernel
theorem dX4_init_46 : decode cX4_init 46 = .ok (.aload_n 0, 1) := by decide +kernel
theorem dX4_init_47 : decode cX4_init 47 = .ok (.iconst 0, 1) := by decide +kernel
theorem dX4_init_48 : decode cX4_init 48 = .ok (.putfield 28, 3) := by decide +kernel
theorem dX4_init_51 : decode cX4_init 51 = .ok (.return_, 1) := by decide +kernel
theorem dX4_howMany_0 : decode cX4_howMany 0 = .ok (.aload_n 0, 1) := by decide +kernel
theorem dX4_howMany_1 : decode cX4_howMany 1 = .ok (.getfield 28, 3) := by decide +kernel
theorem dX4_howMany_4 : decode cX4_howMany 4 = .ok (.ireturn, 1) := by decide +kernel
theorem dX4_areFull_0 : decode cX4_areFull 0 = .ok (.aload_n 0, 1) := by decide +kernel
theorem dX4_areFull_1 : decode cX4_areFull 1 = .ok (.getfield 28, 3) := by decide +kernel
theorem dX4_areFull_4 : decode cX4_areFull 4 = .ok (.bipush 100, 2) := by decide +kernel
theorem dX4_areFull_6 : decode cX4_areFull 6 = .ok (.if_icmp .lt 7, 3) := by decide +kernel
theorem dX4_areFull_9 : decode cX4_areFull 9 = .ok (.iconst 1, 1) := by decide +kernel
theorem dX4_areFull_10 : decode cX4_areFull 10 = .ok (.goto 4, 3) := by decide +kernel
theorem dX4_areFull_13 : decode cX4_areFull 13 = .ok (.iconst 0, 1) := by decide +kernel
theorem dX4_areFull_14 : decode cX4_areFull 14 = .ok (.ireturn, 1) := by decide +kernel
theorem dX4_hold_0 : decode cX4_hold 0 = .ok (.iload_n 1, 1) := by decide +kernel
theorem dX4_hold_1 : decode cX4_hold 1 = .ok (.ifCond .lt 15, 3) := by decide +kernel
theorem dX4_hold_4 : decode cX4_hold 4 = .ok (.iload_n 1, 1) := by decide +kernel
theorem dX4_hold_5 : decode cX4_hold 5 = .ok (.aload_n 0, 1) := by decide +kernel
theorem dX4_hold_6 : decode cX4_hold 6 = .ok (.getfield 28, 3) := by decide +kernel
theorem dX4_hold_9 : decode cX4_hold 9 = .ok (.if_icmp .ge 7, 3) := by decide +kernel
theorem dX4_hold_12 : decode cX4_hold 12 = .ok (.iconst 1, 1) := by decide +kernel
theorem dX4_hold_13 : decode cX4_hold 13 = .ok (.goto 4, 3) := by decide +kernel
theorem dX4_hold_16 : decode cX4_hold 16 = .ok (.iconst 0, 1) := by decide +kernel
theorem dX4_hold_17 : decode cX4_hold 17 = .ok (.ireturn, 1) := by decide +kernel
set_option maxRecDepth 20000 in
theorem ggX4_add_X4_areFull : GoodIn wsX4_add wsX4_areFull := goodIn_r _ [11, 1, 12, 13, 14, 15, 16, 17] (by decide +kernel) (by decide +kernel)
set_option maxRecDepth 20000 in
theorem gX4_add_X4_areFull : GoodIn wsX4_add (wsV RX4 32 RX4 yX4_areFull wsX4_areFull) := goodIn_app (goodIn_of _ (by decide +kernel)) ggX4_add_X4_areFull
theorem dX4_add_0 : decode cX4_add 0 = .ok (.aload_n 0, 1) := by decide +kernel
theorem dX4_add_1 : decode cX4_add 1 = .ok (.invokevirtual 32, 3) := by decide +kernel
theorem dX4_add_4 : decode cX4_add 4 = .ok (.ifCond .eq 6, 3) := by decide +kernel
theorem dX4_add_7 : decode cX4_add 7 = .ok (.bipush (-4), 2) := by decide +kernel
theorem dX4_add_9 : decode cX4_add 9 = .ok (.ireturn, 1) := by decide +kernel
theorem dX4_add_10 : decode cX4_add 10 = .ok (.aload_n 0, 1) := by decide +kernel
theorem dX4_add_11 : decode cX4_add 11 = .ok (.getfield 28, 3) := by decide +kernel
theorem dX4_add_14 : decode cX4_add 14 = .ok (.istore 4, 2) := by decide +kernel
theorem dX4_add_16 : decode cX4_add 16 = .ok (.aload_n 0, 1) := by decide +kernel
theorem dX4_add_17 : decode cX4_add 17 = .ok (.getfield 9, 3) := by decide +kernel
theorem dX4_add_20 : decode cX4_add 20 = .ok (.iload 4, 2) := by decide +kernel
theorem dX4_add_22 : decode cX4_add 22 = .ok (.iload_n 1, 1) := by decide +kernel
theorem dX4_add_23 : decode cX4_add 23 = .ok (.iastore, 1) := by decide +kernel
theorem dX4_add_24 : decode cX4_add 24 = .ok (.aload_n 0, 1) := by decide +kernel
theorem dX4_add_25 : decode cX4_add 25 = .ok (.getfield 15, 3) := by decide +kernel
theorem dX4_add_28 : decode cX4_add 28 = .ok (.iload 4, 2) := by decide +kernel
theorem dX4_add_30 : decode cX4_add 30 = .ok (.iload_n 2, 1) := by decide +kernel
theorem dX4_add_31 : decode cX4_add 31 = .ok (.iastore, 1) := by decide +kernel
theorem dX4_add_32 : decode cX4_add 32 = .ok (.aload_n 0, 1) := by decide +kernel
theorem dX4_add_33 : decode cX4_add 33 = .ok (.getfield 18, 3) := by decide +kernel
theorem dX4_add_36 : decode cX4_add 36 = .ok (.iload 4, 2) := by decide +kernel
theorem dX4_add_38 : decode cX4_add 38 = .ok (.iload_n 3, 1) := by decide +kernel
theorem dX4_add_39 : decode cX4_add 39 = .ok (.iastore, 1) := by decide +kernel
theorem dX4_add_40 : decode cX4_add 40 = .ok (.iconst 0, 1) := by decide +kernel
theorem dX4_add_41 : decode cX4_add 41 = .ok (.istore 5, 2) := by decide +kernel
theorem dX4_add_43 : decode cX4_add 43 = .ok (.iload 5, 2) := by decide +kernel
theorem dX4_add_45 : decode cX4_add 45 = .ok (.bipush 8, 2) := by decide +kernel
theorem dX4_add_47 : decode cX4_add 47 = .ok (.if_icmp .ge 38, 3) := by decide +kernel
theorem dX4_add_50 : decode cX4_add 50 = .ok (.aload_n 0, 1) := by decide +kernel
theorem dX4_add_51 : decode cX4_add 51 = .ok (.getfield 21, 3) := by decide +kernel
theorem dX4_add_54 : decode cX4_add 54 = .ok (.iload 4, 2) := by decide +kernel
theorem dX4_add_56 : decode cX4_add 56 = .ok (.bipush 8, 2) := by decide +kernel
theorem dX4_add_58 : decode cX4_add 58 = .ok (.imul, 1) := by decide +kernel
theorem dX4_add_59 : decode cX4_add 59 = .ok (.iload 5, 2) := by decide +kernel
theorem dX4_add_61 : decode cX4_add 61 = .ok (.iadd, 1) := by decide +kernel
theorem dX4_add_62 : decode cX4_add 62 = .ok (.lconst 0, 1) := by decide +kernel
theorem dX4_add_63 : decode cX4_add 63 = .ok (.lastore, 1) := by decide +kernel
theorem dX4_add_64 : decode cX4_add 64 = .ok (.aload_n 0, 1) := by decide +kernel
theorem dX4_add_65 : decode cX4_add 65 = .ok (.getfield 25, 3) := by decide +kernel
theorem dX4_add_68 : decode cX4_add 68 = .ok (.iload 4, 2) := by decide +kernel
theorem dX4_add_70 : decode cX4_add 70 = .ok (.bipush 8, 2) := by decide +kernel
theorem dX4_add_72 : decode cX4_add 72 = .ok (.imul, 1) := by decide +kernel
theorem dX4_add_73 : decode cX4_add 73 = .ok (.iload 5, 2) := by decide +kernel
theorem dX4_add_75 : decode cX4_add 75 = .ok (.iadd, 1) := by decide +kernel
theorem dX4_add_76 : decode cX4_add 76 = .ok (.bipush (-5), 2) := by decide +kernel
theorem dX4_add_78 : decode cX4_add 78 = .ok (.iastore, 1) := by decide +kernel
theorem dX4_add_79 : decode cX4_add 79 = .ok (.iinc 5 1, 3) := by decide +kernel
theorem dX4_add_82 : decode cX4_add 82 = .ok (.goto (-39), 3) := by decide +kernel
theorem dX4_add_85 : decode cX4_add 85 = .ok (.aload_n 0, 1) := by decide +kernel
theorem dX4_add_86 : decode cX4_add 86 = .ok (.dup, 1) := by decide +kernel
theorem dX4_add_87 : decode cX4_add 87 = .ok (.getfield 28, 3) := by decide +kernel
theorem dX4_add_90 : decode cX4_add 90 = .ok (.iconst 1, 1) := by decide +kernel
theorem dX4_add_91 : decode cX4_add 91 = .ok (.iadd, 1) := by decide +kernel
theorem dX4_add_92 : decode cX4_add 92 = .ok (.putfield 28, 3) := by decide +kernel
theorem dX4_add_95 : decode cX4_add 95 = .ok (.iload 4, 2) := by decide +kernel
theorem dX4_add_97 : decode cX4_add 97 = .ok (.ireturn, 1) := by decide +kernel
set_option maxRecDepth 20000 in
theorem ggX4_formOf_X4_hold : GoodIn wsX4_formOf wsX4_hold := goodIn_r _ [6, 7, 8, 9, 10, 11, 12, 13] (by decide +kernel) (by decide +kernel)
set_option maxRecDepth 20000 in
theorem gX4_formOf_X4_hold : GoodIn wsX4_formOf (wsV RX4 36 RX4 yX4_hold wsX4_hold) := goodIn_app (goodIn_of _ (by decide +kernel)) ggX4_formOf_X4_hold
theorem dX4_formOf_0 : decode cX4_formOf 0 = .ok (.aload_n 0, 1) := by decide +kernel
theorem dX4_formOf_1 : decode cX4_formOf 1 = .ok (.iload_n 1, 1) := by decide +kernel
theorem dX4_formOf_2 : decode cX4_formOf 2 = .ok (.invokevirtual 36, 3) := by decide +kernel
theorem dX4_formOf_5 : decode cX4_formOf 5 = .ok (.ifCond .eq 12, 3) := by decide +kernel
theorem dX4_formOf_8 : decode cX4_formOf 8 = .ok (.aload_n 0, 1) := by decide +kernel
theorem dX4_formOf_9 : decode cX4_formOf 9 = .ok (.getfield 9, 3) := by decide +kernel
theorem dX4_formOf_12 : decode cX4_formOf 12 = .ok (.iload_n 1, 1) := by decide +kernel
theorem dX4_formOf_13 : decode cX4_formOf 13 = .ok (.iaload, 1) := by decide +kernel
theorem dX4_formOf_14 : decode cX4_formOf 14 = .ok (.goto 5, 3) := by decide +kernel
theorem dX4_formOf_17 : decode cX4_formOf 17 = .ok (.bipush (-5), 2) := by decide +kernel
theorem dX4_formOf_19 : decode cX4_formOf 19 = .ok (.ireturn, 1) := by decide +kernel
set_option maxRecDepth 20000 in
theorem ggX4_isOf_X4_hold : GoodIn wsX4_isOf wsX4_hold := goodIn_r _ [6, 7, 11, 12, 13, 14, 15, 16] (by decide +kernel) (by decide +kernel)
set_option maxRecDepth 20000 in
theorem gX4_isOf_X4_hold : GoodIn wsX4_isOf (wsV RX4 36 RX4 yX4_hold wsX4_hold) := goodIn_app (goodIn_of _ (by decide +kernel)) ggX4_isOf_X4_hold
set_option maxRecDepth 20000 in
theorem ggX4_isOf_X5_alsoIs : GoodIn wsX4_isOf wsX5_alsoIs := goodIn_r _ [10] (by decide +kernel) (by decide +kernel)
set_option maxRecDepth 20000 in
theorem gX4_isOf_X5_alsoIs_n40 : GoodIn wsX4_isOf (wsX5_alsoIs) := ggX4_isOf_X5_alsoIs
theorem dX4_isOf_0 : decode cX4_isOf 0 = .ok (.aload_n 0, 1) := by decide +kernel
theorem dX4_isOf_1 : decode cX4_isOf 1 = .ok (.iload_n 1, 1) := by decide +kernel
theorem dX4_isOf_2 : decode cX4_isOf 2 = .ok (.invokevirtual 36, 3) := by decide +kernel
theorem dX4_isOf_5 : decode cX4_isOf 5 = .ok (.ifCond .ne 5, 3) := by decide +kernel
theorem dX4_isOf_8 : decode cX4_isOf 8 = .ok (.iconst 0, 1) := by decide +kernel
theorem dX4_isOf_9 : decode cX4_isOf 9 = .ok (.ireturn, 1) := by decide +kernel
theorem dX4_isOf_10 : decode cX4_isOf 10 = .ok (.iload_n 2, 1) := by decide +kernel
theorem dX4_isOf_11 : decode cX4_isOf 11 = .ok (.bipush 17, 2) := by decide +kernel
theorem dX4_isOf_13 : decode cX4_isOf 13 = .ok (.if_icmp .eq 26, 3) := by decide +kernel
theorem dX4_isOf_16 : decode cX4_isOf 16 = .ok (.iload_n 2, 1) := by decide +kernel
theorem dX4_isOf_17 : decode cX4_isOf 17 = .ok (.aload_n 0, 1) := by decide +kernel
theorem dX4_isOf_18 : decode cX4_isOf 18 = .ok (.getfield 9, 3) := by decide +kernel
theorem dX4_isOf_21 : decode cX4_isOf 21 = .ok (.iload_n 1, 1) := by decide +kernel
theorem dX4_isOf_22 : decode cX4_isOf 22 = .ok (.iaload, 1) := by decide +kernel
theorem dX4_isOf_23 : decode cX4_isOf 23 = .ok (.if_icmp .eq 16, 3) := by decide +kernel
theorem dX4_isOf_26 : decode cX4_isOf 26 = .ok (.aload_n 0, 1) := by decide +kernel
theorem dX4_isOf_27 : decode cX4_isOf 27 = .ok (.getfield 9, 3) := by decide +kernel
theorem dX4_isOf_30 : decode cX4_isOf 30 = .ok (.iload_n 1, 1) := by decide +kernel
theorem dX4_isOf_31 : decode cX4_isOf 31 = .ok (.iaload, 1) := by decide +kernel
theorem dX4_isOf_32 : decode cX4_isOf 32 = .ok (.iload_n 2, 1) := by decide +kernel
theorem dX4_isOf_33 : decode cX4_isOf 33 = .ok (.invokestatic 40, 3) := by decide +kernel
theorem dX4_isOf_36 : decode cX4_isOf 36 = .ok (.ifCond .eq 7, 3) := by decide +kernel
theorem dX4_isOf_39 : decode cX4_isOf 39 = .ok (.iconst 1, 1) := by decide +kernel
theorem dX4_isOf_40 : decode cX4_isOf 40 = .ok (.goto 4, 3) := by decide +kernel
theorem dX4_isOf_43 : decode cX4_isOf 43 = .ok (.iconst 0, 1) := by decide +kernel
theorem dX4_isOf_44 : decode cX4_isOf 44 = .ok (.ireturn, 1) := by decide +kernel
set_option maxRecDepth 20000 in
theorem ggX4_weightOf_X4_hold : GoodIn wsX4_weightOf wsX4_hold := goodIn_r _ [6, 7, 8, 9, 10, 11, 12, 13] (by decide +kernel) (by decide +kernel)
set_option maxRecDepth 20000 in
theorem gX4_weightOf_X4_hold : GoodIn wsX4_weightOf (wsV RX4 36 RX4 yX4_hold wsX4_hold) := goodIn_app (goodIn_of _ (by decide +kernel)) ggX4_weightOf_X4_hold
theorem dX4_weightOf_0 : decode cX4_weightOf 0 = .ok (.aload_n 0, 1) := by decide +kernel
theorem dX4_weightOf_1 : decode cX4_weightOf 1 = .ok (.iload_n 1, 1) := by decide +kernel
theorem dX4_weightOf_2 : decode cX4_weightOf 2 = .ok (.invokevirtual 36, 3) := by decide +kernel
theorem dX4_weightOf_5 : decode cX4_weightOf 5 = .ok (.ifCond .eq 12, 3) := by decide +kernel
theorem dX4_weightOf_8 : decode cX4_weightOf 8 = .ok (.aload_n 0, 1) := by decide +kernel
theorem dX4_weightOf_9 : decode cX4_weightOf 9 = .ok (.getfield 15, 3) := by decide +kernel
theorem dX4_weightOf_12 : decode cX4_weightOf 12 = .ok (.iload_n 1, 1) := by decide +kernel
theorem dX4_weightOf_13 : decode cX4_weightOf 13 = .ok (.iaload, 1) := by decide +kernel
theorem dX4_weightOf_14 : decode cX4_weightOf 14 = .ok (.goto 4, 3) := by decide +kernel
theorem dX4_weightOf_17 : decode cX4_weightOf 17 = .ok (.iconst 0, 1) := by decide +kernel
theorem dX4_weightOf_18 : decode cX4_weightOf 18 = .ok (.ireturn, 1) := by decide +kernel
set_option maxRecDepth 20000 in
theorem ggX4_keyOf_X4_formOf : GoodIn wsX4_keyOf wsX4_formOf := goodIn_ca (goodIn_r _ [5, 6, 7, 8, 9, 4, 10, 11, 17, 18, 19, 20, 21, 22] (by decide +kernel) (by decide +kernel)) (goodIn_sub (fun _ h => List.mem_cons_of_mem _ (List.mem_append_right _ h)) (by decide +kernel))
set_option maxRecDepth 20000 in
theorem gX4_keyOf_X4_formOf : GoodIn wsX4_keyOf (wsV RX4 44 RX4 yX4_formOf wsX4_formOf) := goodIn_app (goodIn_of _ (by decide +kernel)) ggX4_keyOf_X4_formOf
set_option maxRecDepth 20000 in
theorem ggX4_keyOf_X4_weightOf : GoodIn wsX4_keyOf wsX4_weightOf := goodIn_ca (goodIn_r _ [15, 16, 7, 8, 9, 4, 10, 11, 17, 18, 19, 20, 21, 22] (by decide +kernel) (by decide +kernel)) (goodIn_sub (fun _ h => List.mem_cons_of_mem _ (List.mem_append_right _ h)) (by decide +kernel))
set_option maxRecDepth 20000 in
theorem gX4_keyOf_X4_weightOf : GoodIn wsX4_keyOf (wsV RX4 48 RX4 yX4_weightOf wsX4_weightOf) := goodIn_app (goodIn_of _ (by decide +kernel)) ggX4_keyOf_X4_weightOf
theorem dX4_keyOf_0 : decode cX4_keyOf 0 = .ok (.aload_n 0, 1) := by decide +kernel
theorem dX4_keyOf_1 : decode cX4_keyOf 1 = .ok (.iload_n 1, 1) := by decide +kernel
theorem dX4_keyOf_2 : decode cX4_keyOf 2 = .ok (.invokevirtual 44, 3) := by decide +kernel
theorem dX4_keyOf_5 : decode cX4_keyOf 5 = .ok (.iconst 2, 1) := by decide +kernel
theorem dX4_keyOf_6 : decode cX4_keyOf 6 = .ok (.if_icmp .ne 15, 3) := by decide +kernel
theorem dX4_keyOf_9 : decode cX4_keyOf 9 = .ok (.aload_n 0, 1) := by decide +kernel
theorem dX4_keyOf_10 : decode cX4_keyOf 10 = .ok (.iload_n 1, 1) := by decide +kernel
theorem dX4_keyOf_11 : decode cX4_keyOf 11 = .ok (.invokevirtual 48, 3) := by decide +kernel
theorem dX4_keyOf_14 : decode cX4_keyOf 14 = .ok (.iconst 3, 1) := by decide +kernel
theorem dX4_keyOf_15 : decode cX4_keyOf 15 = .ok (.imul, 1) := by decide +kernel
theorem dX4_keyOf_16 : decode cX4_keyOf 16 = .ok (.iconst 1, 1) := by decide +kernel
theorem dX4_keyOf_17 : decode cX4_keyOf 17 = .ok (.iadd, 1) := by decide +kernel
theorem dX4_keyOf_18 : decode cX4_keyOf 18 = .ok (.goto 11, 3) := by decide +kernel
theorem dX4_keyOf_21 : decode cX4_keyOf 21 = .ok (.aload_n 0, 1) := by decide +kernel
theorem dX4_keyOf_22 : decode cX4_keyOf 22 = .ok (.iload_n 1, 1) := by decide +kernel
theorem dX4_keyOf_23 : decode cX4_keyOf 23 = .ok (.invokevirtual 48, 3) := by decide +kernel
theorem dX4_keyOf_26 : decode cX4_keyOf 26 = .ok (.bipush 7, 2) := by decide +kernel
theorem dX4_keyOf_28 : decode cX4_keyOf 28 = .ok (.isub, 1) := by decide +kernel
theorem dX4_keyOf_29 : decode cX4_keyOf 29 = .ok (.ireturn, 1) := by decide +kernel
set_option maxRecDepth 20000 in
theorem ggX4_sizeOf_X4_hold : GoodIn wsX4_sizeOf wsX4_hold := goodIn_r _ [6, 7, 8, 9, 10, 11, 12, 13] (by decide +kernel) (by decide +kernel)
set_option maxRecDepth 20000 in
theorem gX4_sizeOf_X4_hold : GoodIn wsX4_sizeOf (wsV RX4 36 RX4 yX4_hold wsX4_hold) := goodIn_app (goodIn_of _ (by decide +kernel)) ggX4_sizeOf_X4_hold
theorem dX4_sizeOf_0 : decode cX4_sizeOf 0 = .ok (.aload_n 0, 1) := by decide +kernel
theorem dX4_sizeOf_1 : decode cX4_sizeOf 1 = .ok (.iload_n 1, 1) := by decide +kernel
theorem dX4_sizeOf_2 : decode cX4_sizeOf 2 = .ok (.invokevirtual 36, 3) := by decide +kernel
theorem dX4_sizeOf_5 : decode cX4_sizeOf 5 = .ok (.ifCond .eq 12, 3) := by decide +kernel
theorem dX4_sizeOf_8 : decode cX4_sizeOf 8 = .ok (.aload_n 0, 1) := by decide +kernel
theorem dX4_sizeOf_9 : decode cX4_sizeOf 9 = .ok (.getfield 18, 3) := by decide +kernel
theorem dX4_sizeOf_12 : decode cX4_sizeOf 12 = .ok (.iload_n 1, 1) := by decide +kernel
theorem dX4_sizeOf_13 : decode cX4_sizeOf 13 = .ok (.iaload, 1) := by decide +kernel
theorem dX4_sizeOf_14 : decode cX4_sizeOf 14 = .ok (.goto 4, 3) := by decide +kernel
theorem dX4_sizeOf_17 : decode cX4_sizeOf 17 = .ok (.iconst 0, 1) := by decide +kernel
theorem dX4_sizeOf_18 : decode cX4_sizeOf 18 = .ok (.ireturn, 1) := by decide +kernel
theorem dX4_hasPlace_0 : decode cX4_hasPlace 0 = .ok (.iload_n 1, 1) := by decide +kernel
theorem dX4_hasPlace_1 : decode cX4_hasPlace 1 = .ok (.ifCond .lt 29, 3) := by decide +kernel
theorem dX4_hasPlace_4 : decode cX4_hasPlace 4 = .ok (.iload_n 1, 1) := by decide +kernel
theorem dX4_hasPlace_5 : decode cX4_hasPlace 5 = .ok (.aload_n 0, 1) := by decide +kernel
theorem dX4_hasPlace_6 : decode cX4_hasPlace 6 = .ok (.getfield 28, 3) := by decide +kernel
theorem dX4_hasPlace_9 : decode cX4_hasPlace 9 = .ok (.if_icmp .ge 21, 3) := by decide +kernel
theorem dX4_hasPlace_12 : decode cX4_hasPlace 12 = .ok (.iload_n 2, 1) := by decide +kernel
theorem dX4_hasPlace_13 : decode cX4_hasPlace 13 = .ok (.ifCond .lt 17, 3) := by decide +kernel
theorem dX4_hasPlace_16 : decode cX4_hasPlace 16 = .ok (.iload_n 2, 1) := by decide +kernel
theorem dX4_hasPlace_17 : decode cX4_hasPlace 17 = .ok (.aload_n 0, 1) := by decide +kernel
theorem dX4_hasPlace_18 : decode cX4_hasPlace 18 = .ok (.getfield 18, 3) := by decide +kernel
theorem dX4_hasPlace_21 : decode cX4_hasPlace 21 = .ok (.iload_n 1, 1) := by decide +kernel
theorem dX4_hasPlace_22 : decode cX4_hasPlace 22 = .ok (.iaload, 1) := by decide +kernel
theorem dX4_hasPlace_23 : decode cX4_hasPlace 23 = .ok (.if_icmp .ge 7, 3) := by decide +kernel
theorem dX4_hasPlace_26 : decode cX4_hasPlace 26 = .ok (.iconst 1, 1) := by decide +kernel
theorem dX4_hasPlace_27 : decode cX4_hasPlace 27 = .ok (.goto 4, 3) := by decide +kernel
theorem dX4_hasPlace_30 : decode cX4_hasPlace 30 = .ok (.iconst 0, 1) := by decide +kernel
theorem dX4_hasPlace_31 : decode cX4_hasPlace 31 = .ok (.ireturn, 1) := by decide +kernel
set_option maxRecDepth 20000 in
theorem ggX4_numberAt_X4_hasPlace : GoodIn wsX4_numberAt wsX4_hasPlace := goodIn_ca (goodIn_r _ [6, 7, 8, 9, 10, 11, 12, 13, 14] (by decide +kernel) (by decide +kernel)) (goodIn_sub (fun _ h => List.mem_cons_of_mem _ (List.mem_append_right _ h)) (by decide +kernel))
set_option maxRecDepth 20000 in
theorem gX4_numberAt_X4_hasPlace : GoodIn wsX4_numberAt (wsV RX4 51 RX4 yX4_hasPlace wsX4_hasPlace) := goodIn_app (goodIn_of _ (by decide +kernel)) ggX4_numberAt_X4_hasPlace
theorem dX4_numberAt_0 : decode cX4_numberAt 0 = .ok (.aload_n 0, 1) := by decide +kernel
theorem dX4_numberAt_1 : decode cX4_numberAt 1 = .ok (.iload_n 1, 1) := by decide +kernel
theorem dX4_numberAt_2 : decode cX4_numberAt 2 = .ok (.iload_n 2, 1) := by decide +kernel
theorem dX4_numberAt_3 : decode cX4_numberAt 3 = .ok (.invokevirtual 51, 3) := by decide +kernel
theorem dX4_numberAt_6 : decode cX4_numberAt 6 = .ok (.ifCond .eq 17, 3) := by decide +kernel
theorem dX4_numberAt_9 : decode cX4_numberAt 9 = .ok (.aload_n 0, 1) := by decide +kernel
theorem dX4_numberAt_10 : decode cX4_numberAt 10 = .ok (.getfield 21, 3) := by decide +kernel
theorem dX4_numberAt_13 : decode cX4_numberAt 13 = .ok (.iload_n 1, 1) := by decide +kernel
theorem dX4_numberAt_14 : decode cX4_numberAt 14 = .ok (.bipush 8, 2) := by decide +kernel
theorem dX4_numberAt_16 : decode cX4_numberAt 16 = .ok (.imul, 1) := by decide +kernel
theorem dX4_numberAt_17 : decode cX4_numberAt 17 = .ok (.iload_n 2, 1) := by decide +kernel
theorem dX4_numberAt_18 : decode cX4_numberAt 18 = .ok (.iadd, 1) := by decide +kernel
theorem dX4_numberAt_19 : decode cX4_numberAt 19 = .ok (.laload, 1) := by decide +kernel
theorem dX4_numberAt_20 : decode cX4_numberAt 20 = .ok (.goto 4, 3) := by decide +kernel
theorem dX4_numberAt_23 : decode cX4_numberAt 23 = .ok (.lconst 0, 1) := by decide +kernel
theorem dX4_numberAt_24 : decode cX4_numberAt 24 = .ok (.lreturn, 1) := by decide +kernel
set_option maxRecDepth 20000 in
theorem ggX4_setNumber_X4_hasPlace : GoodIn wsX4_setNumber wsX4_hasPlace := goodIn_ca (goodIn_r _ [7, 8, 9, 10, 11, 12, 13, 14, 15] (by decide +kernel) (by decide +kernel)) (goodIn_sub (fun _ h => List.mem_cons_of_mem _ (List.mem_append_right _ h)) (by decide +kernel))
set_option maxRecDepth 20000 in
theorem gX4_setNumber_X4_hasPlace : GoodIn wsX4_setNumber (wsV RX4 51 RX4 yX4_hasPlace wsX4_hasPlace) := goodIn_app (goodIn_of _ (by decide +kernel)) ggX4_setNumber_X4_hasPlace
theorem dX4_setNumber_0 : decode cX4_setNumber 0 = .ok (.aload_n 0, 1) := by decide +kernel
theorem dX4_setNumber_1 : decode cX4_setNumber 1 = .ok (.iload_n 1, 1) := by decide +kernel
theorem dX4_setNumber_2 : decode cX4_setNumber 2 = .ok (.iload_n 2, 1) := by decide +kernel
theorem dX4_setNumber_3 : decode cX4_setNumber 3 = .ok (.invokevirtual 51, 3) := by decide +kernel
theorem dX4_setNumber_6 : decode cX4_setNumber 6 = .ok (.ifCond .ne 4, 3) := by decide +kernel
theorem dX4_setNumber_9 : decode cX4_setNumber 9 = .ok (.return_, 1) := by decide +kernel
theorem dX4_setNumber_10 : decode cX4_setNumber 10 = .ok (.aload_n 0, 1) := by decide +kernel
theorem dX4_setNumber_11 : decode cX4_setNumber 11 = .ok (.getfield 21, 3) := by decide +kernel
theorem dX4_setNumber_14 : decode cX4_setNumber 14 = .ok (.iload_n 1, 1) := by decide +kernel
theorem dX4_setNumber_15 : decode cX4_setNumber 15 = .ok (.bipush 8, 2) := by decide +kernel
theorem dX4_setNumber_17 : decode cX4_setNumber 17 = .ok (.imul, 1) := by decide +kernel
theorem dX4_setNumber_18 : decode cX4_setNumber 18 = .ok (.iload_n 2, 1) := by decide +kernel
theorem dX4_setNumber_19 : decode cX4_setNumber 19 = .ok (.iadd, 1) := by decide +kernel
theorem dX4_setNumber_20 : decode cX4_setNumber 20 = .ok (.aload_n 0, 1) := by decide +kernel
theorem dX4_setNumber_21 : decode cX4_setNumber 21 = .ok (.getfield 9, 3) := by decide +kernel
theorem dX4_setNumber_24 : decode cX4_setNumber 24 = .ok (.iload_n 1, 1) := by decide +kernel
theorem dX4_setNumber_25 : decode cX4_setNumber 25 = .ok (.iaload, 1) := by decide +kernel
theorem dX4_setNumber_26 : decode cX4_setNumber 26 = .ok (.lookupswitch 39 #[(4, 26), (5, 33)], 26) := by decide +kernel
theorem dX4_setNumber_52 : decode cX4_setNumber 52 = .ok (.lload_n 3, 1) := by decide +kernel
theorem dX4_setNumber_53 : decode cX4_setNumber 53 = .ok (.l2i, 1) := by decide +kernel
theorem dX4_setNumber_54 : decode cX4_setNumber 54 = .ok (.i2b, 1) := by decide +kernel
theorem dX4_setNumber_55 : decode cX4_setNumber 55 = .ok (.i2l, 1) := by decide +kernel
theorem dX4_setNumber_56 : decode cX4_setNumber 56 = .ok (.goto 10, 3) := by decide +kernel
theorem dX4_setNumber_59 : decode cX4_setNumber 59 = .ok (.lload_n 3, 1) := by decide +kernel
theorem dX4_setNumber_60 : decode cX4_setNumber 60 = .ok (.l2i, 1) := by decide +kernel
theorem dX4_setNumber_61 : decode cX4_setNumber 61 = .ok (.i2l, 1) := by decide +kernel
theorem dX4_setNumber_62 : decode cX4_setNumber 62 = .ok (.goto 4, 3) := by decide +kernel
theorem dX4_setNumber_65 : decode cX4_setNumber 65 = .ok (.lload_n 3, 1) := by decide +kernel
theorem dX4_setNumber_66 : decode cX4_setNumber 66 = .ok (.lastore, 1) := by decide +kernel
theorem dX4_setNumber_67 : decode cX4_setNumber 67 = .ok (.return_, 1) := by decide +kernel
set_option maxRecDepth 20000 in
theorem ggX4_sumOfNumbers_X4_sizeOf : GoodIn wsX4_sumOfNumbers wsX4_sizeOf := goodIn_ca (goodIn_r _ [5, 6, 7, 8, 9, 4, 10, 11, 21, 22, 23, 24, 25, 26] (by decide +kernel) (by decide +kernel)) (goodIn_sub (fun _ h => List.mem_cons_of_mem _ (List.mem_append_right _ h)) (by decide +kernel))
set_option maxRecDepth 20000 in
theorem gX4_sumOfNumbers_X4_sizeOf : GoodIn wsX4_sumOfNumbers (wsV RX4 54 RX4 yX4_sizeOf wsX4_sizeOf) := goodIn_app (goodIn_of _ (by decide +kernel)) ggX4_sumOfNumbers_X4_sizeOf
set_option maxRecDepth 20000 in
theorem ggX4_sumOfNumbers_X4_numberAt : GoodIn wsX4_sumOfNumbers wsX4_numberAt := goodIn_ca (goodIn_r _ [15, 16, 17, 18, 19, 4, 20, 11, 6, 21, 22, 23, 24, 25, 26] (by decide +kernel) (by decide +kernel)) (goodIn_sub (fun _ h => List.mem_cons_of_mem _ (List.mem_append_right _ h)) (by decide +kernel))
set_option maxRecDepth 20000 in
theorem gX4_sumOfNumbers_X4_numberAt : GoodIn wsX4_sumOfNumbers (wsV RX4 57 RX4 yX4_numberAt wsX4_numberAt) := goodIn_app (goodIn_of _ (by decide +kernel)) ggX4_sumOfNumbers_X4_numberAt
theorem dX4_sumOfNumbers_0 : decode cX4_sumOfNumbers 0 = .ok (.lconst 0, 1) := by decide +kernel
theorem dX4_sumOfNumbers_1 : decode cX4_sumOfNumbers 1 = .ok (.lstore_n 2, 1) := by decide +kernel
theorem dX4_sumOfNumbers_2 : decode cX4_sumOfNumbers 2 = .ok (.iconst 0, 1) := by decide +kernel
theorem dX4_sumOfNumbers_3 : decode cX4_sumOfNumbers 3 = .ok (.istore 4, 2) := by decide +kernel
theorem dX4_sumOfNumbers_5 : decode cX4_sumOfNumbers 5 = .ok (.iload 4, 2) := by decide +kernel
theorem dX4_sumOfNumbers_7 : decode cX4_sumOfNumbers 7 = .ok (.aload_n 0, 1) := by decide +kernel
theorem dX4_sumOfNumbers_8 : decode cX4_sumOfNumbers 8 = .ok (.iload_n 1, 1) := by decide +kernel
theorem dX4_sumOfNumbers_9 : decode cX4_sumOfNumbers 9 = .ok (.invokevirtual 54, 3) := by decide +kernel
theorem dX4_sumOfNumbers_12 : decode cX4_sumOfNumbers 12 = .ok (.if_icmp .ge 19, 3) := by decide +kernel
theorem dX4_sumOfNumbers_15 : decode cX4_sumOfNumbers 15 = .ok (.lload_n 2, 1) := by decide +kernel
theorem dX4_sumOfNumbers_16 : decode cX4_sumOfNumbers 16 = .ok (.aload_n 0, 1) := by decide +kernel
theorem dX4_sumOfNumbers_17 : decode cX4_sumOfNumbers 17 = .ok (.iload_n 1, 1) := by decide +kernel
theorem dX4_sumOfNumbers_18 : decode cX4_sumOfNumbers 18 = .ok (.iload 4, 2) := by decide +kernel
theorem dX4_sumOfNumbers_20 : decode cX4_sumOfNumbers 20 = .ok (.invokevirtual 57, 3) := by decide +kernel
theorem dX4_sumOfNumbers_23 : decode cX4_sumOfNumbers 23 = .ok (.ladd, 1) := by decide +kernel
theorem dX4_sumOfNumbers_24 : decode cX4_sumOfNumbers 24 = .ok (.lstore_n 2, 1) := by decide +kernel
theorem dX4_sumOfNumbers_25 : decode cX4_sumOfNumbers 25 = .ok (.iinc 4 1, 3) := by decide +kernel
theorem dX4_sumOfNumbers_28 : decode cX4_sumOfNumbers 28 = .ok (.goto (-23), 3) := by decide +kernel
theorem dX4_sumOfNumbers_31 : decode cX4_sumOfNumbers 31 = .ok (.lload_n 2, 1) := by decide +kernel
theorem dX4_sumOfNumbers_32 : decode cX4_sumOfNumbers 32 = .ok (.lreturn, 1) := by decide +kernel
set_option maxRecDepth 20000 in
theorem ggX4_memberAt_X4_hasPlace : GoodIn wsX4_memberAt wsX4_hasPlace := goodIn_ca (goodIn_r _ [6, 7, 8, 9, 10, 11, 12, 13, 14] (by decide +kernel) (by decide +kernel)) (goodIn_sub (fun _ h => List.mem_cons_of_mem _ (List.mem_append_right _ h)) (by decide +kernel))
set_option maxRecDepth 20000 in
theorem gX4_memberAt_X4_hasPlace : GoodIn wsX4_memberAt (wsV RX4 51 RX4 yX4_hasPlace wsX4_hasPlace) := goodIn_app (goodIn_of _ (by decide +kernel)) ggX4_memberAt_X4_hasPlace
theorem dX4_memberAt_0 : decode cX4_memberAt 0 = .ok (.aload_n 0, 1) := by decide +kernel
theorem dX4_memberAt_1 : decode cX4_memberAt 1 = .ok (.iload_n 1, 1) := by decide +kernel
theorem dX4_memberAt_2 : decode cX4_memberAt 2 = .ok (.iload_n 2, 1) := by decide +kernel
theorem dX4_memberAt_3 : decode cX4_memberAt 3 = .ok (.invokevirtual 51, 3) := by decide +kernel
theorem dX4_memberAt_6 : decode cX4_memberAt 6 = .ok (.ifCond .eq 17, 3) := by decide +kernel
theorem dX4_memberAt_9 : decode cX4_memberAt 9 = .ok (.aload_n 0, 1) := by decide +kernel
theorem dX4_memberAt_10 : decode cX4_memberAt 10 = .ok (.getfield 25, 3) := by decide +kernel
theorem dX4_memberAt_13 : decode cX4_memberAt 13 = .ok (.iload_n 1, 1) := by decide +kernel
theorem dX4_memberAt_14 : decode cX4_memberAt 14 = .ok (.bipush 8, 2) := by decide +kernel
theorem dX4_memberAt_16 : decode cX4_memberAt 16 = .ok (.imul, 1) := by decide +kernel
theorem dX4_memberAt_17 : decode cX4_memberAt 17 = .ok (.iload_n 2, 1) := by decide +kernel
theorem dX4_memberAt_18 : decode cX4_memberAt 18 = .ok (.iadd, 1) := by decide +kernel
theorem dX4_memberAt_19 : decode cX4_memberAt 19 = .ok (.iaload, 1) := by decide +kernel
theorem dX4_memberAt_20 : decode cX4_memberAt 20 = .ok (.goto 5, 3) := by decide +kernel
theorem dX4_memberAt_23 : decode cX4_memberAt 23 = .ok (.bipush (-5), 2) := by decide +kernel
theorem dX4_memberAt_25 : decode cX4_memberAt 25 = .ok (.ireturn, 1) := by decide +kernel
set_option maxRecDepth 20000 in
theorem ggX4_setMember_X4_hasPlace : GoodIn wsX4_setMember wsX4_hasPlace := goodIn_ca (goodIn_r _ [6, 7, 8, 9, 10, 11, 12, 13, 14] (by decide +kernel) (by decide +kernel)) (goodIn_sub (fun _ h => List.mem_cons_of_mem _ (List.mem_append_right _ h)) (by decide +kernel))
set_option maxRecDepth 20000 in
theorem gX4_setMember_X4_hasPlace : GoodIn wsX4_setMember (wsV RX4 51 RX4 yX4_hasPlace wsX4_hasPlace) := goodIn_app (goodIn_of _ (by decide +kernel)) ggX4_setMember_X4_hasPlace
theorem dX4_setMember_0 : decode cX4_setMember 0 = .ok (.aload_n 0, 1) := by decide +kernel
theorem dX4_setMember_1 : decode cX4_setMember 1 = .ok (.iload_n 1, 1) := by decide +kernel
theorem dX4_setMember_2 : decode cX4_setMember 2 = .ok (.iload_n 2, 1) := by decide +kernel
theorem dX4_setMember_3 : decode cX4_setMember 3 = .ok (.invokevirtual 51, 3) := by decide +kernel
theorem dX4_setMember_6 : decode cX4_setMember 6 = .ok (.ifCond .eq 15, 3) := by decide +kernel
theorem dX4_setMember_9 : decode cX4_setMember 9 = .ok (.aload_n 0, 1) := by decide +kernel
theorem dX4_setMember_10 : decode cX4_setMember 10 = .ok (.getfield 25, 3) := by decide +kernel
theorem dX4_setMember_13 : decode cX4_setMember 13 = .ok (.iload_n 1, 1) := by decide +kernel
theorem dX4_setMember_14 : decode cX4_setMember 14 = .ok (.bipush 8, 2) := by decide +kernel
theorem dX4_setMember_16 : decode cX4_setMember 16 = .ok (.imul, 1) := by decide +kernel
theorem dX4_setMember_17 : decode cX4_setMember 17 = .ok (.iload_n 2, 1) := by decide +kernel
theorem dX4_setMember_18 : decode cX4_setMember 18 = .ok (.iadd, 1) := by decide +kernel
theorem dX4_setMember_19 : decode cX4_setMember 19 = .ok (.iload_n 3, 1) := by decide +kernel
theorem dX4_setMember_20 : decode cX4_setMember 20 = .ok (.iastore, 1) := by decide +kernel
theorem dX4_setMember_21 : decode cX4_setMember 21 = .ok (.return_, 1) := by decide +kernel
theorem dX4_forget_0 : decode cX4_forget 0 = .ok (.aload_n 0, 1) := by decide +kernel
theorem dX4_forget_1 : decode cX4_forget 1 = .ok (.iconst 0, 1) := by decide +kernel
theorem dX4_forget_2 : decode cX4_forget 2 = .ok (.putfield 28, 3) := by decide +kernel
theorem dX4_forget_5 : decode cX4_forget 5 = .ok (.return_, 1) := by decide +kernel
