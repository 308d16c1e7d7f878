theorem dX0_init_0 : decode cX0_init 0 = .ok (.aload_n 0, 1) := by decide +kernel
theorem dX0_init_1 : decode cX0_init 1 = .ok (.invokespecial 3, 3) := by decide +kernel
theorem dX0_init_4 : decode cX0_init 4 = .ok (.aload_n 0, 1) := by decide +kernel
theorem dX0_init_5 : decode cX0_init 5 = .ok (.bipush 24, 2) := by decide +kernel
theorem dX0_init_7 : decode cX0_init 7 = .ok (.newarray .int, 2) := by decide +kernel
theorem dX0_init_9 : decode cX0_init 9 = .ok (.putfield 9, 3) := by decide +kernel
theorem dX0_init_12 : decode cX0_init 12 = .ok (.return_, 1) := by decide +kernel
theorem dX0_run_0 : decode cX0_run 0 = .ok (.aload_n 0, 1) := by decide +kernel
theorem dX0_run_1 : decode cX0_run 1 = .ok (.iconst 0, 1) := by decide +kernel
theorem dX0_run_2 : decode cX0_run 2 = .ok (.putfield 15, 3) := by decide +kernel
theorem dX0_run_5 : decode cX0_run 5 = .ok (.aload_n 0, 1) := by decide +kernel
theorem dX0_run_6 : decode cX0_run 6 = .ok (.aload_n 1, 1) := by decide +kernel
theorem dX0_run_7 : decode cX0_run 7 = .ok (.getfield 19, 3) := by decide +kernel
theorem dX0_run_10 : decode cX0_run 10 = .ok (.putfield 24, 3) := by decide +kernel
theorem dX0_run_13 : decode cX0_run 13 = .ok (.aload_n 0, 1) := by decide +kernel
theorem dX0_run_14 : decode cX0_run 14 = .ok (.aload_n 1, 1) := by decide +kernel
theorem dX0_run_15 : decode cX0_run 15 = .ok (.getfield 25, 3) := by decide +kernel
theorem dX0_run_18 : decode cX0_run 18 = .ok (.putfield 28, 3) := by decide +kernel
theorem dX0_run_21 : decode cX0_run 21 = .ok (.aload_n 0, 1) := by decide +kernel
theorem dX0_run_22 : decode cX0_run 22 = .ok (.iload_n 2, 1) := by decide +kernel
theorem dX0_run_23 : decode cX0_run 23 = .ok (.putfield 29, 3) := by decide +kernel
theorem dX0_run_26 : decode cX0_run 26 = .ok (.iload_n 3, 1) := by decide +kernel
theorem dX0_run_27 : decode cX0_run 27 = .ok (.lookupswitch 47 #[(0, 25), (1, 36)], 25) := by decide +kernel
theorem dX0_run_52 : decode cX0_run 52 = .ok (.aload_n 0, 1) := by decide +kernel
theorem dX0_run_53 : decode cX0_run 53 = .ok (.aload_n 0, 1) := by decide +kernel
theorem dX0_run_54 : decode cX0_run 54 = .ok (.getfield 24, 3) := by decide +kernel
theorem dX0_run_57 : decode cX0_run 57 = .ok (.iload 4, 2) := by decide +kernel
theorem dX0_run_59 : decode cX0_run 59 = .ok (.invokevirtual 32, 3) := by decide +kernel
theorem dX0_run_62 : decode cX0_run 62 = .ok (.ireturn, 1) := by decide +kernel
theorem dX0_run_63 : decode cX0_run 63 = .ok (.aload_n 0, 1) := by decide +kernel
theorem dX0_run_64 : decode cX0_run 64 = .ok (.aload_n 0, 1) := by decide +kernel
theorem dX0_run_65 : decode cX0_run 65 = .ok (.getfield 24, 3) := by decide +kernel
theorem dX0_run_68 : decode cX0_run 68 = .ok (.iload 4, 2) := by decide +kernel
theorem dX0_run_70 : decode cX0_run 70 = .ok (.invokevirtual 36, 3) := by decide +kernel
theorem dX0_run_73 : decode cX0_run 73 = .ok (.ireturn, 1) := by decide +kernel
theorem dX0_run_74 : decode cX0_run 74 = .ok (.aload_n 0, 1) := by decide +kernel
theorem dX0_run_75 : decode cX0_run 75 = .ok (.aload_n 0, 1) := by decide +kernel
theorem dX0_run_76 : decode cX0_run 76 = .ok (.getfield 24, 3) := by decide +kernel
theorem dX0_run_79 : decode cX0_run 79 = .ok (.iload 4, 2) := by decide +kernel
theorem dX0_run_81 : decode cX0_run 81 = .ok (.invokevirtual 39, 3) := by decide +kernel
theorem dX0_run_84 : decode cX0_run 84 = .ok (.ireturn, 1) := by decide +kernel
theorem dX0_begunAt_0 : decode cX0_begunAt 0 = .ok (.iload_n 1, 1) := by decide +kernel
theorem dX0_begunAt_1 : decode cX0_begunAt 1 = .ok (.ifCond .lt 29, 3) := by decide +kernel
theorem dX0_begunAt_4 : decode cX0_begunAt 4 = .ok (.iload_n 1, 1) := by decide +kernel
theorem dX0_begunAt_5 : decode cX0_begunAt 5 = .ok (.aload_n 0, 1) := by decide +kernel
theorem dX0_begunAt_6 : decode cX0_begunAt 6 = .ok (.getfield 15, 3) := by decide +kernel
theorem dX0_begunAt_9 : decode cX0_begunAt 9 = .ok (.if_icmp .ge 21, 3) := by decide +kernel
theorem dX0_begunAt_12 : decode cX0_begunAt 12 = .ok (.iload_n 1, 1) := by decide +kernel
theorem dX0_begunAt_13 : decode cX0_begunAt 13 = .ok (.aload_n 0, 1) := by decide +kernel
theorem dX0_begunAt_14 : decode cX0_begunAt 14 = .ok (.getfield 9, 3) := by decide +kernel
theorem dX0_begunAt_17 : decode cX0_begunAt 17 = .ok (.arraylength, 1) := by decide +kernel
theorem dX0_begunAt_18 : decode cX0_begunAt 18 = .ok (.if_icmp .ge 12, 3) := by decide +kernel
theorem dX0_begunAt_21 : decode cX0_begunAt 21 = .ok (.aload_n 0, 1) := by decide +kernel
theorem dX0_begunAt_22 : decode cX0_begunAt 22 = .ok (.getfield 9, 3) := by decide +kernel
theorem dX0_begunAt_25 : decode cX0_begunAt 25 = .ok (.iload_n 1, 1) := by decide +kernel
theorem dX0_begunAt_26 : decode cX0_begunAt 26 = .ok (.iaload, 1) := by decide +kernel
theorem dX0_begunAt_27 : decode cX0_begunAt 27 = .ok (.goto 5, 3) := by decide +kernel
theorem dX0_begunAt_30 : decode cX0_begunAt 30 = .ok (.bipush (-2), 2) := by decide +kernel
theorem dX0_begunAt_32 : decode cX0_begunAt 32 = .ok (.ireturn, 1) := by decide +kernel
theorem dX0_begin_0 : decode cX0_begin 0 = .ok (.aload_n 0, 1) := by decide +kernel
theorem dX0_begin_1 : decode cX0_begin 1 = .ok (.getfield 15, 3) := by decide +kernel
theorem dX0_begin_4 : decode cX0_begin 4 = .ok (.ifCond .lt 35, 3) := by decide +kernel
theorem dX0_begin_7 : decode cX0_begin 7 = .ok (.aload_n 0, 1) := by decide +kernel
theorem dX0_begin_8 : decode cX0_begin 8 = .ok (.getfield 15, 3) := by decide +kernel
theorem dX0_begin_11 : decode cX0_begin 11 = .ok (.aload_n 0, 1) := by decide +kernel
theorem dX0_begin_12 : decode cX0_begin 12 = .ok (.getfield 9, 3) := by decide +kernel
theorem dX0_begin_15 : decode cX0_begin 15 = .ok (.arraylength, 1) := by decide +kernel
theorem dX0_begin_16 : decode cX0_begin 16 = .ok (.if_icmp .ge 23, 3) := by decide +kernel
theorem dX0_begin_19 : decode cX0_begin 19 = .ok (.aload_n 0, 1) := by decide +kernel
theorem dX0_begin_20 : decode cX0_begin 20 = .ok (.getfield 9, 3) := by decide +kernel
theorem dX0_begin_23 : decode cX0_begin 23 = .ok (.aload_n 0, 1) := by decide +kernel
theorem dX0_begin_24 : decode cX0_begin 24 = .ok (.getfield 15, 3) := by decide +kernel
theorem dX0_begin_27 : decode cX0_begin 27 = .ok (.iload_n 1, 1) := by decide +kernel
theorem dX0_begin_28 : decode cX0_begin 28 = .ok (.iastore, 1) := by decide +kernel
theorem dX0_begin_29 : decode cX0_begin 29 = .ok (.aload_n 0, 1) := by decide +kernel
theorem dX0_begin_30 : decode cX0_begin 30 = .ok (.dup, 1) := by decide +kernel
theorem dX0_begin_31 : decode cX0_begin 31 = .ok (.getfield 15, 3) := by decide +kernel
theorem dX0_begin_34 : decode cX0_begin 34 = .ok (.iconst 1, 1) := by decide +kernel
theorem dX0_begin_35 : decode cX0_begin 35 = .ok (.iadd, 1) := by decide +kernel
theorem dX0_begin_36 : decode cX0_begin 36 = .ok (.putfield 15, 3) := by decide +kernel
theorem dX0_begin_39 : decode cX0_begin 39 = .ok (.return_, 1) := by decide +kernel
theorem dX0_grows_0 : decode cX0_grows 0 = .ok (.iload_n 1, 1) := by decide +kernel
theorem dX0_grows_1 : decode cX0_grows 1 = .ok (.lookupswitch 56 #[(2, 42), (5, 27)], 27) := by decide +kernel
theorem dX0_grows_28 : decode cX0_grows 28 = .ok (.aload_n 0, 1) := by decide +kernel
theorem dX0_grows_29 : decode cX0_grows 29 = .ok (.bipush 41, 2) := by decide +kernel
theorem dX0_grows_31 : decode cX0_grows 31 = .ok (.invokevirtual 42, 3) := by decide +kernel
theorem dX0_grows_34 : decode cX0_grows 34 = .ok (.aload_n 0, 1) := by decide +kernel
theorem dX0_grows_35 : decode cX0_grows 35 = .ok (.iconst 2, 1) := by decide +kernel
theorem dX0_grows_36 : decode cX0_grows 36 = .ok (.iload_n 2, 1) := by decide +kernel
theorem dX0_grows_37 : decode cX0_grows 37 = .ok (.invokevirtual 32, 3) := by decide +kernel
theorem dX0_grows_40 : decode cX0_grows 40 = .ok (.iconst 3, 1) := by decide +kernel
theorem dX0_grows_41 : decode cX0_grows 41 = .ok (.imul, 1) := by decide +kernel
theorem dX0_grows_42 : decode cX0_grows 42 = .ok (.ireturn, 1) := by decide +kernel
theorem dX0_grows_43 : decode cX0_grows 43 = .ok (.aload_n 0, 1) := by decide +kernel
theorem dX0_grows_44 : decode cX0_grows 44 = .ok (.bipush 30, 2) := by decide +kernel
theorem dX0_grows_46 : decode cX0_grows 46 = .ok (.invokevirtual 42, 3) := by decide +kernel
theorem dX0_grows_49 : decode cX0_grows 49 = .ok (.aload_n 0, 1) := by decide +kernel
theorem dX0_grows_50 : decode cX0_grows 50 = .ok (.iconst 0, 1) := by decide +kernel
theorem dX0_grows_51 : decode cX0_grows 51 = .ok (.iload_n 2, 1) := by decide +kernel
theorem dX0_grows_52 : decode cX0_grows 52 = .ok (.invokevirtual 32, 3) := by decide +kernel
theorem dX0_grows_55 : decode cX0_grows 55 = .ok (.ineg, 1) := by decide +kernel
theorem dX0_grows_56 : decode cX0_grows 56 = .ok (.ireturn, 1) := by decide +kernel
theorem dX0_grows_57 : decode cX0_grows 57 = .ok (.aload_n 0, 1) := by decide +kernel
theorem dX0_grows_58 : decode cX0_grows 58 = .ok (.bipush 10, 2) := by decide +kernel
theorem dX0_grows_60 : decode cX0_grows 60 = .ok (.invokevirtual 42, 3) := by decide +kernel
theorem dX0_grows_63 : decode cX0_grows 63 = .ok (.iload_n 2, 1) := by decide +kernel
theorem dX0_grows_64 : decode cX0_grows 64 = .ok (.aload_n 0, 1) := by decide +kernel
theorem dX0_grows_65 : decode cX0_grows 65 = .ok (.getfield 29, 3) := by decide +kernel
theorem dX0_grows_68 : decode cX0_grows 68 = .ok (.iadd, 1) := by decide +kernel
theorem dX0_grows_69 : decode cX0_grows 69 = .ok (.ireturn, 1) := by decide +kernel
theorem dX0_turns_0 : decode cX0_turns 0 = .ok (.iload_n 1, 1) := by decide +kernel
theorem dX0_turns_1 : decode cX0_turns 1 = .ok (.tableswitch 69 1 4 #[31, 69, 46, 46], 31) := by decide +kernel
theorem dX0_turns_32 : decode cX0_turns 32 = .ok (.aload_n 0, 1) := by decide +kernel
theorem dX0_turns_33 : decode cX0_turns 33 = .ok (.bipush 20, 2) := by decide +kernel
theorem dX0_turns_35 : decode cX0_turns 35 = .ok (.invokevirtual 42, 3) := by decide +kernel
theorem dX0_turns_38 : decode cX0_turns 38 = .ok (.aload_n 0, 1) := by decide +kernel
theorem dX0_turns_39 : decode cX0_turns 39 = .ok (.iconst 0, 1) := by decide +kernel
theorem dX0_turns_40 : decode cX0_turns 40 = .ok (.iload_n 2, 1) := by decide +kernel
theorem dX0_turns_41 : decode cX0_turns 41 = .ok (.invokevirtual 36, 3) := by decide +kernel
theorem dX0_turns_44 : decode cX0_turns 44 = .ok (.iconst 3, 1) := by decide +kernel
theorem dX0_turns_45 : decode cX0_turns 45 = .ok (.ixor, 1) := by decide +kernel
theorem dX0_turns_46 : decode cX0_turns 46 = .ok (.ireturn, 1) := by decide +kernel
theorem dX0_turns_47 : decode cX0_turns 47 = .ok (.aload_n 0, 1) := by decide +kernel
theorem dX0_turns_48 : decode cX0_turns 48 = .ok (.bipush 50, 2) := by decide +kernel
theorem dX0_turns_50 : decode cX0_turns 50 = .ok (.invokevirtual 42, 3) := by decide +kernel
theorem dX0_turns_53 : decode cX0_turns 53 = .ok (.aload_n 0, 1) := by decide +kernel
theorem dX0_turns_54 : decode cX0_turns 54 = .ok (.iconst 0, 1) := by decide +kernel
theorem dX0_turns_55 : decode cX0_turns 55 = .ok (.iload_n 2, 1) := by decide +kernel
theorem dX0_turns_56 : decode cX0_turns 56 = .ok (.invokevirtual 36, 3) := by decide +kernel
theorem dX0_turns_59 : decode cX0_turns 59 = .ok (.aload_n 0, 1) := by decide +kernel
theorem dX0_turns_60 : decode cX0_turns 60 = .ok (.aload_n 0, 1) := by decide +kernel
theorem dX0_turns_61 : decode cX0_turns 61 = .ok (.getfield 24, 3) := by decide +kernel
theorem dX0_turns_64 : decode cX0_turns 64 = .ok (.iconst 2, 1) := by decide +kernel
theorem dX0_turns_65 : decode cX0_turns 65 = .ok (.invokevirtual 32, 3) := by decide +kernel
theorem dX0_turns_68 : decode cX0_turns 68 = .ok (.iadd, 1) := by decide +kernel
theorem dX0_turns_69 : decode cX0_turns 69 = .ok (.ireturn, 1) := by decide +kernel
theorem dX0_turns_70 : decode cX0_turns 70 = .ok (.aload_n 0, 1) := by decide +kernel
theorem dX0_turns_71 : decode cX0_turns 71 = .ok (.bipush 11, 2) := by decide +kernel
theorem dX0_turns_73 : decode cX0_turns 73 = .ok (.invokevirtual 42, 3) := by decide +kernel
theorem dX0_turns_76 : decode cX0_turns 76 = .ok (.aload_n 0, 1) := by decide +kernel
theorem dX0_turns_77 : decode cX0_turns 77 = .ok (.aload_n 0, 1) := by decide +kernel
theorem dX0_turns_78 : decode cX0_turns 78 = .ok (.getfield 24, 3) := by decide +kernel
theorem dX0_turns_81 : decode cX0_turns 81 = .ok (.iload_n 2, 1) := by decide +kernel
theorem dX0_turns_82 : decode cX0_turns 82 = .ok (.invokevirtual 32, 3) := by decide +kernel
theorem dX0_turns_85 : decode cX0_turns 85 = .ok (.iconst 2, 1) := by decide +kernel
theorem dX0_turns_86 : decode cX0_turns 86 = .ok (.imul, 1) := by decide +kernel
theorem dX0_turns_87 : decode cX0_turns 87 = .ok (.ireturn, 1) := by decide +kernel
theorem dX0_tells_0 : decode cX0_tells 0 = .ok (.iload_n 1, 1) := by decide +kernel
theorem dX0_tells_1 : decode cX0_tells 1 = .ok (.lookupswitch 60 #[(4, 42), (5, 27)], 27) := by decide +kernel
theorem dX0_tells_28 : decode cX0_tells 28 = .ok (.aload_n 0, 1) := by decide +kernel
theorem dX0_tells_29 : decode cX0_tells 29 = .ok (.bipush 40, 2) := by decide +kernel
theorem dX0_tells_31 : decode cX0_tells 31 = .ok (.invokevirtual 42, 3) := by decide +kernel
theorem dX0_tells_34 : decode cX0_tells 34 = .ok (.aload_n 0, 1) := by decide +kernel
theorem dX0_tells_35 : decode cX0_tells 35 = .ok (.iconst 2, 1) := by decide +kernel
theorem dX0_tells_36 : decode cX0_tells 36 = .ok (.iload_n 2, 1) := by decide +kernel
theorem dX0_tells_37 : decode cX0_tells 37 = .ok (.iconst 1, 1) := by decide +kernel
theorem dX0_tells_38 : decode cX0_tells 38 = .ok (.iadd, 1) := by decide +kernel
theorem dX0_tells_39 : decode cX0_tells 39 = .ok (.invokevirtual 39, 3) := by decide +kernel
theorem dX0_tells_42 : decode cX0_tells 42 = .ok (.ireturn, 1) := by decide +kernel
theorem dX0_tells_43 : decode cX0_tells 43 = .ok (.aload_n 0, 1) := by decide +kernel
theorem dX0_tells_44 : decode cX0_tells 44 = .ok (.bipush 60, 2) := by decide +kernel
theorem dX0_tells_46 : decode cX0_tells 46 = .ok (.invokevirtual 42, 3) := by decide +kernel
theorem dX0_tells_49 : decode cX0_tells 49 = .ok (.aload_n 0, 1) := by decide +kernel
theorem dX0_tells_50 : decode cX0_tells 50 = .ok (.iconst 3, 1) := by decide +kernel
theorem dX0_tells_51 : decode cX0_tells 51 = .ok (.iload_n 2, 1) := by decide +kernel
theorem dX0_tells_52 : decode cX0_tells 52 = .ok (.invokevirtual 39, 3) := by decide +kernel
theorem dX0_tells_55 : decode cX0_tells 55 = .ok (.aload_n 0, 1) := by decide +kernel
theorem dX0_tells_56 : decode cX0_tells 56 = .ok (.getfield 28, 3) := by decide +kernel
theorem dX0_tells_59 : decode cX0_tells 59 = .ok (.ixor, 1) := by decide +kernel
theorem dX0_tells_60 : decode cX0_tells 60 = .ok (.ireturn, 1) := by decide +kernel
theorem dX0_tells_61 : decode cX0_tells 61 = .ok (.aload_n 0, 1) := by decide +kernel
theorem dX0_tells_62 : decode cX0_tells 62 = .ok (.bipush 12, 2) := by decide +kernel
theorem dX0_tells_64 : decode cX0_tells 64 = .ok (.invokevirtual 42, 3) := by decide +kernel
theorem dX0_tells_67 : decode cX0_tells 67 = .ok (.aload_n 0, 1) := by decide +kernel
theorem dX0_tells_68 : decode cX0_tells 68 = .ok (.aload_n 0, 1) := by decide +kernel
theorem dX0_tells_69 : decode cX0_tells 69 = .ok (.getfield 24, 3) := by decide +kernel
theorem dX0_tells_72 : decode cX0_tells 72 = .ok (.iload_n 2, 1) := by decide +kernel
theorem dX0_tells_73 : decode cX0_tells 73 = .ok (.invokevirtual 36, 3) := by decide +kernel
theorem dX0_tells_76 : decode cX0_tells 76 = .ok (.aload_n 0, 1) := by decide +kernel
theorem dX0_tells_77 : decode cX0_tells 77 = .ok (.getfield 28, 3) := by decide +kernel
theorem dX0_tells_80 : decode cX0_tells 80 = .ok (.isub, 1) := by decide +kernel
theorem dX0_tells_81 : decode cX0_tells 81 = .ok (.ireturn, 1) := by decide +kernel
theorem dX1_init_0 : decode cX1_init 0 = .ok (.aload_n 0, 1) := by decide +kernel
theorem dX1_init_1 : decode cX1_init 1 = .ok (.invokespecial 3, 3) := by decide +kernel
theorem dX1_init_4 : decode cX1_init 4 = .ok (.aload_n 0, 1) := by decide +kernel
theorem dX1_init_5 : decode cX1_init 5 = .ok (.bipush 12, 2) := by decide +kernel
theorem dX1_init_7 : decode cX1_init 7 = .ok (.newarray .int, 2) := by decide +kernel
theorem dX1_init_9 : decode cX1_init 9 = .ok (.putfield 9, 3) := by decide +kernel
theorem dX1_init_12 : decode cX1_init 12 = .ok (.return_, 1) := by decide +kernel
theorem dX1_many_0 : decode cX1_many 0 = .ok (.aload_n 0, 1) := by decide +kernel
theorem dX1_many_1 : decode cX1_many 1 = .ok (.getfield 15, 3) := by decide +kernel
theorem dX1_many_4 : decode cX1_many 4 = .ok (.ireturn, 1) := by decide +kernel
theorem dX1_bounds_0 : decode cX1_bounds 0 = .ok (.aload_n 0, 1) := by decide +kernel
theorem dX1_bounds_1 : decode cX1_bounds 1 = .ok (.getfield 19, 3) := by decide +kernel
theorem dX1_bounds_4 : decode cX1_bounds 4 = .ok (.lreturn, 1) := by decide +kernel
theorem dX1_at_0 : decode cX1_at 0 = .ok (.iload_n 1, 1) := by decide +kernel
theorem dX1_at_1 : decode cX1_at 1 = .ok (.ifCond .lt 29, 3) := by decide +kernel
theorem dX1_at_4 : decode cX1_at 4 = .ok (.iload_n 1, 1) := by decide +kernel
theorem dX1_at_5 : decode cX1_at 5 = .ok (.aload_n 0, 1) := by decide +kernel
theorem dX1_at_6 : decode cX1_at 6 = .ok (.getfield 15, 3) := by decide +kernel
theorem dX1_at_9 : decode cX1_at 9 = .ok (.if_icmp .ge 21, 3) := by decide +kernel
theorem dX1_at_12 : decode cX1_at 12 = .ok (.iload_n 1, 1) := by decide +kernel
theorem dX1_at_13 : decode cX1_at 13 = .ok (.aload_n 0, 1) := by decide +kernel
theorem dX1_at_14 : decode cX1_at 14 = .ok (.getfield 9, 3) := by decide +kernel
theorem dX1_at_17 : decode cX1_at 17 = .ok (.arraylength, 1) := by decide +kernel
theorem dX1_at_18 : decode cX1_at 18 = .ok (.if_icmp .ge 12, 3) := by decide +kernel
theorem dX1_at_21 : decode cX1_at 21 = .ok (.aload_n 0, 1) := by decide +kernel
theorem dX1_at_22 : decode cX1_at 22 = .ok (.getfield 9, 3) := by decide +kernel
theorem dX1_at_25 : decode cX1_at 25 = .ok (.iload_n 1, 1) := by decide +kernel
theorem dX1_at_26 : decode cX1_at 26 = .ok (.iaload, 1) := by decide +kernel
theorem dX1_at_27 : decode cX1_at 27 = .ok (.goto 5, 3) := by decide +kernel
theorem dX1_at_30 : decode cX1_at 30 = .ok (.bipush (-2), 2) := by decide +kernel
theorem dX1_at_32 : decode cX1_at 32 = .ok (.ireturn, 1) := by decide +kernel
theorem dX1_lay_0 : decode cX1_lay 0 = .ok (.aload_n 0, 1) := by decide +kernel
theorem dX1_lay_1 : decode cX1_lay 1 = .ok (.iconst 0, 1) := by decide +kernel
theorem dX1_lay_2 : decode cX1_lay 2 = .ok (.putfield 15, 3) := by decide +kernel
theorem dX1_lay_5 : decode cX1_lay 5 = .ok (.aload_n 0, 1) := by decide +kernel
theorem dX1_lay_6 : decode cX1_lay 6 = .ok (.lconst 0, 1) := by decide +kernel
theorem dX1_lay_7 : decode cX1_lay 7 = .ok (.putfield 19, 3) := by decide +kernel
theorem dX1_lay_10 : decode cX1_lay 10 = .ok (.iload_n 1, 1) := by decide +kernel
theorem dX1_lay_11 : decode cX1_lay 11 = .ok (.i2l, 1) := by decide +kernel
theorem dX1_lay_12 : decode cX1_lay 12 = .ok (.lstore_n 3, 1) := by decide +kernel
theorem dX1_lay_13 : decode cX1_lay 13 = .ok (.iload_n 2, 1) := by decide +kernel
theorem dX1_lay_14 : decode cX1_lay 14 = .ok (.istore 5, 2) := by decide +kernel
theorem dX1_lay_16 : decode cX1_lay 16 = .ok (.iload 5, 2) := by decide +kernel
theorem dX1_lay_18 : decode cX1_lay 18 = .ok (.ifCond .le 86, 3) := by decide +kernel
theorem dX1_lay_21 : decode cX1_lay 21 = .ok (.lload_n 3, 1) := by decide +kernel
theorem dX1_lay_22 : decode cX1_lay 22 = .ok (.lconst 0, 1) := by decide +kernel
theorem dX1_lay_23 : decode cX1_lay 23 = .ok (.lcmp, 1) := by decide +kernel
theorem dX1_lay_24 : decode cX1_lay 24 = .ok (.ifCond .le 80, 3) := by decide +kernel
theorem dX1_lay_27 : decode cX1_lay 27 = .ok (.aload_n 0, 1) := by decide +kernel
theorem dX1_lay_28 : decode cX1_lay 28 = .ok (.getfield 15, 3) := by decide +kernel
theorem dX1_lay_31 : decode cX1_lay 31 = .ok (.aload_n 0, 1) := by decide +kernel
theorem dX1_lay_32 : decode cX1_lay 32 = .ok (.getfield 9, 3) := by decide +kernel
theorem dX1_lay_35 : decode cX1_lay 35 = .ok (.arraylength, 1) := by decide +kernel
theorem dX1_lay_36 : decode cX1_lay 36 = .ok (.if_icmp .ge 68, 3) := by decide +kernel
theorem dX1_lay_39 : decode cX1_lay 39 = .ok (.lload_n 3, 1) := by decide +kernel
theorem dX1_lay_40 : decode cX1_lay 40 = .ok (.iload 5, 2) := by decide +kernel
theorem dX1_lay_42 : decode cX1_lay 42 = .ok (.invokestatic 23, 3) := by decide +kernel
theorem dX1_lay_45 : decode cX1_lay 45 = .ok (.istore 6, 2) := by decide +kernel
theorem dX1_lay_47 : decode cX1_lay 47 = .ok (.aload_n 0, 1) := by decide +kernel
theorem dX1_lay_48 : decode cX1_lay 48 = .ok (.getfield 9, 3) := by decide +kernel
theorem dX1_lay_51 : decode cX1_lay 51 = .ok (.aload_n 0, 1) := by decide +kernel
theorem dX1_lay_52 : decode cX1_lay 52 = .ok (.getfield 15, 3) := by decide +kernel
theorem dX1_lay_55 : decode cX1_lay 55 = .ok (.iload 6, 2) := by decide +kernel
theorem dX1_lay_57 : decode cX1_lay 57 = .ok (.iastore, 1) := by decide +kernel
theorem dX1_lay_58 : decode cX1_lay 58 = .ok (.aload_n 0, 1) := by decide +kernel
theorem dX1_lay_59 : decode cX1_lay 59 = .ok (.dup, 1) := by decide +kernel
theorem dX1_lay_60 : decode cX1_lay 60 = .ok (.getfield 15, 3) := by decide +kernel
theorem dX1_lay_63 : decode cX1_lay 63 = .ok (.iconst 1, 1) := by decide +kernel
theorem dX1_lay_64 : decode cX1_lay 64 = .ok (.iadd, 1) := by decide +kernel
theorem dX1_lay_65 : decode cX1_lay 65 = .ok (.putfield 15, 3) := by decide +kernel
theorem dX1_lay_68 : decode cX1_lay 68 = .ok (.lload_n 3, 1) := by decide +kernel
theorem dX1_lay_69 : decode cX1_lay 69 = .ok (.iload 6, 2) := by decide +kernel
theorem dX1_lay_71 : decode cX1_lay 71 = .ok (.i2l, 1) := by decide +kernel
theorem dX1_lay_72 : decode cX1_lay 72 = .ok (.iload 5, 2) := by decide +kernel
theorem dX1_lay_74 : decode cX1_lay 74 = .ok (.invokestatic 27, 3) := by decide +kernel
theorem dX1_lay_77 : decode cX1_lay 77 = .ok (.lsub, 1) := by decide +kernel
theorem dX1_lay_78 : decode cX1_lay 78 = .ok (.lstore_n 3, 1) := by decide +kernel
theorem dX1_lay_79 : decode cX1_lay 79 = .ok (.aload_n 0, 1) := by decide +kernel
theorem dX1_lay_80 : decode cX1_lay 80 = .ok (.dup, 1) := by decide +kernel
theorem dX1_lay_81 : decode cX1_lay 81 = .ok (.getfield 19, 3) := by decide +kernel
theorem dX1_lay_84 : decode cX1_lay 84 = .ok (.iload 6, 2) := by decide +kernel
theorem dX1_lay_86 : decode cX1_lay 86 = .ok (.i2l, 1) := by decide +kernel
theorem dX1_lay_87 : decode cX1_lay 87 = .ok (.iload 5, 2) := by decide +kernel
theorem dX1_lay_89 : decode cX1_lay 89 = .ok (.iconst 1, 1) := by decide +kernel
theorem dX1_lay_90 : decode cX1_lay 90 = .ok (.isub, 1) := by decide +kernel
theorem dX1_lay_91 : decode cX1_lay 91 = .ok (.invokestatic 27, 3) := by decide +kernel
theorem dX1_lay_94 : decode cX1_lay 94 = .ok (.ladd, 1) := by decide +kernel
theorem dX1_lay_95 : decode cX1_lay 95 = .ok (.putfield 19, 3) := by decide +kernel
theorem dX1_lay_98 : decode cX1_lay 98 = .ok (.iinc 5 (-1), 3) := by decide +kernel
theorem dX1_lay_101 : decode cX1_lay 101 = .ok (.goto (-85), 3) := by decide +kernel
theorem dX1_lay_104 : decode cX1_lay 104 = .ok (.return_, 1) := by decide +kernel
theorem dX1_greatestWithin_0 : decode cX1_greatestWithin 0 = .ok (.iload_n 2, 1) := by decide +kernel
theorem dX1_greatestWithin_1 : decode cX1_greatestWithin 1 = .ok (.i2l, 1) := by decide +kernel
theorem dX1_greatestWithin_2 : decode cX1_greatestWithin 2 = .ok (.lstore_n 3, 1) := by decide +kernel
theorem dX1_greatestWithin_3 : decode cX1_greatestWithin 3 = .ok (.lload_n 0, 1) := by decide +kernel
theorem dX1_greatestWithin_4 : decode cX1_greatestWithin 4 = .ok (.iload_n 2, 1) := by decide +kernel
theorem dX1_greatestWithin_5 : decode cX1_greatestWithin 5 = .ok (.i2l, 1) := by decide +kernel
theorem dX1_greatestWithin_6 : decode cX1_greatestWithin 6 = .ok (.ladd, 1) := by decide +kernel
theorem dX1_greatestWithin_7 : decode cX1_greatestWithin 7 = .ok (.lstore 5, 2) := by decide +kernel
theorem dX1_greatestWithin_9 : decode cX1_greatestWithin 9 = .ok (.iconst 0, 1) := by decide +kernel
theorem dX1_greatestWithin_10 : decode cX1_greatestWithin 10 = .ok (.istore 7, 2) := by decide +kernel
theorem dX1_greatestWithin_12 : decode cX1_greatestWithin 12 = .ok (.iload 7, 2) := by decide +kernel
theorem dX1_greatestWithin_14 : decode cX1_greatestWithin 14 = .ok (.bipush 64, 2) := by decide +kernel
theorem dX1_greatestWithin_16 : decode cX1_greatestWithin 16 = .ok (.if_icmp .ge 49, 3) := by decide +kernel
theorem dX1_greatestWithin_19 : decode cX1_greatestWithin 19 = .ok (.lload 5, 2) := by decide +kernel
theorem dX1_greatestWithin_21 : decode cX1_greatestWithin 21 = .ok (.lload_n 3, 1) := by decide +kernel
theorem dX1_greatestWithin_22 : decode cX1_greatestWithin 22 = .ok (.lsub, 1) := by decide +kernel
theorem dX1_greatestWithin_23 : decode cX1_greatestWithin 23 = .ok (.lconst 1, 1) := by decide +kernel
theorem dX1_greatestWithin_24 : decode cX1_greatestWithin 24 = .ok (.lcmp, 1) := by decide +kernel
theorem dX1_greatestWithin_25 : decode cX1_greatestWithin 25 = .ok (.ifCond .le 40, 3) := by decide +kernel
theorem dX1_greatestWithin_28 : decode cX1_greatestWithin 28 = .ok (.lload_n 3, 1) := by decide +kernel
theorem dX1_greatestWithin_29 : decode cX1_greatestWithin 29 = .ok (.lload 5, 2) := by decide +kernel
theorem dX1_greatestWithin_31 : decode cX1_greatestWithin 31 = .ok (.ladd, 1) := by decide +kernel
theorem dX1_greatestWithin_32 : decode cX1_greatestWithin 32 = .ok (.ldc2_w 31, 3) := by decide +kernel
theorem dX1_greatestWithin_35 : decode cX1_greatestWithin 35 = .ok (.ldiv, 1) := by decide +kernel
theorem dX1_greatestWithin_36 : decode cX1_greatestWithin 36 = .ok (.lstore 8, 2) := by decide +kernel
theorem dX1_greatestWithin_38 : decode cX1_greatestWithin 38 = .ok (.lload 8, 2) := by decide +kernel
theorem dX1_greatestWithin_40 : decode cX1_greatestWithin 40 = .ok (.iload_n 2, 1) := by decide +kernel
theorem dX1_greatestWithin_41 : decode cX1_greatestWithin 41 = .ok (.invokestatic 27, 3) := by decide +kernel
theorem dX1_greatestWithin_44 : decode cX1_greatestWithin 44 = .ok (.lload_n 0, 1) := by decide +kernel
theorem dX1_greatestWithin_45 : decode cX1_greatestWithin 45 = .ok (.lcmp, 1) := by decide +kernel
theorem dX1_greatestWithin_46 : decode cX1_greatestWithin 46 = .ok (.ifCond .gt 9, 3) := by decide +kernel
theorem dX1_greatestWithin_49 : decode cX1_greatestWithin 49 = .ok (.lload 8, 2) := by decide +kernel
theorem dX1_greatestWithin_51 : decode cX1_greatestWithin 51 = .ok (.lstore_n 3, 1) := by decide +kernel
theorem dX1_greatestWithin_52 : decode cX1_greatestWithin 52 = .ok (.goto 7, 3) := by decide +kernel
theorem dX1_greatestWithin_55 : decode cX1_greatestWithin 55 = .ok (.lload 8, 2) := by decide +kernel
theorem dX1_greatestWithin_57 : decode cX1_greatestWithin 57 = .ok (.lstore 5, 2) := by decide +kernel
theorem dX1_greatestWithin_59 : decode cX1_greatestWithin 59 = .ok (.iinc 7 1, 3) := by decide +kernel
theorem dX1_greatestWithin_62 : decode cX1_greatestWithin 62 = .ok (.goto (-50), 3) := by decide +kernel
theorem dX1_greatestWithin_65 : decode cX1_greatestWithin 65 = .ok (.lload_n 3, 1) := by decide +kernel
theorem dX1_greatestWithin_66 : decode cX1_greatestWithin 66 = .ok (.l2i, 1) := by decide +kernel
theorem dX1_greatestWithin_67 : decode cX1_greatestWithin 67 = .ok (.ireturn, 1) := by decide +kernel
theorem dX2_init_0 : decode cX2_init 0 = .ok (.aload_n 0, 1) := by decide +kernel
theorem dX2_init_1 : decode cX2_init 1 = .ok (.invokespecial 3, 3) := by decide +kernel
theorem dX2_init_4 : decode cX2_init 4 = .ok (.aload_n 0, 1) := by decide +kernel
theorem dX2_init_5 : decode cX2_init 5 = .ok (.bipush 12, 2) := by decide +kernel
theorem dX2_init_7 : decode cX2_init 7 = .ok (.newarray .int, 2) := by decide +kernel
theorem dX2_init_9 : decode cX2_init 9 = .ok (.putfield 9, 3) := by decide +kernel
theorem dX2_init_12 : decode cX2_init 12 = .ok (.aload_n 0, 1) := by decide +kernel
theorem dX2_init_13 : decode cX2_init 13 = .ok (.bipush 12, 2) := by decide +kernel
theorem dX2_init_15 : decode cX2_init 15 = .ok (.anewarray 15, 3) := by decide +kernel
theorem dX2_init_18 : decode cX2_init 18 = .ok (.putfield 17, 3) := by decide +kernel
theorem dX2_init_21 : decode cX2_init 21 = .ok (.aload_n 0, 1) := by decide +kernel
theorem dX2_init_22 : decode cX2_init 22 = .ok (.bipush 12, 2) := by decide +kernel
theorem dX2_init_24 : decode cX2_init 24 = .ok (.anewarray 15, 3) := by decide +kernel
theorem dX2_init_27 : decode cX2_init 27 = .ok (.putfield 21, 3) := by decide +kernel
theorem dX2_init_30 : decode cX2_init 30 = .ok (.return_, 1) := by decide +kernel
theorem dX2_undoable_0 : decode cX2_undoable 0 = .ok (.aload_n 0, 1) := by decide +kernel
theorem dX2_undoable_1 : decode cX2_undoable 1 = .ok (.getfield 24, 3) := by decide +kernel
theorem dX2_undoable_4 : decode cX2_undoable 4 = .ok (.ireturn, 1) := by decide +kernel
theorem dX2_redoable_0 : decode cX2_redoable 0 = .ok (.aload_n 0, 1) := by decide +kernel
theorem dX2_redoable_1 : decode cX2_redoable 1 = .ok (.getfield 28, 3) := by decide +kernel
theorem dX2_redoable_4 : decode cX2_redoable 4 = .ok (.aload_n 0, 1) := by decide +kernel
theorem dX2_redoable_5 : decode cX2_redoable 5 = .ok (.getfield 24, 3) := by decide +kernel
theorem dX2_redoable_8 : decode cX2_redoable 8 = .ok (.isub, 1) := by decide +kernel
theorem dX2_redoable_9 : decode cX2_redoable 9 = .ok (.ireturn, 1) := by decide +kernel
theorem dX2_forget_0 : decode cX2_forget 0 = .ok (.aload_n 0, 1) := by decide +kernel
theorem dX2_forget_1 : decode cX2_forget 1 = .ok (.iconst 0, 1) := by decide +kernel
theorem dX2_forget_2 : decode cX2_forget 2 = .ok (.putfield 24, 3) := by decide +kernel
theorem dX2_forget_5 : decode cX2_forget 5 = .ok (.aload_n 0, 1) := by decide +kernel
theorem dX2_forget_6 : decode cX2_forget 6 = .ok (.iconst 0, 1) := by decide +kernel
theorem dX2_forget_7 : decode cX2_forget 7 = .ok (.putfield 28, 3) := by decide +kernel
theorem dX2_forget_10 : decode cX2_forget 10 = .ok (.return_, 1) := by decide +kernel
theorem dX2_note_0 : decode cX2_note 0 = .ok (.aload_n 0, 1) := by decide +kernel
theorem dX2_note_1 : decode cX2_note 1 = .ok (.getfield 24, 3) := by decide +kernel
theorem dX2_note_4 : decode cX2_note 4 = .ok (.bipush 12, 2) := by decide +kernel
theorem dX2_note_6 : decode cX2_note 6 = .ok (.if_icmp .lt 7, 3) := by decide +kernel
theorem dX2_note_9 : decode cX2_note 9 = .ok (.aload_n 0, 1) := by decide +kernel
theorem dX2_note_10 : decode cX2_note 10 = .ok (.invokevirtual 31, 3) := by decide +kernel
theorem dX2_note_13 : decode cX2_note 13 = .ok (.aload_n 0, 1) := by decide +kernel
theorem dX2_note_14 : decode cX2_note 14 = .ok (.getfield 24, 3) := by decide +kernel
theorem dX2_note_17 : decode cX2_note 17 = .ok (.ifCond .lt 39, 3) := by decide +kernel
theorem dX2_note_20 : decode cX2_note 20 = .ok (.aload_n 0, 1) := by decide +kernel
theorem dX2_note_21 : decode cX2_note 21 = .ok (.getfield 24, 3) := by decide +kernel
theorem dX2_note_24 : decode cX2_note 24 = .ok (.aload_n 0, 1) := by decide +kernel
theorem dX2_note_25 : decode cX2_note 25 = .ok (.getfield 9, 3) := by decide +kernel
theorem dX2_note_28 : decode cX2_note 28 = .ok (.arraylength, 1) := by decide +kernel
theorem dX2_note_29 : decode cX2_note 29 = .ok (.if_icmp .ge 27, 3) := by decide +kernel
theorem dX2_note_32 : decode cX2_note 32 = .ok (.aload_n 0, 1) := by decide +kernel
theorem dX2_note_33 : decode cX2_note 33 = .ok (.getfield 24, 3) := by decide +kernel
theorem dX2_note_36 : decode cX2_note 36 = .ok (.aload_n 0, 1) := by decide +kernel
theorem dX2_note_37 : decode cX2_note 37 = .ok (.getfield 17, 3) := by decide +kernel
theorem dX2_note_40 : decode cX2_note 40 = .ok (.arraylength, 1) := by decide +kernel
theorem dX2_note_41 : decode cX2_note 41 = .ok (.if_icmp .ge 15, 3) := by decide +kernel
theorem dX2_note_44 : decode cX2_note 44 = .ok (.aload_n 0, 1) := by decide +kernel
theorem dX2_note_45 : decode cX2_note 45 = .ok (.getfield 24, 3) := by decide +kernel
theorem dX2_note_48 : decode cX2_note 48 = .ok (.aload_n 0, 1) := by decide +kernel
theorem dX2_note_49 : decode cX2_note 49 = .ok (.getfield 21, 3) := by decide +kernel
theorem dX2_note_52 : decode cX2_note 52 = .ok (.arraylength, 1) := by decide +kernel
theorem dX2_note_53 : decode cX2_note 53 = .ok (.if_icmp .lt 4, 3) := by decide +kernel
theorem dX2_note_56 : decode cX2_note 56 = .ok (.return_, 1) := by decide +kernel
theorem dX2_note_57 : decode cX2_note 57 = .ok (.aload_n 0, 1) := by decide +kernel
theorem dX2_note_58 : decode cX2_note 58 = .ok (.getfield 9, 3) := by decide +kernel
theorem dX2_note_61 : decode cX2_note 61 = .ok (.aload_n 0, 1) := by decide +kernel
theorem dX2_note_62 : decode cX2_note 62 = .ok (.getfield 24, 3) := by decide +kernel
theorem dX2_note_65 : decode cX2_note 65 = .ok (.iload_n 1, 1) := by decide +kernel
theorem dX2_note_66 : decode cX2_note 66 = .ok (.iastore, 1) := by decide +kernel
theorem dX2_note_67 : decode cX2_note 67 = .ok (.aload_n 0, 1) := by decide +kernel
theorem dX2_note_68 : decode cX2_note 68 = .ok (.getfield 17, 3) := by decide +kernel
theorem dX2_note_71 : decode cX2_note 71 = .ok (.aload_n 0, 1) := by decide +kernel
theorem dX2_note_72 : decode cX2_note 72 = .ok (.getfield 24, 3) := by decide +kernel
theorem dX2_note_75 : decode cX2_note 75 = .ok (.aload_n 2, 1) := by decide +kernel
theorem dX2_note_76 : decode cX2_note 76 = .ok (.aastore, 1) := by decide +kernel
theorem dX2_note_77 : decode cX2_note 77 = .ok (.aload_n 0, 1) := by decide +kernel
theorem dX2_note_78 : decode cX2_note 78 = .ok (.getfield 21, 3) := by decide +kernel
theorem dX2_note_81 : decode cX2_note 81 = .ok (.aload_n 0, 1) := by decide +kernel
theorem dX2_note_82 : decode cX2_note 82 = .ok (.getfield 24, 3) := by decide +kernel
theorem dX2_note_85 : decode cX2_note 85 = .ok (.aload_n 3, 1) := by decide +kernel
theorem dX2_note_86 : decode cX2_note 86 = .ok (.aastore, 1) := by decide +kernel
theorem dX2_note_87 : decode cX2_note 87 = .ok (.aload_n 0, 1) := by decide +kernel
theorem dX2_note_88 : decode cX2_note 88 = .ok (.dup, 1) := by decide +kernel
theorem dX2_note_89 : decode cX2_note 89 = .ok (.getfield 24, 3) := by decide +kernel
theorem dX2_note_92 : decode cX2_note 92 = .ok (.iconst 1, 1) := by decide +kernel
theorem dX2_note_93 : decode cX2_note 93 = .ok (.iadd, 1) := by decide +kernel
theorem dX2_note_94 : decode cX2_note 94 = .ok (.putfield 24, 3) := by decide +kernel
theorem dX2_note_97 : decode cX2_note 97 = .ok (.aload_n 0, 1) := by decide +kernel
theorem dX2_note_98 : decode cX2_note 98 = .ok (.aload_n 0, 1) := by decide +kernel
theorem dX2_note_99 : decode cX2_note 99 = .ok (.getfield 24, 3) := by decide +kernel
theorem dX2_note_102 : decode cX2_note 102 = .ok (.putfield 28, 3) := by decide +kernel
theorem dX2_note_105 : decode cX2_note 105 = .ok (.return_, 1) := by decide +kernel
theorem dX2_dropEldest_0 : decode cX2_dropEldest 0 = .ok (.iconst 1, 1) := by decide +kernel
theorem dX2_dropEldest_1 : decode cX2_dropEldest 1 = .ok (.istore_n 1, 1) := by decide +kernel
theorem dX2_dropEldest_2 : decode cX2_dropEldest 2 = .ok (.iload_n 1, 1) := by decide +kernel
theorem dX2_dropEldest_3 : decode cX2_dropEldest 3 = .ok (.aload_n 0, 1) := by decide +kernel
theorem dX2_dropEldest_4 : decode cX2_dropEldest 4 = .ok (.getfield 9, 3) := by decide +kernel
theorem dX2_dropEldest_7 : decode cX2_dropEldest 7 = .ok (.arraylength, 1) := by decide +kernel
theorem dX2_dropEldest_8 : decode cX2_dropEldest 8 = .ok (.if_icmp .ge 69, 3) := by decide +kernel
theorem dX2_dropEldest_11 : decode cX2_dropEldest 11 = .ok (.iload_n 1, 1) := by decide +kernel
theorem dX2_dropEldest_12 : decode cX2_dropEldest 12 = .ok (.aload_n 0, 1) := by decide +kernel
theorem dX2_dropEldest_13 : decode cX2_dropEldest 13 = .ok (.getfield 17, 3) := by decide +kernel
theorem dX2_dropEldest_16 : decode cX2_dropEldest 16 = .ok (.arraylength, 1) := by decide +kernel
theorem dX2_dropEldest_17 : decode cX2_dropEldest 17 = .ok (.if_icmp .ge 60, 3) := by decide +kernel
theorem dX2_dropEldest_20 : decode cX2_dropEldest 20 = .ok (.iload_n 1, 1) := by decide +kernel
theorem dX2_dropEldest_21 : decode cX2_dropEldest 21 = .ok (.aload_n 0, 1) := by decide +kernel
theorem dX2_dropEldest_22 : decode cX2_dropEldest 22 = .ok (.getfield 21, 3) := by decide +kernel
theorem dX2_dropEldest_25 : decode cX2_dropEldest 25 = .ok (.arraylength, 1) := by decide +kernel
theorem dX2_dropEldest_26 : decode cX2_dropEldest 26 = .ok (.if_icmp .ge 51, 3) := by decide +kernel
theorem dX2_dropEldest_29 : decode cX2_dropEldest 29 = .ok (.aload_n 0, 1) := by decide +kernel
theorem dX2_dropEldest_30 : decode cX2_dropEldest 30 = .ok (.getfield 9, 3) := by decide +kernel
theorem dX2_dropEldest_33 : decode cX2_dropEldest 33 = .ok (.iload_n 1, 1) := by decide +kernel
theorem dX2_dropEldest_34 : decode cX2_dropEldest 34 = .ok (.iconst 1, 1) := by decide +kernel
theorem dX2_dropEldest_35 : decode cX2_dropEldest 35 = .ok (.isub, 1) := by decide +kernel
theorem dX2_dropEldest_36 : decode cX2_dropEldest 36 = .ok (.aload_n 0, 1) := by decide +kernel
theorem dX2_dropEldest_37 : decode cX2_dropEldest 37 = .ok (.getfield 9, 3) := by decide +kernel
theorem dX2_dropEldest_40 : decode cX2_dropEldest 40 = .ok (.iload_n 1, 1) := by decide +kernel
theorem dX2_dropEldest_41 : decode cX2_dropEldest 41 = .ok (.iaload, 1) := by decide +kernel
theorem dX2_dropEldest_42 : decode cX2_dropEldest 42 = .ok (.iastore, 1) := by decide +kernel
theorem dX2_dropEldest_43 : decode cX2_dropEldest 43 = .ok (.aload_n 0, 1) := by decide +kernel
theorem dX2_dropEldest_44 : decode cX2_dropEldest 44 = .ok (.getfield 17, 3) := by decide +kernel
theorem dX2_dropEldest_47 : decode cX2_dropEldest 47 = .ok (.iload_n 1, 1) := by decide +kernel
theorem dX2_dropEldest_48 : decode cX2_dropEldest 48 = .ok (.iconst 1, 1) := by decide +kernel
theorem dX2_dropEldest_49 : decode cX2_dropEldest 49 = .ok (.isub, 1) := by decide +kernel
theorem dX2_dropEldest_50 : decode cX2_dropEldest 50 = .ok (.aload_n 0, 1) := by decide +kernel
theorem dX2_dropEldest_51 : decode cX2_dropEldest 51 = .ok (.getfield 17, 3) := by decide +kernel
theorem dX2_dropEldest_54 : decode cX2_dropEldest 54 = .ok (.iload_n 1, 1) := by decide +kernel
theorem dX2_dropEldest_55 : decode cX2_dropEldest 55 = .ok (.aaload, 1) := by decide +kernel
theorem dX2_dropEldest_56 : decode cX2_dropEldest 56 = .ok (.aastore, 1) := by decide +kernel
theorem dX2_dropEldest_57 : decode cX2_dropEldest 57 = .ok (.aload_n 0, 1) := by decide +kernel
theorem dX2_dropEldest_58 : decode cX2_dropEldest 58 = .ok (.getfield 21, 3) := by decide +kernel
theorem dX2_dropEldest_61 : decode cX2_dropEldest 61 = .ok (.iload_n 1, 1) := by decide +kernel
theorem dX2_dropEldest_62 : decode cX2_dropEldest 62 = .ok (.iconst 1, 1) := by decide +kernel
theorem dX2_dropEldest_63 : decode cX2_dropEldest 63 = .ok (.isub, 1) := by decide +kernel
theorem dX2_dropEldest_64 : decode cX2_dropEldest 64 = .ok (.aload_n 0, 1) := by decide +kernel
theorem dX2_dropEldest_65 : decode cX2_dropEldest 65 = .ok (.getfield 21, 3) := by decide +kernel
theorem dX2_dropEldest_68 : decode cX2_dropEldest 68 = .ok (.iload_n 1, 1) := by decide +kernel
theorem dX2_dropEldest_69 : decode cX2_dropEldest 69 = .ok (.aaload, 1) := by decide +kernel
theorem dX2_dropEldest_70 : decode cX2_dropEldest 70 = .ok (.aastore, 1) := by decide +kernel
theorem dX2_dropEldest_71 : decode cX2_dropEldest 71 = .ok (.iinc 1 1, 3) := by decide +kernel
theorem dX2_dropEldest_74 : decode cX2_dropEldest 74 = .ok (.goto (-72), 3) := by decide +kernel
theorem dX2_dropEldest_77 : decode cX2_dropEldest 77 = .ok (.aload_n 0, 1) := by decide +kernel
theorem dX2_dropEldest_78 : decode cX2_dropEldest 78 = .ok (.bipush 11, 2) := by decide +kernel
theorem dX2_dropEldest_80 : decode cX2_dropEldest 80 = .ok (.putfield 24, 3) := by decide +kernel
theorem dX2_dropEldest_83 : decode cX2_dropEldest 83 = .ok (.return_, 1) := by decide +kernel
theorem dX2_stepBack_0 : decode cX2_stepBack 0 = .ok (.aload_n 0, 1) := by decide +kernel
theorem dX2_stepBack_1 : decode cX2_stepBack 1 = .ok (.getfield 24, 3) := by decide +kernel
theorem dX2_stepBack_4 : decode cX2_stepBack 4 = .ok (.ifCond .le 27, 3) := by decide +kernel
theorem dX2_stepBack_7 : decode cX2_stepBack 7 = .ok (.aload_n 0, 1) := by decide +kernel
theorem dX2_stepBack_8 : decode cX2_stepBack 8 = .ok (.getfield 24, 3) := by decide +kernel
theorem dX2_stepBack_11 : decode cX2_stepBack 11 = .ok (.aload_n 0, 1) := by decide +kernel
theorem dX2_stepBack_12 : decode cX2_stepBack 12 = .ok (.getfield 9, 3) := by decide +kernel
theorem dX2_stepBack_15 : decode cX2_stepBack 15 = .ok (.arraylength, 1) := by decide +kernel
theorem dX2_stepBack_16 : decode cX2_stepBack 16 = .ok (.if_icmp .gt 15, 3) := by decide +kernel
theorem dX2_stepBack_19 : decode cX2_stepBack 19 = .ok (.aload_n 0, 1) := by decide +kernel
theorem dX2_stepBack_20 : decode cX2_stepBack 20 = .ok (.getfield 24, 3) := by decide +kernel
theorem dX2_stepBack_23 : decode cX2_stepBack 23 = .ok (.aload_n 0, 1) := by decide +kernel
theorem dX2_stepBack_24 : decode cX2_stepBack 24 = .ok (.getfield 17, 3) := by decide +kernel
theorem dX2_stepBack_27 : decode cX2_stepBack 27 = .ok (.arraylength, 1) := by decide +kernel
theorem dX2_stepBack_28 : decode cX2_stepBack 28 = .ok (.if_icmp .le 5, 3) := by decide +kernel
theorem dX2_stepBack_31 : decode cX2_stepBack 31 = .ok (.iconst 0, 1) := by decide +kernel
theorem dX2_stepBack_32 : decode cX2_stepBack 32 = .ok (.ireturn, 1) := by decide +kernel
theorem dX2_stepBack_33 : decode cX2_stepBack 33 = .ok (.aload_n 0, 1) := by decide +kernel
theorem dX2_stepBack_34 : decode cX2_stepBack 34 = .ok (.dup, 1) := by decide +kernel
theorem dX2_stepBack_35 : decode cX2_stepBack 35 = .ok (.getfield 24, 3) := by decide +kernel
theorem dX2_stepBack_38 : decode cX2_stepBack 38 = .ok (.iconst 1, 1) := by decide +kernel
theorem dX2_stepBack_39 : decode cX2_stepBack 39 = .ok (.isub, 1) := by decide +kernel
theorem dX2_stepBack_40 : decode cX2_stepBack 40 = .ok (.putfield 24, 3) := by decide +kernel
theorem dX2_stepBack_43 : decode cX2_stepBack 43 = .ok (.aload_n 1, 1) := by decide +kernel
theorem dX2_stepBack_44 : decode cX2_stepBack 44 = .ok (.aload_n 0, 1) := by decide +kernel
theorem dX2_stepBack_45 : decode cX2_stepBack 45 = .ok (.getfield 9, 3) := by decide +kernel
theorem dX2_stepBack_48 : decode cX2_stepBack 48 = .ok (.aload_n 0, 1) := by decide +kernel
theorem dX2_stepBack_49 : decode cX2_stepBack 49 = .ok (.getfield 24, 3) := by decide +kernel
theorem dX2_stepBack_52 : decode cX2_stepBack 52 = .ok (.iaload, 1) := by decide +kernel
theorem dX2_stepBack_53 : decode cX2_stepBack 53 = .ok (.aload_n 0, 1) := by decide +kernel
theorem dX2_stepBack_54 : decode cX2_stepBack 54 = .ok (.getfield 17, 3) := by decide +kernel
theorem dX2_stepBack_57 : decode cX2_stepBack 57 = .ok (.aload_n 0, 1) := by decide +kernel
theorem dX2_stepBack_58 : decode cX2_stepBack 58 = .ok (.getfield 24, 3) := by decide +kernel
theorem dX2_stepBack_61 : decode cX2_stepBack 61 = .ok (.aaload, 1) := by decide +kernel
theorem dX2_stepBack_62 : decode cX2_stepBack 62 = .ok (.invokevirtual 34, 3) := by decide +kernel
theorem dX2_stepBack_65 : decode cX2_stepBack 65 = .ok (.iconst 1, 1) := by decide +kernel
theorem dX2_stepBack_66 : decode cX2_stepBack 66 = .ok (.ireturn, 1) := by decide +kernel
theorem dX2_stepOn_0 : decode cX2_stepOn 0 = .ok (.aload_n 0, 1) := by decide +kernel
theorem dX2_stepOn_1 : decode cX2_stepOn 1 = .ok (.getfield 24, 3) := by decide +kernel
theorem dX2_stepOn_4 : decode cX2_stepOn 4 = .ok (.ifCond .lt 38, 3) := by decide +kernel
theorem dX2_stepOn_7 : decode cX2_stepOn 7 = .ok (.aload_n 0, 1) := by decide +kernel
theorem dX2_stepOn_8 : decode cX2_stepOn 8 = .ok (.getfield 24, 3) := by decide +kernel
theorem dX2_stepOn_11 : decode cX2_stepOn 11 = .ok (.aload_n 0, 1) := by decide +kernel
theorem dX2_stepOn_12 : decode cX2_stepOn 12 = .ok (.getfield 28, 3) := by decide +kernel
theorem dX2_stepOn_15 : decode cX2_stepOn 15 = .ok (.if_icmp .ge 27, 3) := by decide +kernel
theorem dX2_stepOn_18 : decode cX2_stepOn 18 = .ok (.aload_n 0, 1) := by decide +kernel
theorem dX2_stepOn_19 : decode cX2_stepOn 19 = .ok (.getfield 24, 3) := by decide +kernel
theorem dX2_stepOn_22 : decode cX2_stepOn 22 = .ok (.aload_n 0, 1) := by decide +kernel
theorem dX2_stepOn_23 : decode cX2_stepOn 23 = .ok (.getfield 9, 3) := by decide +kernel
theorem dX2_stepOn_26 : decode cX2_stepOn 26 = .ok (.arraylength, 1) := by decide +kernel
theorem dX2_stepOn_27 : decode cX2_stepOn 27 = .ok (.if_icmp .ge 15, 3) := by decide +kernel
theorem dX2_stepOn_30 : decode cX2_stepOn 30 = .ok (.aload_n 0, 1) := by decide +kernel
theorem dX2_stepOn_31 : decode cX2_stepOn 31 = .ok (.getfield 24, 3) := by decide +kernel
theorem dX2_stepOn_34 : decode cX2_stepOn 34 = .ok (.aload_n 0, 1) := by decide +kernel
theorem dX2_stepOn_35 : decode cX2_stepOn 35 = .ok (.getfield 21, 3) := by decide +kernel
theorem dX2_stepOn_38 : decode cX2_stepOn 38 = .ok (.arraylength, 1) := by decide +kernel
theorem dX2_stepOn_39 : decode cX2_stepOn 39 = .ok (.if_icmp .lt 5, 3) := by decide +kernel
theorem dX2_stepOn_42 : decode cX2_stepOn 42 = .ok (.iconst 0, 1) := by decide +kernel
theorem dX2_stepOn_43 : decode cX2_stepOn 43 = .ok (.ireturn, 1) := by decide +kernel
theorem dX2_stepOn_44 : decode cX2_stepOn 44 = .ok (.aload_n 1, 1) := by decide +kernel
theorem dX2_stepOn_45 : decode cX2_stepOn 45 = .ok (.aload_n 0, 1) := by decide +kernel
theorem dX2_stepOn_46 : decode cX2_stepOn 46 = .ok (.getfield 9, 3) := by decide +kernel
theorem dX2_stepOn_49 : decode cX2_stepOn 49 = .ok (.aload_n 0, 1) := by decide +kernel
theorem dX2_stepOn_50 : decode cX2_stepOn 50 = .ok (.getfield 24, 3) := by decide +kernel
theorem dX2_stepOn_53 : decode cX2_stepOn 53 = .ok (.iaload, 1) := by decide +kernel
theorem dX2_stepOn_54 : decode cX2_stepOn 54 = .ok (.aload_n 0, 1) := by decide +kernel
theorem dX2_stepOn_55 : decode cX2_stepOn 55 = .ok (.getfield 21, 3) := by decide +kernel
theorem dX2_stepOn_58 : decode cX2_stepOn 58 = .ok (.aload_n 0, 1) := by decide +kernel
theorem dX2_stepOn_59 : decode cX2_stepOn 59 = .ok (.getfield 24, 3) := by decide +kernel
theorem dX2_stepOn_62 : decode cX2_stepOn 62 = .ok (.aaload, 1) := by decide +kernel
theorem dX2_stepOn_63 : decode cX2_stepOn 63 = .ok (.invokevirtual 34, 3) := by decide +kernel
theorem dX2_stepOn_66 : decode cX2_stepOn 66 = .ok (.aload_n 0, 1) := by decide +kernel
theorem dX2_stepOn_67 : decode cX2_stepOn 67 = .ok (.dup, 1) := by decide +kernel
theorem dX2_stepOn_68 : decode cX2_stepOn 68 = .ok (.getfield 24, 3) := by decide +kernel
theorem dX2_stepOn_71 : decode cX2_stepOn 71 = .ok (.iconst 1, 1) := by decide +kernel
theorem dX2_stepOn_72 : decode cX2_stepOn 72 = .ok (.iadd, 1) := by decide +kernel
theorem dX2_stepOn_73 : decode cX2_stepOn 73 = .ok (.putfield 24, 3) := by decide +kernel
theorem dX2_stepOn_76 : decode cX2_stepOn 76 = .ok (.iconst 1, 1) := by decide +kernel
theorem dX2_stepOn_77 : decode cX2_stepOn 77 = .ok (.ireturn, 1) := by decide +kernel
theorem dX3_init_0 : decode cX3_init 0 = .ok (.aload_n 0, 1) := by decide +kernel
theorem dX3_init_1 : decode cX3_init 1 = .ok (.invokespecial 3, 3) := by decide +kernel
theorem dX3_init_4 : decode cX3_init 4 = .ok (.aload_n 0, 1) := by decide +kernel
theorem dX3_init_5 : decode cX3_init 5 = .ok (.iconst 4, 1) := by decide +kernel
theorem dX3_init_6 : decode cX3_init 6 = .ok (.putfield 9, 3) := by decide +kernel
theorem dX3_init_9 : decode cX3_init 9 = .ok (.return_, 1) := by decide +kernel
theorem dX3_elements_0 : decode cX3_elements 0 = .ok (.aload_n 0, 1) := by decide +kernel
theorem dX3_elements_1 : decode cX3_elements 1 = .ok (.getfield 9, 3) := by decide +kernel
theorem dX3_elements_4 : decode cX3_elements 4 = .ok (.ireturn, 1) := by decide +kernel
theorem dX3_reshape_0 : decode cX3_reshape 0 = .ok (.aload_n 0, 1) := by decide +kernel
theorem dX3_reshape_1 : decode cX3_reshape 1 = .ok (.iload_n 1, 1) := by decide +kernel
theorem dX3_reshape_2 : decode cX3_reshape 2 = .ok (.putfield 9, 3) := by decide +kernel
theorem dX3_reshape_5 : decode cX3_reshape 5 = .ok (.return_, 1) := by decide +kernel
theorem dX3_places_0 : decode cX3_places 0 = .ok (.iconst 1, 1) := by decide +kernel
theorem dX3_places_1 : decode cX3_places 1 = .ok (.aload_n 0, 1) := by decide +kernel
theorem dX3_places_2 : decode cX3_places 2 = .ok (.getfield 9, 3) := by decide +kernel
theorem dX3_places_5 : decode cX3_places 5 = .ok (.ishl, 1) := by decide +kernel
theorem dX3_places_6 : decode cX3_places 6 = .ok (.ireturn, 1) := by decide +kernel
theorem dX3_measure_0 : decode cX3_measure 0 = .ok (.iload_n 1, 1) := by decide +kernel
theorem dX3_measure_1 : decode cX3_measure 1 = .ok (.lookupswitch 42 #[(0, 27), (1, 36)], 27) := by decide +kernel
theorem dX3_measure_28 : decode cX3_measure 28 = .ok (.aload_n 0, 1) := by decide +kernel
theorem dX3_measure_29 : decode cX3_measure 29 = .ok (.lload_n 2, 1) := by decide +kernel
theorem dX3_measure_30 : decode cX3_measure 30 = .ok (.invokevirtual 15, 3) := by decide +kernel
theorem dX3_measure_33 : decode cX3_measure 33 = .ok (.invokestatic 19, 3) := by decide +kernel
theorem dX3_measure_36 : decode cX3_measure 36 = .ok (.ireturn, 1) := by decide +kernel
theorem dX3_measure_37 : decode cX3_measure 37 = .ok (.aload_n 0, 1) := by decide +kernel
theorem dX3_measure_38 : decode cX3_measure 38 = .ok (.lload_n 2, 1) := by decide +kernel
theorem dX3_measure_39 : decode cX3_measure 39 = .ok (.invokevirtual 25, 3) := by decide +kernel
theorem dX3_measure_42 : decode cX3_measure 42 = .ok (.ireturn, 1) := by decide +kernel
theorem dX3_measure_43 : decode cX3_measure 43 = .ok (.aload_n 0, 1) := by decide +kernel
theorem dX3_measure_44 : decode cX3_measure 44 = .ok (.lload_n 2, 1) := by decide +kernel
theorem dX3_measure_45 : decode cX3_measure 45 = .ok (.invokevirtual 28, 3) := by decide +kernel
theorem dX3_measure_48 : decode cX3_measure 48 = .ok (.invokestatic 19, 3) := by decide +kernel
theorem dX3_measure_51 : decode cX3_measure 51 = .ok (.ireturn, 1) := by decide +kernel
theorem dX3_keyBy_0 : decode cX3_keyBy 0 = .ok (.iload_n 1, 1) := by decide +kernel
theorem dX3_keyBy_1 : decode cX3_keyBy 1 = .ok (.tableswitch 60 1 3 #[27, 32, 42], 27) := by decide +kernel
theorem dX3_keyBy_28 : decode cX3_keyBy 28 = .ok (.iload_n 2, 1) := by decide +kernel
theorem dX3_keyBy_29 : decode cX3_keyBy 29 = .ok (.invokestatic 31, 3) := by decide +kernel
theorem dX3_keyBy_32 : decode cX3_keyBy 32 = .ok (.ireturn, 1) := by decide +kernel
theorem dX3_keyBy_33 : decode cX3_keyBy 33 = .ok (.iload_n 2, 1) := by decide +kernel
theorem dX3_keyBy_34 : decode cX3_keyBy 34 = .ok (.invokestatic 35, 3) := by decide +kernel
theorem dX3_keyBy_37 : decode cX3_keyBy 37 = .ok (.bipush 64, 2) := by decide +kernel
theorem dX3_keyBy_39 : decode cX3_keyBy 39 = .ok (.imul, 1) := by decide +kernel
theorem dX3_keyBy_40 : decode cX3_keyBy 40 = .ok (.iload_n 2, 1) := by decide +kernel
theorem dX3_keyBy_41 : decode cX3_keyBy 41 = .ok (.iadd, 1) := by decide +kernel
theorem dX3_keyBy_42 : decode cX3_keyBy 42 = .ok (.ireturn, 1) := by decide +kernel
theorem dX3_keyBy_43 : decode cX3_keyBy 43 = .ok (.iload_n 2, 1) := by decide +kernel
theorem dX3_keyBy_44 : decode cX3_keyBy 44 = .ok (.invokestatic 31, 3) := by decide +kernel
theorem dX3_keyBy_47 : decode cX3_keyBy 47 = .ok (.iload_n 2, 1) := by decide +kernel
theorem dX3_keyBy_48 : decode cX3_keyBy 48 = .ok (.aload_n 0, 1) := by decide +kernel
theorem dX3_keyBy_49 : decode cX3_keyBy 49 = .ok (.getfield 9, 3) := by decide +kernel
theorem dX3_keyBy_52 : decode cX3_keyBy 52 = .ok (.iconst 1, 1) := by decide +kernel
theorem dX3_keyBy_53 : decode cX3_keyBy 53 = .ok (.isub, 1) := by decide +kernel
theorem dX3_keyBy_54 : decode cX3_keyBy 54 = .ok (.iushr, 1) := by decide +kernel
theorem dX3_keyBy_55 : decode cX3_keyBy 55 = .ok (.sipush 1024, 3) := by decide +kernel
theorem dX3_keyBy_58 : decode cX3_keyBy 58 = .ok (.imul, 1) := by decide +kernel
theorem dX3_keyBy_59 : decode cX3_keyBy 59 = .ok (.iadd, 1) := by decide +kernel
theorem dX3_keyBy_60 : decode cX3_keyBy 60 = .ok (.ireturn, 1) := by decide +kernel
theorem dX3_keyBy_61 : decode cX3_keyBy 61 = .ok (.iload_n 2, 1) := by decide +kernel
theorem dX3_keyBy_62 : decode cX3_keyBy 62 = .ok (.ireturn, 1) := by decide +kernel
theorem dX3_leastElementKey_0 : decode cX3_leastElementKey 0 = .ok (.iconst 0, 1) := by decide +kernel
theorem dX3_leastElementKey_1 : decode cX3_leastElementKey 1 = .ok (.istore_n 1, 1) := by decide +kernel
theorem dX3_leastElementKey_2 : decode cX3_leastElementKey 2 = .ok (.iconst 0, 1) := by decide +kernel
theorem dX3_leastElementKey_3 : decode cX3_leastElementKey 3 = .ok (.istore_n 2, 1) := by decide +kernel
theorem dX3_leastElementKey_4 : decode cX3_leastElementKey 4 = .ok (.iload_n 2, 1) := by decide +kernel
theorem dX3_leastElementKey_5 : decode cX3_leastElementKey 5 = .ok (.bipush 6, 2) := by decide +kernel
theorem dX3_leastElementKey_7 : decode cX3_leastElementKey 7 = .ok (.if_icmp .ge 19, 3) := by decide +kernel
theorem dX3_leastElementKey_10 : decode cX3_leastElementKey 10 = .ok (.iload_n 1, 1) := by decide +kernel
theorem dX3_leastElementKey_11 : decode cX3_leastElementKey 11 = .ok (.iconst 2, 1) := by decide +kernel
theorem dX3_leastElementKey_12 : decode cX3_leastElementKey 12 = .ok (.imul, 1) := by decide +kernel
theorem dX3_leastElementKey_13 : decode cX3_leastElementKey 13 = .ok (.iload_n 0, 1) := by decide +kernel
theorem dX3_leastElementKey_14 : decode cX3_leastElementKey 14 = .ok (.iload_n 2, 1) := by decide +kernel
theorem dX3_leastElementKey_15 : decode cX3_leastElementKey 15 = .ok (.iushr, 1) := by decide +kernel
theorem dX3_leastElementKey_16 : decode cX3_leastElementKey 16 = .ok (.iconst 1, 1) := by decide +kernel
theorem dX3_leastElementKey_17 : decode cX3_leastElementKey 17 = .ok (.iand, 1) := by decide +kernel
theorem dX3_leastElementKey_18 : decode cX3_leastElementKey 18 = .ok (.iadd, 1) := by decide +kernel
theorem dX3_leastElementKey_19 : decode cX3_leastElementKey 19 = .ok (.istore_n 1, 1) := by decide +kernel
theorem dX3_leastElementKey_20 : decode cX3_leastElementKey 20 = .ok (.iinc 2 1, 3) := by decide +kernel
theorem dX3_leastElementKey_23 : decode cX3_leastElementKey 23 = .ok (.goto (-19), 3) := by decide +kernel
theorem dX3_leastElementKey_26 : decode cX3_leastElementKey 26 = .ok (.iload_n 0, 1) := by decide +kernel
theorem dX3_leastElementKey_27 : decode cX3_leastElementKey 27 = .ok (.invokestatic 35, 3) := by decide +kernel
theorem dX3_leastElementKey_30 : decode cX3_leastElementKey 30 = .ok (.bipush 64, 2) := by decide +kernel
theorem dX3_leastElementKey_32 : decode cX3_leastElementKey 32 = .ok (.imul, 1) := by decide +kernel
theorem dX3_leastElementKey_33 : decode cX3_leastElementKey 33 = .ok (.bipush 64, 2) := by decide +kernel
theorem dX3_leastElementKey_35 : decode cX3_leastElementKey 35 = .ok (.iadd, 1) := by decide +kernel
theorem dX3_leastElementKey_36 : decode cX3_leastElementKey 36 = .ok (.iconst 1, 1) := by decide +kernel
theorem dX3_leastElementKey_37 : decode cX3_leastElementKey 37 = .ok (.isub, 1) := by decide +kernel
theorem dX3_leastElementKey_38 : decode cX3_leastElementKey 38 = .ok (.iload_n 1, 1) := by decide +kernel
theorem dX3_leastElementKey_39 : decode cX3_leastElementKey 39 = .ok (.isub, 1) := by decide +kernel
theorem dX3_leastElementKey_40 : decode cX3_leastElementKey 40 = .ok (.ireturn, 1) := by decide +kernel
theorem dX3_holding_0 : decode cX3_holding 0 = .ok (.iload_n 0, 1) := by decide +kernel
theorem dX3_holding_1 : decode cX3_holding 1 = .ok (.ifCond .lt 19, 3) := by decide +kernel
theorem dX3_holding_4 : decode cX3_holding 4 = .ok (.iload_n 0, 1) := by decide +kernel
theorem dX3_holding_5 : decode cX3_holding 5 = .ok (.getstatic 39, 3) := by decide +kernel
theorem dX3_holding_8 : decode cX3_holding 8 = .ok (.arraylength, 1) := by decide +kernel
theorem dX3_holding_9 : decode cX3_holding 9 = .ok (.if_icmp .ge 11, 3) := by decide +kernel
theorem dX3_holding_12 : decode cX3_holding 12 = .ok (.getstatic 39, 3) := by decide +kernel
theorem dX3_holding_15 : decode cX3_holding 15 = .ok (.iload_n 0, 1) := by decide +kernel
theorem dX3_holding_16 : decode cX3_holding 16 = .ok (.laload, 1) := by decide +kernel
theorem dX3_holding_17 : decode cX3_holding 17 = .ok (.goto 4, 3) := by decide +kernel
theorem dX3_holding_20 : decode cX3_holding 20 = .ok (.lconst 0, 1) := by decide +kernel
theorem dX3_holding_21 : decode cX3_holding 21 = .ok (.lreturn, 1) := by decide +kernel
theorem dX3_setsOf_0 : decode cX3_setsOf 0 = .ok (.aload_n 1, 1) := by decide +kernel
theorem dX3_setsOf_1 : decode cX3_setsOf 1 = .ok (.getfield 43, 3) := by decide +kernel
theorem dX3_setsOf_4 : decode cX3_setsOf 4 = .ok (.aload_n 0, 1) := by decide +kernel
theorem dX3_setsOf_5 : decode cX3_setsOf 5 = .ok (.invokevirtual 49, 3) := by decide +kernel
theorem dX3_setsOf_8 : decode cX3_setsOf 8 = .ok (.land, 1) := by decide +kernel
theorem dX3_setsOf_9 : decode cX3_setsOf 9 = .ok (.lstore_n 2, 1) := by decide +kernel
theorem dX3_setsOf_10 : decode cX3_setsOf 10 = .ok (.aload_n 1, 1) := by decide +kernel
theorem dX3_setsOf_11 : decode cX3_setsOf 11 = .ok (.getfield 53, 3) := by decide +kernel
theorem dX3_setsOf_14 : decode cX3_setsOf 14 = .ok (.tableswitch 87 1 5 #[34, 45, 51, 62, 77], 34) := by decide +kernel
theorem dX3_setsOf_48 : decode cX3_setsOf 48 = .ok (.aload_n 0, 1) := by decide +kernel
theorem dX3_setsOf_49 : decode cX3_setsOf 49 = .ok (.invokevirtual 49, 3) := by decide +kernel
theorem dX3_setsOf_52 : decode cX3_setsOf 52 = .ok (.lload_n 2, 1) := by decide +kernel
theorem dX3_setsOf_53 : decode cX3_setsOf 53 = .ok (.ldc2_w 56, 3) := by decide +kernel
theorem dX3_setsOf_56 : decode cX3_setsOf 56 = .ok (.lxor, 1) := by decide +kernel
theorem dX3_setsOf_57 : decode cX3_setsOf 57 = .ok (.land, 1) := by decide +kernel
theorem dX3_setsOf_58 : decode cX3_setsOf 58 = .ok (.lreturn, 1) := by decide +kernel
theorem dX3_setsOf_59 : decode cX3_setsOf 59 = .ok (.aload_n 0, 1) := by decide +kernel
theorem dX3_setsOf_60 : decode cX3_setsOf 60 = .ok (.lload_n 2, 1) := by decide +kernel
theorem dX3_setsOf_61 : decode cX3_setsOf 61 = .ok (.invokevirtual 58, 3) := by decide +kernel
theorem dX3_setsOf_64 : decode cX3_setsOf 64 = .ok (.lreturn, 1) := by decide +kernel
theorem dX3_setsOf_65 : decode cX3_setsOf 65 = .ok (.lload_n 2, 1) := by decide +kernel
theorem dX3_setsOf_66 : decode cX3_setsOf 66 = .ok (.aload_n 0, 1) := by decide +kernel
theorem dX3_setsOf_67 : decode cX3_setsOf 67 = .ok (.aload_n 1, 1) := by decide +kernel
theorem dX3_setsOf_68 : decode cX3_setsOf 68 = .ok (.getfield 61, 3) := by decide +kernel
theorem dX3_setsOf_71 : decode cX3_setsOf 71 = .ok (.invokevirtual 64, 3) := by decide +kernel
theorem dX3_setsOf_74 : decode cX3_setsOf 74 = .ok (.land, 1) := by decide +kernel
theorem dX3_setsOf_75 : decode cX3_setsOf 75 = .ok (.lreturn, 1) := by decide +kernel
theorem dX3_setsOf_76 : decode cX3_setsOf 76 = .ok (.aload_n 0, 1) := by decide +kernel
theorem dX3_setsOf_77 : decode cX3_setsOf 77 = .ok (.lload_n 2, 1) := by decide +kernel
theorem dX3_setsOf_78 : decode cX3_setsOf 78 = .ok (.aload_n 0, 1) := by decide +kernel
theorem dX3_setsOf_79 : decode cX3_setsOf 79 = .ok (.aload_n 1, 1) := by decide +kernel
theorem dX3_setsOf_80 : decode cX3_setsOf 80 = .ok (.getfield 61, 3) := by decide +kernel
theorem dX3_setsOf_83 : decode cX3_setsOf 83 = .ok (.invokevirtual 64, 3) := by decide +kernel
theorem dX3_setsOf_86 : decode cX3_setsOf 86 = .ok (.land, 1) := by decide +kernel
theorem dX3_setsOf_87 : decode cX3_setsOf 87 = .ok (.invokevirtual 68, 3) := by decide +kernel
theorem dX3_setsOf_90 : decode cX3_setsOf 90 = .ok (.lreturn, 1) := by decide +kernel
theorem dX3_setsOf_91 : decode cX3_setsOf 91 = .ok (.aload_n 0, 1) := by decide +kernel
theorem dX3_setsOf_92 : decode cX3_setsOf 92 = .ok (.aload_n 0, 1) := by decide +kernel
theorem dX3_setsOf_93 : decode cX3_setsOf 93 = .ok (.lload_n 2, 1) := by decide +kernel
theorem dX3_setsOf_94 : decode cX3_setsOf 94 = .ok (.invokevirtual 58, 3) := by decide +kernel
theorem dX3_setsOf_97 : decode cX3_setsOf 97 = .ok (.invokevirtual 71, 3) := by decide +kernel
theorem dX3_setsOf_100 : decode cX3_setsOf 100 = .ok (.lreturn, 1) := by decide +kernel
theorem dX3_setsOf_101 : decode cX3_setsOf 101 = .ok (.lload_n 2, 1) := by decide +kernel
theorem dX3_setsOf_102 : decode cX3_setsOf 102 = .ok (.lreturn, 1) := by decide +kernel
theorem dX3_turned_0 : decode cX3_turned 0 = .ok (.lload_n 1, 1) := by decide +kernel
theorem dX3_turned_1 : decode cX3_turned 1 = .ok (.lstore_n 3, 1) := by decide +kernel
theorem dX3_turned_2 : decode cX3_turned 2 = .ok (.iconst 0, 1) := by decide +kernel
theorem dX3_turned_3 : decode cX3_turned 3 = .ok (.istore 5, 2) := by decide +kernel
theorem dX3_turned_5 : decode cX3_turned 5 = .ok (.iload 5, 2) := by decide +kernel
theorem dX3_turned_7 : decode cX3_turned 7 = .ok (.aload_n 0, 1) := by decide +kernel
theorem dX3_turned_8 : decode cX3_turned 8 = .ok (.getfield 9, 3) := by decide +kernel
theorem dX3_turned_11 : decode cX3_turned 11 = .ok (.if_icmp .ge 39, 3) := by decide +kernel
theorem dX3_turned_14 : decode cX3_turned 14 = .ok (.lload_n 3, 1) := by decide +kernel
theorem dX3_turned_15 : decode cX3_turned 15 = .ok (.iload 5, 2) := by decide +kernel
theorem dX3_turned_17 : decode cX3_turned 17 = .ok (.invokestatic 74, 3) := by decide +kernel
theorem dX3_turned_20 : decode cX3_turned 20 = .ok (.land, 1) := by decide +kernel
theorem dX3_turned_21 : decode cX3_turned 21 = .ok (.iconst 1, 1) := by decide +kernel
theorem dX3_turned_22 : decode cX3_turned 22 = .ok (.iload 5, 2) := by decide +kernel
theorem dX3_turned_24 : decode cX3_turned 24 = .ok (.ishl, 1) := by decide +kernel
theorem dX3_turned_25 : decode cX3_turned 25 = .ok (.lushr, 1) := by decide +kernel
theorem dX3_turned_26 : decode cX3_turned 26 = .ok (.lload_n 3, 1) := by decide +kernel
theorem dX3_turned_27 : decode cX3_turned 27 = .ok (.iload 5, 2) := by decide +kernel
theorem dX3_turned_29 : decode cX3_turned 29 = .ok (.invokestatic 74, 3) := by decide +kernel
theorem dX3_turned_32 : decode cX3_turned 32 = .ok (.ldc2_w 56, 3) := by decide +kernel
theorem dX3_turned_35 : decode cX3_turned 35 = .ok (.lxor, 1) := by decide +kernel
theorem dX3_turned_36 : decode cX3_turned 36 = .ok (.land, 1) := by decide +kernel
theorem dX3_turned_37 : decode cX3_turned 37 = .ok (.iconst 1, 1) := by decide +kernel
theorem dX3_turned_38 : decode cX3_turned 38 = .ok (.iload 5, 2) := by decide +kernel
theorem dX3_turned_40 : decode cX3_turned 40 = .ok (.ishl, 1) := by decide +kernel
theorem dX3_turned_41 : decode cX3_turned 41 = .ok (.lshl, 1) := by decide +kernel
theorem dX3_turned_42 : decode cX3_turned 42 = .ok (.lor, 1) := by decide +kernel
theorem dX3_turned_43 : decode cX3_turned 43 = .ok (.lstore_n 3, 1) := by decide +kernel
theorem dX3_turned_44 : decode cX3_turned 44 = .ok (.iinc 5 1, 3) := by decide +kernel
theorem dX3_turned_47 : decode cX3_turned 47 = .ok (.goto (-42), 3) := by decide +kernel
theorem dX3_turned_50 : decode cX3_turned 50 = .ok (.lload_n 3, 1) := by decide +kernel
theorem dX3_turned_51 : decode cX3_turned 51 = .ok (.lreturn, 1) := by decide +kernel
theorem dX3_mirrored_0 : decode cX3_mirrored 0 = .ok (.lload_n 1, 1) := by decide +kernel
theorem dX3_mirrored_1 : decode cX3_mirrored 1 = .ok (.lstore_n 3, 1) := by decide +kernel
theorem dX3_mirrored_2 : decode cX3_mirrored 2 = .ok (.iconst 0, 1) := by decide +kernel
theorem dX3_mirrored_3 : decode cX3_mirrored 3 = .ok (.istore 5, 2) := by decide +kernel
theorem dX3_mirrored_5 : decode cX3_mirrored 5 = .ok (.iload 5, 2) := by decide +kernel
theorem dX3_mirrored_7 : decode cX3_mirrored 7 = .ok (.aload_n 0, 1) := by decide +kernel
theorem dX3_mirrored_8 : decode cX3_mirrored 8 = .ok (.getfield 9, 3) := by decide +kernel
theorem dX3_mirrored_11 : decode cX3_mirrored 11 = .ok (.iconst 2, 1) := by decide +kernel
theorem dX3_mirrored_12 : decode cX3_mirrored 12 = .ok (.idiv, 1) := by decide +kernel
theorem dX3_mirrored_13 : decode cX3_mirrored 13 = .ok (.if_icmp .ge 97, 3) := by decide +kernel
theorem dX3_mirrored_16 : decode cX3_mirrored 16 = .ok (.aload_n 0, 1) := by decide +kernel
theorem dX3_mirrored_17 : decode cX3_mirrored 17 = .ok (.getfield 9, 3) := by decide +kernel
theorem dX3_mirrored_20 : decode cX3_mirrored 20 = .ok (.iconst 1, 1) := by decide +kernel
theorem dX3_mirrored_21 : decode cX3_mirrored 21 = .ok (.isub, 1) := by decide +kernel
theorem dX3_mirrored_22 : decode cX3_mirrored 22 = .ok (.iload 5, 2) := by decide +kernel
theorem dX3_mirrored_24 : decode cX3_mirrored 24 = .ok (.isub, 1) := by decide +kernel
theorem dX3_mirrored_25 : decode cX3_mirrored 25 = .ok (.istore 6, 2) := by decide +kernel
theorem dX3_mirrored_27 : decode cX3_mirrored 27 = .ok (.iconst 1, 1) := by decide +kernel
theorem dX3_mirrored_28 : decode cX3_mirrored 28 = .ok (.iload 6, 2) := by decide +kernel
theorem dX3_mirrored_30 : decode cX3_mirrored 30 = .ok (.ishl, 1) := by decide +kernel
theorem dX3_mirrored_31 : decode cX3_mirrored 31 = .ok (.iconst 1, 1) := by decide +kernel
theorem dX3_mirrored_32 : decode cX3_mirrored 32 = .ok (.iload 5, 2) := by decide +kernel
theorem dX3_mirrored_34 : decode cX3_mirrored 34 = .ok (.ishl, 1) := by decide +kernel
theorem dX3_mirrored_35 : decode cX3_mirrored 35 = .ok (.isub, 1) := by decide +kernel
theorem dX3_mirrored_36 : decode cX3_mirrored 36 = .ok (.istore 7, 2) := by decide +kernel
theorem dX3_mirrored_38 : decode cX3_mirrored 38 = .ok (.lload_n 3, 1) := by decide +kernel
theorem dX3_mirrored_39 : decode cX3_mirrored 39 = .ok (.iload 6, 2) := by decide +kernel
theorem dX3_mirrored_41 : decode cX3_mirrored 41 = .ok (.invokestatic 74, 3) := by decide +kernel
theorem dX3_mirrored_44 : decode cX3_mirrored 44 = .ok (.land, 1) := by decide +kernel
theorem dX3_mirrored_45 : decode cX3_mirrored 45 = .ok (.iload 5, 2) := by decide +kernel
theorem dX3_mirrored_47 : decode cX3_mirrored 47 = .ok (.invokestatic 74, 3) := by decide +kernel
theorem dX3_mirrored_50 : decode cX3_mirrored 50 = .ok (.ldc2_w 56, 3) := by decide +kernel
theorem dX3_mirrored_53 : decode cX3_mirrored 53 = .ok (.lxor, 1) := by decide +kernel
theorem dX3_mirrored_54 : decode cX3_mirrored 54 = .ok (.land, 1) := by decide +kernel
theorem dX3_mirrored_55 : decode cX3_mirrored 55 = .ok (.lstore 8, 2) := by decide +kernel
theorem dX3_mirrored_57 : decode cX3_mirrored 57 = .ok (.lload_n 3, 1) := by decide +kernel
theorem dX3_mirrored_58 : decode cX3_mirrored 58 = .ok (.iload 5, 2) := by decide +kernel
theorem dX3_mirrored_60 : decode cX3_mirrored 60 = .ok (.invokestatic 74, 3) := by decide +kernel
theorem dX3_mirrored_63 : decode cX3_mirrored 63 = .ok (.land, 1) := by decide +kernel
theorem dX3_mirrored_64 : decode cX3_mirrored 64 = .ok (.iload 6, 2) := by decide +kernel
theorem dX3_mirrored_66 : decode cX3_mirrored 66 = .ok (.invokestatic 74, 3) := by decide +kernel
theorem dX3_mirrored_69 : decode cX3_mirrored 69 = .ok (.ldc2_w 56, 3) := by decide +kernel
theorem dX3_mirrored_72 : decode cX3_mirrored 72 = .ok (.lxor, 1) := by decide +kernel
theorem dX3_mirrored_73 : decode cX3_mirrored 73 = .ok (.land, 1) := by decide +kernel
theorem dX3_mirrored_74 : decode cX3_mirrored 74 = .ok (.lstore 10, 2) := by decide +kernel
theorem dX3_mirrored_76 : decode cX3_mirrored 76 = .ok (.lload_n 3, 1) := by decide +kernel
theorem dX3_mirrored_77 : decode cX3_mirrored 77 = .ok (.lload 8, 2) := by decide +kernel
theorem dX3_mirrored_79 : decode cX3_mirrored 79 = .ok (.ldc2_w 56, 3) := by decide +kernel
theorem dX3_mirrored_82 : decode cX3_mirrored 82 = .ok (.lxor, 1) := by decide +kernel
theorem dX3_mirrored_83 : decode cX3_mirrored 83 = .ok (.land, 1) := by decide +kernel
theorem dX3_mirrored_84 : decode cX3_mirrored 84 = .ok (.lload 10, 2) := by decide +kernel
theorem dX3_mirrored_86 : decode cX3_mirrored 86 = .ok (.ldc2_w 56, 3) := by decide +kernel
theorem dX3_mirrored_89 : decode cX3_mirrored 89 = .ok (.lxor, 1) := by decide +kernel
theorem dX3_mirrored_90 : decode cX3_mirrored 90 = .ok (.land, 1) := by decide +kernel
theorem dX3_mirrored_91 : decode cX3_mirrored 91 = .ok (.lload 8, 2) := by decide +kernel
theorem dX3_mirrored_93 : decode cX3_mirrored 93 = .ok (.iload 7, 2) := by decide +kernel
theorem dX3_mirrored_95 : decode cX3_mirrored 95 = .ok (.lushr, 1) := by decide +kernel
theorem dX3_mirrored_96 : decode cX3_mirrored 96 = .ok (.lor, 1) := by decide +kernel
theorem dX3_mirrored_97 : decode cX3_mirrored 97 = .ok (.lload 10, 2) := by decide +kernel
theorem dX3_mirrored_99 : decode cX3_mirrored 99 = .ok (.iload 7, 2) := by decide +kernel
theorem dX3_mirrored_101 : decode cX3_mirrored 101 = .ok (.lshl, 1) := by decide +kernel
theorem dX3_mirrored_102 : decode cX3_mirrored 102 = .ok (.lor, 1) := by decide +kernel
theorem dX3_mirrored_103 : decode cX3_mirrored 103 = .ok (.lstore_n 3, 1) := by decide +kernel
theorem dX3_mirrored_104 : decode cX3_mirrored 104 = .ok (.iinc 5 1, 3) := by decide +kernel
theorem dX3_mirrored_107 : decode cX3_mirrored 107 = .ok (.goto (-102), 3) := by decide +kernel
theorem dX3_mirrored_110 : decode cX3_mirrored 110 = .ok (.lload_n 3, 1) := by decide +kernel
theorem dX3_mirrored_111 : decode cX3_mirrored 111 = .ok (.lreturn, 1) := by decide +kernel
theorem dX3_ofSize_0 : decode cX3_ofSize 0 = .ok (.lconst 0, 1) := by decide +kernel
theorem dX3_ofSize_1 : decode cX3_ofSize 1 = .ok (.lstore_n 2, 1) := by decide +kernel
theorem dX3_ofSize_2 : decode cX3_ofSize 2 = .ok (.iconst 0, 1) := by decide +kernel
theorem dX3_ofSize_3 : decode cX3_ofSize 3 = .ok (.istore 4, 2) := by decide +kernel
theorem dX3_ofSize_5 : decode cX3_ofSize 5 = .ok (.iload 4, 2) := by decide +kernel
theorem dX3_ofSize_7 : decode cX3_ofSize 7 = .ok (.bipush 64, 2) := by decide +kernel
theorem dX3_ofSize_9 : decode cX3_ofSize 9 = .ok (.if_icmp .ge 25, 3) := by decide +kernel
theorem dX3_ofSize_12 : decode cX3_ofSize 12 = .ok (.iload 4, 2) := by decide +kernel
theorem dX3_ofSize_14 : decode cX3_ofSize 14 = .ok (.invokestatic 35, 3) := by decide +kernel
theorem dX3_ofSize_17 : decode cX3_ofSize 17 = .ok (.iload_n 1, 1) := by decide +kernel
theorem dX3_ofSize_18 : decode cX3_ofSize 18 = .ok (.if_icmp .ne 10, 3) := by decide +kernel
theorem dX3_ofSize_21 : decode cX3_ofSize 21 = .ok (.lload_n 2, 1) := by decide +kernel
theorem dX3_ofSize_22 : decode cX3_ofSize 22 = .ok (.lconst 1, 1) := by decide +kernel
theorem dX3_ofSize_23 : decode cX3_ofSize 23 = .ok (.iload 4, 2) := by decide +kernel
theorem dX3_ofSize_25 : decode cX3_ofSize 25 = .ok (.lshl, 1) := by decide +kernel
theorem dX3_ofSize_26 : decode cX3_ofSize 26 = .ok (.lor, 1) := by decide +kernel
theorem dX3_ofSize_27 : decode cX3_ofSize 27 = .ok (.lstore_n 2, 1) := by decide +kernel
theorem dX3_ofSize_28 : decode cX3_ofSize 28 = .ok (.iinc 4 1, 3) := by decide +kernel
theorem dX3_ofSize_31 : decode cX3_ofSize 31 = .ok (.goto (-26), 3) := by decide +kernel
theorem dX3_ofSize_34 : decode cX3_ofSize 34 = .ok (.lload_n 2, 1) := by decide +kernel
theorem dX3_ofSize_35 : decode cX3_ofSize 35 = .ok (.lreturn, 1) := by decide +kernel
theorem dX3_manyOfSize_0 : decode cX3_manyOfSize 0 = .ok (.lload_n 1, 1) := by decide +kernel
theorem dX3_manyOfSize_1 : decode cX3_manyOfSize 1 = .ok (.aload_n 0, 1) := by decide +kernel
theorem dX3_manyOfSize_2 : decode cX3_manyOfSize 2 = .ok (.iload_n 3, 1) := by decide +kernel
theorem dX3_manyOfSize_3 : decode cX3_manyOfSize 3 = .ok (.invokevirtual 64, 3) := by decide +kernel
theorem dX3_manyOfSize_6 : decode cX3_manyOfSize 6 = .ok (.land, 1) := by decide +kernel
theorem dX3_manyOfSize_7 : decode cX3_manyOfSize 7 = .ok (.invokestatic 19, 3) := by decide +kernel
theorem dX3_manyOfSize_10 : decode cX3_manyOfSize 10 = .ok (.ireturn, 1) := by decide +kernel
theorem dX3_sizesOf_0 : decode cX3_sizesOf 0 = .ok (.iconst 0, 1) := by decide +kernel
theorem dX3_sizesOf_1 : decode cX3_sizesOf 1 = .ok (.istore_n 3, 1) := by decide +kernel
theorem dX3_sizesOf_2 : decode cX3_sizesOf 2 = .ok (.iconst 0, 1) := by decide +kernel
theorem dX3_sizesOf_3 : decode cX3_sizesOf 3 = .ok (.istore 4, 2) := by decide +kernel
theorem dX3_sizesOf_5 : decode cX3_sizesOf 5 = .ok (.iload 4, 2) := by decide +kernel
theorem dX3_sizesOf_7 : decode cX3_sizesOf 7 = .ok (.aload_n 0, 1) := by decide +kernel
theorem dX3_sizesOf_8 : decode cX3_sizesOf 8 = .ok (.getfield 9, 3) := by decide +kernel
theorem dX3_sizesOf_11 : decode cX3_sizesOf 11 = .ok (.if_icmp .ge 22, 3) := by decide +kernel
theorem dX3_sizesOf_14 : decode cX3_sizesOf 14 = .ok (.iload_n 3, 1) := by decide +kernel
theorem dX3_sizesOf_15 : decode cX3_sizesOf 15 = .ok (.lload_n 1, 1) := by decide +kernel
theorem dX3_sizesOf_16 : decode cX3_sizesOf 16 = .ok (.iload 4, 2) := by decide +kernel
theorem dX3_sizesOf_18 : decode cX3_sizesOf 18 = .ok (.invokestatic 74, 3) := by decide +kernel
theorem dX3_sizesOf_21 : decode cX3_sizesOf 21 = .ok (.land, 1) := by decide +kernel
theorem dX3_sizesOf_22 : decode cX3_sizesOf 22 = .ok (.invokestatic 19, 3) := by decide +kernel
theorem dX3_sizesOf_25 : decode cX3_sizesOf 25 = .ok (.iadd, 1) := by decide +kernel
theorem dX3_sizesOf_26 : decode cX3_sizesOf 26 = .ok (.istore_n 3, 1) := by decide +kernel
theorem dX3_sizesOf_27 : decode cX3_sizesOf 27 = .ok (.iinc 4 1, 3) := by decide +kernel
theorem dX3_sizesOf_30 : decode cX3_sizesOf 30 = .ok (.goto (-25), 3) := by decide +kernel
theorem dX3_sizesOf_33 : decode cX3_sizesOf 33 = .ok (.iload_n 3, 1) := by decide +kernel
theorem dX3_sizesOf_34 : decode cX3_sizesOf 34 = .ok (.ireturn, 1) := by decide +kernel
theorem dX3_weightOf_0 : decode cX3_weightOf 0 = .ok (.dconst 0, 1) := by decide +kernel
theorem dX3_weightOf_1 : decode cX3_weightOf 1 = .ok (.dstore_n 3, 1) := by decide +kernel
theorem dX3_weightOf_2 : decode cX3_weightOf 2 = .ok (.iconst 0, 1) := by decide +kernel
theorem dX3_weightOf_3 : decode cX3_weightOf 3 = .ok (.istore 5, 2) := by decide +kernel
theorem dX3_weightOf_5 : decode cX3_weightOf 5 = .ok (.iload 5, 2) := by decide +kernel
theorem dX3_weightOf_7 : decode cX3_weightOf 7 = .ok (.aload_n 0, 1) := by decide +kernel
theorem dX3_weightOf_8 : decode cX3_weightOf 8 = .ok (.invokevirtual 77, 3) := by decide +kernel
theorem dX3_weightOf_11 : decode cX3_weightOf 11 = .ok (.if_icmp .ge 39, 3) := by decide +kernel
theorem dX3_weightOf_14 : decode cX3_weightOf 14 = .ok (.lload_n 1, 1) := by decide +kernel
theorem dX3_weightOf_15 : decode cX3_weightOf 15 = .ok (.iload 5, 2) := by decide +kernel
theorem dX3_weightOf_17 : decode cX3_weightOf 17 = .ok (.lushr, 1) := by decide +kernel
theorem dX3_weightOf_18 : decode cX3_weightOf 18 = .ok (.lconst 1, 1) := by decide +kernel
theorem dX3_weightOf_19 : decode cX3_weightOf 19 = .ok (.land, 1) := by decide +kernel
theorem dX3_weightOf_20 : decode cX3_weightOf 20 = .ok (.lconst 0, 1) := by decide +kernel
theorem dX3_weightOf_21 : decode cX3_weightOf 21 = .ok (.lcmp, 1) := by decide +kernel
theorem dX3_weightOf_22 : decode cX3_weightOf 22 = .ok (.ifCond .eq 22, 3) := by decide +kernel
theorem dX3_weightOf_25 : decode cX3_weightOf 25 = .ok (.dload_n 3, 1) := by decide +kernel
theorem dX3_weightOf_26 : decode cX3_weightOf 26 = .ok (.dconst 1, 1) := by decide +kernel
theorem dX3_weightOf_27 : decode cX3_weightOf 27 = .ok (.aload_n 0, 1) := by decide +kernel
theorem dX3_weightOf_28 : decode cX3_weightOf 28 = .ok (.getfield 9, 3) := by decide +kernel
theorem dX3_weightOf_31 : decode cX3_weightOf 31 = .ok (.i2l, 1) := by decide +kernel
theorem dX3_weightOf_32 : decode cX3_weightOf 32 = .ok (.iload 5, 2) := by decide +kernel
theorem dX3_weightOf_34 : decode cX3_weightOf 34 = .ok (.invokestatic 35, 3) := by decide +kernel
theorem dX3_weightOf_37 : decode cX3_weightOf 37 = .ok (.invokestatic 81, 3) := by decide +kernel
theorem dX3_weightOf_40 : decode cX3_weightOf 40 = .ok (.l2d, 1) := by decide +kernel
theorem dX3_weightOf_41 : decode cX3_weightOf 41 = .ok (.ddiv, 1) := by decide +kernel
theorem dX3_weightOf_42 : decode cX3_weightOf 42 = .ok (.dadd, 1) := by decide +kernel
theorem dX3_weightOf_43 : decode cX3_weightOf 43 = .ok (.dstore_n 3, 1) := by decide +kernel
theorem dX3_weightOf_44 : decode cX3_weightOf 44 = .ok (.iinc 5 1, 3) := by decide +kernel
theorem dX3_weightOf_47 : decode cX3_weightOf 47 = .ok (.goto (-42), 3) := by decide +kernel
theorem dX3_weightOf_50 : decode cX3_weightOf 50 = .ok (.dload_n 3, 1) := by decide +kernel
theorem dX3_weightOf_51 : decode cX3_weightOf 51 = .ok (.dreturn, 1) := by decide +kernel
theorem dX3_shadowOf_0 : decode cX3_shadowOf 0 = .ok (.lconst 0, 1) := by decide +kernel
theorem dX3_shadowOf_1 : decode cX3_shadowOf 1 = .ok (.lstore_n 3, 1) := by decide +kernel
theorem dX3_shadowOf_2 : decode cX3_shadowOf 2 = .ok (.iconst 0, 1) := by decide +kernel
theorem dX3_shadowOf_3 : decode cX3_shadowOf 3 = .ok (.istore 5, 2) := by decide +kernel
theorem dX3_shadowOf_5 : decode cX3_shadowOf 5 = .ok (.iload 5, 2) := by decide +kernel
theorem dX3_shadowOf_7 : decode cX3_shadowOf 7 = .ok (.aload_n 0, 1) := by decide +kernel
theorem dX3_shadowOf_8 : decode cX3_shadowOf 8 = .ok (.getfield 9, 3) := by decide +kernel
theorem dX3_shadowOf_11 : decode cX3_shadowOf 11 = .ok (.if_icmp .ge 24, 3) := by decide +kernel
theorem dX3_shadowOf_14 : decode cX3_shadowOf 14 = .ok (.lload_n 3, 1) := by decide +kernel
theorem dX3_shadowOf_15 : decode cX3_shadowOf 15 = .ok (.lload_n 1, 1) := by decide +kernel
theorem dX3_shadowOf_16 : decode cX3_shadowOf 16 = .ok (.iload 5, 2) := by decide +kernel
theorem dX3_shadowOf_18 : decode cX3_shadowOf 18 = .ok (.invokestatic 74, 3) := by decide +kernel
theorem dX3_shadowOf_21 : decode cX3_shadowOf 21 = .ok (.land, 1) := by decide +kernel
theorem dX3_shadowOf_22 : decode cX3_shadowOf 22 = .ok (.iconst 1, 1) := by decide +kernel
theorem dX3_shadowOf_23 : decode cX3_shadowOf 23 = .ok (.iload 5, 2) := by decide +kernel
theorem dX3_shadowOf_25 : decode cX3_shadowOf 25 = .ok (.ishl, 1) := by decide +kernel
theorem dX3_shadowOf_26 : decode cX3_shadowOf 26 = .ok (.lushr, 1) := by decide +kernel
theorem dX3_shadowOf_27 : decode cX3_shadowOf 27 = .ok (.lor, 1) := by decide +kernel
theorem dX3_shadowOf_28 : decode cX3_shadowOf 28 = .ok (.lstore_n 3, 1) := by decide +kernel
theorem dX3_shadowOf_29 : decode cX3_shadowOf 29 = .ok (.iinc 5 1, 3) := by decide +kernel
theorem dX3_shadowOf_32 : decode cX3_shadowOf 32 = .ok (.goto (-27), 3) := by decide +kernel
theorem dX3_shadowOf_35 : decode cX3_shadowOf 35 = .ok (.lload_n 3, 1) := by decide +kernel
theorem dX3_shadowOf_36 : decode cX3_shadowOf 36 = .ok (.lreturn, 1) := by decide +kernel
theorem dX3_upperShadowOf_0 : decode cX3_upperShadowOf 0 = .ok (.lconst 0, 1) := by decide +kernel
theorem dX3_upperShadowOf_1 : decode cX3_upperShadowOf 1 = .ok (.lstore_n 3, 1) := by decide +kernel
theorem dX3_upperShadowOf_2 : decode cX3_upperShadowOf 2 = .ok (.iconst 0, 1) := by decide +kernel
theorem dX3_upperShadowOf_3 : decode cX3_upperShadowOf 3 = .ok (.istore 5, 2) := by decide +kernel
theorem dX3_upperShadowOf_5 : decode cX3_upperShadowOf 5 = .ok (.iload 5, 2) := by decide +kernel
theorem dX3_upperShadowOf_7 : decode cX3_upperShadowOf 7 = .ok (.aload_n 0, 1) := by decide +kernel
theorem dX3_upperShadowOf_8 : decode cX3_upperShadowOf 8 = .ok (.getfield 9, 3) := by decide +kernel
theorem dX3_upperShadowOf_11 : decode cX3_upperShadowOf 11 = .ok (.if_icmp .ge 28, 3) := by decide +kernel
theorem dX3_upperShadowOf_14 : decode cX3_upperShadowOf 14 = .ok (.lload_n 3, 1) := by decide +kernel
theorem dX3_upperShadowOf_15 : decode cX3_upperShadowOf 15 = .ok (.lload_n 1, 1) := by decide +kernel
theorem dX3_upperShadowOf_16 : decode cX3_upperShadowOf 16 = .ok (.iload 5, 2) := by decide +kernel
theorem dX3_upperShadowOf_18 : decode cX3_upperShadowOf 18 = .ok (.invokestatic 74, 3) := by decide +kernel
theorem dX3_upperShadowOf_21 : decode cX3_upperShadowOf 21 = .ok (.ldc2_w 56, 3) := by decide +kernel
theorem dX3_upperShadowOf_24 : decode cX3_upperShadowOf 24 = .ok (.lxor, 1) := by decide +kernel
theorem dX3_upperShadowOf_25 : decode cX3_upperShadowOf 25 = .ok (.land, 1) := by decide +kernel
theorem dX3_upperShadowOf_26 : decode cX3_upperShadowOf 26 = .ok (.iconst 1, 1) := by decide +kernel
theorem dX3_upperShadowOf_27 : decode cX3_upperShadowOf 27 = .ok (.iload 5, 2) := by decide +kernel
theorem dX3_upperShadowOf_29 : decode cX3_upperShadowOf 29 = .ok (.ishl, 1) := by decide +kernel
theorem dX3_upperShadowOf_30 : decode cX3_upperShadowOf 30 = .ok (.lshl, 1) := by decide +kernel
theorem dX3_upperShadowOf_31 : decode cX3_upperShadowOf 31 = .ok (.lor, 1) := by decide +kernel
theorem dX3_upperShadowOf_32 : decode cX3_upperShadowOf 32 = .ok (.lstore_n 3, 1) := by decide +kernel
theorem dX3_upperShadowOf_33 : decode cX3_upperShadowOf 33 = .ok (.iinc 5 1, 3) := by decide +kernel
theorem dX3_upperShadowOf_36 : decode cX3_upperShadowOf 36 = .ok (.goto (-31), 3) := by decide +kernel
theorem dX3_upperShadowOf_39 : decode cX3_upperShadowOf 39 = .ok (.lload_n 3, 1) := by decide +kernel
theorem dX3_upperShadowOf_40 : decode cX3_upperShadowOf 40 = .ok (.lreturn, 1) := by decide +kernel
theorem dX3_borderOf_0 : decode cX3_borderOf 0 = .ok (.aload_n 0, 1) := by decide +kernel
theorem dX3_borderOf_1 : decode cX3_borderOf 1 = .ok (.lload_n 1, 1) := by decide +kernel
theorem dX3_borderOf_2 : decode cX3_borderOf 2 = .ok (.invokevirtual 28, 3) := by decide +kernel
theorem dX3_borderOf_5 : decode cX3_borderOf 5 = .ok (.aload_n 0, 1) := by decide +kernel
theorem dX3_borderOf_6 : decode cX3_borderOf 6 = .ok (.lload_n 1, 1) := by decide +kernel
theorem dX3_borderOf_7 : decode cX3_borderOf 7 = .ok (.invokevirtual 85, 3) := by decide +kernel
theorem dX3_borderOf_10 : decode cX3_borderOf 10 = .ok (.lor, 1) := by decide +kernel
theorem dX3_borderOf_11 : decode cX3_borderOf 11 = .ok (.lload_n 1, 1) := by decide +kernel
theorem dX3_borderOf_12 : decode cX3_borderOf 12 = .ok (.ldc2_w 56, 3) := by decide +kernel
theorem dX3_borderOf_15 : decode cX3_borderOf 15 = .ok (.lxor, 1) := by decide +kernel
theorem dX3_borderOf_16 : decode cX3_borderOf 16 = .ok (.land, 1) := by decide +kernel
theorem dX3_borderOf_17 : decode cX3_borderOf 17 = .ok (.lreturn, 1) := by decide +kernel
theorem dX3_edgesOf_0 : decode cX3_edgesOf 0 = .ok (.iconst 0, 1) := by decide +kernel
theorem dX3_edgesOf_1 : decode cX3_edgesOf 1 = .ok (.istore_n 3, 1) := by decide +kernel
theorem dX3_edgesOf_2 : decode cX3_edgesOf 2 = .ok (.iconst 0, 1) := by decide +kernel
theorem dX3_edgesOf_3 : decode cX3_edgesOf 3 = .ok (.istore 4, 2) := by decide +kernel
theorem dX3_edgesOf_5 : decode cX3_edgesOf 5 = .ok (.iload 4, 2) := by decide +kernel
theorem dX3_edgesOf_7 : decode cX3_edgesOf 7 = .ok (.aload_n 0, 1) := by decide +kernel
theorem dX3_edgesOf_8 : decode cX3_edgesOf 8 = .ok (.getfield 9, 3) := by decide +kernel
theorem dX3_edgesOf_11 : decode cX3_edgesOf 11 = .ok (.if_icmp .ge 38, 3) := by decide +kernel
theorem dX3_edgesOf_14 : decode cX3_edgesOf 14 = .ok (.iload_n 3, 1) := by decide +kernel
theorem dX3_edgesOf_15 : decode cX3_edgesOf 15 = .ok (.lload_n 1, 1) := by decide +kernel
theorem dX3_edgesOf_16 : decode cX3_edgesOf 16 = .ok (.lload_n 1, 1) := by decide +kernel
theorem dX3_edgesOf_17 : decode cX3_edgesOf 17 = .ok (.iconst 1, 1) := by decide +kernel
theorem dX3_edgesOf_18 : decode cX3_edgesOf 18 = .ok (.iload 4, 2) := by decide +kernel
theorem dX3_edgesOf_20 : decode cX3_edgesOf 20 = .ok (.ishl, 1) := by decide +kernel
theorem dX3_edgesOf_21 : decode cX3_edgesOf 21 = .ok (.lushr, 1) := by decide +kernel
theorem dX3_edgesOf_22 : decode cX3_edgesOf 22 = .ok (.lxor, 1) := by decide +kernel
theorem dX3_edgesOf_23 : decode cX3_edgesOf 23 = .ok (.iload 4, 2) := by decide +kernel
theorem dX3_edgesOf_25 : decode cX3_edgesOf 25 = .ok (.invokestatic 74, 3) := by decide +kernel
theorem dX3_edgesOf_28 : decode cX3_edgesOf 28 = .ok (.ldc2_w 56, 3) := by decide +kernel
theorem dX3_edgesOf_31 : decode cX3_edgesOf 31 = .ok (.lxor, 1) := by decide +kernel
theorem dX3_edgesOf_32 : decode cX3_edgesOf 32 = .ok (.land, 1) := by decide +kernel
theorem dX3_edgesOf_33 : decode cX3_edgesOf 33 = .ok (.aload_n 0, 1) := by decide +kernel
theorem dX3_edgesOf_34 : decode cX3_edgesOf 34 = .ok (.invokevirtual 49, 3) := by decide +kernel
theorem dX3_edgesOf_37 : decode cX3_edgesOf 37 = .ok (.land, 1) := by decide +kernel
theorem dX3_edgesOf_38 : decode cX3_edgesOf 38 = .ok (.invokestatic 19, 3) := by decide +kernel
theorem dX3_edgesOf_41 : decode cX3_edgesOf 41 = .ok (.iadd, 1) := by decide +kernel
theorem dX3_edgesOf_42 : decode cX3_edgesOf 42 = .ok (.istore_n 3, 1) := by decide +kernel
theorem dX3_edgesOf_43 : decode cX3_edgesOf 43 = .ok (.iinc 4 1, 3) := by decide +kernel
theorem dX3_edgesOf_46 : decode cX3_edgesOf 46 = .ok (.goto (-41), 3) := by decide +kernel
theorem dX3_edgesOf_49 : decode cX3_edgesOf 49 = .ok (.iload_n 3, 1) := by decide +kernel
theorem dX3_edgesOf_50 : decode cX3_edgesOf 50 = .ok (.ireturn, 1) := by decide +kernel
theorem dX3_withParts_0 : decode cX3_withParts 0 = .ok (.lload_n 1, 1) := by decide +kernel
theorem dX3_withParts_1 : decode cX3_withParts 1 = .ok (.lstore_n 3, 1) := by decide +kernel
theorem dX3_withParts_2 : decode cX3_withParts 2 = .ok (.iconst 0, 1) := by decide +kernel
theorem dX3_withParts_3 : decode cX3_withParts 3 = .ok (.istore 5, 2) := by decide +kernel
theorem dX3_withParts_5 : decode cX3_withParts 5 = .ok (.iload 5, 2) := by decide +kernel
theorem dX3_withParts_7 : decode cX3_withParts 7 = .ok (.aload_n 0, 1) := by decide +kernel
theorem dX3_withParts_8 : decode cX3_withParts 8 = .ok (.getfield 9, 3) := by decide +kernel
theorem dX3_withParts_11 : decode cX3_withParts 11 = .ok (.if_icmp .ge 24, 3) := by decide +kernel
theorem dX3_withParts_14 : decode cX3_withParts 14 = .ok (.lload_n 3, 1) := by decide +kernel
theorem dX3_withParts_15 : decode cX3_withParts 15 = .ok (.lload_n 3, 1) := by decide +kernel
theorem dX3_withParts_16 : decode cX3_withParts 16 = .ok (.iload 5, 2) := by decide +kernel
theorem dX3_withParts_18 : decode cX3_withParts 18 = .ok (.invokestatic 74, 3) := by decide +kernel
theorem dX3_withParts_21 : decode cX3_withParts 21 = .ok (.land, 1) := by decide +kernel
theorem dX3_withParts_22 : decode cX3_withParts 22 = .ok (.iconst 1, 1) := by decide +kernel
theorem dX3_withParts_23 : decode cX3_withParts 23 = .ok (.iload 5, 2) := by decide +kernel
theorem dX3_withParts_25 : decode cX3_withParts 25 = .ok (.ishl, 1) := by decide +kernel
theorem dX3_withParts_26 : decode cX3_withParts 26 = .ok (.lushr, 1) := by decide +kernel
theorem dX3_withParts_27 : decode cX3_withParts 27 = .ok (.lor, 1) := by decide +kernel
theorem dX3_withParts_28 : decode cX3_withParts 28 = .ok (.lstore_n 3, 1) := by decide +kernel
theorem dX3_withParts_29 : decode cX3_withParts 29 = .ok (.iinc 5 1, 3) := by decide +kernel
theorem dX3_withParts_32 : decode cX3_withParts 32 = .ok (.goto (-27), 3) := by decide +kernel
theorem dX3_withParts_35 : decode cX3_withParts 35 = .ok (.lload_n 3, 1) := by decide +kernel
theorem dX3_withParts_36 : decode cX3_withParts 36 = .ok (.lreturn, 1) := by decide +kernel
theorem dX3_isAntichain_0 : decode cX3_isAntichain 0 = .ok (.aload_n 0, 1) := by decide +kernel
theorem dX3_isAntichain_1 : decode cX3_isAntichain 1 = .ok (.aload_n 0, 1) := by decide +kernel
theorem dX3_isAntichain_2 : decode cX3_isAntichain 2 = .ok (.lload_n 1, 1) := by decide +kernel
theorem dX3_isAntichain_3 : decode cX3_isAntichain 3 = .ok (.invokevirtual 28, 3) := by decide +kernel
theorem dX3_isAntichain_6 : decode cX3_isAntichain 6 = .ok (.invokevirtual 68, 3) := by decide +kernel
theorem dX3_isAntichain_9 : decode cX3_isAntichain 9 = .ok (.lload_n 1, 1) := by decide +kernel
theorem dX3_isAntichain_10 : decode cX3_isAntichain 10 = .ok (.land, 1) := by decide +kernel
theorem dX3_isAntichain_11 : decode cX3_isAntichain 11 = .ok (.lconst 0, 1) := by decide +kernel
theorem dX3_isAntichain_12 : decode cX3_isAntichain 12 = .ok (.lcmp, 1) := by decide +kernel
theorem dX3_isAntichain_13 : decode cX3_isAntichain 13 = .ok (.ifCond .ne 7, 3) := by decide +kernel
theorem dX3_isAntichain_16 : decode cX3_isAntichain 16 = .ok (.iconst 1, 1) := by decide +kernel
theorem dX3_isAntichain_17 : decode cX3_isAntichain 17 = .ok (.goto 4, 3) := by decide +kernel
theorem dX3_isAntichain_20 : decode cX3_isAntichain 20 = .ok (.iconst 0, 1) := by decide +kernel
theorem dX3_isAntichain_21 : decode cX3_isAntichain 21 = .ok (.ireturn, 1) := by decide +kernel
theorem dX3_isIntersecting_0 : decode cX3_isIntersecting 0 = .ok (.aload_n 0, 1) := by decide +kernel
theorem dX3_isIntersecting_1 : decode cX3_isIntersecting 1 = .ok (.aload_n 0, 1) := by decide +kernel
theorem dX3_isIntersecting_2 : decode cX3_isIntersecting 2 = .ok (.lload_n 1, 1) := by decide +kernel
theorem dX3_isIntersecting_3 : decode cX3_isIntersecting 3 = .ok (.invokevirtual 58, 3) := by decide +kernel
theorem dX3_isIntersecting_6 : decode cX3_isIntersecting 6 = .ok (.invokevirtual 68, 3) := by decide +kernel
theorem dX3_isIntersecting_9 : decode cX3_isIntersecting 9 = .ok (.lload_n 1, 1) := by decide +kernel
theorem dX3_isIntersecting_10 : decode cX3_isIntersecting 10 = .ok (.land, 1) := by decide +kernel
theorem dX3_isIntersecting_11 : decode cX3_isIntersecting 11 = .ok (.lconst 0, 1) := by decide +kernel
theorem dX3_isIntersecting_12 : decode cX3_isIntersecting 12 = .ok (.lcmp, 1) := by decide +kernel
theorem dX3_isIntersecting_13 : decode cX3_isIntersecting 13 = .ok (.ifCond .ne 7, 3) := by decide +kernel
theorem dX3_isIntersecting_16 : decode cX3_isIntersecting 16 = .ok (.iconst 1, 1) := by decide +kernel
theorem dX3_isIntersecting_17 : decode cX3_isIntersecting 17 = .ok (.goto 4, 3) := by decide +kernel
theorem dX3_isIntersecting_20 : decode cX3_isIntersecting 20 = .ok (.iconst 0, 1) := by decide +kernel
theorem dX3_isIntersecting_21 : decode cX3_isIntersecting 21 = .ok (.ireturn, 1) := by decide +kernel
theorem dX3_pressedBy_0 : decode cX3_pressedBy 0 = .ok (.iconst 1, 1) := by decide +kernel
theorem dX3_pressedBy_1 : decode cX3_pressedBy 1 = .ok (.iload 4, 2) := by decide +kernel
theorem dX3_pressedBy_3 : decode cX3_pressedBy 3 = .ok (.ishl, 1) := by decide +kernel
theorem dX3_pressedBy_4 : decode cX3_pressedBy 4 = .ok (.iconst 1, 1) := by decide +kernel
theorem dX3_pressedBy_5 : decode cX3_pressedBy 5 = .ok (.iload_n 3, 1) := by decide +kernel
theorem dX3_pressedBy_6 : decode cX3_pressedBy 6 = .ok (.ishl, 1) := by decide +kernel
theorem dX3_pressedBy_7 : decode cX3_pressedBy 7 = .ok (.isub, 1) := by decide +kernel
theorem dX3_pressedBy_8 : decode cX3_pressedBy 8 = .ok (.istore 5, 2) := by decide +kernel
theorem dX3_pressedBy_10 : decode cX3_pressedBy 10 = .ok (.lload_n 1, 1) := by decide +kernel
theorem dX3_pressedBy_11 : decode cX3_pressedBy 11 = .ok (.iload 4, 2) := by decide +kernel
theorem dX3_pressedBy_13 : decode cX3_pressedBy 13 = .ok (.invokestatic 74, 3) := by decide +kernel
theorem dX3_pressedBy_16 : decode cX3_pressedBy 16 = .ok (.land, 1) := by decide +kernel
theorem dX3_pressedBy_17 : decode cX3_pressedBy 17 = .ok (.iload_n 3, 1) := by decide +kernel
theorem dX3_pressedBy_18 : decode cX3_pressedBy 18 = .ok (.invokestatic 74, 3) := by decide +kernel
theorem dX3_pressedBy_21 : decode cX3_pressedBy 21 = .ok (.ldc2_w 56, 3) := by decide +kernel
theorem dX3_pressedBy_24 : decode cX3_pressedBy 24 = .ok (.lxor, 1) := by decide +kernel
theorem dX3_pressedBy_25 : decode cX3_pressedBy 25 = .ok (.land, 1) := by decide +kernel
theorem dX3_pressedBy_26 : decode cX3_pressedBy 26 = .ok (.iload 5, 2) := by decide +kernel
theorem dX3_pressedBy_28 : decode cX3_pressedBy 28 = .ok (.lushr, 1) := by decide +kernel
theorem dX3_pressedBy_29 : decode cX3_pressedBy 29 = .ok (.lload_n 1, 1) := by decide +kernel
theorem dX3_pressedBy_30 : decode cX3_pressedBy 30 = .ok (.ldc2_w 56, 3) := by decide +kernel
theorem dX3_pressedBy_33 : decode cX3_pressedBy 33 = .ok (.lxor, 1) := by decide +kernel
theorem dX3_pressedBy_34 : decode cX3_pressedBy 34 = .ok (.land, 1) := by decide +kernel
theorem dX3_pressedBy_35 : decode cX3_pressedBy 35 = .ok (.lstore 6, 2) := by decide +kernel
theorem dX3_pressedBy_37 : decode cX3_pressedBy 37 = .ok (.lload_n 1, 1) := by decide +kernel
theorem dX3_pressedBy_38 : decode cX3_pressedBy 38 = .ok (.lload 6, 2) := by decide +kernel
theorem dX3_pressedBy_40 : decode cX3_pressedBy 40 = .ok (.iload 5, 2) := by decide +kernel
theorem dX3_pressedBy_42 : decode cX3_pressedBy 42 = .ok (.lshl, 1) := by decide +kernel
theorem dX3_pressedBy_43 : decode cX3_pressedBy 43 = .ok (.ldc2_w 56, 3) := by decide +kernel
theorem dX3_pressedBy_46 : decode cX3_pressedBy 46 = .ok (.lxor, 1) := by decide +kernel
theorem dX3_pressedBy_47 : decode cX3_pressedBy 47 = .ok (.land, 1) := by decide +kernel
theorem dX3_pressedBy_48 : decode cX3_pressedBy 48 = .ok (.lload 6, 2) := by decide +kernel
theorem dX3_pressedBy_50 : decode cX3_pressedBy 50 = .ok (.lor, 1) := by decide +kernel
theorem dX3_pressedBy_51 : decode cX3_pressedBy 51 = .ok (.lreturn, 1) := by decide +kernel
theorem dX3_pressedByAll_0 : decode cX3_pressedByAll 0 = .ok (.lload_n 1, 1) := by decide +kernel
theorem dX3_pressedByAll_1 : decode cX3_pressedByAll 1 = .ok (.lstore_n 3, 1) := by decide +kernel
theorem dX3_pressedByAll_2 : decode cX3_pressedByAll 2 = .ok (.iconst 1, 1) := by decide +kernel
theorem dX3_pressedByAll_3 : decode cX3_pressedByAll 3 = .ok (.istore 5, 2) := by decide +kernel
theorem dX3_pressedByAll_5 : decode cX3_pressedByAll 5 = .ok (.iload 5, 2) := by decide +kernel
theorem dX3_pressedByAll_7 : decode cX3_pressedByAll 7 = .ok (.aload_n 0, 1) := by decide +kernel
theorem dX3_pressedByAll_8 : decode cX3_pressedByAll 8 = .ok (.getfield 9, 3) := by decide +kernel
theorem dX3_pressedByAll_11 : decode cX3_pressedByAll 11 = .ok (.if_icmp .ge 35, 3) := by decide +kernel
theorem dX3_pressedByAll_14 : decode cX3_pressedByAll 14 = .ok (.iconst 0, 1) := by decide +kernel
theorem dX3_pressedByAll_15 : decode cX3_pressedByAll 15 = .ok (.istore 6, 2) := by decide +kernel
theorem dX3_pressedByAll_17 : decode cX3_pressedByAll 17 = .ok (.iload 6, 2) := by decide +kernel
theorem dX3_pressedByAll_19 : decode cX3_pressedByAll 19 = .ok (.iload 5, 2) := by decide +kernel
theorem dX3_pressedByAll_21 : decode cX3_pressedByAll 21 = .ok (.if_icmp .ge 19, 3) := by decide +kernel
theorem dX3_pressedByAll_24 : decode cX3_pressedByAll 24 = .ok (.aload_n 0, 1) := by decide +kernel
theorem dX3_pressedByAll_25 : decode cX3_pressedByAll 25 = .ok (.lload_n 3, 1) := by decide +kernel
theorem dX3_pressedByAll_26 : decode cX3_pressedByAll 26 = .ok (.iload 6, 2) := by decide +kernel
theorem dX3_pressedByAll_28 : decode cX3_pressedByAll 28 = .ok (.iload 5, 2) := by decide +kernel
theorem dX3_pressedByAll_30 : decode cX3_pressedByAll 30 = .ok (.invokevirtual 88, 3) := by decide +kernel
theorem dX3_pressedByAll_33 : decode cX3_pressedByAll 33 = .ok (.lstore_n 3, 1) := by decide +kernel
theorem dX3_pressedByAll_34 : decode cX3_pressedByAll 34 = .ok (.iinc 6 1, 3) := by decide +kernel
theorem dX3_pressedByAll_37 : decode cX3_pressedByAll 37 = .ok (.goto (-20), 3) := by decide +kernel
theorem dX3_pressedByAll_40 : decode cX3_pressedByAll 40 = .ok (.iinc 5 1, 3) := by decide +kernel
theorem dX3_pressedByAll_43 : decode cX3_pressedByAll 43 = .ok (.goto (-38), 3) := by decide +kernel
theorem dX3_pressedByAll_46 : decode cX3_pressedByAll 46 = .ok (.lload_n 3, 1) := by decide +kernel
theorem dX3_pressedByAll_47 : decode cX3_pressedByAll 47 = .ok (.lreturn, 1) := by decide +kernel
theorem dX3_pressedToRest_0 : decode cX3_pressedToRest 0 = .ok (.lload_n 1, 1) := by decide +kernel
theorem dX3_pressedToRest_1 : decode cX3_pressedToRest 1 = .ok (.lstore_n 3, 1) := by decide +kernel
theorem dX3_pressedToRest_2 : decode cX3_pressedToRest 2 = .ok (.iconst 0, 1) := by decide +kernel
theorem dX3_pressedToRest_3 : decode cX3_pressedToRest 3 = .ok (.istore 5, 2) := by decide +kernel
theorem dX3_pressedToRest_5 : decode cX3_pressedToRest 5 = .ok (.iload 5, 2) := by decide +kernel
theorem dX3_pressedToRest_7 : decode cX3_pressedToRest 7 = .ok (.sipush 4096, 3) := by decide +kernel
theorem dX3_pressedToRest_10 : decode cX3_pressedToRest 10 = .ok (.if_icmp .ge 29, 3) := by decide +kernel
theorem dX3_pressedToRest_13 : decode cX3_pressedToRest 13 = .ok (.aload_n 0, 1) := by decide +kernel
theorem dX3_pressedToRest_14 : decode cX3_pressedToRest 14 = .ok (.lload_n 3, 1) := by decide +kernel
theorem dX3_pressedToRest_15 : decode cX3_pressedToRest 15 = .ok (.invokevirtual 92, 3) := by decide +kernel
theorem dX3_pressedToRest_18 : decode cX3_pressedToRest 18 = .ok (.lstore 6, 2) := by decide +kernel
theorem dX3_pressedToRest_20 : decode cX3_pressedToRest 20 = .ok (.lload 6, 2) := by decide +kernel
theorem dX3_pressedToRest_22 : decode cX3_pressedToRest 22 = .ok (.lload_n 3, 1) := by decide +kernel
theorem dX3_pressedToRest_23 : decode cX3_pressedToRest 23 = .ok (.lcmp, 1) := by decide +kernel
theorem dX3_pressedToRest_24 : decode cX3_pressedToRest 24 = .ok (.ifCond .ne 6, 3) := by decide +kernel
theorem dX3_pressedToRest_27 : decode cX3_pressedToRest 27 = .ok (.goto 12, 3) := by decide +kernel
theorem dX3_pressedToRest_30 : decode cX3_pressedToRest 30 = .ok (.lload 6, 2) := by decide +kernel
theorem dX3_pressedToRest_32 : decode cX3_pressedToRest 32 = .ok (.lstore_n 3, 1) := by decide +kernel
theorem dX3_pressedToRest_33 : decode cX3_pressedToRest 33 = .ok (.iinc 5 1, 3) := by decide +kernel
theorem dX3_pressedToRest_36 : decode cX3_pressedToRest 36 = .ok (.goto (-31), 3) := by decide +kernel
theorem dX3_pressedToRest_39 : decode cX3_pressedToRest 39 = .ok (.lload_n 3, 1) := by decide +kernel
theorem dX3_pressedToRest_40 : decode cX3_pressedToRest 40 = .ok (.lreturn, 1) := by decide +kernel
theorem dX3_roundsOf_0 : decode cX3_roundsOf 0 = .ok (.lload_n 1, 1) := by decide +kernel
theorem dX3_roundsOf_1 : decode cX3_roundsOf 1 = .ok (.lstore_n 3, 1) := by decide +kernel
theorem dX3_roundsOf_2 : decode cX3_roundsOf 2 = .ok (.iconst 0, 1) := by decide +kernel
theorem dX3_roundsOf_3 : decode cX3_roundsOf 3 = .ok (.istore 5, 2) := by decide +kernel
theorem dX3_roundsOf_5 : decode cX3_roundsOf 5 = .ok (.iconst 0, 1) := by decide +kernel
theorem dX3_roundsOf_6 : decode cX3_roundsOf 6 = .ok (.istore 6, 2) := by decide +kernel
theorem dX3_roundsOf_8 : decode cX3_roundsOf 8 = .ok (.iload 6, 2) := by decide +kernel
theorem dX3_roundsOf_10 : decode cX3_roundsOf 10 = .ok (.sipush 4096, 3) := by decide +kernel
theorem dX3_roundsOf_13 : decode cX3_roundsOf 13 = .ok (.if_icmp .ge 88, 3) := by decide +kernel
theorem dX3_roundsOf_16 : decode cX3_roundsOf 16 = .ok (.iload 5, 2) := by decide +kernel
theorem dX3_roundsOf_18 : decode cX3_roundsOf 18 = .ok (.istore 7, 2) := by decide +kernel
theorem dX3_roundsOf_20 : decode cX3_roundsOf 20 = .ok (.iconst 1, 1) := by decide +kernel
theorem dX3_roundsOf_21 : decode cX3_roundsOf 21 = .ok (.istore 8, 2) := by decide +kernel
theorem dX3_roundsOf_23 : decode cX3_roundsOf 23 = .ok (.iload 8, 2) := by decide +kernel
theorem dX3_roundsOf_25 : decode cX3_roundsOf 25 = .ok (.aload_n 0, 1) := by decide +kernel
theorem dX3_roundsOf_26 : decode cX3_roundsOf 26 = .ok (.getfield 9, 3) := by decide +kernel
theorem dX3_roundsOf_29 : decode cX3_roundsOf 29 = .ok (.if_icmp .ge 56, 3) := by decide +kernel
theorem dX3_roundsOf_32 : decode cX3_roundsOf 32 = .ok (.iconst 0, 1) := by decide +kernel
theorem dX3_roundsOf_33 : decode cX3_roundsOf 33 = .ok (.istore 9, 2) := by decide +kernel
theorem dX3_roundsOf_35 : decode cX3_roundsOf 35 = .ok (.iload 9, 2) := by decide +kernel
theorem dX3_roundsOf_37 : decode cX3_roundsOf 37 = .ok (.iload 8, 2) := by decide +kernel
theorem dX3_roundsOf_39 : decode cX3_roundsOf 39 = .ok (.if_icmp .ge 40, 3) := by decide +kernel
theorem dX3_roundsOf_42 : decode cX3_roundsOf 42 = .ok (.aload_n 0, 1) := by decide +kernel
theorem dX3_roundsOf_43 : decode cX3_roundsOf 43 = .ok (.lload_n 3, 1) := by decide +kernel
theorem dX3_roundsOf_44 : decode cX3_roundsOf 44 = .ok (.iload 9, 2) := by decide +kernel
theorem dX3_roundsOf_46 : decode cX3_roundsOf 46 = .ok (.iload 8, 2) := by decide +kernel
theorem dX3_roundsOf_48 : decode cX3_roundsOf 48 = .ok (.invokevirtual 88, 3) := by decide +kernel
theorem dX3_roundsOf_51 : decode cX3_roundsOf 51 = .ok (.lstore 10, 2) := by decide +kernel
theorem dX3_roundsOf_53 : decode cX3_roundsOf 53 = .ok (.iload 5, 2) := by decide +kernel
theorem dX3_roundsOf_55 : decode cX3_roundsOf 55 = .ok (.lload 10, 2) := by decide +kernel
theorem dX3_roundsOf_57 : decode cX3_roundsOf 57 = .ok (.lload_n 3, 1) := by decide +kernel
theorem dX3_roundsOf_58 : decode cX3_roundsOf 58 = .ok (.lcmp, 1) := by decide +kernel
theorem dX3_roundsOf_59 : decode cX3_roundsOf 59 = .ok (.ifCond .ne 7, 3) := by decide +kernel
theorem dX3_roundsOf_62 : decode cX3_roundsOf 62 = .ok (.iconst 0, 1) := by decide +kernel
theorem dX3_roundsOf_63 : decode cX3_roundsOf 63 = .ok (.goto 4, 3) := by decide +kernel
theorem dX3_roundsOf_66 : decode cX3_roundsOf 66 = .ok (.iconst 1, 1) := by decide +kernel
theorem dX3_roundsOf_67 : decode cX3_roundsOf 67 = .ok (.iadd, 1) := by decide +kernel
theorem dX3_roundsOf_68 : decode cX3_roundsOf 68 = .ok (.istore 5, 2) := by decide +kernel
theorem dX3_roundsOf_70 : decode cX3_roundsOf 70 = .ok (.lload 10, 2) := by decide +kernel
theorem dX3_roundsOf_72 : decode cX3_roundsOf 72 = .ok (.lstore_n 3, 1) := by decide +kernel
theorem dX3_roundsOf_73 : decode cX3_roundsOf 73 = .ok (.iinc 9 1, 3) := by decide +kernel
theorem dX3_roundsOf_76 : decode cX3_roundsOf 76 = .ok (.goto (-41), 3) := by decide +kernel
theorem dX3_roundsOf_79 : decode cX3_roundsOf 79 = .ok (.iinc 8 1, 3) := by decide +kernel
theorem dX3_roundsOf_82 : decode cX3_roundsOf 82 = .ok (.goto (-59), 3) := by decide +kernel
theorem dX3_roundsOf_85 : decode cX3_roundsOf 85 = .ok (.iload 5, 2) := by decide +kernel
theorem dX3_roundsOf_87 : decode cX3_roundsOf 87 = .ok (.iload 7, 2) := by decide +kernel
theorem dX3_roundsOf_89 : decode cX3_roundsOf 89 = .ok (.if_icmp .ne 6, 3) := by decide +kernel
theorem dX3_roundsOf_92 : decode cX3_roundsOf 92 = .ok (.goto 9, 3) := by decide +kernel
theorem dX3_roundsOf_95 : decode cX3_roundsOf 95 = .ok (.iinc 6 1, 3) := by decide +kernel
theorem dX3_roundsOf_98 : decode cX3_roundsOf 98 = .ok (.goto (-90), 3) := by decide +kernel
theorem dX3_roundsOf_101 : decode cX3_roundsOf 101 = .ok (.iload 5, 2) := by decide +kernel
theorem dX3_roundsOf_103 : decode cX3_roundsOf 103 = .ok (.ireturn, 1) := by decide +kernel
theorem dX4_init_0 : decode cX4_init 0 = .ok (.aload_n 0, 1) := by decide +kernel
theorem dX4_init_1 : decode cX4_init 1 = .ok (.invokespecial 3, 3) := by decide +kernel
theorem dX4_init_4 : decode cX4_init 4 = .ok (.aload_n 0, 1) := by decide +kernel
theorem dX4_init_5 : decode cX4_init 5 = .ok (.bipush 8, 2) := by decide +kernel
theorem dX4_init_7 : decode cX4_init 7 = .ok (.anewarray 9, 3) := by decide +kernel
theorem dX4_init_10 : decode cX4_init 10 = .ok (.putfield 11, 3) := by decide +kernel
theorem dX4_init_13 : decode cX4_init 13 = .ok (.return_, 1) := by decide +kernel
theorem dX4_many_0 : decode cX4_many 0 = .ok (.aload_n 0, 1) := by decide +kernel
theorem dX4_many_1 : decode cX4_many 1 = .ok (.getfield 17, 3) := by decide +kernel
theorem dX4_many_4 : decode cX4_many 4 = .ok (.ireturn, 1) := by decide +kernel
theorem dX4_isFull_0 : decode cX4_isFull 0 = .ok (.aload_n 0, 1) := by decide +kernel
theorem dX4_isFull_1 : decode cX4_isFull 1 = .ok (.getfield 17, 3) := by decide +kernel
theorem dX4_isFull_4 : decode cX4_isFull 4 = .ok (.aload_n 0, 1) := by decide +kernel
theorem dX4_isFull_5 : decode cX4_isFull 5 = .ok (.getfield 11, 3) := by decide +kernel
theorem dX4_isFull_8 : decode cX4_isFull 8 = .ok (.arraylength, 1) := by decide +kernel
theorem dX4_isFull_9 : decode cX4_isFull 9 = .ok (.if_icmp .lt 7, 3) := by decide +kernel
theorem dX4_isFull_12 : decode cX4_isFull 12 = .ok (.iconst 1, 1) := by decide +kernel
theorem dX4_isFull_13 : decode cX4_isFull 13 = .ok (.goto 4, 3) := by decide +kernel
theorem dX4_isFull_16 : decode cX4_isFull 16 = .ok (.iconst 0, 1) := by decide +kernel
theorem dX4_isFull_17 : decode cX4_isFull 17 = .ok (.ireturn, 1) := by decide +kernel
theorem dX4_at_0 : decode cX4_at 0 = .ok (.iload_n 1, 1) := by decide +kernel
theorem dX4_at_1 : decode cX4_at 1 = .ok (.ifCond .lt 29, 3) := by decide +kernel
theorem dX4_at_4 : decode cX4_at 4 = .ok (.iload_n 1, 1) := by decide +kernel
theorem dX4_at_5 : decode cX4_at 5 = .ok (.aload_n 0, 1) := by decide +kernel
theorem dX4_at_6 : decode cX4_at 6 = .ok (.getfield 17, 3) := by decide +kernel
theorem dX4_at_9 : decode cX4_at 9 = .ok (.if_icmp .ge 21, 3) := by decide +kernel
theorem dX4_at_12 : decode cX4_at 12 = .ok (.iload_n 1, 1) := by decide +kernel
theorem dX4_at_13 : decode cX4_at 13 = .ok (.aload_n 0, 1) := by decide +kernel
theorem dX4_at_14 : decode cX4_at 14 = .ok (.getfield 11, 3) := by decide +kernel
theorem dX4_at_17 : decode cX4_at 17 = .ok (.arraylength, 1) := by decide +kernel
theorem dX4_at_18 : decode cX4_at 18 = .ok (.if_icmp .ge 12, 3) := by decide +kernel
theorem dX4_at_21 : decode cX4_at 21 = .ok (.aload_n 0, 1) := by decide +kernel
theorem dX4_at_22 : decode cX4_at 22 = .ok (.getfield 11, 3) := by decide +kernel
theorem dX4_at_25 : decode cX4_at 25 = .ok (.iload_n 1, 1) := by decide +kernel
theorem dX4_at_26 : decode cX4_at 26 = .ok (.aaload, 1) := by decide +kernel
theorem dX4_at_27 : decode cX4_at 27 = .ok (.goto 4, 3) := by decide +kernel
theorem dX4_at_30 : decode cX4_at 30 = .ok (.aconst_null, 1) := by decide +kernel
theorem dX4_at_31 : decode cX4_at 31 = .ok (.areturn, 1) := by decide +kernel
theorem dX4_add_0 : decode cX4_add 0 = .ok (.aload_n 0, 1) := by decide +kernel
theorem dX4_add_1 : decode cX4_add 1 = .ok (.getfield 17, 3) := by decide +kernel
theorem dX4_add_4 : decode cX4_add 4 = .ok (.ifCond .lt 15, 3) := by decide +kernel
theorem dX4_add_7 : decode cX4_add 7 = .ok (.aload_n 0, 1) := by decide +kernel
theorem dX4_add_8 : decode cX4_add 8 = .ok (.getfield 17, 3) := by decide +kernel
theorem dX4_add_11 : decode cX4_add 11 = .ok (.aload_n 0, 1) := by decide +kernel
theorem dX4_add_12 : decode cX4_add 12 = .ok (.getfield 11, 3) := by decide +kernel
theorem dX4_add_15 : decode cX4_add 15 = .ok (.arraylength, 1) := by decide +kernel
theorem dX4_add_16 : decode cX4_add 16 = .ok (.if_icmp .lt 6, 3) := by decide +kernel
theorem dX4_add_19 : decode cX4_add 19 = .ok (.bipush (-3), 2) := by decide +kernel
theorem dX4_add_21 : decode cX4_add 21 = .ok (.ireturn, 1) := by decide +kernel
theorem dX4_add_22 : decode cX4_add 22 = .ok (.aload_n 0, 1) := by decide +kernel
theorem dX4_add_23 : decode cX4_add 23 = .ok (.getfield 11, 3) := by decide +kernel
theorem dX4_add_26 : decode cX4_add 26 = .ok (.aload_n 0, 1) := by decide +kernel
theorem dX4_add_27 : decode cX4_add 27 = .ok (.getfield 17, 3) := by decide +kernel
theorem dX4_add_30 : decode cX4_add 30 = .ok (.aload_n 1, 1) := by decide +kernel
theorem dX4_add_31 : decode cX4_add 31 = .ok (.aastore, 1) := by decide +kernel
theorem dX4_add_32 : decode cX4_add 32 = .ok (.aload_n 0, 1) := by decide +kernel
theorem dX4_add_33 : decode cX4_add 33 = .ok (.dup, 1) := by decide +kernel
theorem dX4_add_34 : decode cX4_add 34 = .ok (.getfield 17, 3) := by decide +kernel
theorem dX4_add_37 : decode cX4_add 37 = .ok (.iconst 1, 1) := by decide +kernel
theorem dX4_add_38 : decode cX4_add 38 = .ok (.iadd, 1) := by decide +kernel
theorem dX4_add_39 : decode cX4_add 39 = .ok (.putfield 17, 3) := by decide +kernel
theorem dX4_add_42 : decode cX4_add 42 = .ok (.aload_n 0, 1) := by decide +kernel
theorem dX4_add_43 : decode cX4_add 43 = .ok (.getfield 17, 3) := by decide +kernel
theorem dX4_add_46 : decode cX4_add 46 = .ok (.iconst 1, 1) := by decide +kernel
theorem dX4_add_47 : decode cX4_add 47 = .ok (.isub, 1) := by decide +kernel
theorem dX4_add_48 : decode cX4_add 48 = .ok (.ireturn, 1) := by decide +kernel
theorem dX4_removeLast_0 : decode cX4_removeLast 0 = .ok (.aload_n 0, 1) := by decide +kernel
theorem dX4_removeLast_1 : decode cX4_removeLast 1 = .ok (.getfield 17, 3) := by decide +kernel
theorem dX4_removeLast_4 : decode cX4_removeLast 4 = .ok (.ifCond .gt 5, 3) := by decide +kernel
theorem dX4_removeLast_7 : decode cX4_removeLast 7 = .ok (.iconst 0, 1) := by decide +kernel
theorem dX4_removeLast_8 : decode cX4_removeLast 8 = .ok (.ireturn, 1) := by decide +kernel
theorem dX4_removeLast_9 : decode cX4_removeLast 9 = .ok (.aload_n 0, 1) := by decide +kernel
theorem dX4_removeLast_10 : decode cX4_removeLast 10 = .ok (.dup, 1) := by decide +kernel
theorem dX4_removeLast_11 : decode cX4_removeLast 11 = .ok (.getfield 17, 3) := by decide +kernel
theorem dX4_removeLast_14 : decode cX4_removeLast 14 = .ok (.iconst 1, 1) := by decide +kernel
theorem dX4_removeLast_15 : decode cX4_removeLast 15 = .ok (.isub, 1) := by decide +kernel
theorem dX4_removeLast_16 : decode cX4_removeLast 16 = .ok (.putfield 17, 3) := by decide +kernel
theorem dX4_removeLast_19 : decode cX4_removeLast 19 = .ok (.iconst 1, 1) := by decide +kernel
theorem dX4_removeLast_20 : decode cX4_removeLast 20 = .ok (.ireturn, 1) := by decide +kernel
theorem dX4_clear_0 : decode cX4_clear 0 = .ok (.aload_n 0, 1) := by decide +kernel
theorem dX4_clear_1 : decode cX4_clear 1 = .ok (.iconst 0, 1) := by decide +kernel
theorem dX4_clear_2 : decode cX4_clear 2 = .ok (.putfield 17, 3) := by decide +kernel
theorem dX4_clear_5 : decode cX4_clear 5 = .ok (.return_, 1) := by decide +kernel
theorem dX4_replace_0 : decode cX4_replace 0 = .ok (.iload_n 1, 1) := by decide +kernel
theorem dX4_replace_1 : decode cX4_replace 1 = .ok (.ifCond .lt 27, 3) := by decide +kernel
theorem dX4_replace_4 : decode cX4_replace 4 = .ok (.iload_n 1, 1) := by decide +kernel
theorem dX4_replace_5 : decode cX4_replace 5 = .ok (.aload_n 0, 1) := by decide +kernel
theorem dX4_replace_6 : decode cX4_replace 6 = .ok (.getfield 17, 3) := by decide +kernel
theorem dX4_replace_9 : decode cX4_replace 9 = .ok (.if_icmp .ge 19, 3) := by decide +kernel
theorem dX4_replace_12 : decode cX4_replace 12 = .ok (.iload_n 1, 1) := by decide +kernel
theorem dX4_replace_13 : decode cX4_replace 13 = .ok (.aload_n 0, 1) := by decide +kernel
theorem dX4_replace_14 : decode cX4_replace 14 = .ok (.getfield 11, 3) := by decide +kernel
theorem dX4_replace_17 : decode cX4_replace 17 = .ok (.arraylength, 1) := by decide +kernel
theorem dX4_replace_18 : decode cX4_replace 18 = .ok (.if_icmp .ge 10, 3) := by decide +kernel
theorem dX4_replace_21 : decode cX4_replace 21 = .ok (.aload_n 0, 1) := by decide +kernel
theorem dX4_replace_22 : decode cX4_replace 22 = .ok (.getfield 11, 3) := by decide +kernel
theorem dX4_replace_25 : decode cX4_replace 25 = .ok (.iload_n 1, 1) := by decide +kernel
theorem dX4_replace_26 : decode cX4_replace 26 = .ok (.aload_n 2, 1) := by decide +kernel
theorem dX4_replace_27 : decode cX4_replace 27 = .ok (.aastore, 1) := by decide +kernel
theorem dX4_replace_28 : decode cX4_replace 28 = .ok (.return_, 1) := by decide +kernel
theorem dX4_becomeLike_0 : decode cX4_becomeLike 0 = .ok (.iconst 0, 1) := by decide +kernel
theorem dX4_becomeLike_1 : decode cX4_becomeLike 1 = .ok (.istore_n 2, 1) := by decide +kernel
theorem dX4_becomeLike_2 : decode cX4_becomeLike 2 = .ok (.iload_n 2, 1) := by decide +kernel
theorem dX4_becomeLike_3 : decode cX4_becomeLike 3 = .ok (.aload_n 0, 1) := by decide +kernel
theorem dX4_becomeLike_4 : decode cX4_becomeLike 4 = .ok (.getfield 11, 3) := by decide +kernel
theorem dX4_becomeLike_7 : decode cX4_becomeLike 7 = .ok (.arraylength, 1) := by decide +kernel
theorem dX4_becomeLike_8 : decode cX4_becomeLike 8 = .ok (.if_icmp .ge 30, 3) := by decide +kernel
theorem dX4_becomeLike_11 : decode cX4_becomeLike 11 = .ok (.iload_n 2, 1) := by decide +kernel
theorem dX4_becomeLike_12 : decode cX4_becomeLike 12 = .ok (.aload_n 1, 1) := by decide +kernel
theorem dX4_becomeLike_13 : decode cX4_becomeLike 13 = .ok (.getfield 11, 3) := by decide +kernel
theorem dX4_becomeLike_16 : decode cX4_becomeLike 16 = .ok (.arraylength, 1) := by decide +kernel
theorem dX4_becomeLike_17 : decode cX4_becomeLike 17 = .ok (.if_icmp .ge 21, 3) := by decide +kernel
theorem dX4_becomeLike_20 : decode cX4_becomeLike 20 = .ok (.aload_n 0, 1) := by decide +kernel
theorem dX4_becomeLike_21 : decode cX4_becomeLike 21 = .ok (.getfield 11, 3) := by decide +kernel
theorem dX4_becomeLike_24 : decode cX4_becomeLike 24 = .ok (.iload_n 2, 1) := by decide +kernel
theorem dX4_becomeLike_25 : decode cX4_becomeLike 25 = .ok (.aload_n 1, 1) := by decide +kernel
theorem dX4_becomeLike_26 : decode cX4_becomeLike 26 = .ok (.getfield 11, 3) := by decide +kernel
theorem dX4_becomeLike_29 : decode cX4_becomeLike 29 = .ok (.iload_n 2, 1) := by decide +kernel
theorem dX4_becomeLike_30 : decode cX4_becomeLike 30 = .ok (.aaload, 1) := by decide +kernel
theorem dX4_becomeLike_31 : decode cX4_becomeLike 31 = .ok (.aastore, 1) := by decide +kernel
theorem dX4_becomeLike_32 : decode cX4_becomeLike 32 = .ok (.iinc 2 1, 3) := by decide +kernel
theorem dX4_becomeLike_35 : decode cX4_becomeLike 35 = .ok (.goto (-33), 3) := by decide +kernel
theorem dX4_becomeLike_38 : decode cX4_becomeLike 38 = .ok (.aload_n 0, 1) := by decide +kernel
theorem dX4_becomeLike_39 : decode cX4_becomeLike 39 = .ok (.aload_n 1, 1) := by decide +kernel
theorem dX4_becomeLike_40 : decode cX4_becomeLike 40 = .ok (.getfield 17, 3) := by decide +kernel
theorem dX4_becomeLike_43 : decode cX4_becomeLike 43 = .ok (.putfield 17, 3) := by decide +kernel
theorem dX4_becomeLike_46 : decode cX4_becomeLike 46 = .ok (.return_, 1) := by decide +kernel
theorem dX4_areLike_0 : decode cX4_areLike 0 = .ok (.aload_n 0, 1) := by decide +kernel
theorem dX4_areLike_1 : decode cX4_areLike 1 = .ok (.getfield 17, 3) := by decide +kernel
theorem dX4_areLike_4 : decode cX4_areLike 4 = .ok (.aload_n 1, 1) := by decide +kernel
theorem dX4_areLike_5 : decode cX4_areLike 5 = .ok (.getfield 17, 3) := by decide +kernel
theorem dX4_areLike_8 : decode cX4_areLike 8 = .ok (.if_icmp .eq 5, 3) := by decide +kernel
theorem dX4_areLike_11 : decode cX4_areLike 11 = .ok (.iconst 0, 1) := by decide +kernel
theorem dX4_areLike_12 : decode cX4_areLike 12 = .ok (.ireturn, 1) := by decide +kernel
theorem dX4_areLike_13 : decode cX4_areLike 13 = .ok (.iconst 0, 1) := by decide +kernel
theorem dX4_areLike_14 : decode cX4_areLike 14 = .ok (.istore_n 2, 1) := by decide +kernel
theorem dX4_areLike_15 : decode cX4_areLike 15 = .ok (.iload_n 2, 1) := by decide +kernel
theorem dX4_areLike_16 : decode cX4_areLike 16 = .ok (.aload_n 0, 1) := by decide +kernel
theorem dX4_areLike_17 : decode cX4_areLike 17 = .ok (.getfield 17, 3) := by decide +kernel
theorem dX4_areLike_20 : decode cX4_areLike 20 = .ok (.if_icmp .ge 33, 3) := by decide +kernel
theorem dX4_areLike_23 : decode cX4_areLike 23 = .ok (.aload_n 0, 1) := by decide +kernel
theorem dX4_areLike_24 : decode cX4_areLike 24 = .ok (.iload_n 2, 1) := by decide +kernel
theorem dX4_areLike_25 : decode cX4_areLike 25 = .ok (.invokevirtual 21, 3) := by decide +kernel
theorem dX4_areLike_28 : decode cX4_areLike 28 = .ok (.astore_n 3, 1) := by decide +kernel
theorem dX4_areLike_29 : decode cX4_areLike 29 = .ok (.aload_n 3, 1) := by decide +kernel
theorem dX4_areLike_30 : decode cX4_areLike 30 = .ok (.ifnull 15, 3) := by decide +kernel
theorem dX4_areLike_33 : decode cX4_areLike 33 = .ok (.aload_n 3, 1) := by decide +kernel
theorem dX4_areLike_34 : decode cX4_areLike 34 = .ok (.aload_n 1, 1) := by decide +kernel
theorem dX4_areLike_35 : decode cX4_areLike 35 = .ok (.iload_n 2, 1) := by decide +kernel
theorem dX4_areLike_36 : decode cX4_areLike 36 = .ok (.invokevirtual 21, 3) := by decide +kernel
theorem dX4_areLike_39 : decode cX4_areLike 39 = .ok (.invokevirtual 25, 3) := by decide +kernel
theorem dX4_areLike_42 : decode cX4_areLike 42 = .ok (.ifCond .ne 5, 3) := by decide +kernel
theorem dX4_areLike_45 : decode cX4_areLike 45 = .ok (.iconst 0, 1) := by decide +kernel
theorem dX4_areLike_46 : decode cX4_areLike 46 = .ok (.ireturn, 1) := by decide +kernel
theorem dX4_areLike_47 : decode cX4_areLike 47 = .ok (.iinc 2 1, 3) := by decide +kernel
theorem dX4_areLike_50 : decode cX4_areLike 50 = .ok (.goto (-35), 3) := by decide +kernel
theorem dX4_areLike_53 : decode cX4_areLike 53 = .ok (.iconst 1, 1) := by decide +kernel
theorem dX4_areLike_54 : decode cX4_areLike 54 = .ok (.ireturn, 1) := by decide +kernel
theorem dX5_init_0 : decode cX5_init 0 = .ok (.aload_n 0, 1) := by decide +kernel
theorem dX5_init_1 : decode cX5_init 1 = .ok (.invokespecial 3, 3) := by decide +kernel
theorem dX5_init_4 : decode cX5_init 4 = .ok (.aload_n 0, 1) := by decide +kernel
theorem dX5_init_5 : decode cX5_init 5 = .ok (.iload_n 1, 1) := by decide +kernel
theorem dX5_init_6 : decode cX5_init 6 = .ok (.putfield 9, 3) := by decide +kernel
theorem dX5_init_9 : decode cX5_init 9 = .ok (.aload_n 0, 1) := by decide +kernel
theorem dX5_init_10 : decode cX5_init 10 = .ok (.iload_n 2, 1) := by decide +kernel
theorem dX5_init_11 : decode cX5_init 11 = .ok (.putfield 15, 3) := by decide +kernel
theorem dX5_init_14 : decode cX5_init 14 = .ok (.aload_n 0, 1) := by decide +kernel
theorem dX5_init_15 : decode cX5_init 15 = .ok (.lload_n 3, 1) := by decide +kernel
theorem dX5_init_16 : decode cX5_init 16 = .ok (.putfield 18, 3) := by decide +kernel
theorem dX5_init_19 : decode cX5_init 19 = .ok (.return_, 1) := by decide +kernel
theorem dX5_isLike_0 : decode cX5_isLike 0 = .ok (.aload_n 1, 1) := by decide +kernel
theorem dX5_isLike_1 : decode cX5_isLike 1 = .ok (.ifnull 41, 3) := by decide +kernel
theorem dX5_isLike_4 : decode cX5_isLike 4 = .ok (.aload_n 0, 1) := by decide +kernel
theorem dX5_isLike_5 : decode cX5_isLike 5 = .ok (.getfield 9, 3) := by decide +kernel
theorem dX5_isLike_8 : decode cX5_isLike 8 = .ok (.aload_n 1, 1) := by decide +kernel
theorem dX5_isLike_9 : decode cX5_isLike 9 = .ok (.getfield 9, 3) := by decide +kernel
theorem dX5_isLike_12 : decode cX5_isLike 12 = .ok (.if_icmp .ne 30, 3) := by decide +kernel
theorem dX5_isLike_15 : decode cX5_isLike 15 = .ok (.aload_n 0, 1) := by decide +kernel
theorem dX5_isLike_16 : decode cX5_isLike 16 = .ok (.getfield 15, 3) := by decide +kernel
theorem dX5_isLike_19 : decode cX5_isLike 19 = .ok (.aload_n 1, 1) := by decide +kernel
theorem dX5_isLike_20 : decode cX5_isLike 20 = .ok (.getfield 15, 3) := by decide +kernel
theorem dX5_isLike_23 : decode cX5_isLike 23 = .ok (.if_icmp .ne 19, 3) := by decide +kernel
theorem dX5_isLike_26 : decode cX5_isLike 26 = .ok (.aload_n 0, 1) := by decide +kernel
theorem dX5_isLike_27 : decode cX5_isLike 27 = .ok (.getfield 18, 3) := by decide +kernel
theorem dX5_isLike_30 : decode cX5_isLike 30 = .ok (.aload_n 1, 1) := by decide +kernel
theorem dX5_isLike_31 : decode cX5_isLike 31 = .ok (.getfield 18, 3) := by decide +kernel
theorem dX5_isLike_34 : decode cX5_isLike 34 = .ok (.lcmp, 1) := by decide +kernel
theorem dX5_isLike_35 : decode cX5_isLike 35 = .ok (.ifCond .ne 7, 3) := by decide +kernel
theorem dX5_isLike_38 : decode cX5_isLike 38 = .ok (.iconst 1, 1) := by decide +kernel
theorem dX5_isLike_39 : decode cX5_isLike 39 = .ok (.goto 4, 3) := by decide +kernel
theorem dX5_isLike_42 : decode cX5_isLike 42 = .ok (.iconst 0, 1) := by decide +kernel
theorem dX5_isLike_43 : decode cX5_isLike 43 = .ok (.ireturn, 1) := by decide +kernel
theorem dX5_isUnder_0 : decode cX5_isUnder 0 = .ok (.aload_n 0, 1) := by decide +kernel
theorem dX5_isUnder_1 : decode cX5_isUnder 1 = .ok (.getfield 9, 3) := by decide +kernel
theorem dX5_isUnder_4 : decode cX5_isUnder 4 = .ok (.istore_n 2, 1) := by decide +kernel
theorem dX5_isUnder_5 : decode cX5_isUnder 5 = .ok (.iconst 0, 1) := by decide +kernel
theorem dX5_isUnder_6 : decode cX5_isUnder 6 = .ok (.istore_n 3, 1) := by decide +kernel
theorem dX5_isUnder_7 : decode cX5_isUnder 7 = .ok (.iload_n 3, 1) := by decide +kernel
theorem dX5_isUnder_8 : decode cX5_isUnder 8 = .ok (.bipush 6, 2) := by decide +kernel
theorem dX5_isUnder_10 : decode cX5_isUnder 10 = .ok (.if_icmp .ge 23, 3) := by decide +kernel
theorem dX5_isUnder_13 : decode cX5_isUnder 13 = .ok (.iload_n 2, 1) := by decide +kernel
theorem dX5_isUnder_14 : decode cX5_isUnder 14 = .ok (.iload_n 1, 1) := by decide +kernel
theorem dX5_isUnder_15 : decode cX5_isUnder 15 = .ok (.if_icmp .eq 18, 3) := by decide +kernel
theorem dX5_isUnder_18 : decode cX5_isUnder 18 = .ok (.iload_n 2, 1) := by decide +kernel
theorem dX5_isUnder_19 : decode cX5_isUnder 19 = .ok (.ifCond .eq 14, 3) := by decide +kernel
theorem dX5_isUnder_22 : decode cX5_isUnder 22 = .ok (.iload_n 2, 1) := by decide +kernel
theorem dX5_isUnder_23 : decode cX5_isUnder 23 = .ok (.invokestatic 22, 3) := by decide +kernel
theorem dX5_isUnder_26 : decode cX5_isUnder 26 = .ok (.istore_n 2, 1) := by decide +kernel
theorem dX5_isUnder_27 : decode cX5_isUnder 27 = .ok (.iinc 3 1, 3) := by decide +kernel
theorem dX5_isUnder_30 : decode cX5_isUnder 30 = .ok (.goto (-23), 3) := by decide +kernel
theorem dX5_isUnder_33 : decode cX5_isUnder 33 = .ok (.iload_n 2, 1) := by decide +kernel
theorem dX5_isUnder_34 : decode cX5_isUnder 34 = .ok (.iload_n 1, 1) := by decide +kernel
theorem dX5_isUnder_35 : decode cX5_isUnder 35 = .ok (.if_icmp .ne 7, 3) := by decide +kernel
theorem dX5_isUnder_38 : decode cX5_isUnder 38 = .ok (.iconst 1, 1) := by decide +kernel
theorem dX5_isUnder_39 : decode cX5_isUnder 39 = .ok (.goto 4, 3) := by decide +kernel
theorem dX5_isUnder_42 : decode cX5_isUnder 42 = .ok (.iconst 0, 1) := by decide +kernel
theorem dX5_isUnder_43 : decode cX5_isUnder 43 = .ok (.ireturn, 1) := by decide +kernel
theorem dX5_kindAbove_0 : decode cX5_kindAbove 0 = .ok (.iload_n 0, 1) := by decide +kernel
theorem dX5_kindAbove_1 : decode cX5_kindAbove 1 = .ok (.lookupswitch 31 #[(4, 27), (5, 29)], 27) := by decide +kernel
theorem dX5_kindAbove_28 : decode cX5_kindAbove 28 = .ok (.iconst 3, 1) := by decide +kernel
theorem dX5_kindAbove_29 : decode cX5_kindAbove 29 = .ok (.ireturn, 1) := by decide +kernel
theorem dX5_kindAbove_30 : decode cX5_kindAbove 30 = .ok (.iconst 2, 1) := by decide +kernel
theorem dX5_kindAbove_31 : decode cX5_kindAbove 31 = .ok (.ireturn, 1) := by decide +kernel
theorem dX5_kindAbove_32 : decode cX5_kindAbove 32 = .ok (.iconst 0, 1) := by decide +kernel
theorem dX5_kindAbove_33 : decode cX5_kindAbove 33 = .ok (.ireturn, 1) := by decide +kernel
theorem dX6_init_0 : decode cX6_init 0 = .ok (.aload_n 0, 1) := by decide +kernel
theorem dX6_init_1 : decode cX6_init 1 = .ok (.invokespecial 3, 3) := by decide +kernel
theorem dX6_init_4 : decode cX6_init 4 = .ok (.aload_n 0, 1) := by decide +kernel
theorem dX6_init_5 : decode cX6_init 5 = .ok (.iconst 4, 1) := by decide +kernel
theorem dX6_init_6 : decode cX6_init 6 = .ok (.putfield 9, 3) := by decide +kernel
theorem dX6_init_9 : decode cX6_init 9 = .ok (.aload_n 0, 1) := by decide +kernel
theorem dX6_init_10 : decode cX6_init 10 = .ok (.iconst 4, 1) := by decide +kernel
theorem dX6_init_11 : decode cX6_init 11 = .ok (.putfield 15, 3) := by decide +kernel
theorem dX6_init_14 : decode cX6_init 14 = .ok (.return_, 1) := by decide +kernel
theorem dX6_width_0 : decode cX6_width 0 = .ok (.aload_n 0, 1) := by decide +kernel
theorem dX6_width_1 : decode cX6_width 1 = .ok (.getfield 9, 3) := by decide +kernel
theorem dX6_width_4 : decode cX6_width 4 = .ok (.ireturn, 1) := by decide +kernel
theorem dX6_height_0 : decode cX6_height 0 = .ok (.aload_n 0, 1) := by decide +kernel
theorem dX6_height_1 : decode cX6_height 1 = .ok (.getfield 15, 3) := by decide +kernel
theorem dX6_height_4 : decode cX6_height 4 = .ok (.ireturn, 1) := by decide +kernel
theorem dX6_reshape_0 : decode cX6_reshape 0 = .ok (.aload_n 0, 1) := by decide +kernel
theorem dX6_reshape_1 : decode cX6_reshape 1 = .ok (.iload_n 1, 1) := by decide +kernel
theorem dX6_reshape_2 : decode cX6_reshape 2 = .ok (.putfield 9, 3) := by decide +kernel
theorem dX6_reshape_5 : decode cX6_reshape 5 = .ok (.aload_n 0, 1) := by decide +kernel
theorem dX6_reshape_6 : decode cX6_reshape 6 = .ok (.iload_n 2, 1) := by decide +kernel
theorem dX6_reshape_7 : decode cX6_reshape 7 = .ok (.putfield 15, 3) := by decide +kernel
theorem dX6_reshape_10 : decode cX6_reshape 10 = .ok (.return_, 1) := by decide +kernel
theorem dX6_places_0 : decode cX6_places 0 = .ok (.aload_n 0, 1) := by decide +kernel
theorem dX6_places_1 : decode cX6_places 1 = .ok (.getfield 9, 3) := by decide +kernel
theorem dX6_places_4 : decode cX6_places 4 = .ok (.aload_n 0, 1) := by decide +kernel
theorem dX6_places_5 : decode cX6_places 5 = .ok (.getfield 15, 3) := by decide +kernel
theorem dX6_places_8 : decode cX6_places 8 = .ok (.imul, 1) := by decide +kernel
theorem dX6_places_9 : decode cX6_places 9 = .ok (.ireturn, 1) := by decide +kernel
theorem dX6_measure_0 : decode cX6_measure 0 = .ok (.iload_n 1, 1) := by decide +kernel
theorem dX6_measure_1 : decode cX6_measure 1 = .ok (.ifCond .ne 14, 3) := by decide +kernel
theorem dX6_measure_4 : decode cX6_measure 4 = .ok (.aload_n 0, 1) := by decide +kernel
theorem dX6_measure_5 : decode cX6_measure 5 = .ok (.lload_n 2, 1) := by decide +kernel
theorem dX6_measure_6 : decode cX6_measure 6 = .ok (.invokevirtual 18, 3) := by decide +kernel
theorem dX6_measure_9 : decode cX6_measure 9 = .ok (.invokestatic 22, 3) := by decide +kernel
theorem dX6_measure_12 : decode cX6_measure 12 = .ok (.goto 8, 3) := by decide +kernel
theorem dX6_measure_15 : decode cX6_measure 15 = .ok (.aload_n 0, 1) := by decide +kernel
theorem dX6_measure_16 : decode cX6_measure 16 = .ok (.lload_n 2, 1) := by decide +kernel
theorem dX6_measure_17 : decode cX6_measure 17 = .ok (.invokevirtual 28, 3) := by decide +kernel
theorem dX6_measure_20 : decode cX6_measure 20 = .ok (.ireturn, 1) := by decide +kernel
theorem dX6_keyBy_0 : decode cX6_keyBy 0 = .ok (.aload_n 0, 1) := by decide +kernel
theorem dX6_keyBy_1 : decode cX6_keyBy 1 = .ok (.getfield 9, 3) := by decide +kernel
theorem dX6_keyBy_4 : decode cX6_keyBy 4 = .ok (.ifCond .gt 5, 3) := by decide +kernel
theorem dX6_keyBy_7 : decode cX6_keyBy 7 = .ok (.iload_n 2, 1) := by decide +kernel
theorem dX6_keyBy_8 : decode cX6_keyBy 8 = .ok (.ireturn, 1) := by decide +kernel
theorem dX6_keyBy_9 : decode cX6_keyBy 9 = .ok (.iload_n 2, 1) := by decide +kernel
theorem dX6_keyBy_10 : decode cX6_keyBy 10 = .ok (.aload_n 0, 1) := by decide +kernel
theorem dX6_keyBy_11 : decode cX6_keyBy 11 = .ok (.getfield 9, 3) := by decide +kernel
theorem dX6_keyBy_14 : decode cX6_keyBy 14 = .ok (.irem, 1) := by decide +kernel
theorem dX6_keyBy_15 : decode cX6_keyBy 15 = .ok (.istore_n 3, 1) := by decide +kernel
theorem dX6_keyBy_16 : decode cX6_keyBy 16 = .ok (.iload_n 2, 1) := by decide +kernel
theorem dX6_keyBy_17 : decode cX6_keyBy 17 = .ok (.aload_n 0, 1) := by decide +kernel
theorem dX6_keyBy_18 : decode cX6_keyBy 18 = .ok (.getfield 9, 3) := by decide +kernel
theorem dX6_keyBy_21 : decode cX6_keyBy 21 = .ok (.idiv, 1) := by decide +kernel
theorem dX6_keyBy_22 : decode cX6_keyBy 22 = .ok (.istore 4, 2) := by decide +kernel
theorem dX6_keyBy_24 : decode cX6_keyBy 24 = .ok (.iload_n 1, 1) := by decide +kernel
theorem dX6_keyBy_25 : decode cX6_keyBy 25 = .ok (.lookupswitch 49 #[(1, 27), (2, 37)], 27) := by decide +kernel
theorem dX6_keyBy_52 : decode cX6_keyBy 52 = .ok (.iload_n 3, 1) := by decide +kernel
theorem dX6_keyBy_53 : decode cX6_keyBy 53 = .ok (.iload 4, 2) := by decide +kernel
theorem dX6_keyBy_55 : decode cX6_keyBy 55 = .ok (.iadd, 1) := by decide +kernel
theorem dX6_keyBy_56 : decode cX6_keyBy 56 = .ok (.bipush 8, 2) := by decide +kernel
theorem dX6_keyBy_58 : decode cX6_keyBy 58 = .ok (.imul, 1) := by decide +kernel
theorem dX6_keyBy_59 : decode cX6_keyBy 59 = .ok (.iload_n 3, 1) := by decide +kernel
theorem dX6_keyBy_60 : decode cX6_keyBy 60 = .ok (.iadd, 1) := by decide +kernel
theorem dX6_keyBy_61 : decode cX6_keyBy 61 = .ok (.ireturn, 1) := by decide +kernel
theorem dX6_keyBy_62 : decode cX6_keyBy 62 = .ok (.iload_n 3, 1) := by decide +kernel
theorem dX6_keyBy_63 : decode cX6_keyBy 63 = .ok (.iload 4, 2) := by decide +kernel
theorem dX6_keyBy_65 : decode cX6_keyBy 65 = .ok (.invokestatic 31, 3) := by decide +kernel
theorem dX6_keyBy_68 : decode cX6_keyBy 68 = .ok (.bipush 64, 2) := by decide +kernel
theorem dX6_keyBy_70 : decode cX6_keyBy 70 = .ok (.imul, 1) := by decide +kernel
theorem dX6_keyBy_71 : decode cX6_keyBy 71 = .ok (.iload_n 2, 1) := by decide +kernel
theorem dX6_keyBy_72 : decode cX6_keyBy 72 = .ok (.iadd, 1) := by decide +kernel
theorem dX6_keyBy_73 : decode cX6_keyBy 73 = .ok (.ireturn, 1) := by decide +kernel
theorem dX6_keyBy_74 : decode cX6_keyBy 74 = .ok (.iload_n 2, 1) := by decide +kernel
theorem dX6_keyBy_75 : decode cX6_keyBy 75 = .ok (.ireturn, 1) := by decide +kernel
theorem dX6_borderOf_0 : decode cX6_borderOf 0 = .ok (.lload_n 1, 1) := by decide +kernel
theorem dX6_borderOf_1 : decode cX6_borderOf 1 = .ok (.aload_n 0, 1) := by decide +kernel
theorem dX6_borderOf_2 : decode cX6_borderOf 2 = .ok (.iconst 0, 1) := by decide +kernel
theorem dX6_borderOf_3 : decode cX6_borderOf 3 = .ok (.invokevirtual 37, 3) := by decide +kernel
theorem dX6_borderOf_6 : decode cX6_borderOf 6 = .ok (.ldc2_w 41, 3) := by decide +kernel
theorem dX6_borderOf_9 : decode cX6_borderOf 9 = .ok (.lxor, 1) := by decide +kernel
theorem dX6_borderOf_10 : decode cX6_borderOf 10 = .ok (.land, 1) := by decide +kernel
theorem dX6_borderOf_11 : decode cX6_borderOf 11 = .ok (.iconst 1, 1) := by decide +kernel
theorem dX6_borderOf_12 : decode cX6_borderOf 12 = .ok (.lushr, 1) := by decide +kernel
theorem dX6_borderOf_13 : decode cX6_borderOf 13 = .ok (.lstore_n 3, 1) := by decide +kernel
theorem dX6_borderOf_14 : decode cX6_borderOf 14 = .ok (.lload_n 1, 1) := by decide +kernel
theorem dX6_borderOf_15 : decode cX6_borderOf 15 = .ok (.aload_n 0, 1) := by decide +kernel
theorem dX6_borderOf_16 : decode cX6_borderOf 16 = .ok (.aload_n 0, 1) := by decide +kernel
theorem dX6_borderOf_17 : decode cX6_borderOf 17 = .ok (.getfield 9, 3) := by decide +kernel
theorem dX6_borderOf_20 : decode cX6_borderOf 20 = .ok (.iconst 1, 1) := by decide +kernel
theorem dX6_borderOf_21 : decode cX6_borderOf 21 = .ok (.isub, 1) := by decide +kernel
theorem dX6_borderOf_22 : decode cX6_borderOf 22 = .ok (.invokevirtual 37, 3) := by decide +kernel
theorem dX6_borderOf_25 : decode cX6_borderOf 25 = .ok (.ldc2_w 41, 3) := by decide +kernel
theorem dX6_borderOf_28 : decode cX6_borderOf 28 = .ok (.lxor, 1) := by decide +kernel
theorem dX6_borderOf_29 : decode cX6_borderOf 29 = .ok (.land, 1) := by decide +kernel
theorem dX6_borderOf_30 : decode cX6_borderOf 30 = .ok (.iconst 1, 1) := by decide +kernel
theorem dX6_borderOf_31 : decode cX6_borderOf 31 = .ok (.lshl, 1) := by decide +kernel
theorem dX6_borderOf_32 : decode cX6_borderOf 32 = .ok (.lstore 5, 2) := by decide +kernel
theorem dX6_borderOf_34 : decode cX6_borderOf 34 = .ok (.lload_n 3, 1) := by decide +kernel
theorem dX6_borderOf_35 : decode cX6_borderOf 35 = .ok (.lload 5, 2) := by decide +kernel
theorem dX6_borderOf_37 : decode cX6_borderOf 37 = .ok (.lor, 1) := by decide +kernel
theorem dX6_borderOf_38 : decode cX6_borderOf 38 = .ok (.lload_n 1, 1) := by decide +kernel
theorem dX6_borderOf_39 : decode cX6_borderOf 39 = .ok (.aload_n 0, 1) := by decide +kernel
theorem dX6_borderOf_40 : decode cX6_borderOf 40 = .ok (.getfield 9, 3) := by decide +kernel
theorem dX6_borderOf_43 : decode cX6_borderOf 43 = .ok (.lushr, 1) := by decide +kernel
theorem dX6_borderOf_44 : decode cX6_borderOf 44 = .ok (.lor, 1) := by decide +kernel
theorem dX6_borderOf_45 : decode cX6_borderOf 45 = .ok (.lload_n 1, 1) := by decide +kernel
theorem dX6_borderOf_46 : decode cX6_borderOf 46 = .ok (.aload_n 0, 1) := by decide +kernel
theorem dX6_borderOf_47 : decode cX6_borderOf 47 = .ok (.getfield 9, 3) := by decide +kernel
theorem dX6_borderOf_50 : decode cX6_borderOf 50 = .ok (.lshl, 1) := by decide +kernel
theorem dX6_borderOf_51 : decode cX6_borderOf 51 = .ok (.lor, 1) := by decide +kernel
theorem dX6_borderOf_52 : decode cX6_borderOf 52 = .ok (.aload_n 0, 1) := by decide +kernel
theorem dX6_borderOf_53 : decode cX6_borderOf 53 = .ok (.invokevirtual 43, 3) := by decide +kernel
theorem dX6_borderOf_56 : decode cX6_borderOf 56 = .ok (.land, 1) := by decide +kernel
theorem dX6_borderOf_57 : decode cX6_borderOf 57 = .ok (.lload_n 1, 1) := by decide +kernel
theorem dX6_borderOf_58 : decode cX6_borderOf 58 = .ok (.ldc2_w 41, 3) := by decide +kernel
theorem dX6_borderOf_61 : decode cX6_borderOf 61 = .ok (.lxor, 1) := by decide +kernel
theorem dX6_borderOf_62 : decode cX6_borderOf 62 = .ok (.land, 1) := by decide +kernel
theorem dX6_borderOf_63 : decode cX6_borderOf 63 = .ok (.lreturn, 1) := by decide +kernel
theorem dX6_edgesOf_0 : decode cX6_edgesOf 0 = .ok (.lload_n 1, 1) := by decide +kernel
theorem dX6_edgesOf_1 : decode cX6_edgesOf 1 = .ok (.lload_n 1, 1) := by decide +kernel
theorem dX6_edgesOf_2 : decode cX6_edgesOf 2 = .ok (.iconst 1, 1) := by decide +kernel
theorem dX6_edgesOf_3 : decode cX6_edgesOf 3 = .ok (.lushr, 1) := by decide +kernel
theorem dX6_edgesOf_4 : decode cX6_edgesOf 4 = .ok (.lxor, 1) := by decide +kernel
theorem dX6_edgesOf_5 : decode cX6_edgesOf 5 = .ok (.aload_n 0, 1) := by decide +kernel
theorem dX6_edgesOf_6 : decode cX6_edgesOf 6 = .ok (.aload_n 0, 1) := by decide +kernel
theorem dX6_edgesOf_7 : decode cX6_edgesOf 7 = .ok (.getfield 9, 3) := by decide +kernel
theorem dX6_edgesOf_10 : decode cX6_edgesOf 10 = .ok (.iconst 1, 1) := by decide +kernel
theorem dX6_edgesOf_11 : decode cX6_edgesOf 11 = .ok (.isub, 1) := by decide +kernel
theorem dX6_edgesOf_12 : decode cX6_edgesOf 12 = .ok (.invokevirtual 37, 3) := by decide +kernel
theorem dX6_edgesOf_15 : decode cX6_edgesOf 15 = .ok (.ldc2_w 41, 3) := by decide +kernel
theorem dX6_edgesOf_18 : decode cX6_edgesOf 18 = .ok (.lxor, 1) := by decide +kernel
theorem dX6_edgesOf_19 : decode cX6_edgesOf 19 = .ok (.land, 1) := by decide +kernel
theorem dX6_edgesOf_20 : decode cX6_edgesOf 20 = .ok (.aload_n 0, 1) := by decide +kernel
theorem dX6_edgesOf_21 : decode cX6_edgesOf 21 = .ok (.invokevirtual 43, 3) := by decide +kernel
theorem dX6_edgesOf_24 : decode cX6_edgesOf 24 = .ok (.land, 1) := by decide +kernel
theorem dX6_edgesOf_25 : decode cX6_edgesOf 25 = .ok (.lstore_n 3, 1) := by decide +kernel
theorem dX6_edgesOf_26 : decode cX6_edgesOf 26 = .ok (.lload_n 1, 1) := by decide +kernel
theorem dX6_edgesOf_27 : decode cX6_edgesOf 27 = .ok (.lload_n 1, 1) := by decide +kernel
theorem dX6_edgesOf_28 : decode cX6_edgesOf 28 = .ok (.aload_n 0, 1) := by decide +kernel
theorem dX6_edgesOf_29 : decode cX6_edgesOf 29 = .ok (.getfield 9, 3) := by decide +kernel
theorem dX6_edgesOf_32 : decode cX6_edgesOf 32 = .ok (.lushr, 1) := by decide +kernel
theorem dX6_edgesOf_33 : decode cX6_edgesOf 33 = .ok (.lxor, 1) := by decide +kernel
theorem dX6_edgesOf_34 : decode cX6_edgesOf 34 = .ok (.aload_n 0, 1) := by decide +kernel
theorem dX6_edgesOf_35 : decode cX6_edgesOf 35 = .ok (.invokevirtual 43, 3) := by decide +kernel
theorem dX6_edgesOf_38 : decode cX6_edgesOf 38 = .ok (.aload_n 0, 1) := by decide +kernel
theorem dX6_edgesOf_39 : decode cX6_edgesOf 39 = .ok (.getfield 9, 3) := by decide +kernel
theorem dX6_edgesOf_42 : decode cX6_edgesOf 42 = .ok (.lushr, 1) := by decide +kernel
theorem dX6_edgesOf_43 : decode cX6_edgesOf 43 = .ok (.land, 1) := by decide +kernel
theorem dX6_edgesOf_44 : decode cX6_edgesOf 44 = .ok (.lstore 5, 2) := by decide +kernel
theorem dX6_edgesOf_46 : decode cX6_edgesOf 46 = .ok (.lload_n 3, 1) := by decide +kernel
theorem dX6_edgesOf_47 : decode cX6_edgesOf 47 = .ok (.invokestatic 22, 3) := by decide +kernel
theorem dX6_edgesOf_50 : decode cX6_edgesOf 50 = .ok (.lload 5, 2) := by decide +kernel
theorem dX6_edgesOf_52 : decode cX6_edgesOf 52 = .ok (.invokestatic 22, 3) := by decide +kernel
theorem dX6_edgesOf_55 : decode cX6_edgesOf 55 = .ok (.iadd, 1) := by decide +kernel
theorem dX6_edgesOf_56 : decode cX6_edgesOf 56 = .ok (.ireturn, 1) := by decide +kernel
theorem dX6_column_0 : decode cX6_column 0 = .ok (.lconst 0, 1) := by decide +kernel
theorem dX6_column_1 : decode cX6_column 1 = .ok (.lstore_n 2, 1) := by decide +kernel
theorem dX6_column_2 : decode cX6_column 2 = .ok (.iconst 0, 1) := by decide +kernel
theorem dX6_column_3 : decode cX6_column 3 = .ok (.istore 4, 2) := by decide +kernel
theorem dX6_column_5 : decode cX6_column 5 = .ok (.iload 4, 2) := by decide +kernel
theorem dX6_column_7 : decode cX6_column 7 = .ok (.aload_n 0, 1) := by decide +kernel
theorem dX6_column_8 : decode cX6_column 8 = .ok (.getfield 15, 3) := by decide +kernel
theorem dX6_column_11 : decode cX6_column 11 = .ok (.if_icmp .ge 23, 3) := by decide +kernel
theorem dX6_column_14 : decode cX6_column 14 = .ok (.lload_n 2, 1) := by decide +kernel
theorem dX6_column_15 : decode cX6_column 15 = .ok (.lconst 1, 1) := by decide +kernel
theorem dX6_column_16 : decode cX6_column 16 = .ok (.iload_n 1, 1) := by decide +kernel
theorem dX6_column_17 : decode cX6_column 17 = .ok (.aload_n 0, 1) := by decide +kernel
theorem dX6_column_18 : decode cX6_column 18 = .ok (.getfield 9, 3) := by decide +kernel
theorem dX6_column_21 : decode cX6_column 21 = .ok (.iload 4, 2) := by decide +kernel
theorem dX6_column_23 : decode cX6_column 23 = .ok (.imul, 1) := by decide +kernel
theorem dX6_column_24 : decode cX6_column 24 = .ok (.iadd, 1) := by decide +kernel
theorem dX6_column_25 : decode cX6_column 25 = .ok (.lshl, 1) := by decide +kernel
theorem dX6_column_26 : decode cX6_column 26 = .ok (.lor, 1) := by decide +kernel
theorem dX6_column_27 : decode cX6_column 27 = .ok (.lstore_n 2, 1) := by decide +kernel
theorem dX6_column_28 : decode cX6_column 28 = .ok (.iinc 4 1, 3) := by decide +kernel
theorem dX6_column_31 : decode cX6_column 31 = .ok (.goto (-26), 3) := by decide +kernel
theorem dX6_column_34 : decode cX6_column 34 = .ok (.lload_n 2, 1) := by decide +kernel
theorem dX6_column_35 : decode cX6_column 35 = .ok (.lreturn, 1) := by decide +kernel
theorem dX7_init_0 : decode cX7_init 0 = .ok (.aload_n 0, 1) := by decide +kernel
theorem dX7_init_1 : decode cX7_init 1 = .ok (.invokespecial 3, 3) := by decide +kernel
theorem dX7_init_4 : decode cX7_init 4 = .ok (.aload_n 0, 1) := by decide +kernel
theorem dX7_init_5 : decode cX7_init 5 = .ok (.bipush 64, 2) := by decide +kernel
theorem dX7_init_7 : decode cX7_init 7 = .ok (.newarray .int, 2) := by decide +kernel
theorem dX7_init_9 : decode cX7_init 9 = .ok (.putfield 9, 3) := by decide +kernel
theorem dX7_init_12 : decode cX7_init 12 = .ok (.return_, 1) := by decide +kernel
theorem dX7_all_0 : decode cX7_all 0 = .ok (.aload_n 0, 1) := by decide +kernel
theorem dX7_all_1 : decode cX7_all 1 = .ok (.invokevirtual 15, 3) := by decide +kernel
theorem dX7_all_4 : decode cX7_all 4 = .ok (.bipush 64, 2) := by decide +kernel
theorem dX7_all_6 : decode cX7_all 6 = .ok (.if_icmp .lt 9, 3) := by decide +kernel
theorem dX7_all_9 : decode cX7_all 9 = .ok (.ldc2_w 19, 3) := by decide +kernel
theorem dX7_all_12 : decode cX7_all 12 = .ok (.goto 11, 3) := by decide +kernel
theorem dX7_all_15 : decode cX7_all 15 = .ok (.lconst 1, 1) := by decide +kernel
theorem dX7_all_16 : decode cX7_all 16 = .ok (.aload_n 0, 1) := by decide +kernel
theorem dX7_all_17 : decode cX7_all 17 = .ok (.invokevirtual 15, 3) := by decide +kernel
theorem dX7_all_20 : decode cX7_all 20 = .ok (.lshl, 1) := by decide +kernel
theorem dX7_all_21 : decode cX7_all 21 = .ok (.lconst 1, 1) := by decide +kernel
theorem dX7_all_22 : decode cX7_all 22 = .ok (.lsub, 1) := by decide +kernel
theorem dX7_all_23 : decode cX7_all 23 = .ok (.lreturn, 1) := by decide +kernel
theorem dX7_holds_0 : decode cX7_holds 0 = .ok (.lload_n 1, 1) := by decide +kernel
theorem dX7_holds_1 : decode cX7_holds 1 = .ok (.aload_n 0, 1) := by decide +kernel
theorem dX7_holds_2 : decode cX7_holds 2 = .ok (.invokevirtual 21, 3) := by decide +kernel
theorem dX7_holds_5 : decode cX7_holds 5 = .ok (.ldc2_w 19, 3) := by decide +kernel
theorem dX7_holds_8 : decode cX7_holds 8 = .ok (.lxor, 1) := by decide +kernel
theorem dX7_holds_9 : decode cX7_holds 9 = .ok (.land, 1) := by decide +kernel
theorem dX7_holds_10 : decode cX7_holds 10 = .ok (.lconst 0, 1) := by decide +kernel
theorem dX7_holds_11 : decode cX7_holds 11 = .ok (.lcmp, 1) := by decide +kernel
theorem dX7_holds_12 : decode cX7_holds 12 = .ok (.ifCond .ne 7, 3) := by decide +kernel
theorem dX7_holds_15 : decode cX7_holds 15 = .ok (.iconst 1, 1) := by decide +kernel
theorem dX7_holds_16 : decode cX7_holds 16 = .ok (.goto 4, 3) := by decide +kernel
theorem dX7_holds_19 : decode cX7_holds 19 = .ok (.iconst 0, 1) := by decide +kernel
theorem dX7_holds_20 : decode cX7_holds 20 = .ok (.ireturn, 1) := by decide +kernel
theorem dX7_placeBy_0 : decode cX7_placeBy 0 = .ok (.aload_n 0, 1) := by decide +kernel
theorem dX7_placeBy_1 : decode cX7_placeBy 1 = .ok (.iload_n 1, 1) := by decide +kernel
theorem dX7_placeBy_2 : decode cX7_placeBy 2 = .ok (.invokevirtual 25, 3) := by decide +kernel
theorem dX7_placeBy_5 : decode cX7_placeBy 5 = .ok (.iconst 0, 1) := by decide +kernel
theorem dX7_placeBy_6 : decode cX7_placeBy 6 = .ok (.istore_n 3, 1) := by decide +kernel
theorem dX7_placeBy_7 : decode cX7_placeBy 7 = .ok (.iload_n 3, 1) := by decide +kernel
theorem dX7_placeBy_8 : decode cX7_placeBy 8 = .ok (.aload_n 0, 1) := by decide +kernel
theorem dX7_placeBy_9 : decode cX7_placeBy 9 = .ok (.invokevirtual 15, 3) := by decide +kernel
theorem dX7_placeBy_12 : decode cX7_placeBy 12 = .ok (.if_icmp .ge 20, 3) := by decide +kernel
theorem dX7_placeBy_15 : decode cX7_placeBy 15 = .ok (.aload_n 0, 1) := by decide +kernel
theorem dX7_placeBy_16 : decode cX7_placeBy 16 = .ok (.iload_n 3, 1) := by decide +kernel
theorem dX7_placeBy_17 : decode cX7_placeBy 17 = .ok (.invokevirtual 29, 3) := by decide +kernel
theorem dX7_placeBy_20 : decode cX7_placeBy 20 = .ok (.iload_n 2, 1) := by decide +kernel
theorem dX7_placeBy_21 : decode cX7_placeBy 21 = .ok (.if_icmp .ne 5, 3) := by decide +kernel
theorem dX7_placeBy_24 : decode cX7_placeBy 24 = .ok (.iload_n 3, 1) := by decide +kernel
theorem dX7_placeBy_25 : decode cX7_placeBy 25 = .ok (.ireturn, 1) := by decide +kernel
theorem dX7_placeBy_26 : decode cX7_placeBy 26 = .ok (.iinc 3 1, 3) := by decide +kernel
theorem dX7_placeBy_29 : decode cX7_placeBy 29 = .ok (.goto (-22), 3) := by decide +kernel
theorem dX7_placeBy_32 : decode cX7_placeBy 32 = .ok (.bipush (-2), 2) := by decide +kernel
theorem dX7_placeBy_34 : decode cX7_placeBy 34 = .ok (.ireturn, 1) := by decide +kernel
theorem dX7_firstBy_0 : decode cX7_firstBy 0 = .ok (.aload_n 0, 1) := by decide +kernel
theorem dX7_firstBy_1 : decode cX7_firstBy 1 = .ok (.iload_n 1, 1) := by decide +kernel
theorem dX7_firstBy_2 : decode cX7_firstBy 2 = .ok (.invokevirtual 25, 3) := by decide +kernel
theorem dX7_firstBy_5 : decode cX7_firstBy 5 = .ok (.lconst 0, 1) := by decide +kernel
theorem dX7_firstBy_6 : decode cX7_firstBy 6 = .ok (.lstore_n 3, 1) := by decide +kernel
theorem dX7_firstBy_7 : decode cX7_firstBy 7 = .ok (.iconst 0, 1) := by decide +kernel
theorem dX7_firstBy_8 : decode cX7_firstBy 8 = .ok (.istore 5, 2) := by decide +kernel
theorem dX7_firstBy_10 : decode cX7_firstBy 10 = .ok (.iload 5, 2) := by decide +kernel
theorem dX7_firstBy_12 : decode cX7_firstBy 12 = .ok (.aload_n 0, 1) := by decide +kernel
theorem dX7_firstBy_13 : decode cX7_firstBy 13 = .ok (.invokevirtual 15, 3) := by decide +kernel
theorem dX7_firstBy_16 : decode cX7_firstBy 16 = .ok (.if_icmp .ge 26, 3) := by decide +kernel
theorem dX7_firstBy_19 : decode cX7_firstBy 19 = .ok (.aload_n 0, 1) := by decide +kernel
theorem dX7_firstBy_20 : decode cX7_firstBy 20 = .ok (.iload 5, 2) := by decide +kernel
theorem dX7_firstBy_22 : decode cX7_firstBy 22 = .ok (.invokevirtual 29, 3) := by decide +kernel
theorem dX7_firstBy_25 : decode cX7_firstBy 25 = .ok (.iload_n 2, 1) := by decide +kernel
theorem dX7_firstBy_26 : decode cX7_firstBy 26 = .ok (.if_icmp .ge 10, 3) := by decide +kernel
theorem dX7_firstBy_29 : decode cX7_firstBy 29 = .ok (.lload_n 3, 1) := by decide +kernel
theorem dX7_firstBy_30 : decode cX7_firstBy 30 = .ok (.lconst 1, 1) := by decide +kernel
theorem dX7_firstBy_31 : decode cX7_firstBy 31 = .ok (.iload 5, 2) := by decide +kernel
theorem dX7_firstBy_33 : decode cX7_firstBy 33 = .ok (.lshl, 1) := by decide +kernel
theorem dX7_firstBy_34 : decode cX7_firstBy 34 = .ok (.lor, 1) := by decide +kernel
theorem dX7_firstBy_35 : decode cX7_firstBy 35 = .ok (.lstore_n 3, 1) := by decide +kernel
theorem dX7_firstBy_36 : decode cX7_firstBy 36 = .ok (.iinc 5 1, 3) := by decide +kernel
theorem dX7_firstBy_39 : decode cX7_firstBy 39 = .ok (.goto (-29), 3) := by decide +kernel
theorem dX7_firstBy_42 : decode cX7_firstBy 42 = .ok (.lload_n 3, 1) := by decide +kernel
theorem dX7_firstBy_43 : decode cX7_firstBy 43 = .ok (.lreturn, 1) := by decide +kernel
theorem dX7_layKeys_0 : decode cX7_layKeys 0 = .ok (.iconst 0, 1) := by decide +kernel
theorem dX7_layKeys_1 : decode cX7_layKeys 1 = .ok (.istore_n 2, 1) := by decide +kernel
theorem dX7_layKeys_2 : decode cX7_layKeys 2 = .ok (.iload_n 2, 1) := by decide +kernel
theorem dX7_layKeys_3 : decode cX7_layKeys 3 = .ok (.aload_n 0, 1) := by decide +kernel
theorem dX7_layKeys_4 : decode cX7_layKeys 4 = .ok (.invokevirtual 15, 3) := by decide +kernel
theorem dX7_layKeys_7 : decode cX7_layKeys 7 = .ok (.if_icmp .ge 30, 3) := by decide +kernel
theorem dX7_layKeys_10 : decode cX7_layKeys 10 = .ok (.iload_n 2, 1) := by decide +kernel
theorem dX7_layKeys_11 : decode cX7_layKeys 11 = .ok (.aload_n 0, 1) := by decide +kernel
theorem dX7_layKeys_12 : decode cX7_layKeys 12 = .ok (.getfield 9, 3) := by decide +kernel
theorem dX7_layKeys_15 : decode cX7_layKeys 15 = .ok (.arraylength, 1) := by decide +kernel
theorem dX7_layKeys_16 : decode cX7_layKeys 16 = .ok (.if_icmp .ge 21, 3) := by decide +kernel
theorem dX7_layKeys_19 : decode cX7_layKeys 19 = .ok (.aload_n 0, 1) := by decide +kernel
theorem dX7_layKeys_20 : decode cX7_layKeys 20 = .ok (.getfield 9, 3) := by decide +kernel
theorem dX7_layKeys_23 : decode cX7_layKeys 23 = .ok (.iload_n 2, 1) := by decide +kernel
theorem dX7_layKeys_24 : decode cX7_layKeys 24 = .ok (.aload_n 0, 1) := by decide +kernel
theorem dX7_layKeys_25 : decode cX7_layKeys 25 = .ok (.iload_n 1, 1) := by decide +kernel
theorem dX7_layKeys_26 : decode cX7_layKeys 26 = .ok (.iload_n 2, 1) := by decide +kernel
theorem dX7_layKeys_27 : decode cX7_layKeys 27 = .ok (.invokevirtual 33, 3) := by decide +kernel
theorem dX7_layKeys_30 : decode cX7_layKeys 30 = .ok (.iastore, 1) := by decide +kernel
theorem dX7_layKeys_31 : decode cX7_layKeys 31 = .ok (.iinc 2 1, 3) := by decide +kernel
theorem dX7_layKeys_34 : decode cX7_layKeys 34 = .ok (.goto (-32), 3) := by decide +kernel
theorem dX7_layKeys_37 : decode cX7_layKeys 37 = .ok (.return_, 1) := by decide +kernel
theorem dX7_rankOf_0 : decode cX7_rankOf 0 = .ok (.iload_n 1, 1) := by decide +kernel
theorem dX7_rankOf_1 : decode cX7_rankOf 1 = .ok (.ifCond .lt 12, 3) := by decide +kernel
theorem dX7_rankOf_4 : decode cX7_rankOf 4 = .ok (.iload_n 1, 1) := by decide +kernel
theorem dX7_rankOf_5 : decode cX7_rankOf 5 = .ok (.aload_n 0, 1) := by decide +kernel
theorem dX7_rankOf_6 : decode cX7_rankOf 6 = .ok (.getfield 9, 3) := by decide +kernel
theorem dX7_rankOf_9 : decode cX7_rankOf 9 = .ok (.arraylength, 1) := by decide +kernel
theorem dX7_rankOf_10 : decode cX7_rankOf 10 = .ok (.if_icmp .lt 8, 3) := by decide +kernel
theorem dX7_rankOf_13 : decode cX7_rankOf 13 = .ok (.aload_n 0, 1) := by decide +kernel
theorem dX7_rankOf_14 : decode cX7_rankOf 14 = .ok (.invokevirtual 15, 3) := by decide +kernel
theorem dX7_rankOf_17 : decode cX7_rankOf 17 = .ok (.ireturn, 1) := by decide +kernel
theorem dX7_rankOf_18 : decode cX7_rankOf 18 = .ok (.iconst 0, 1) := by decide +kernel
theorem dX7_rankOf_19 : decode cX7_rankOf 19 = .ok (.istore_n 2, 1) := by decide +kernel
theorem dX7_rankOf_20 : decode cX7_rankOf 20 = .ok (.iconst 0, 1) := by decide +kernel
theorem dX7_rankOf_21 : decode cX7_rankOf 21 = .ok (.istore_n 3, 1) := by decide +kernel
theorem dX7_rankOf_22 : decode cX7_rankOf 22 = .ok (.iload_n 3, 1) := by decide +kernel
theorem dX7_rankOf_23 : decode cX7_rankOf 23 = .ok (.aload_n 0, 1) := by decide +kernel
theorem dX7_rankOf_24 : decode cX7_rankOf 24 = .ok (.invokevirtual 15, 3) := by decide +kernel
theorem dX7_rankOf_27 : decode cX7_rankOf 27 = .ok (.if_icmp .ge 36, 3) := by decide +kernel
theorem dX7_rankOf_30 : decode cX7_rankOf 30 = .ok (.iload_n 3, 1) := by decide +kernel
theorem dX7_rankOf_31 : decode cX7_rankOf 31 = .ok (.aload_n 0, 1) := by decide +kernel
theorem dX7_rankOf_32 : decode cX7_rankOf 32 = .ok (.getfield 9, 3) := by decide +kernel
theorem dX7_rankOf_35 : decode cX7_rankOf 35 = .ok (.arraylength, 1) := by decide +kernel
theorem dX7_rankOf_36 : decode cX7_rankOf 36 = .ok (.if_icmp .ge 27, 3) := by decide +kernel
theorem dX7_rankOf_39 : decode cX7_rankOf 39 = .ok (.aload_n 0, 1) := by decide +kernel
theorem dX7_rankOf_40 : decode cX7_rankOf 40 = .ok (.getfield 9, 3) := by decide +kernel
theorem dX7_rankOf_43 : decode cX7_rankOf 43 = .ok (.iload_n 3, 1) := by decide +kernel
theorem dX7_rankOf_44 : decode cX7_rankOf 44 = .ok (.iaload, 1) := by decide +kernel
theorem dX7_rankOf_45 : decode cX7_rankOf 45 = .ok (.aload_n 0, 1) := by decide +kernel
theorem dX7_rankOf_46 : decode cX7_rankOf 46 = .ok (.getfield 9, 3) := by decide +kernel
theorem dX7_rankOf_49 : decode cX7_rankOf 49 = .ok (.iload_n 1, 1) := by decide +kernel
theorem dX7_rankOf_50 : decode cX7_rankOf 50 = .ok (.iaload, 1) := by decide +kernel
theorem dX7_rankOf_51 : decode cX7_rankOf 51 = .ok (.if_icmp .ge 6, 3) := by decide +kernel
theorem dX7_rankOf_54 : decode cX7_rankOf 54 = .ok (.iinc 2 1, 3) := by decide +kernel
theorem dX7_rankOf_57 : decode cX7_rankOf 57 = .ok (.iinc 3 1, 3) := by decide +kernel
theorem dX7_rankOf_60 : decode cX7_rankOf 60 = .ok (.goto (-38), 3) := by decide +kernel
theorem dX7_rankOf_63 : decode cX7_rankOf 63 = .ok (.iload_n 2, 1) := by decide +kernel
theorem dX7_rankOf_64 : decode cX7_rankOf 64 = .ok (.ireturn, 1) := by decide +kernel
theorem dX7_leastOf_0 : decode cX7_leastOf 0 = .ok (.iload_n 2, 1) := by decide +kernel
theorem dX7_leastOf_1 : decode cX7_leastOf 1 = .ok (.ifCond .gt 5, 3) := by decide +kernel
theorem dX7_leastOf_4 : decode cX7_leastOf 4 = .ok (.lconst 0, 1) := by decide +kernel
theorem dX7_leastOf_5 : decode cX7_leastOf 5 = .ok (.lreturn, 1) := by decide +kernel
theorem dX7_leastOf_6 : decode cX7_leastOf 6 = .ok (.lconst 1, 1) := by decide +kernel
theorem dX7_leastOf_7 : decode cX7_leastOf 7 = .ok (.lload_n 3, 1) := by decide +kernel
theorem dX7_leastOf_8 : decode cX7_leastOf 8 = .ok (.invokestatic 37, 3) := by decide +kernel
theorem dX7_leastOf_11 : decode cX7_leastOf 11 = .ok (.lshl, 1) := by decide +kernel
theorem dX7_leastOf_12 : decode cX7_leastOf 12 = .ok (.lstore 5, 2) := by decide +kernel
theorem dX7_leastOf_14 : decode cX7_leastOf 14 = .ok (.lconst 1, 1) := by decide +kernel
theorem dX7_leastOf_15 : decode cX7_leastOf 15 = .ok (.iload_n 2, 1) := by decide +kernel
theorem dX7_leastOf_16 : decode cX7_leastOf 16 = .ok (.lshl, 1) := by decide +kernel
theorem dX7_leastOf_17 : decode cX7_leastOf 17 = .ok (.lconst 1, 1) := by decide +kernel
theorem dX7_leastOf_18 : decode cX7_leastOf 18 = .ok (.lsub, 1) := by decide +kernel
theorem dX7_leastOf_19 : decode cX7_leastOf 19 = .ok (.lstore 7, 2) := by decide +kernel
theorem dX7_leastOf_21 : decode cX7_leastOf 21 = .ok (.lload 7, 2) := by decide +kernel
theorem dX7_leastOf_23 : decode cX7_leastOf 23 = .ok (.lload_n 3, 1) := by decide +kernel
theorem dX7_leastOf_24 : decode cX7_leastOf 24 = .ok (.invokestatic 43, 3) := by decide +kernel
theorem dX7_leastOf_27 : decode cX7_leastOf 27 = .ok (.lstore 9, 2) := by decide +kernel
theorem dX7_leastOf_29 : decode cX7_leastOf 29 = .ok (.aload_n 0, 1) := by decide +kernel
theorem dX7_leastOf_30 : decode cX7_leastOf 30 = .ok (.iload_n 1, 1) := by decide +kernel
theorem dX7_leastOf_31 : decode cX7_leastOf 31 = .ok (.lload 9, 2) := by decide +kernel
theorem dX7_leastOf_33 : decode cX7_leastOf 33 = .ok (.invokevirtual 47, 3) := by decide +kernel
theorem dX7_leastOf_36 : decode cX7_leastOf 36 = .ok (.istore 11, 2) := by decide +kernel
theorem dX7_leastOf_38 : decode cX7_leastOf 38 = .ok (.iconst 0, 1) := by decide +kernel
theorem dX7_leastOf_39 : decode cX7_leastOf 39 = .ok (.istore 12, 2) := by decide +kernel
theorem dX7_leastOf_41 : decode cX7_leastOf 41 = .ok (.iload 12, 2) := by decide +kernel
theorem dX7_leastOf_43 : decode cX7_leastOf 43 = .ok (.sipush 20000, 3) := by decide +kernel
theorem dX7_leastOf_46 : decode cX7_leastOf 46 = .ok (.if_icmp .ge 66, 3) := by decide +kernel
theorem dX7_leastOf_49 : decode cX7_leastOf 49 = .ok (.lload 7, 2) := by decide +kernel
theorem dX7_leastOf_51 : decode cX7_leastOf 51 = .ok (.invokestatic 51, 3) := by decide +kernel
theorem dX7_leastOf_54 : decode cX7_leastOf 54 = .ok (.lstore 7, 2) := by decide +kernel
theorem dX7_leastOf_56 : decode cX7_leastOf 56 = .ok (.lload 7, 2) := by decide +kernel
theorem dX7_leastOf_58 : decode cX7_leastOf 58 = .ok (.lconst 0, 1) := by decide +kernel
theorem dX7_leastOf_59 : decode cX7_leastOf 59 = .ok (.lcmp, 1) := by decide +kernel
theorem dX7_leastOf_60 : decode cX7_leastOf 60 = .ok (.ifCond .le 52, 3) := by decide +kernel
theorem dX7_leastOf_63 : decode cX7_leastOf 63 = .ok (.lload 7, 2) := by decide +kernel
theorem dX7_leastOf_65 : decode cX7_leastOf 65 = .ok (.lload 5, 2) := by decide +kernel
theorem dX7_leastOf_67 : decode cX7_leastOf 67 = .ok (.lcmp, 1) := by decide +kernel
theorem dX7_leastOf_68 : decode cX7_leastOf 68 = .ok (.ifCond .lt 6, 3) := by decide +kernel
theorem dX7_leastOf_71 : decode cX7_leastOf 71 = .ok (.goto 41, 3) := by decide +kernel
theorem dX7_leastOf_74 : decode cX7_leastOf 74 = .ok (.lload 7, 2) := by decide +kernel
theorem dX7_leastOf_76 : decode cX7_leastOf 76 = .ok (.lload_n 3, 1) := by decide +kernel
theorem dX7_leastOf_77 : decode cX7_leastOf 77 = .ok (.invokestatic 43, 3) := by decide +kernel
theorem dX7_leastOf_80 : decode cX7_leastOf 80 = .ok (.lstore 13, 2) := by decide +kernel
theorem dX7_leastOf_82 : decode cX7_leastOf 82 = .ok (.aload_n 0, 1) := by decide +kernel
theorem dX7_leastOf_83 : decode cX7_leastOf 83 = .ok (.iload_n 1, 1) := by decide +kernel
theorem dX7_leastOf_84 : decode cX7_leastOf 84 = .ok (.lload 13, 2) := by decide +kernel
theorem dX7_leastOf_86 : decode cX7_leastOf 86 = .ok (.invokevirtual 47, 3) := by decide +kernel
theorem dX7_leastOf_89 : decode cX7_leastOf 89 = .ok (.istore 15, 2) := by decide +kernel
theorem dX7_leastOf_91 : decode cX7_leastOf 91 = .ok (.iload 15, 2) := by decide +kernel
theorem dX7_leastOf_93 : decode cX7_leastOf 93 = .ok (.iload 11, 2) := by decide +kernel
theorem dX7_leastOf_95 : decode cX7_leastOf 95 = .ok (.if_icmp .ge 11, 3) := by decide +kernel
theorem dX7_leastOf_98 : decode cX7_leastOf 98 = .ok (.iload 15, 2) := by decide +kernel
theorem dX7_leastOf_100 : decode cX7_leastOf 100 = .ok (.istore 11, 2) := by decide +kernel
theorem dX7_leastOf_102 : decode cX7_leastOf 102 = .ok (.lload 13, 2) := by decide +kernel
theorem dX7_leastOf_104 : decode cX7_leastOf 104 = .ok (.lstore 9, 2) := by decide +kernel
theorem dX7_leastOf_106 : decode cX7_leastOf 106 = .ok (.iinc 12 1, 3) := by decide +kernel
theorem dX7_leastOf_109 : decode cX7_leastOf 109 = .ok (.goto (-68), 3) := by decide +kernel
theorem dX7_leastOf_112 : decode cX7_leastOf 112 = .ok (.lload 9, 2) := by decide +kernel
theorem dX7_leastOf_114 : decode cX7_leastOf 114 = .ok (.lreturn, 1) := by decide +kernel
theorem dX7_nextOfLikeSize_0 : decode cX7_nextOfLikeSize 0 = .ok (.lload_n 0, 1) := by decide +kernel
theorem dX7_nextOfLikeSize_1 : decode cX7_nextOfLikeSize 1 = .ok (.lload_n 0, 1) := by decide +kernel
theorem dX7_nextOfLikeSize_2 : decode cX7_nextOfLikeSize 2 = .ok (.lneg, 1) := by decide +kernel
theorem dX7_nextOfLikeSize_3 : decode cX7_nextOfLikeSize 3 = .ok (.land, 1) := by decide +kernel
theorem dX7_nextOfLikeSize_4 : decode cX7_nextOfLikeSize 4 = .ok (.lstore_n 2, 1) := by decide +kernel
theorem dX7_nextOfLikeSize_5 : decode cX7_nextOfLikeSize 5 = .ok (.lload_n 2, 1) := by decide +kernel
theorem dX7_nextOfLikeSize_6 : decode cX7_nextOfLikeSize 6 = .ok (.lconst 0, 1) := by decide +kernel
theorem dX7_nextOfLikeSize_7 : decode cX7_nextOfLikeSize 7 = .ok (.lcmp, 1) := by decide +kernel
theorem dX7_nextOfLikeSize_8 : decode cX7_nextOfLikeSize 8 = .ok (.ifCond .ne 5, 3) := by decide +kernel
theorem dX7_nextOfLikeSize_11 : decode cX7_nextOfLikeSize 11 = .ok (.lconst 0, 1) := by decide +kernel
theorem dX7_nextOfLikeSize_12 : decode cX7_nextOfLikeSize 12 = .ok (.lreturn, 1) := by decide +kernel
theorem dX7_nextOfLikeSize_13 : decode cX7_nextOfLikeSize 13 = .ok (.lload_n 0, 1) := by decide +kernel
theorem dX7_nextOfLikeSize_14 : decode cX7_nextOfLikeSize 14 = .ok (.lload_n 2, 1) := by decide +kernel
theorem dX7_nextOfLikeSize_15 : decode cX7_nextOfLikeSize 15 = .ok (.ladd, 1) := by decide +kernel
theorem dX7_nextOfLikeSize_16 : decode cX7_nextOfLikeSize 16 = .ok (.lstore 4, 2) := by decide +kernel
theorem dX7_nextOfLikeSize_18 : decode cX7_nextOfLikeSize 18 = .ok (.lload 4, 2) := by decide +kernel
theorem dX7_nextOfLikeSize_20 : decode cX7_nextOfLikeSize 20 = .ok (.lload_n 0, 1) := by decide +kernel
theorem dX7_nextOfLikeSize_21 : decode cX7_nextOfLikeSize 21 = .ok (.lload 4, 2) := by decide +kernel
theorem dX7_nextOfLikeSize_23 : decode cX7_nextOfLikeSize 23 = .ok (.lxor, 1) := by decide +kernel
theorem dX7_nextOfLikeSize_24 : decode cX7_nextOfLikeSize 24 = .ok (.iconst 2, 1) := by decide +kernel
theorem dX7_nextOfLikeSize_25 : decode cX7_nextOfLikeSize 25 = .ok (.lushr, 1) := by decide +kernel
theorem dX7_nextOfLikeSize_26 : decode cX7_nextOfLikeSize 26 = .ok (.lload_n 2, 1) := by decide +kernel
theorem dX7_nextOfLikeSize_27 : decode cX7_nextOfLikeSize 27 = .ok (.ldiv, 1) := by decide +kernel
theorem dX7_nextOfLikeSize_28 : decode cX7_nextOfLikeSize 28 = .ok (.lor, 1) := by decide +kernel
theorem dX7_nextOfLikeSize_29 : decode cX7_nextOfLikeSize 29 = .ok (.lreturn, 1) := by decide +kernel
theorem dX7_spread_0 : decode cX7_spread 0 = .ok (.lload_n 2, 1) := by decide +kernel
theorem dX7_spread_1 : decode cX7_spread 1 = .ok (.lstore 4, 2) := by decide +kernel
theorem dX7_spread_3 : decode cX7_spread 3 = .ok (.lconst 0, 1) := by decide +kernel
theorem dX7_spread_4 : decode cX7_spread 4 = .ok (.lstore 6, 2) := by decide +kernel
theorem dX7_spread_6 : decode cX7_spread 6 = .ok (.iconst 0, 1) := by decide +kernel
theorem dX7_spread_7 : decode cX7_spread 7 = .ok (.istore 8, 2) := by decide +kernel
theorem dX7_spread_9 : decode cX7_spread 9 = .ok (.iload 8, 2) := by decide +kernel
theorem dX7_spread_11 : decode cX7_spread 11 = .ok (.bipush 64, 2) := by decide +kernel
theorem dX7_spread_13 : decode cX7_spread 13 = .ok (.if_icmp .ge 49, 3) := by decide +kernel
theorem dX7_spread_16 : decode cX7_spread 16 = .ok (.lload 4, 2) := by decide +kernel
theorem dX7_spread_18 : decode cX7_spread 18 = .ok (.lconst 0, 1) := by decide +kernel
theorem dX7_spread_19 : decode cX7_spread 19 = .ok (.lcmp, 1) := by decide +kernel
theorem dX7_spread_20 : decode cX7_spread 20 = .ok (.ifCond .eq 42, 3) := by decide +kernel
theorem dX7_spread_23 : decode cX7_spread 23 = .ok (.lload 4, 2) := by decide +kernel
theorem dX7_spread_25 : decode cX7_spread 25 = .ok (.lload 4, 2) := by decide +kernel
theorem dX7_spread_27 : decode cX7_spread 27 = .ok (.lneg, 1) := by decide +kernel
theorem dX7_spread_28 : decode cX7_spread 28 = .ok (.land, 1) := by decide +kernel
theorem dX7_spread_29 : decode cX7_spread 29 = .ok (.lstore 9, 2) := by decide +kernel
theorem dX7_spread_31 : decode cX7_spread 31 = .ok (.lload_n 0, 1) := by decide +kernel
theorem dX7_spread_32 : decode cX7_spread 32 = .ok (.iload 8, 2) := by decide +kernel
theorem dX7_spread_34 : decode cX7_spread 34 = .ok (.lushr, 1) := by decide +kernel
theorem dX7_spread_35 : decode cX7_spread 35 = .ok (.lconst 1, 1) := by decide +kernel
theorem dX7_spread_36 : decode cX7_spread 36 = .ok (.land, 1) := by decide +kernel
theorem dX7_spread_37 : decode cX7_spread 37 = .ok (.lconst 0, 1) := by decide +kernel
theorem dX7_spread_38 : decode cX7_spread 38 = .ok (.lcmp, 1) := by decide +kernel
theorem dX7_spread_39 : decode cX7_spread 39 = .ok (.ifCond .eq 10, 3) := by decide +kernel
theorem dX7_spread_42 : decode cX7_spread 42 = .ok (.lload 6, 2) := by decide +kernel
theorem dX7_spread_44 : decode cX7_spread 44 = .ok (.lload 9, 2) := by decide +kernel
theorem dX7_spread_46 : decode cX7_spread 46 = .ok (.lor, 1) := by decide +kernel
theorem dX7_spread_47 : decode cX7_spread 47 = .ok (.lstore 6, 2) := by decide +kernel
theorem dX7_spread_49 : decode cX7_spread 49 = .ok (.lload 4, 2) := by decide +kernel
theorem dX7_spread_51 : decode cX7_spread 51 = .ok (.lload 9, 2) := by decide +kernel
theorem dX7_spread_53 : decode cX7_spread 53 = .ok (.lxor, 1) := by decide +kernel
theorem dX7_spread_54 : decode cX7_spread 54 = .ok (.lstore 4, 2) := by decide +kernel
theorem dX7_spread_56 : decode cX7_spread 56 = .ok (.iinc 8 1, 3) := by decide +kernel
theorem dX7_spread_59 : decode cX7_spread 59 = .ok (.goto (-50), 3) := by decide +kernel
theorem dX7_spread_62 : decode cX7_spread 62 = .ok (.lload 6, 2) := by decide +kernel
theorem dX7_spread_64 : decode cX7_spread 64 = .ok (.lreturn, 1) := by decide +kernel
theorem dX8_init_0 : decode cX8_init 0 = .ok (.aload_n 0, 1) := by decide +kernel
theorem dX8_init_1 : decode cX8_init 1 = .ok (.invokespecial 3, 3) := by decide +kernel
theorem dX8_init_4 : decode cX8_init 4 = .ok (.aload_n 0, 1) := by decide +kernel
theorem dX8_init_5 : decode cX8_init 5 = .ok (.bipush 20, 2) := by decide +kernel
theorem dX8_init_7 : decode cX8_init 7 = .ok (.newarray .long, 2) := by decide +kernel
theorem dX8_init_9 : decode cX8_init 9 = .ok (.putfield 9, 3) := by decide +kernel
theorem dX8_init_12 : decode cX8_init 12 = .ok (.return_, 1) := by decide +kernel
theorem dX8_isMissing_0 : decode cX8_isMissing 0 = .ok (.aload_n 0, 1) := by decide +kernel
theorem dX8_isMissing_1 : decode cX8_isMissing 1 = .ok (.getfield 15, 3) := by decide +kernel
theorem dX8_isMissing_4 : decode cX8_isMissing 4 = .ok (.ifCond .ne 7, 3) := by decide +kernel
theorem dX8_isMissing_7 : decode cX8_isMissing 7 = .ok (.iconst 1, 1) := by decide +kernel
theorem dX8_isMissing_8 : decode cX8_isMissing 8 = .ok (.goto 4, 3) := by decide +kernel
theorem dX8_isMissing_11 : decode cX8_isMissing 11 = .ok (.iconst 0, 1) := by decide +kernel
theorem dX8_isMissing_12 : decode cX8_isMissing 12 = .ok (.ireturn, 1) := by decide +kernel
theorem dX8_remove_0 : decode cX8_remove 0 = .ok (.aload_n 0, 1) := by decide +kernel
theorem dX8_remove_1 : decode cX8_remove 1 = .ok (.iconst 0, 1) := by decide +kernel
theorem dX8_remove_2 : decode cX8_remove 2 = .ok (.putfield 15, 3) := by decide +kernel
theorem dX8_remove_5 : decode cX8_remove 5 = .ok (.aload_n 0, 1) := by decide +kernel
theorem dX8_remove_6 : decode cX8_remove 6 = .ok (.iconst 0, 1) := by decide +kernel
theorem dX8_remove_7 : decode cX8_remove 7 = .ok (.putfield 19, 3) := by decide +kernel
theorem dX8_remove_10 : decode cX8_remove 10 = .ok (.return_, 1) := by decide +kernel
theorem dX8_lay_0 : decode cX8_lay 0 = .ok (.aload_n 0, 1) := by decide +kernel
theorem dX8_lay_1 : decode cX8_lay 1 = .ok (.iconst 1, 1) := by decide +kernel
theorem dX8_lay_2 : decode cX8_lay 2 = .ok (.putfield 15, 3) := by decide +kernel
theorem dX8_lay_5 : decode cX8_lay 5 = .ok (.aload_n 0, 1) := by decide +kernel
theorem dX8_lay_6 : decode cX8_lay 6 = .ok (.iload_n 1, 1) := by decide +kernel
theorem dX8_lay_7 : decode cX8_lay 7 = .ok (.putfield 23, 3) := by decide +kernel
theorem dX8_lay_10 : decode cX8_lay 10 = .ok (.aload_n 0, 1) := by decide +kernel
theorem dX8_lay_11 : decode cX8_lay 11 = .ok (.iload_n 2, 1) := by decide +kernel
theorem dX8_lay_12 : decode cX8_lay 12 = .ok (.putfield 19, 3) := by decide +kernel
theorem dX8_lay_15 : decode cX8_lay 15 = .ok (.iconst 0, 1) := by decide +kernel
theorem dX8_lay_16 : decode cX8_lay 16 = .ok (.istore_n 3, 1) := by decide +kernel
theorem dX8_lay_17 : decode cX8_lay 17 = .ok (.iload_n 3, 1) := by decide +kernel
theorem dX8_lay_18 : decode cX8_lay 18 = .ok (.aload_n 0, 1) := by decide +kernel
theorem dX8_lay_19 : decode cX8_lay 19 = .ok (.getfield 9, 3) := by decide +kernel
theorem dX8_lay_22 : decode cX8_lay 22 = .ok (.arraylength, 1) := by decide +kernel
theorem dX8_lay_23 : decode cX8_lay 23 = .ok (.if_icmp .ge 16, 3) := by decide +kernel
theorem dX8_lay_26 : decode cX8_lay 26 = .ok (.aload_n 0, 1) := by decide +kernel
theorem dX8_lay_27 : decode cX8_lay 27 = .ok (.getfield 9, 3) := by decide +kernel
theorem dX8_lay_30 : decode cX8_lay 30 = .ok (.iload_n 3, 1) := by decide +kernel
theorem dX8_lay_31 : decode cX8_lay 31 = .ok (.lconst 0, 1) := by decide +kernel
theorem dX8_lay_32 : decode cX8_lay 32 = .ok (.lastore, 1) := by decide +kernel
theorem dX8_lay_33 : decode cX8_lay 33 = .ok (.iinc 3 1, 3) := by decide +kernel
theorem dX8_lay_36 : decode cX8_lay 36 = .ok (.goto (-19), 3) := by decide +kernel
theorem dX8_lay_39 : decode cX8_lay 39 = .ok (.return_, 1) := by decide +kernel
theorem dX8_hasPlace_0 : decode cX8_hasPlace 0 = .ok (.iload_n 1, 1) := by decide +kernel
theorem dX8_hasPlace_1 : decode cX8_hasPlace 1 = .ok (.ifCond .lt 24, 3) := by decide +kernel
theorem dX8_hasPlace_4 : decode cX8_hasPlace 4 = .ok (.iload_n 1, 1) := by decide +kernel
theorem dX8_hasPlace_5 : decode cX8_hasPlace 5 = .ok (.aload_n 0, 1) := by decide +kernel
theorem dX8_hasPlace_6 : decode cX8_hasPlace 6 = .ok (.getfield 19, 3) := by decide +kernel
theorem dX8_hasPlace_9 : decode cX8_hasPlace 9 = .ok (.if_icmp .ge 16, 3) := by decide +kernel
theorem dX8_hasPlace_12 : decode cX8_hasPlace 12 = .ok (.iload_n 1, 1) := by decide +kernel
theorem dX8_hasPlace_13 : decode cX8_hasPlace 13 = .ok (.aload_n 0, 1) := by decide +kernel
theorem dX8_hasPlace_14 : decode cX8_hasPlace 14 = .ok (.getfield 9, 3) := by decide +kernel
theorem dX8_hasPlace_17 : decode cX8_hasPlace 17 = .ok (.arraylength, 1) := by decide +kernel
theorem dX8_hasPlace_18 : decode cX8_hasPlace 18 = .ok (.if_icmp .ge 7, 3) := by decide +kernel
theorem dX8_hasPlace_21 : decode cX8_hasPlace 21 = .ok (.iconst 1, 1) := by decide +kernel
theorem dX8_hasPlace_22 : decode cX8_hasPlace 22 = .ok (.goto 4, 3) := by decide +kernel
theorem dX8_hasPlace_25 : decode cX8_hasPlace 25 = .ok (.iconst 0, 1) := by decide +kernel
theorem dX8_hasPlace_26 : decode cX8_hasPlace 26 = .ok (.ireturn, 1) := by decide +kernel
theorem dX8_at_0 : decode cX8_at 0 = .ok (.iload_n 1, 1) := by decide +kernel
theorem dX8_at_1 : decode cX8_at 1 = .ok (.ifCond .lt 29, 3) := by decide +kernel
theorem dX8_at_4 : decode cX8_at 4 = .ok (.iload_n 1, 1) := by decide +kernel
theorem dX8_at_5 : decode cX8_at 5 = .ok (.aload_n 0, 1) := by decide +kernel
theorem dX8_at_6 : decode cX8_at 6 = .ok (.getfield 19, 3) := by decide +kernel
theorem dX8_at_9 : decode cX8_at 9 = .ok (.if_icmp .ge 21, 3) := by decide +kernel
theorem dX8_at_12 : decode cX8_at 12 = .ok (.iload_n 1, 1) := by decide +kernel
theorem dX8_at_13 : decode cX8_at 13 = .ok (.aload_n 0, 1) := by decide +kernel
theorem dX8_at_14 : decode cX8_at 14 = .ok (.getfield 9, 3) := by decide +kernel
theorem dX8_at_17 : decode cX8_at 17 = .ok (.arraylength, 1) := by decide +kernel
theorem dX8_at_18 : decode cX8_at 18 = .ok (.if_icmp .ge 12, 3) := by decide +kernel
theorem dX8_at_21 : decode cX8_at 21 = .ok (.aload_n 0, 1) := by decide +kernel
theorem dX8_at_22 : decode cX8_at 22 = .ok (.getfield 9, 3) := by decide +kernel
theorem dX8_at_25 : decode cX8_at 25 = .ok (.iload_n 1, 1) := by decide +kernel
theorem dX8_at_26 : decode cX8_at 26 = .ok (.laload, 1) := by decide +kernel
theorem dX8_at_27 : decode cX8_at 27 = .ok (.goto 4, 3) := by decide +kernel
theorem dX8_at_30 : decode cX8_at 30 = .ok (.lconst 0, 1) := by decide +kernel
theorem dX8_at_31 : decode cX8_at 31 = .ok (.lreturn, 1) := by decide +kernel
theorem dX8_place_0 : decode cX8_place 0 = .ok (.iload_n 1, 1) := by decide +kernel
theorem dX8_place_1 : decode cX8_place 1 = .ok (.ifCond .lt 20, 3) := by decide +kernel
theorem dX8_place_4 : decode cX8_place 4 = .ok (.iload_n 1, 1) := by decide +kernel
theorem dX8_place_5 : decode cX8_place 5 = .ok (.aload_n 0, 1) := by decide +kernel
theorem dX8_place_6 : decode cX8_place 6 = .ok (.getfield 19, 3) := by decide +kernel
theorem dX8_place_9 : decode cX8_place 9 = .ok (.if_icmp .ge 12, 3) := by decide +kernel
theorem dX8_place_12 : decode cX8_place 12 = .ok (.iload_n 1, 1) := by decide +kernel
theorem dX8_place_13 : decode cX8_place 13 = .ok (.aload_n 0, 1) := by decide +kernel
theorem dX8_place_14 : decode cX8_place 14 = .ok (.getfield 9, 3) := by decide +kernel
theorem dX8_place_17 : decode cX8_place 17 = .ok (.arraylength, 1) := by decide +kernel
theorem dX8_place_18 : decode cX8_place 18 = .ok (.if_icmp .lt 5, 3) := by decide +kernel
theorem dX8_place_21 : decode cX8_place 21 = .ok (.iconst 0, 1) := by decide +kernel
theorem dX8_place_22 : decode cX8_place 22 = .ok (.ireturn, 1) := by decide +kernel
theorem dX8_place_23 : decode cX8_place 23 = .ok (.aload_n 0, 1) := by decide +kernel
theorem dX8_place_24 : decode cX8_place 24 = .ok (.getfield 9, 3) := by decide +kernel
theorem dX8_place_27 : decode cX8_place 27 = .ok (.iload_n 1, 1) := by decide +kernel
theorem dX8_place_28 : decode cX8_place 28 = .ok (.aload_n 0, 1) := by decide +kernel
theorem dX8_place_29 : decode cX8_place 29 = .ok (.getfield 23, 3) := by decide +kernel
theorem dX8_place_32 : decode cX8_place 32 = .ok (.ifCond .ne 9, 3) := by decide +kernel
theorem dX8_place_35 : decode cX8_place 35 = .ok (.lload_n 2, 1) := by decide +kernel
theorem dX8_place_36 : decode cX8_place 36 = .ok (.l2i, 1) := by decide +kernel
theorem dX8_place_37 : decode cX8_place 37 = .ok (.i2l, 1) := by decide +kernel
theorem dX8_place_38 : decode cX8_place 38 = .ok (.goto 4, 3) := by decide +kernel
theorem dX8_place_41 : decode cX8_place 41 = .ok (.lload_n 2, 1) := by decide +kernel
theorem dX8_place_42 : decode cX8_place 42 = .ok (.lastore, 1) := by decide +kernel
theorem dX8_place_43 : decode cX8_place 43 = .ok (.iconst 1, 1) := by decide +kernel
theorem dX8_place_44 : decode cX8_place 44 = .ok (.ireturn, 1) := by decide +kernel
theorem dX9_init_0 : decode cX9_init 0 = .ok (.aload_n 0, 1) := by decide +kernel
theorem dX9_init_1 : decode cX9_init 1 = .ok (.invokespecial 3, 3) := by decide +kernel
theorem dX9_init_4 : decode cX9_init 4 = .ok (.aload_n 0, 1) := by decide +kernel
theorem dX9_init_5 : decode cX9_init 5 = .ok (.bipush 6, 2) := by decide +kernel
theorem dX9_init_7 : decode cX9_init 7 = .ok (.anewarray 9, 3) := by decide +kernel
theorem dX9_init_10 : decode cX9_init 10 = .ok (.putfield 11, 3) := by decide +kernel
theorem dX9_init_13 : decode cX9_init 13 = .ok (.aload_n 0, 1) := by decide +kernel
theorem dX9_init_14 : decode cX9_init 14 = .ok (.bipush 6, 2) := by decide +kernel
theorem dX9_init_16 : decode cX9_init 16 = .ok (.anewarray 9, 3) := by decide +kernel
theorem dX9_init_19 : decode cX9_init 19 = .ok (.putfield 17, 3) := by decide +kernel
theorem dX9_init_22 : decode cX9_init 22 = .ok (.return_, 1) := by decide +kernel
theorem dX9_isMissing_0 : decode cX9_isMissing 0 = .ok (.aload_n 0, 1) := by decide +kernel
theorem dX9_isMissing_1 : decode cX9_isMissing 1 = .ok (.getfield 20, 3) := by decide +kernel
theorem dX9_isMissing_4 : decode cX9_isMissing 4 = .ok (.ifCond .ne 7, 3) := by decide +kernel
theorem dX9_isMissing_7 : decode cX9_isMissing 7 = .ok (.iconst 1, 1) := by decide +kernel
theorem dX9_isMissing_8 : decode cX9_isMissing 8 = .ok (.goto 4, 3) := by decide +kernel
theorem dX9_isMissing_11 : decode cX9_isMissing 11 = .ok (.iconst 0, 1) := by decide +kernel
theorem dX9_isMissing_12 : decode cX9_isMissing 12 = .ok (.ireturn, 1) := by decide +kernel
theorem dX9_places_0 : decode cX9_places 0 = .ok (.aload_n 0, 1) := by decide +kernel
theorem dX9_places_1 : decode cX9_places 1 = .ok (.getfield 24, 3) := by decide +kernel
theorem dX9_places_4 : decode cX9_places 4 = .ok (.ireturn, 1) := by decide +kernel
theorem dX9_remove_0 : decode cX9_remove 0 = .ok (.aload_n 0, 1) := by decide +kernel
theorem dX9_remove_1 : decode cX9_remove 1 = .ok (.iconst 0, 1) := by decide +kernel
theorem dX9_remove_2 : decode cX9_remove 2 = .ok (.putfield 20, 3) := by decide +kernel
theorem dX9_remove_5 : decode cX9_remove 5 = .ok (.aload_n 0, 1) := by decide +kernel
theorem dX9_remove_6 : decode cX9_remove 6 = .ok (.iconst 0, 1) := by decide +kernel
theorem dX9_remove_7 : decode cX9_remove 7 = .ok (.putfield 24, 3) := by decide +kernel
theorem dX9_remove_10 : decode cX9_remove 10 = .ok (.return_, 1) := by decide +kernel
theorem dX9_lay_0 : decode cX9_lay 0 = .ok (.aload_n 0, 1) := by decide +kernel
theorem dX9_lay_1 : decode cX9_lay 1 = .ok (.iconst 1, 1) := by decide +kernel
theorem dX9_lay_2 : decode cX9_lay 2 = .ok (.putfield 20, 3) := by decide +kernel
theorem dX9_lay_5 : decode cX9_lay 5 = .ok (.aload_n 0, 1) := by decide +kernel
theorem dX9_lay_6 : decode cX9_lay 6 = .ok (.iload_n 1, 1) := by decide +kernel
theorem dX9_lay_7 : decode cX9_lay 7 = .ok (.putfield 28, 3) := by decide +kernel
theorem dX9_lay_10 : decode cX9_lay 10 = .ok (.aload_n 0, 1) := by decide +kernel
theorem dX9_lay_11 : decode cX9_lay 11 = .ok (.iload_n 2, 1) := by decide +kernel
theorem dX9_lay_12 : decode cX9_lay 12 = .ok (.putfield 24, 3) := by decide +kernel
theorem dX9_lay_15 : decode cX9_lay 15 = .ok (.iconst 0, 1) := by decide +kernel
theorem dX9_lay_16 : decode cX9_lay 16 = .ok (.istore_n 3, 1) := by decide +kernel
theorem dX9_lay_17 : decode cX9_lay 17 = .ok (.iload_n 3, 1) := by decide +kernel
theorem dX9_lay_18 : decode cX9_lay 18 = .ok (.aload_n 0, 1) := by decide +kernel
theorem dX9_lay_19 : decode cX9_lay 19 = .ok (.getfield 11, 3) := by decide +kernel
theorem dX9_lay_22 : decode cX9_lay 22 = .ok (.arraylength, 1) := by decide +kernel
theorem dX9_lay_23 : decode cX9_lay 23 = .ok (.if_icmp .ge 16, 3) := by decide +kernel
theorem dX9_lay_26 : decode cX9_lay 26 = .ok (.aload_n 0, 1) := by decide +kernel
theorem dX9_lay_27 : decode cX9_lay 27 = .ok (.getfield 11, 3) := by decide +kernel
theorem dX9_lay_30 : decode cX9_lay 30 = .ok (.iload_n 3, 1) := by decide +kernel
theorem dX9_lay_31 : decode cX9_lay 31 = .ok (.aconst_null, 1) := by decide +kernel
theorem dX9_lay_32 : decode cX9_lay 32 = .ok (.aastore, 1) := by decide +kernel
theorem dX9_lay_33 : decode cX9_lay 33 = .ok (.iinc 3 1, 3) := by decide +kernel
theorem dX9_lay_36 : decode cX9_lay 36 = .ok (.goto (-19), 3) := by decide +kernel
theorem dX9_lay_39 : decode cX9_lay 39 = .ok (.return_, 1) := by decide +kernel
theorem dX9_hasPlaces_0 : decode cX9_hasPlaces 0 = .ok (.iload_n 2, 1) := by decide +kernel
theorem dX9_hasPlaces_1 : decode cX9_hasPlaces 1 = .ok (.ifCond .lt 29, 3) := by decide +kernel
theorem dX9_hasPlaces_4 : decode cX9_hasPlaces 4 = .ok (.iload_n 1, 1) := by decide +kernel
theorem dX9_hasPlaces_5 : decode cX9_hasPlaces 5 = .ok (.ifCond .lt 25, 3) := by decide +kernel
theorem dX9_hasPlaces_8 : decode cX9_hasPlaces 8 = .ok (.iload_n 2, 1) := by decide +kernel
theorem dX9_hasPlaces_9 : decode cX9_hasPlaces 9 = .ok (.aload_n 0, 1) := by decide +kernel
theorem dX9_hasPlaces_10 : decode cX9_hasPlaces 10 = .ok (.getfield 24, 3) := by decide +kernel
theorem dX9_hasPlaces_13 : decode cX9_hasPlaces 13 = .ok (.if_icmp .gt 17, 3) := by decide +kernel
theorem dX9_hasPlaces_16 : decode cX9_hasPlaces 16 = .ok (.iload_n 1, 1) := by decide +kernel
theorem dX9_hasPlaces_17 : decode cX9_hasPlaces 17 = .ok (.aload_n 0, 1) := by decide +kernel
theorem dX9_hasPlaces_18 : decode cX9_hasPlaces 18 = .ok (.getfield 24, 3) := by decide +kernel
theorem dX9_hasPlaces_21 : decode cX9_hasPlaces 21 = .ok (.iload_n 2, 1) := by decide +kernel
theorem dX9_hasPlaces_22 : decode cX9_hasPlaces 22 = .ok (.isub, 1) := by decide +kernel
theorem dX9_hasPlaces_23 : decode cX9_hasPlaces 23 = .ok (.if_icmp .gt 7, 3) := by decide +kernel
theorem dX9_hasPlaces_26 : decode cX9_hasPlaces 26 = .ok (.iconst 1, 1) := by decide +kernel
theorem dX9_hasPlaces_27 : decode cX9_hasPlaces 27 = .ok (.goto 4, 3) := by decide +kernel
theorem dX9_hasPlaces_30 : decode cX9_hasPlaces 30 = .ok (.iconst 0, 1) := by decide +kernel
theorem dX9_hasPlaces_31 : decode cX9_hasPlaces 31 = .ok (.ireturn, 1) := by decide +kernel
theorem dX9_at_0 : decode cX9_at 0 = .ok (.iload_n 1, 1) := by decide +kernel
theorem dX9_at_1 : decode cX9_at 1 = .ok (.ifCond .lt 29, 3) := by decide +kernel
theorem dX9_at_4 : decode cX9_at 4 = .ok (.iload_n 1, 1) := by decide +kernel
theorem dX9_at_5 : decode cX9_at 5 = .ok (.aload_n 0, 1) := by decide +kernel
theorem dX9_at_6 : decode cX9_at 6 = .ok (.getfield 24, 3) := by decide +kernel
theorem dX9_at_9 : decode cX9_at 9 = .ok (.if_icmp .ge 21, 3) := by decide +kernel
theorem dX9_at_12 : decode cX9_at 12 = .ok (.iload_n 1, 1) := by decide +kernel
theorem dX9_at_13 : decode cX9_at 13 = .ok (.aload_n 0, 1) := by decide +kernel
theorem dX9_at_14 : decode cX9_at 14 = .ok (.getfield 11, 3) := by decide +kernel
theorem dX9_at_17 : decode cX9_at 17 = .ok (.arraylength, 1) := by decide +kernel
theorem dX9_at_18 : decode cX9_at 18 = .ok (.if_icmp .ge 12, 3) := by decide +kernel
theorem dX9_at_21 : decode cX9_at 21 = .ok (.aload_n 0, 1) := by decide +kernel
theorem dX9_at_22 : decode cX9_at 22 = .ok (.getfield 11, 3) := by decide +kernel
theorem dX9_at_25 : decode cX9_at 25 = .ok (.iload_n 1, 1) := by decide +kernel
theorem dX9_at_26 : decode cX9_at 26 = .ok (.aaload, 1) := by decide +kernel
theorem dX9_at_27 : decode cX9_at 27 = .ok (.goto 4, 3) := by decide +kernel
theorem dX9_at_30 : decode cX9_at 30 = .ok (.aconst_null, 1) := by decide +kernel
theorem dX9_at_31 : decode cX9_at 31 = .ok (.areturn, 1) := by decide +kernel
theorem dX9_mayHold_0 : decode cX9_mayHold 0 = .ok (.aload_n 1, 1) := by decide +kernel
theorem dX9_mayHold_1 : decode cX9_mayHold 1 = .ok (.ifnull 30, 3) := by decide +kernel
theorem dX9_mayHold_4 : decode cX9_mayHold 4 = .ok (.aload_n 0, 1) := by decide +kernel
theorem dX9_mayHold_5 : decode cX9_mayHold 5 = .ok (.getfield 28, 3) := by decide +kernel
theorem dX9_mayHold_8 : decode cX9_mayHold 8 = .ok (.ifCond .eq 23, 3) := by decide +kernel
theorem dX9_mayHold_11 : decode cX9_mayHold 11 = .ok (.aload_n 1, 1) := by decide +kernel
theorem dX9_mayHold_12 : decode cX9_mayHold 12 = .ok (.aload_n 0, 1) := by decide +kernel
theorem dX9_mayHold_13 : decode cX9_mayHold 13 = .ok (.getfield 28, 3) := by decide +kernel
theorem dX9_mayHold_16 : decode cX9_mayHold 16 = .ok (.iconst 1, 1) := by decide +kernel
theorem dX9_mayHold_17 : decode cX9_mayHold 17 = .ok (.if_icmp .ne 7, 3) := by decide +kernel
theorem dX9_mayHold_20 : decode cX9_mayHold 20 = .ok (.iconst 3, 1) := by decide +kernel
theorem dX9_mayHold_21 : decode cX9_mayHold 21 = .ok (.goto 4, 3) := by decide +kernel
theorem dX9_mayHold_24 : decode cX9_mayHold 24 = .ok (.iconst 2, 1) := by decide +kernel
theorem dX9_mayHold_25 : decode cX9_mayHold 25 = .ok (.invokevirtual 31, 3) := by decide +kernel
theorem dX9_mayHold_28 : decode cX9_mayHold 28 = .ok (.ifCond .eq 7, 3) := by decide +kernel
theorem dX9_mayHold_31 : decode cX9_mayHold 31 = .ok (.iconst 1, 1) := by decide +kernel
theorem dX9_mayHold_32 : decode cX9_mayHold 32 = .ok (.goto 4, 3) := by decide +kernel
theorem dX9_mayHold_35 : decode cX9_mayHold 35 = .ok (.iconst 0, 1) := by decide +kernel
theorem dX9_mayHold_36 : decode cX9_mayHold 36 = .ok (.ireturn, 1) := by decide +kernel
theorem dX9_place_0 : decode cX9_place 0 = .ok (.iload_n 1, 1) := by decide +kernel
theorem dX9_place_1 : decode cX9_place 1 = .ok (.ifCond .lt 28, 3) := by decide +kernel
theorem dX9_place_4 : decode cX9_place 4 = .ok (.iload_n 1, 1) := by decide +kernel
theorem dX9_place_5 : decode cX9_place 5 = .ok (.aload_n 0, 1) := by decide +kernel
theorem dX9_place_6 : decode cX9_place 6 = .ok (.getfield 24, 3) := by decide +kernel
theorem dX9_place_9 : decode cX9_place 9 = .ok (.if_icmp .ge 20, 3) := by decide +kernel
theorem dX9_place_12 : decode cX9_place 12 = .ok (.iload_n 1, 1) := by decide +kernel
theorem dX9_place_13 : decode cX9_place 13 = .ok (.aload_n 0, 1) := by decide +kernel
theorem dX9_place_14 : decode cX9_place 14 = .ok (.getfield 11, 3) := by decide +kernel
theorem dX9_place_17 : decode cX9_place 17 = .ok (.arraylength, 1) := by decide +kernel
theorem dX9_place_18 : decode cX9_place 18 = .ok (.if_icmp .ge 11, 3) := by decide +kernel
theorem dX9_place_21 : decode cX9_place 21 = .ok (.aload_n 0, 1) := by decide +kernel
theorem dX9_place_22 : decode cX9_place 22 = .ok (.aload_n 2, 1) := by decide +kernel
theorem dX9_place_23 : decode cX9_place 23 = .ok (.invokevirtual 35, 3) := by decide +kernel
theorem dX9_place_26 : decode cX9_place 26 = .ok (.ifCond .ne 5, 3) := by decide +kernel
theorem dX9_place_29 : decode cX9_place 29 = .ok (.iconst 0, 1) := by decide +kernel
theorem dX9_place_30 : decode cX9_place 30 = .ok (.ireturn, 1) := by decide +kernel
theorem dX9_place_31 : decode cX9_place 31 = .ok (.aload_n 0, 1) := by decide +kernel
theorem dX9_place_32 : decode cX9_place 32 = .ok (.getfield 11, 3) := by decide +kernel
theorem dX9_place_35 : decode cX9_place 35 = .ok (.iload_n 1, 1) := by decide +kernel
theorem dX9_place_36 : decode cX9_place 36 = .ok (.aload_n 2, 1) := by decide +kernel
theorem dX9_place_37 : decode cX9_place 37 = .ok (.aastore, 1) := by decide +kernel
theorem dX9_place_38 : decode cX9_place 38 = .ok (.iconst 1, 1) := by decide +kernel
theorem dX9_place_39 : decode cX9_place 39 = .ok (.ireturn, 1) := by decide +kernel
theorem dX9_becomeLike_0 : decode cX9_becomeLike 0 = .ok (.aload_n 0, 1) := by decide +kernel
theorem dX9_becomeLike_1 : decode cX9_becomeLike 1 = .ok (.aload_n 1, 1) := by decide +kernel
theorem dX9_becomeLike_2 : decode cX9_becomeLike 2 = .ok (.getfield 28, 3) := by decide +kernel
theorem dX9_becomeLike_5 : decode cX9_becomeLike 5 = .ok (.aload_n 1, 1) := by decide +kernel
theorem dX9_becomeLike_6 : decode cX9_becomeLike 6 = .ok (.getfield 24, 3) := by decide +kernel
theorem dX9_becomeLike_9 : decode cX9_becomeLike 9 = .ok (.invokevirtual 39, 3) := by decide +kernel
theorem dX9_becomeLike_12 : decode cX9_becomeLike 12 = .ok (.iconst 0, 1) := by decide +kernel
theorem dX9_becomeLike_13 : decode cX9_becomeLike 13 = .ok (.istore_n 2, 1) := by decide +kernel
theorem dX9_becomeLike_14 : decode cX9_becomeLike 14 = .ok (.iload_n 2, 1) := by decide +kernel
theorem dX9_becomeLike_15 : decode cX9_becomeLike 15 = .ok (.aload_n 0, 1) := by decide +kernel
theorem dX9_becomeLike_16 : decode cX9_becomeLike 16 = .ok (.getfield 11, 3) := by decide +kernel
theorem dX9_becomeLike_19 : decode cX9_becomeLike 19 = .ok (.arraylength, 1) := by decide +kernel
theorem dX9_becomeLike_20 : decode cX9_becomeLike 20 = .ok (.if_icmp .ge 20, 3) := by decide +kernel
theorem dX9_becomeLike_23 : decode cX9_becomeLike 23 = .ok (.aload_n 0, 1) := by decide +kernel
theorem dX9_becomeLike_24 : decode cX9_becomeLike 24 = .ok (.getfield 11, 3) := by decide +kernel
theorem dX9_becomeLike_27 : decode cX9_becomeLike 27 = .ok (.iload_n 2, 1) := by decide +kernel
theorem dX9_becomeLike_28 : decode cX9_becomeLike 28 = .ok (.aload_n 1, 1) := by decide +kernel
theorem dX9_becomeLike_29 : decode cX9_becomeLike 29 = .ok (.iload_n 2, 1) := by decide +kernel
theorem dX9_becomeLike_30 : decode cX9_becomeLike 30 = .ok (.invokevirtual 43, 3) := by decide +kernel
theorem dX9_becomeLike_33 : decode cX9_becomeLike 33 = .ok (.aastore, 1) := by decide +kernel
theorem dX9_becomeLike_34 : decode cX9_becomeLike 34 = .ok (.iinc 2 1, 3) := by decide +kernel
theorem dX9_becomeLike_37 : decode cX9_becomeLike 37 = .ok (.goto (-23), 3) := by decide +kernel
theorem dX9_becomeLike_40 : decode cX9_becomeLike 40 = .ok (.return_, 1) := by decide +kernel
theorem dX9_placeAll_0 : decode cX9_placeAll 0 = .ok (.iconst 0, 1) := by decide +kernel
theorem dX9_placeAll_1 : decode cX9_placeAll 1 = .ok (.istore 5, 2) := by decide +kernel
theorem dX9_placeAll_3 : decode cX9_placeAll 3 = .ok (.iload 5, 2) := by decide +kernel
theorem dX9_placeAll_5 : decode cX9_placeAll 5 = .ok (.iload 4, 2) := by decide +kernel
theorem dX9_placeAll_7 : decode cX9_placeAll 7 = .ok (.if_icmp .ge 34, 3) := by decide +kernel
theorem dX9_placeAll_10 : decode cX9_placeAll 10 = .ok (.iload 5, 2) := by decide +kernel
theorem dX9_placeAll_12 : decode cX9_placeAll 12 = .ok (.aload_n 0, 1) := by decide +kernel
theorem dX9_placeAll_13 : decode cX9_placeAll 13 = .ok (.getfield 17, 3) := by decide +kernel
theorem dX9_placeAll_16 : decode cX9_placeAll 16 = .ok (.arraylength, 1) := by decide +kernel
theorem dX9_placeAll_17 : decode cX9_placeAll 17 = .ok (.if_icmp .ge 24, 3) := by decide +kernel
theorem dX9_placeAll_20 : decode cX9_placeAll 20 = .ok (.aload_n 0, 1) := by decide +kernel
theorem dX9_placeAll_21 : decode cX9_placeAll 21 = .ok (.getfield 17, 3) := by decide +kernel
theorem dX9_placeAll_24 : decode cX9_placeAll 24 = .ok (.iload 5, 2) := by decide +kernel
theorem dX9_placeAll_26 : decode cX9_placeAll 26 = .ok (.aload_n 1, 1) := by decide +kernel
theorem dX9_placeAll_27 : decode cX9_placeAll 27 = .ok (.iload_n 2, 1) := by decide +kernel
theorem dX9_placeAll_28 : decode cX9_placeAll 28 = .ok (.iload 5, 2) := by decide +kernel
theorem dX9_placeAll_30 : decode cX9_placeAll 30 = .ok (.iadd, 1) := by decide +kernel
theorem dX9_placeAll_31 : decode cX9_placeAll 31 = .ok (.invokevirtual 43, 3) := by decide +kernel
theorem dX9_placeAll_34 : decode cX9_placeAll 34 = .ok (.aastore, 1) := by decide +kernel
theorem dX9_placeAll_35 : decode cX9_placeAll 35 = .ok (.iinc 5 1, 3) := by decide +kernel
theorem dX9_placeAll_38 : decode cX9_placeAll 38 = .ok (.goto (-35), 3) := by decide +kernel
theorem dX9_placeAll_41 : decode cX9_placeAll 41 = .ok (.iconst 0, 1) := by decide +kernel
theorem dX9_placeAll_42 : decode cX9_placeAll 42 = .ok (.istore 5, 2) := by decide +kernel
theorem dX9_placeAll_44 : decode cX9_placeAll 44 = .ok (.iload 5, 2) := by decide +kernel
theorem dX9_placeAll_46 : decode cX9_placeAll 46 = .ok (.iload 4, 2) := by decide +kernel
theorem dX9_placeAll_48 : decode cX9_placeAll 48 = .ok (.if_icmp .ge 39, 3) := by decide +kernel
theorem dX9_placeAll_51 : decode cX9_placeAll 51 = .ok (.iload 5, 2) := by decide +kernel
theorem dX9_placeAll_53 : decode cX9_placeAll 53 = .ok (.aload_n 0, 1) := by decide +kernel
theorem dX9_placeAll_54 : decode cX9_placeAll 54 = .ok (.getfield 17, 3) := by decide +kernel
theorem dX9_placeAll_57 : decode cX9_placeAll 57 = .ok (.arraylength, 1) := by decide +kernel
theorem dX9_placeAll_58 : decode cX9_placeAll 58 = .ok (.if_icmp .ge 29, 3) := by decide +kernel
theorem dX9_placeAll_61 : decode cX9_placeAll 61 = .ok (.aload_n 0, 1) := by decide +kernel
theorem dX9_placeAll_62 : decode cX9_placeAll 62 = .ok (.iload_n 3, 1) := by decide +kernel
theorem dX9_placeAll_63 : decode cX9_placeAll 63 = .ok (.iload 5, 2) := by decide +kernel
theorem dX9_placeAll_65 : decode cX9_placeAll 65 = .ok (.iadd, 1) := by decide +kernel
theorem dX9_placeAll_66 : decode cX9_placeAll 66 = .ok (.aload_n 0, 1) := by decide +kernel
theorem dX9_placeAll_67 : decode cX9_placeAll 67 = .ok (.getfield 17, 3) := by decide +kernel
theorem dX9_placeAll_70 : decode cX9_placeAll 70 = .ok (.iload 5, 2) := by decide +kernel
theorem dX9_placeAll_72 : decode cX9_placeAll 72 = .ok (.aaload, 1) := by decide +kernel
theorem dX9_placeAll_73 : decode cX9_placeAll 73 = .ok (.invokevirtual 47, 3) := by decide +kernel
theorem dX9_placeAll_76 : decode cX9_placeAll 76 = .ok (.ifCond .ne 5, 3) := by decide +kernel
theorem dX9_placeAll_79 : decode cX9_placeAll 79 = .ok (.iconst 0, 1) := by decide +kernel
theorem dX9_placeAll_80 : decode cX9_placeAll 80 = .ok (.ireturn, 1) := by decide +kernel
theorem dX9_placeAll_81 : decode cX9_placeAll 81 = .ok (.iinc 5 1, 3) := by decide +kernel
theorem dX9_placeAll_84 : decode cX9_placeAll 84 = .ok (.goto (-40), 3) := by decide +kernel
theorem dX9_placeAll_87 : decode cX9_placeAll 87 = .ok (.iconst 1, 1) := by decide +kernel
theorem dX9_placeAll_88 : decode cX9_placeAll 88 = .ok (.ireturn, 1) := by decide +kernel
theorem dX10_init_0 : decode cX10_init 0 = .ok (.aload_n 0, 1) := by decide +kernel
theorem dX10_init_1 : decode cX10_init 1 = .ok (.invokespecial 3, 3) := by decide +kernel
theorem dX10_init_4 : decode cX10_init 4 = .ok (.aload_n 0, 1) := by decide +kernel
theorem dX10_init_5 : decode cX10_init 5 = .ok (.iload_n 1, 1) := by decide +kernel
theorem dX10_init_6 : decode cX10_init 6 = .ok (.ifCond .le 7, 3) := by decide +kernel
theorem dX10_init_9 : decode cX10_init 9 = .ok (.iload_n 1, 1) := by decide +kernel
theorem dX10_init_10 : decode cX10_init 10 = .ok (.goto 4, 3) := by decide +kernel
theorem dX10_init_13 : decode cX10_init 13 = .ok (.iconst 0, 1) := by decide +kernel
theorem dX10_init_14 : decode cX10_init 14 = .ok (.newarray .byte, 2) := by decide +kernel
theorem dX10_init_16 : decode cX10_init 16 = .ok (.putfield 9, 3) := by decide +kernel
theorem dX10_init_19 : decode cX10_init 19 = .ok (.return_, 1) := by decide +kernel
theorem dX10_length_0 : decode cX10_length 0 = .ok (.aload_n 0, 1) := by decide +kernel
theorem dX10_length_1 : decode cX10_length 1 = .ok (.getfield 15, 3) := by decide +kernel
theorem dX10_length_4 : decode cX10_length 4 = .ok (.ireturn, 1) := by decide +kernel
theorem dX10_at_0 : decode cX10_at 0 = .ok (.iload_n 1, 1) := by decide +kernel
theorem dX10_at_1 : decode cX10_at 1 = .ok (.ifCond .lt 29, 3) := by decide +kernel
theorem dX10_at_4 : decode cX10_at 4 = .ok (.iload_n 1, 1) := by decide +kernel
theorem dX10_at_5 : decode cX10_at 5 = .ok (.aload_n 0, 1) := by decide +kernel
theorem dX10_at_6 : decode cX10_at 6 = .ok (.getfield 15, 3) := by decide +kernel
theorem dX10_at_9 : decode cX10_at 9 = .ok (.if_icmp .ge 21, 3) := by decide +kernel
theorem dX10_at_12 : decode cX10_at 12 = .ok (.iload_n 1, 1) := by decide +kernel
theorem dX10_at_13 : decode cX10_at 13 = .ok (.aload_n 0, 1) := by decide +kernel
theorem dX10_at_14 : decode cX10_at 14 = .ok (.getfield 9, 3) := by decide +kernel
theorem dX10_at_17 : decode cX10_at 17 = .ok (.arraylength, 1) := by decide +kernel
theorem dX10_at_18 : decode cX10_at 18 = .ok (.if_icmp .ge 12, 3) := by decide +kernel
theorem dX10_at_21 : decode cX10_at 21 = .ok (.aload_n 0, 1) := by decide +kernel
theorem dX10_at_22 : decode cX10_at 22 = .ok (.getfield 9, 3) := by decide +kernel
theorem dX10_at_25 : decode cX10_at 25 = .ok (.iload_n 1, 1) := by decide +kernel
theorem dX10_at_26 : decode cX10_at 26 = .ok (.baload, 1) := by decide +kernel
theorem dX10_at_27 : decode cX10_at 27 = .ok (.goto 5, 3) := by decide +kernel
theorem dX10_at_30 : decode cX10_at 30 = .ok (.bipush (-2), 2) := by decide +kernel
theorem dX10_at_32 : decode cX10_at 32 = .ok (.ireturn, 1) := by decide +kernel
theorem dX10_append_0 : decode cX10_append 0 = .ok (.aload_n 0, 1) := by decide +kernel
theorem dX10_append_1 : decode cX10_append 1 = .ok (.getfield 15, 3) := by decide +kernel
theorem dX10_append_4 : decode cX10_append 4 = .ok (.ifCond .lt 15, 3) := by decide +kernel
theorem dX10_append_7 : decode cX10_append 7 = .ok (.aload_n 0, 1) := by decide +kernel
theorem dX10_append_8 : decode cX10_append 8 = .ok (.getfield 15, 3) := by decide +kernel
theorem dX10_append_11 : decode cX10_append 11 = .ok (.aload_n 0, 1) := by decide +kernel
theorem dX10_append_12 : decode cX10_append 12 = .ok (.getfield 9, 3) := by decide +kernel
theorem dX10_append_15 : decode cX10_append 15 = .ok (.arraylength, 1) := by decide +kernel
theorem dX10_append_16 : decode cX10_append 16 = .ok (.if_icmp .lt 5, 3) := by decide +kernel
theorem dX10_append_19 : decode cX10_append 19 = .ok (.iconst 0, 1) := by decide +kernel
theorem dX10_append_20 : decode cX10_append 20 = .ok (.ireturn, 1) := by decide +kernel
theorem dX10_append_21 : decode cX10_append 21 = .ok (.aload_n 0, 1) := by decide +kernel
theorem dX10_append_22 : decode cX10_append 22 = .ok (.getfield 9, 3) := by decide +kernel
theorem dX10_append_25 : decode cX10_append 25 = .ok (.aload_n 0, 1) := by decide +kernel
theorem dX10_append_26 : decode cX10_append 26 = .ok (.getfield 15, 3) := by decide +kernel
theorem dX10_append_29 : decode cX10_append 29 = .ok (.iload_n 1, 1) := by decide +kernel
theorem dX10_append_30 : decode cX10_append 30 = .ok (.i2b, 1) := by decide +kernel
theorem dX10_append_31 : decode cX10_append 31 = .ok (.bastore, 1) := by decide +kernel
theorem dX10_append_32 : decode cX10_append 32 = .ok (.aload_n 0, 1) := by decide +kernel
theorem dX10_append_33 : decode cX10_append 33 = .ok (.dup, 1) := by decide +kernel
theorem dX10_append_34 : decode cX10_append 34 = .ok (.getfield 15, 3) := by decide +kernel
theorem dX10_append_37 : decode cX10_append 37 = .ok (.iconst 1, 1) := by decide +kernel
theorem dX10_append_38 : decode cX10_append 38 = .ok (.iadd, 1) := by decide +kernel
theorem dX10_append_39 : decode cX10_append 39 = .ok (.putfield 15, 3) := by decide +kernel
theorem dX10_append_42 : decode cX10_append 42 = .ok (.iconst 1, 1) := by decide +kernel
theorem dX10_append_43 : decode cX10_append 43 = .ok (.ireturn, 1) := by decide +kernel
theorem dX10_clear_0 : decode cX10_clear 0 = .ok (.aload_n 0, 1) := by decide +kernel
theorem dX10_clear_1 : decode cX10_clear 1 = .ok (.iconst 0, 1) := by decide +kernel
theorem dX10_clear_2 : decode cX10_clear 2 = .ok (.putfield 15, 3) := by decide +kernel
theorem dX10_clear_5 : decode cX10_clear 5 = .ok (.return_, 1) := by decide +kernel
theorem dX11_init_0 : decode cX11_init 0 = .ok (.aload_n 0, 1) := by decide +kernel
theorem dX11_init_1 : decode cX11_init 1 = .ok (.invokespecial 3, 3) := by decide +kernel
theorem dX11_init_4 : decode cX11_init 4 = .ok (.aload_n 0, 1) := by decide +kernel
theorem dX11_init_5 : decode cX11_init 5 = .ok (.new 9, 3) := by decide +kernel
theorem dX11_init_8 : decode cX11_init 8 = .ok (.dup, 1) := by decide +kernel
theorem dX11_init_9 : decode cX11_init 9 = .ok (.invokespecial 11, 3) := by decide +kernel
theorem dX11_init_12 : decode cX11_init 12 = .ok (.putfield 12, 3) := by decide +kernel
theorem dX11_init_15 : decode cX11_init 15 = .ok (.aload_n 0, 1) := by decide +kernel
theorem dX11_init_16 : decode cX11_init 16 = .ok (.new 18, 3) := by decide +kernel
theorem dX11_init_19 : decode cX11_init 19 = .ok (.dup, 1) := by decide +kernel
theorem dX11_init_20 : decode cX11_init 20 = .ok (.invokespecial 20, 3) := by decide +kernel
theorem dX11_init_23 : decode cX11_init 23 = .ok (.putfield 21, 3) := by decide +kernel
theorem dX11_init_26 : decode cX11_init 26 = .ok (.aload_n 0, 1) := by decide +kernel
theorem dX11_init_27 : decode cX11_init 27 = .ok (.new 25, 3) := by decide +kernel
theorem dX11_init_30 : decode cX11_init 30 = .ok (.dup, 1) := by decide +kernel
theorem dX11_init_31 : decode cX11_init 31 = .ok (.invokespecial 27, 3) := by decide +kernel
theorem dX11_init_34 : decode cX11_init 34 = .ok (.putfield 28, 3) := by decide +kernel
theorem dX11_init_37 : decode cX11_init 37 = .ok (.aload_n 0, 1) := by decide +kernel
theorem dX11_init_38 : decode cX11_init 38 = .ok (.new 32, 3) := by decide +kernel
theorem dX11_init_41 : decode cX11_init 41 = .ok (.dup, 1) := by decide +kernel
theorem dX11_init_42 : decode cX11_init 42 = .ok (.invokespecial 34, 3) := by decide +kernel
theorem dX11_init_45 : decode cX11_init 45 = .ok (.putfield 35, 3) := by decide +kernel
theorem dX11_init_48 : decode cX11_init 48 = .ok (.aload_n 0, 1) := by decide +kernel
theorem dX11_init_49 : decode cX11_init 49 = .ok (.new 25, 3) := by decide +kernel
theorem dX11_init_52 : decode cX11_init 52 = .ok (.dup, 1) := by decide +kernel
theorem dX11_init_53 : decode cX11_init 53 = .ok (.invokespecial 27, 3) := by decide +kernel
theorem dX11_init_56 : decode cX11_init 56 = .ok (.putfield 39, 3) := by decide +kernel
theorem dX11_init_59 : decode cX11_init 59 = .ok (.aload_n 0, 1) := by decide +kernel
theorem dX11_init_60 : decode cX11_init 60 = .ok (.new 42, 3) := by decide +kernel
theorem dX11_init_63 : decode cX11_init 63 = .ok (.dup, 1) := by decide +kernel
theorem dX11_init_64 : decode cX11_init 64 = .ok (.invokespecial 44, 3) := by decide +kernel
theorem dX11_init_67 : decode cX11_init 67 = .ok (.putfield 45, 3) := by decide +kernel
theorem dX11_init_70 : decode cX11_init 70 = .ok (.aload_n 0, 1) := by decide +kernel
theorem dX11_init_71 : decode cX11_init 71 = .ok (.new 49, 3) := by decide +kernel
theorem dX11_init_74 : decode cX11_init 74 = .ok (.dup, 1) := by decide +kernel
theorem dX11_init_75 : decode cX11_init 75 = .ok (.invokespecial 51, 3) := by decide +kernel
theorem dX11_init_78 : decode cX11_init 78 = .ok (.putfield 52, 3) := by decide +kernel
theorem dX11_init_81 : decode cX11_init 81 = .ok (.aload_n 0, 1) := by decide +kernel
theorem dX11_init_82 : decode cX11_init 82 = .ok (.new 56, 3) := by decide +kernel
theorem dX11_init_85 : decode cX11_init 85 = .ok (.dup, 1) := by decide +kernel
theorem dX11_init_86 : decode cX11_init 86 = .ok (.bipush 80, 2) := by decide +kernel
theorem dX11_init_88 : decode cX11_init 88 = .ok (.invokespecial 58, 3) := by decide +kernel
theorem dX11_init_91 : decode cX11_init 91 = .ok (.putfield 61, 3) := by decide +kernel
theorem dX11_init_94 : decode cX11_init 94 = .ok (.aload_n 0, 1) := by decide +kernel
theorem dX11_init_95 : decode cX11_init 95 = .ok (.new 56, 3) := by decide +kernel
theorem dX11_init_98 : decode cX11_init 98 = .ok (.dup, 1) := by decide +kernel
theorem dX11_init_99 : decode cX11_init 99 = .ok (.sipush 256, 3) := by decide +kernel
theorem dX11_init_102 : decode cX11_init 102 = .ok (.invokespecial 58, 3) := by decide +kernel
theorem dX11_init_105 : decode cX11_init 105 = .ok (.putfield 65, 3) := by decide +kernel
theorem dX11_init_108 : decode cX11_init 108 = .ok (.aload_n 0, 1) := by decide +kernel
theorem dX11_init_109 : decode cX11_init 109 = .ok (.iconst 3, 1) := by decide +kernel
theorem dX11_init_110 : decode cX11_init 110 = .ok (.anewarray 68, 3) := by decide +kernel
theorem dX11_init_113 : decode cX11_init 113 = .ok (.putfield 70, 3) := by decide +kernel
theorem dX11_init_116 : decode cX11_init 116 = .ok (.aload_n 0, 1) := by decide +kernel
theorem dX11_init_117 : decode cX11_init 117 = .ok (.iconst 3, 1) := by decide +kernel
theorem dX11_init_118 : decode cX11_init 118 = .ok (.anewarray 74, 3) := by decide +kernel
theorem dX11_init_121 : decode cX11_init 121 = .ok (.putfield 76, 3) := by decide +kernel
theorem dX11_init_124 : decode cX11_init 124 = .ok (.iconst 0, 1) := by decide +kernel
theorem dX11_init_125 : decode cX11_init 125 = .ok (.istore_n 1, 1) := by decide +kernel
theorem dX11_init_126 : decode cX11_init 126 = .ok (.iload_n 1, 1) := by decide +kernel
theorem dX11_init_127 : decode cX11_init 127 = .ok (.aload_n 0, 1) := by decide +kernel
theorem dX11_init_128 : decode cX11_init 128 = .ok (.getfield 70, 3) := by decide +kernel
theorem dX11_init_131 : decode cX11_init 131 = .ok (.arraylength, 1) := by decide +kernel
theorem dX11_init_132 : decode cX11_init 132 = .ok (.if_icmp .ge 22, 3) := by decide +kernel
theorem dX11_init_135 : decode cX11_init 135 = .ok (.aload_n 0, 1) := by decide +kernel
theorem dX11_init_136 : decode cX11_init 136 = .ok (.getfield 70, 3) := by decide +kernel
theorem dX11_init_139 : decode cX11_init 139 = .ok (.iload_n 1, 1) := by decide +kernel
theorem dX11_init_140 : decode cX11_init 140 = .ok (.new 68, 3) := by decide +kernel
theorem dX11_init_143 : decode cX11_init 143 = .ok (.dup, 1) := by decide +kernel
theorem dX11_init_144 : decode cX11_init 144 = .ok (.invokespecial 80, 3) := by decide +kernel
theorem dX11_init_147 : decode cX11_init 147 = .ok (.aastore, 1) := by decide +kernel
theorem dX11_init_148 : decode cX11_init 148 = .ok (.iinc 1 1, 3) := by decide +kernel
theorem dX11_init_151 : decode cX11_init 151 = .ok (.goto (-25), 3) := by decide +kernel
theorem dX11_init_154 : decode cX11_init 154 = .ok (.iconst 0, 1) := by decide +kernel
theorem dX11_init_155 : decode cX11_init 155 = .ok (.istore_n 1, 1) := by decide +kernel
theorem dX11_init_156 : decode cX11_init 156 = .ok (.iload_n 1, 1) := by decide +kernel
theorem dX11_init_157 : decode cX11_init 157 = .ok (.aload_n 0, 1) := by decide +kernel
theorem dX11_init_158 : decode cX11_init 158 = .ok (.getfield 76, 3) := by decide +kernel
theorem dX11_init_161 : decode cX11_init 161 = .ok (.arraylength, 1) := by decide +kernel
theorem dX11_init_162 : decode cX11_init 162 = .ok (.if_icmp .ge 22, 3) := by decide +kernel
theorem dX11_init_165 : decode cX11_init 165 = .ok (.aload_n 0, 1) := by decide +kernel
theorem dX11_init_166 : decode cX11_init 166 = .ok (.getfield 76, 3) := by decide +kernel
theorem dX11_init_169 : decode cX11_init 169 = .ok (.iload_n 1, 1) := by decide +kernel
theorem dX11_init_170 : decode cX11_init 170 = .ok (.new 74, 3) := by decide +kernel
theorem dX11_init_173 : decode cX11_init 173 = .ok (.dup, 1) := by decide +kernel
theorem dX11_init_174 : decode cX11_init 174 = .ok (.invokespecial 81, 3) := by decide +kernel
theorem dX11_init_177 : decode cX11_init 177 = .ok (.aastore, 1) := by decide +kernel
theorem dX11_init_178 : decode cX11_init 178 = .ok (.iinc 1 1, 3) := by decide +kernel
theorem dX11_init_181 : decode cX11_init 181 = .ok (.goto (-25), 3) := by decide +kernel
theorem dX11_init_184 : decode cX11_init 184 = .ok (.return_, 1) := by decide +kernel
theorem dX11_cube_0 : decode cX11_cube 0 = .ok (.iload_n 1, 1) := by decide +kernel
theorem dX11_cube_1 : decode cX11_cube 1 = .ok (.iconst 1, 1) := by decide +kernel
theorem dX11_cube_2 : decode cX11_cube 2 = .ok (.if_icmp .lt 9, 3) := by decide +kernel
theorem dX11_cube_5 : decode cX11_cube 5 = .ok (.iload_n 1, 1) := by decide +kernel
theorem dX11_cube_6 : decode cX11_cube 6 = .ok (.bipush 6, 2) := by decide +kernel
theorem dX11_cube_8 : decode cX11_cube 8 = .ok (.if_icmp .le 5, 3) := by decide +kernel
theorem dX11_cube_11 : decode cX11_cube 11 = .ok (.iconst (-1), 1) := by decide +kernel
theorem dX11_cube_12 : decode cX11_cube 12 = .ok (.ireturn, 1) := by decide +kernel
theorem dX11_cube_13 : decode cX11_cube 13 = .ok (.aload_n 0, 1) := by decide +kernel
theorem dX11_cube_14 : decode cX11_cube 14 = .ok (.getfield 12, 3) := by decide +kernel
theorem dX11_cube_17 : decode cX11_cube 17 = .ok (.invokevirtual 82, 3) := by decide +kernel
theorem dX11_cube_20 : decode cX11_cube 20 = .ok (.istore_n 2, 1) := by decide +kernel
theorem dX11_cube_21 : decode cX11_cube 21 = .ok (.aload_n 0, 1) := by decide +kernel
theorem dX11_cube_22 : decode cX11_cube 22 = .ok (.getfield 12, 3) := by decide +kernel
theorem dX11_cube_25 : decode cX11_cube 25 = .ok (.iload_n 1, 1) := by decide +kernel
theorem dX11_cube_26 : decode cX11_cube 26 = .ok (.invokevirtual 86, 3) := by decide +kernel
theorem dX11_cube_29 : decode cX11_cube 29 = .ok (.aload_n 0, 1) := by decide +kernel
theorem dX11_cube_30 : decode cX11_cube 30 = .ok (.getfield 28, 3) := by decide +kernel
theorem dX11_cube_33 : decode cX11_cube 33 = .ok (.invokevirtual 89, 3) := by decide +kernel
theorem dX11_cube_36 : decode cX11_cube 36 = .ok (.aload_n 0, 1) := by decide +kernel
theorem dX11_cube_37 : decode cX11_cube 37 = .ok (.getfield 35, 3) := by decide +kernel
theorem dX11_cube_40 : decode cX11_cube 40 = .ok (.invokevirtual 92, 3) := by decide +kernel
theorem dX11_cube_43 : decode cX11_cube 43 = .ok (.iload_n 2, 1) := by decide +kernel
theorem dX11_cube_44 : decode cX11_cube 44 = .ok (.ireturn, 1) := by decide +kernel
theorem dX11_come_0 : decode cX11_come 0 = .ok (.aload_n 0, 1) := by decide +kernel
theorem dX11_come_1 : decode cX11_come 1 = .ok (.getfield 12, 3) := by decide +kernel
theorem dX11_come_4 : decode cX11_come 4 = .ok (.lload_n 1, 1) := by decide +kernel
theorem dX11_come_5 : decode cX11_come 5 = .ok (.invokevirtual 95, 3) := by decide +kernel
theorem dX11_come_8 : decode cX11_come 8 = .ok (.ifCond .eq 11, 3) := by decide +kernel
theorem dX11_come_11 : decode cX11_come 11 = .ok (.aload_n 0, 1) := by decide +kernel
theorem dX11_come_12 : decode cX11_come 12 = .ok (.lload_n 1, 1) := by decide +kernel
theorem dX11_come_13 : decode cX11_come 13 = .ok (.invokevirtual 99, 3) := by decide +kernel
theorem dX11_come_16 : decode cX11_come 16 = .ok (.goto 4, 3) := by decide +kernel
theorem dX11_come_19 : decode cX11_come 19 = .ok (.iconst (-1), 1) := by decide +kernel
theorem dX11_come_20 : decode cX11_come 20 = .ok (.ireturn, 1) := by decide +kernel
theorem dX11_drop_0 : decode cX11_drop 0 = .ok (.aload_n 0, 1) := by decide +kernel
theorem dX11_drop_1 : decode cX11_drop 1 = .ok (.getfield 28, 3) := by decide +kernel
theorem dX11_drop_4 : decode cX11_drop 4 = .ok (.invokevirtual 103, 3) := by decide +kernel
theorem dX11_drop_7 : decode cX11_drop 7 = .ok (.ifCond .ne 6, 3) := by decide +kernel
theorem dX11_drop_10 : decode cX11_drop 10 = .ok (.bipush (-5), 2) := by decide +kernel
theorem dX11_drop_12 : decode cX11_drop 12 = .ok (.ireturn, 1) := by decide +kernel
theorem dX11_drop_13 : decode cX11_drop 13 = .ok (.aload_n 0, 1) := by decide +kernel
theorem dX11_drop_14 : decode cX11_drop 14 = .ok (.getfield 35, 3) := by decide +kernel
theorem dX11_drop_17 : decode cX11_drop 17 = .ok (.invokevirtual 92, 3) := by decide +kernel
theorem dX11_drop_20 : decode cX11_drop 20 = .ok (.aload_n 0, 1) := by decide +kernel
theorem dX11_drop_21 : decode cX11_drop 21 = .ok (.getfield 28, 3) := by decide +kernel
theorem dX11_drop_24 : decode cX11_drop 24 = .ok (.invokevirtual 107, 3) := by decide +kernel
theorem dX11_drop_27 : decode cX11_drop 27 = .ok (.ireturn, 1) := by decide +kernel
theorem dX11_set_0 : decode cX11_set 0 = .ok (.aload_n 0, 1) := by decide +kernel
theorem dX11_set_1 : decode cX11_set 1 = .ok (.getfield 28, 3) := by decide +kernel
theorem dX11_set_4 : decode cX11_set 4 = .ok (.iload_n 1, 1) := by decide +kernel
theorem dX11_set_5 : decode cX11_set 5 = .ok (.invokevirtual 110, 3) := by decide +kernel
theorem dX11_set_8 : decode cX11_set 8 = .ok (.astore 4, 2) := by decide +kernel
theorem dX11_set_10 : decode cX11_set 10 = .ok (.aload 4, 2) := by decide +kernel
theorem dX11_set_12 : decode cX11_set 12 = .ok (.ifnull 31, 3) := by decide +kernel
theorem dX11_set_15 : decode cX11_set 15 = .ok (.iload_n 2, 1) := by decide +kernel
theorem dX11_set_16 : decode cX11_set 16 = .ok (.ifCond .lt 27, 3) := by decide +kernel
theorem dX11_set_19 : decode cX11_set 19 = .ok (.iload_n 2, 1) := by decide +kernel
theorem dX11_set_20 : decode cX11_set 20 = .ok (.iconst 1, 1) := by decide +kernel
theorem dX11_set_21 : decode cX11_set 21 = .ok (.if_icmp .gt 22, 3) := by decide +kernel
theorem dX11_set_24 : decode cX11_set 24 = .ok (.iload_n 3, 1) := by decide +kernel
theorem dX11_set_25 : decode cX11_set 25 = .ok (.ifCond .lt 18, 3) := by decide +kernel
theorem dX11_set_28 : decode cX11_set 28 = .ok (.iload_n 3, 1) := by decide +kernel
theorem dX11_set_29 : decode cX11_set 29 = .ok (.iload_n 2, 1) := by decide +kernel
theorem dX11_set_30 : decode cX11_set 30 = .ok (.ifCond .ne 8, 3) := by decide +kernel
theorem dX11_set_33 : decode cX11_set 33 = .ok (.bipush 6, 2) := by decide +kernel
theorem dX11_set_35 : decode cX11_set 35 = .ok (.goto 5, 3) := by decide +kernel
theorem dX11_set_38 : decode cX11_set 38 = .ok (.bipush 10, 2) := by decide +kernel
theorem dX11_set_40 : decode cX11_set 40 = .ok (.if_icmp .lt 5, 3) := by decide +kernel
theorem dX11_set_43 : decode cX11_set 43 = .ok (.iconst (-1), 1) := by decide +kernel
theorem dX11_set_44 : decode cX11_set 44 = .ok (.ireturn, 1) := by decide +kernel
theorem dX11_set_45 : decode cX11_set 45 = .ok (.iload_n 2, 1) := by decide +kernel
theorem dX11_set_46 : decode cX11_set 46 = .ok (.ifCond .ne 11, 3) := by decide +kernel
theorem dX11_set_49 : decode cX11_set 49 = .ok (.aload 4, 2) := by decide +kernel
theorem dX11_set_51 : decode cX11_set 51 = .ok (.getfield 114, 3) := by decide +kernel
theorem dX11_set_54 : decode cX11_set 54 = .ok (.goto 8, 3) := by decide +kernel
theorem dX11_set_57 : decode cX11_set 57 = .ok (.aload 4, 2) := by decide +kernel
theorem dX11_set_59 : decode cX11_set 59 = .ok (.getfield 120, 3) := by decide +kernel
theorem dX11_set_62 : decode cX11_set 62 = .ok (.istore 5, 2) := by decide +kernel
theorem dX11_set_64 : decode cX11_set 64 = .ok (.iload 5, 2) := by decide +kernel
theorem dX11_set_66 : decode cX11_set 66 = .ok (.iload_n 3, 1) := by decide +kernel
theorem dX11_set_67 : decode cX11_set 67 = .ok (.if_icmp .eq 70, 3) := by decide +kernel
theorem dX11_set_70 : decode cX11_set 70 = .ok (.iload_n 2, 1) := by decide +kernel
theorem dX11_set_71 : decode cX11_set 71 = .ok (.ifCond .ne 24, 3) := by decide +kernel
theorem dX11_set_74 : decode cX11_set 74 = .ok (.new 115, 3) := by decide +kernel
theorem dX11_set_77 : decode cX11_set 77 = .ok (.dup, 1) := by decide +kernel
theorem dX11_set_78 : decode cX11_set 78 = .ok (.iload_n 3, 1) := by decide +kernel
theorem dX11_set_79 : decode cX11_set 79 = .ok (.aload 4, 2) := by decide +kernel
theorem dX11_set_81 : decode cX11_set 81 = .ok (.getfield 120, 3) := by decide +kernel
theorem dX11_set_84 : decode cX11_set 84 = .ok (.aload 4, 2) := by decide +kernel
theorem dX11_set_86 : decode cX11_set 86 = .ok (.getfield 123, 3) := by decide +kernel
theorem dX11_set_89 : decode cX11_set 89 = .ok (.invokespecial 127, 3) := by decide +kernel
theorem dX11_set_92 : decode cX11_set 92 = .ok (.goto 21, 3) := by decide +kernel
theorem dX11_set_95 : decode cX11_set 95 = .ok (.new 115, 3) := by decide +kernel
theorem dX11_set_98 : decode cX11_set 98 = .ok (.dup, 1) := by decide +kernel
theorem dX11_set_99 : decode cX11_set 99 = .ok (.aload 4, 2) := by decide +kernel
theorem dX11_set_101 : decode cX11_set 101 = .ok (.getfield 114, 3) := by decide +kernel
theorem dX11_set_104 : decode cX11_set 104 = .ok (.iload_n 3, 1) := by decide +kernel
theorem dX11_set_105 : decode cX11_set 105 = .ok (.aload 4, 2) := by decide +kernel
theorem dX11_set_107 : decode cX11_set 107 = .ok (.getfield 123, 3) := by decide +kernel
theorem dX11_set_110 : decode cX11_set 110 = .ok (.invokespecial 127, 3) := by decide +kernel
theorem dX11_set_113 : decode cX11_set 113 = .ok (.astore 6, 2) := by decide +kernel
theorem dX11_set_115 : decode cX11_set 115 = .ok (.aload_n 0, 1) := by decide +kernel
theorem dX11_set_116 : decode cX11_set 116 = .ok (.getfield 28, 3) := by decide +kernel
theorem dX11_set_119 : decode cX11_set 119 = .ok (.iload_n 1, 1) := by decide +kernel
theorem dX11_set_120 : decode cX11_set 120 = .ok (.aload 6, 2) := by decide +kernel
theorem dX11_set_122 : decode cX11_set 122 = .ok (.invokevirtual 130, 3) := by decide +kernel
theorem dX11_set_125 : decode cX11_set 125 = .ok (.aload_n 0, 1) := by decide +kernel
theorem dX11_set_126 : decode cX11_set 126 = .ok (.getfield 35, 3) := by decide +kernel
theorem dX11_set_129 : decode cX11_set 129 = .ok (.iload_n 1, 1) := by decide +kernel
theorem dX11_set_130 : decode cX11_set 130 = .ok (.aload 4, 2) := by decide +kernel
theorem dX11_set_132 : decode cX11_set 132 = .ok (.aload 6, 2) := by decide +kernel
theorem dX11_set_134 : decode cX11_set 134 = .ok (.invokevirtual 134, 3) := by decide +kernel
theorem dX11_set_137 : decode cX11_set 137 = .ok (.iload 5, 2) := by decide +kernel
theorem dX11_set_139 : decode cX11_set 139 = .ok (.ireturn, 1) := by decide +kernel
theorem dX11_sets_0 : decode cX11_sets 0 = .ok (.aload_n 0, 1) := by decide +kernel
theorem dX11_sets_1 : decode cX11_sets 1 = .ok (.getfield 28, 3) := by decide +kernel
theorem dX11_sets_4 : decode cX11_sets 4 = .ok (.iload_n 1, 1) := by decide +kernel
theorem dX11_sets_5 : decode cX11_sets 5 = .ok (.invokevirtual 110, 3) := by decide +kernel
theorem dX11_sets_8 : decode cX11_sets 8 = .ok (.astore_n 3, 1) := by decide +kernel
theorem dX11_sets_9 : decode cX11_sets 9 = .ok (.aload_n 3, 1) := by decide +kernel
theorem dX11_sets_10 : decode cX11_sets 10 = .ok (.ifnonnull 7, 3) := by decide +kernel
theorem dX11_sets_13 : decode cX11_sets 13 = .ok (.ldc2_w 138, 3) := by decide +kernel
theorem dX11_sets_16 : decode cX11_sets 16 = .ok (.lreturn, 1) := by decide +kernel
theorem dX11_sets_17 : decode cX11_sets 17 = .ok (.aload_n 0, 1) := by decide +kernel
theorem dX11_sets_18 : decode cX11_sets 18 = .ok (.getfield 12, 3) := by decide +kernel
theorem dX11_sets_21 : decode cX11_sets 21 = .ok (.aload_n 3, 1) := by decide +kernel
theorem dX11_sets_22 : decode cX11_sets 22 = .ok (.invokevirtual 140, 3) := by decide +kernel
theorem dX11_sets_25 : decode cX11_sets 25 = .ok (.lstore 4, 2) := by decide +kernel
theorem dX11_sets_27 : decode cX11_sets 27 = .ok (.iload_n 2, 1) := by decide +kernel
theorem dX11_sets_28 : decode cX11_sets 28 = .ok (.tableswitch 74 0 4 #[36, 39, 44, 54, 64], 36) := by decide +kernel
theorem dX11_sets_64 : decode cX11_sets 64 = .ok (.lload 4, 2) := by decide +kernel
theorem dX11_sets_66 : decode cX11_sets 66 = .ok (.lreturn, 1) := by decide +kernel
theorem dX11_sets_67 : decode cX11_sets 67 = .ok (.aload_n 3, 1) := by decide +kernel
theorem dX11_sets_68 : decode cX11_sets 68 = .ok (.getfield 123, 3) := by decide +kernel
theorem dX11_sets_71 : decode cX11_sets 71 = .ok (.lreturn, 1) := by decide +kernel
theorem dX11_sets_72 : decode cX11_sets 72 = .ok (.aload_n 0, 1) := by decide +kernel
theorem dX11_sets_73 : decode cX11_sets 73 = .ok (.getfield 12, 3) := by decide +kernel
theorem dX11_sets_76 : decode cX11_sets 76 = .ok (.lload 4, 2) := by decide +kernel
theorem dX11_sets_78 : decode cX11_sets 78 = .ok (.invokevirtual 144, 3) := by decide +kernel
theorem dX11_sets_81 : decode cX11_sets 81 = .ok (.lreturn, 1) := by decide +kernel
theorem dX11_sets_82 : decode cX11_sets 82 = .ok (.aload_n 0, 1) := by decide +kernel
theorem dX11_sets_83 : decode cX11_sets 83 = .ok (.getfield 12, 3) := by decide +kernel
theorem dX11_sets_86 : decode cX11_sets 86 = .ok (.lload 4, 2) := by decide +kernel
theorem dX11_sets_88 : decode cX11_sets 88 = .ok (.invokevirtual 148, 3) := by decide +kernel
theorem dX11_sets_91 : decode cX11_sets 91 = .ok (.lreturn, 1) := by decide +kernel
theorem dX11_sets_92 : decode cX11_sets 92 = .ok (.aload_n 0, 1) := by decide +kernel
theorem dX11_sets_93 : decode cX11_sets 93 = .ok (.getfield 12, 3) := by decide +kernel
theorem dX11_sets_96 : decode cX11_sets 96 = .ok (.lload 4, 2) := by decide +kernel
theorem dX11_sets_98 : decode cX11_sets 98 = .ok (.invokevirtual 151, 3) := by decide +kernel
theorem dX11_sets_101 : decode cX11_sets 101 = .ok (.lreturn, 1) := by decide +kernel
theorem dX11_sets_102 : decode cX11_sets 102 = .ok (.ldc2_w 138, 3) := by decide +kernel
theorem dX11_sets_105 : decode cX11_sets 105 = .ok (.lreturn, 1) := by decide +kernel
theorem dX11_of_0 : decode cX11_of 0 = .ok (.aload_n 0, 1) := by decide +kernel
theorem dX11_of_1 : decode cX11_of 1 = .ok (.getfield 28, 3) := by decide +kernel
theorem dX11_of_4 : decode cX11_of 4 = .ok (.iload_n 1, 1) := by decide +kernel
theorem dX11_of_5 : decode cX11_of 5 = .ok (.invokevirtual 110, 3) := by decide +kernel
theorem dX11_of_8 : decode cX11_of 8 = .ok (.astore_n 3, 1) := by decide +kernel
theorem dX11_of_9 : decode cX11_of 9 = .ok (.aload_n 3, 1) := by decide +kernel
theorem dX11_of_10 : decode cX11_of 10 = .ok (.ifnonnull 5, 3) := by decide +kernel
theorem dX11_of_13 : decode cX11_of 13 = .ok (.iconst (-1), 1) := by decide +kernel
theorem dX11_of_14 : decode cX11_of 14 = .ok (.ireturn, 1) := by decide +kernel
theorem dX11_of_15 : decode cX11_of 15 = .ok (.aload_n 0, 1) := by decide +kernel
theorem dX11_of_16 : decode cX11_of 16 = .ok (.getfield 12, 3) := by decide +kernel
theorem dX11_of_19 : decode cX11_of 19 = .ok (.aload_n 3, 1) := by decide +kernel
theorem dX11_of_20 : decode cX11_of 20 = .ok (.invokevirtual 140, 3) := by decide +kernel
theorem dX11_of_23 : decode cX11_of 23 = .ok (.lstore 4, 2) := by decide +kernel
theorem dX11_of_25 : decode cX11_of 25 = .ok (.iload_n 2, 1) := by decide +kernel
theorem dX11_of_26 : decode cX11_of 26 = .ok (.tableswitch 107 0 6 #[42, 47, 52, 58, 71, 84, 97], 42) := by decide +kernel
theorem dX11_of_68 : decode cX11_of 68 = .ok (.aload_n 3, 1) := by decide +kernel
theorem dX11_of_69 : decode cX11_of 69 = .ok (.getfield 114, 3) := by decide +kernel
theorem dX11_of_72 : decode cX11_of 72 = .ok (.ireturn, 1) := by decide +kernel
theorem dX11_of_73 : decode cX11_of 73 = .ok (.aload_n 3, 1) := by decide +kernel
theorem dX11_of_74 : decode cX11_of 74 = .ok (.getfield 120, 3) := by decide +kernel
theorem dX11_of_77 : decode cX11_of 77 = .ok (.ireturn, 1) := by decide +kernel
theorem dX11_of_78 : decode cX11_of 78 = .ok (.lload 4, 2) := by decide +kernel
theorem dX11_of_80 : decode cX11_of 80 = .ok (.invokestatic 154, 3) := by decide +kernel
theorem dX11_of_83 : decode cX11_of 83 = .ok (.ireturn, 1) := by decide +kernel
theorem dX11_of_84 : decode cX11_of 84 = .ok (.aload_n 0, 1) := by decide +kernel
theorem dX11_of_85 : decode cX11_of 85 = .ok (.getfield 12, 3) := by decide +kernel
theorem dX11_of_88 : decode cX11_of 88 = .ok (.lload 4, 2) := by decide +kernel
theorem dX11_of_90 : decode cX11_of 90 = .ok (.invokevirtual 144, 3) := by decide +kernel
theorem dX11_of_93 : decode cX11_of 93 = .ok (.invokestatic 154, 3) := by decide +kernel
theorem dX11_of_96 : decode cX11_of 96 = .ok (.ireturn, 1) := by decide +kernel
theorem dX11_of_97 : decode cX11_of 97 = .ok (.aload_n 0, 1) := by decide +kernel
theorem dX11_of_98 : decode cX11_of 98 = .ok (.getfield 12, 3) := by decide +kernel
theorem dX11_of_101 : decode cX11_of 101 = .ok (.lload 4, 2) := by decide +kernel
theorem dX11_of_103 : decode cX11_of 103 = .ok (.invokevirtual 148, 3) := by decide +kernel
theorem dX11_of_106 : decode cX11_of 106 = .ok (.invokestatic 154, 3) := by decide +kernel
theorem dX11_of_109 : decode cX11_of 109 = .ok (.ireturn, 1) := by decide +kernel
theorem dX11_of_110 : decode cX11_of 110 = .ok (.aload_n 0, 1) := by decide +kernel
theorem dX11_of_111 : decode cX11_of 111 = .ok (.getfield 12, 3) := by decide +kernel
theorem dX11_of_114 : decode cX11_of 114 = .ok (.lload 4, 2) := by decide +kernel
theorem dX11_of_116 : decode cX11_of 116 = .ok (.invokevirtual 151, 3) := by decide +kernel
theorem dX11_of_119 : decode cX11_of 119 = .ok (.invokestatic 154, 3) := by decide +kernel
theorem dX11_of_122 : decode cX11_of 122 = .ok (.ireturn, 1) := by decide +kernel
theorem dX11_of_123 : decode cX11_of 123 = .ok (.aload_n 0, 1) := by decide +kernel
theorem dX11_of_124 : decode cX11_of 124 = .ok (.getfield 12, 3) := by decide +kernel
theorem dX11_of_127 : decode cX11_of 127 = .ok (.lload 4, 2) := by decide +kernel
theorem dX11_of_129 : decode cX11_of 129 = .ok (.invokevirtual 157, 3) := by decide +kernel
theorem dX11_of_132 : decode cX11_of 132 = .ok (.ireturn, 1) := by decide +kernel
theorem dX11_of_133 : decode cX11_of 133 = .ok (.iconst (-1), 1) := by decide +kernel
theorem dX11_of_134 : decode cX11_of 134 = .ok (.ireturn, 1) := by decide +kernel
theorem dX11_is_0 : decode cX11_is 0 = .ok (.aload_n 0, 1) := by decide +kernel
theorem dX11_is_1 : decode cX11_is 1 = .ok (.getfield 28, 3) := by decide +kernel
theorem dX11_is_4 : decode cX11_is 4 = .ok (.iload_n 1, 1) := by decide +kernel
theorem dX11_is_5 : decode cX11_is 5 = .ok (.invokevirtual 110, 3) := by decide +kernel
theorem dX11_is_8 : decode cX11_is 8 = .ok (.astore_n 3, 1) := by decide +kernel
theorem dX11_is_9 : decode cX11_is 9 = .ok (.aload_n 3, 1) := by decide +kernel
theorem dX11_is_10 : decode cX11_is 10 = .ok (.ifnonnull 5, 3) := by decide +kernel
theorem dX11_is_13 : decode cX11_is 13 = .ok (.iconst (-1), 1) := by decide +kernel
theorem dX11_is_14 : decode cX11_is 14 = .ok (.ireturn, 1) := by decide +kernel
theorem dX11_is_15 : decode cX11_is 15 = .ok (.aload_n 0, 1) := by decide +kernel
theorem dX11_is_16 : decode cX11_is 16 = .ok (.getfield 12, 3) := by decide +kernel
theorem dX11_is_19 : decode cX11_is 19 = .ok (.aload_n 3, 1) := by decide +kernel
theorem dX11_is_20 : decode cX11_is 20 = .ok (.invokevirtual 140, 3) := by decide +kernel
theorem dX11_is_23 : decode cX11_is 23 = .ok (.lstore 4, 2) := by decide +kernel
theorem dX11_is_25 : decode cX11_is 25 = .ok (.iload_n 2, 1) := by decide +kernel
theorem dX11_is_26 : decode cX11_is 26 = .ok (.tableswitch 104 0 3 #[30, 43, 56, 80], 30) := by decide +kernel
theorem dX11_is_56 : decode cX11_is 56 = .ok (.aload_n 0, 1) := by decide +kernel
theorem dX11_is_57 : decode cX11_is 57 = .ok (.getfield 12, 3) := by decide +kernel
theorem dX11_is_60 : decode cX11_is 60 = .ok (.lload 4, 2) := by decide +kernel
theorem dX11_is_62 : decode cX11_is 62 = .ok (.invokevirtual 160, 3) := by decide +kernel
theorem dX11_is_65 : decode cX11_is 65 = .ok (.invokestatic 163, 3) := by decide +kernel
theorem dX11_is_68 : decode cX11_is 68 = .ok (.ireturn, 1) := by decide +kernel
theorem dX11_is_69 : decode cX11_is 69 = .ok (.aload_n 0, 1) := by decide +kernel
theorem dX11_is_70 : decode cX11_is 70 = .ok (.getfield 12, 3) := by decide +kernel
theorem dX11_is_73 : decode cX11_is 73 = .ok (.lload 4, 2) := by decide +kernel
theorem dX11_is_75 : decode cX11_is 75 = .ok (.invokevirtual 167, 3) := by decide +kernel
theorem dX11_is_78 : decode cX11_is 78 = .ok (.invokestatic 163, 3) := by decide +kernel
theorem dX11_is_81 : decode cX11_is 81 = .ok (.ireturn, 1) := by decide +kernel
theorem dX11_is_82 : decode cX11_is 82 = .ok (.aload_n 0, 1) := by decide +kernel
theorem dX11_is_83 : decode cX11_is 83 = .ok (.getfield 12, 3) := by decide +kernel
theorem dX11_is_86 : decode cX11_is 86 = .ok (.lload 4, 2) := by decide +kernel
theorem dX11_is_88 : decode cX11_is 88 = .ok (.invokevirtual 170, 3) := by decide +kernel
theorem dX11_is_91 : decode cX11_is 91 = .ok (.lload 4, 2) := by decide +kernel
theorem dX11_is_93 : decode cX11_is 93 = .ok (.lcmp, 1) := by decide +kernel
theorem dX11_is_94 : decode cX11_is 94 = .ok (.ifCond .ne 7, 3) := by decide +kernel
theorem dX11_is_97 : decode cX11_is 97 = .ok (.iconst 1, 1) := by decide +kernel
theorem dX11_is_98 : decode cX11_is 98 = .ok (.goto 4, 3) := by decide +kernel
theorem dX11_is_101 : decode cX11_is 101 = .ok (.iconst 0, 1) := by decide +kernel
theorem dX11_is_102 : decode cX11_is 102 = .ok (.invokestatic 163, 3) := by decide +kernel
theorem dX11_is_105 : decode cX11_is 105 = .ok (.ireturn, 1) := by decide +kernel
theorem dX11_is_106 : decode cX11_is 106 = .ok (.aload_n 0, 1) := by decide +kernel
theorem dX11_is_107 : decode cX11_is 107 = .ok (.getfield 12, 3) := by decide +kernel
theorem dX11_is_110 : decode cX11_is 110 = .ok (.lload 4, 2) := by decide +kernel
theorem dX11_is_112 : decode cX11_is 112 = .ok (.invokevirtual 173, 3) := by decide +kernel
theorem dX11_is_115 : decode cX11_is 115 = .ok (.lload 4, 2) := by decide +kernel
theorem dX11_is_117 : decode cX11_is 117 = .ok (.lcmp, 1) := by decide +kernel
theorem dX11_is_118 : decode cX11_is 118 = .ok (.ifCond .ne 7, 3) := by decide +kernel
theorem dX11_is_121 : decode cX11_is 121 = .ok (.iconst 1, 1) := by decide +kernel
theorem dX11_is_122 : decode cX11_is 122 = .ok (.goto 4, 3) := by decide +kernel
theorem dX11_is_125 : decode cX11_is 125 = .ok (.iconst 0, 1) := by decide +kernel
theorem dX11_is_126 : decode cX11_is 126 = .ok (.invokestatic 163, 3) := by decide +kernel
theorem dX11_is_129 : decode cX11_is 129 = .ok (.ireturn, 1) := by decide +kernel
theorem dX11_is_130 : decode cX11_is 130 = .ok (.iconst (-1), 1) := by decide +kernel
theorem dX11_is_131 : decode cX11_is 131 = .ok (.ireturn, 1) := by decide +kernel
theorem dX11_profile_0 : decode cX11_profile 0 = .ok (.aload_n 0, 1) := by decide +kernel
theorem dX11_profile_1 : decode cX11_profile 1 = .ok (.getfield 28, 3) := by decide +kernel
theorem dX11_profile_4 : decode cX11_profile 4 = .ok (.iload_n 1, 1) := by decide +kernel
theorem dX11_profile_5 : decode cX11_profile 5 = .ok (.invokevirtual 110, 3) := by decide +kernel
theorem dX11_profile_8 : decode cX11_profile 8 = .ok (.astore_n 3, 1) := by decide +kernel
theorem dX11_profile_9 : decode cX11_profile 9 = .ok (.aload_n 3, 1) := by decide +kernel
theorem dX11_profile_10 : decode cX11_profile 10 = .ok (.ifnull 18, 3) := by decide +kernel
theorem dX11_profile_13 : decode cX11_profile 13 = .ok (.iload_n 2, 1) := by decide +kernel
theorem dX11_profile_14 : decode cX11_profile 14 = .ok (.ifCond .lt 14, 3) := by decide +kernel
theorem dX11_profile_17 : decode cX11_profile 17 = .ok (.iload_n 2, 1) := by decide +kernel
theorem dX11_profile_18 : decode cX11_profile 18 = .ok (.aload_n 0, 1) := by decide +kernel
theorem dX11_profile_19 : decode cX11_profile 19 = .ok (.getfield 12, 3) := by decide +kernel
theorem dX11_profile_22 : decode cX11_profile 22 = .ok (.invokevirtual 82, 3) := by decide +kernel
theorem dX11_profile_25 : decode cX11_profile 25 = .ok (.if_icmp .le 5, 3) := by decide +kernel
theorem dX11_profile_28 : decode cX11_profile 28 = .ok (.iconst (-1), 1) := by decide +kernel
theorem dX11_profile_29 : decode cX11_profile 29 = .ok (.ireturn, 1) := by decide +kernel
theorem dX11_profile_30 : decode cX11_profile 30 = .ok (.aload_n 0, 1) := by decide +kernel
theorem dX11_profile_31 : decode cX11_profile 31 = .ok (.getfield 12, 3) := by decide +kernel
theorem dX11_profile_34 : decode cX11_profile 34 = .ok (.aload_n 0, 1) := by decide +kernel
theorem dX11_profile_35 : decode cX11_profile 35 = .ok (.getfield 12, 3) := by decide +kernel
theorem dX11_profile_38 : decode cX11_profile 38 = .ok (.aload_n 3, 1) := by decide +kernel
theorem dX11_profile_39 : decode cX11_profile 39 = .ok (.invokevirtual 140, 3) := by decide +kernel
theorem dX11_profile_42 : decode cX11_profile 42 = .ok (.iload_n 2, 1) := by decide +kernel
theorem dX11_profile_43 : decode cX11_profile 43 = .ok (.invokevirtual 176, 3) := by decide +kernel
theorem dX11_profile_46 : decode cX11_profile 46 = .ok (.ireturn, 1) := by decide +kernel
theorem dX11_pressed_0 : decode cX11_pressed 0 = .ok (.aload_n 0, 1) := by decide +kernel
theorem dX11_pressed_1 : decode cX11_pressed 1 = .ok (.getfield 28, 3) := by decide +kernel
theorem dX11_pressed_4 : decode cX11_pressed 4 = .ok (.iload_n 1, 1) := by decide +kernel
theorem dX11_pressed_5 : decode cX11_pressed 5 = .ok (.invokevirtual 110, 3) := by decide +kernel
theorem dX11_pressed_8 : decode cX11_pressed 8 = .ok (.astore 4, 2) := by decide +kernel
theorem dX11_pressed_10 : decode cX11_pressed 10 = .ok (.aload 4, 2) := by decide +kernel
theorem dX11_pressed_12 : decode cX11_pressed 12 = .ok (.ifnull 23, 3) := by decide +kernel
theorem dX11_pressed_15 : decode cX11_pressed 15 = .ok (.iload_n 2, 1) := by decide +kernel
theorem dX11_pressed_16 : decode cX11_pressed 16 = .ok (.ifCond .lt 19, 3) := by decide +kernel
theorem dX11_pressed_19 : decode cX11_pressed 19 = .ok (.iload_n 2, 1) := by decide +kernel
theorem dX11_pressed_20 : decode cX11_pressed 20 = .ok (.iload_n 3, 1) := by decide +kernel
theorem dX11_pressed_21 : decode cX11_pressed 21 = .ok (.if_icmp .ge 14, 3) := by decide +kernel
theorem dX11_pressed_24 : decode cX11_pressed 24 = .ok (.iload_n 3, 1) := by decide +kernel
theorem dX11_pressed_25 : decode cX11_pressed 25 = .ok (.aload_n 0, 1) := by decide +kernel
theorem dX11_pressed_26 : decode cX11_pressed 26 = .ok (.getfield 12, 3) := by decide +kernel
theorem dX11_pressed_29 : decode cX11_pressed 29 = .ok (.invokevirtual 82, 3) := by decide +kernel
theorem dX11_pressed_32 : decode cX11_pressed 32 = .ok (.if_icmp .lt 7, 3) := by decide +kernel
theorem dX11_pressed_35 : decode cX11_pressed 35 = .ok (.ldc2_w 138, 3) := by decide +kernel
theorem dX11_pressed_38 : decode cX11_pressed 38 = .ok (.lreturn, 1) := by decide +kernel
theorem dX11_pressed_39 : decode cX11_pressed 39 = .ok (.aload_n 0, 1) := by decide +kernel
theorem dX11_pressed_40 : decode cX11_pressed 40 = .ok (.getfield 12, 3) := by decide +kernel
theorem dX11_pressed_43 : decode cX11_pressed 43 = .ok (.aload_n 0, 1) := by decide +kernel
theorem dX11_pressed_44 : decode cX11_pressed 44 = .ok (.getfield 12, 3) := by decide +kernel
theorem dX11_pressed_47 : decode cX11_pressed 47 = .ok (.aload 4, 2) := by decide +kernel
theorem dX11_pressed_49 : decode cX11_pressed 49 = .ok (.invokevirtual 140, 3) := by decide +kernel
theorem dX11_pressed_52 : decode cX11_pressed 52 = .ok (.iload_n 2, 1) := by decide +kernel
theorem dX11_pressed_53 : decode cX11_pressed 53 = .ok (.iload_n 3, 1) := by decide +kernel
theorem dX11_pressed_54 : decode cX11_pressed 54 = .ok (.invokevirtual 180, 3) := by decide +kernel
theorem dX11_pressed_57 : decode cX11_pressed 57 = .ok (.lreturn, 1) := by decide +kernel
theorem dX11_press_0 : decode cX11_press 0 = .ok (.aload_n 0, 1) := by decide +kernel
theorem dX11_press_1 : decode cX11_press 1 = .ok (.getfield 28, 3) := by decide +kernel
theorem dX11_press_4 : decode cX11_press 4 = .ok (.iload_n 1, 1) := by decide +kernel
theorem dX11_press_5 : decode cX11_press 5 = .ok (.invokevirtual 110, 3) := by decide +kernel
theorem dX11_press_8 : decode cX11_press 8 = .ok (.astore_n 2, 1) := by decide +kernel
theorem dX11_press_9 : decode cX11_press 9 = .ok (.aload_n 2, 1) := by decide +kernel
theorem dX11_press_10 : decode cX11_press 10 = .ok (.ifnonnull 7, 3) := by decide +kernel
theorem dX11_press_13 : decode cX11_press 13 = .ok (.iconst (-1), 1) := by decide +kernel
theorem dX11_press_14 : decode cX11_press 14 = .ok (.goto 22, 3) := by decide +kernel
theorem dX11_press_17 : decode cX11_press 17 = .ok (.aload_n 0, 1) := by decide +kernel
theorem dX11_press_18 : decode cX11_press 18 = .ok (.aload_n 0, 1) := by decide +kernel
theorem dX11_press_19 : decode cX11_press 19 = .ok (.getfield 12, 3) := by decide +kernel
theorem dX11_press_22 : decode cX11_press 22 = .ok (.aload_n 0, 1) := by decide +kernel
theorem dX11_press_23 : decode cX11_press 23 = .ok (.getfield 12, 3) := by decide +kernel
theorem dX11_press_26 : decode cX11_press 26 = .ok (.aload_n 2, 1) := by decide +kernel
theorem dX11_press_27 : decode cX11_press 27 = .ok (.invokevirtual 140, 3) := by decide +kernel
theorem dX11_press_30 : decode cX11_press 30 = .ok (.invokevirtual 184, 3) := by decide +kernel
theorem dX11_press_33 : decode cX11_press 33 = .ok (.invokevirtual 99, 3) := by decide +kernel
theorem dX11_press_36 : decode cX11_press 36 = .ok (.ireturn, 1) := by decide +kernel
theorem dX11_rounds_0 : decode cX11_rounds 0 = .ok (.aload_n 0, 1) := by decide +kernel
theorem dX11_rounds_1 : decode cX11_rounds 1 = .ok (.getfield 28, 3) := by decide +kernel
theorem dX11_rounds_4 : decode cX11_rounds 4 = .ok (.iload_n 1, 1) := by decide +kernel
theorem dX11_rounds_5 : decode cX11_rounds 5 = .ok (.invokevirtual 110, 3) := by decide +kernel
theorem dX11_rounds_8 : decode cX11_rounds 8 = .ok (.astore_n 2, 1) := by decide +kernel
theorem dX11_rounds_9 : decode cX11_rounds 9 = .ok (.aload_n 2, 1) := by decide +kernel
theorem dX11_rounds_10 : decode cX11_rounds 10 = .ok (.ifnonnull 7, 3) := by decide +kernel
theorem dX11_rounds_13 : decode cX11_rounds 13 = .ok (.iconst (-1), 1) := by decide +kernel
theorem dX11_rounds_14 : decode cX11_rounds 14 = .ok (.goto 18, 3) := by decide +kernel
theorem dX11_rounds_17 : decode cX11_rounds 17 = .ok (.aload_n 0, 1) := by decide +kernel
theorem dX11_rounds_18 : decode cX11_rounds 18 = .ok (.getfield 12, 3) := by decide +kernel
theorem dX11_rounds_21 : decode cX11_rounds 21 = .ok (.aload_n 0, 1) := by decide +kernel
theorem dX11_rounds_22 : decode cX11_rounds 22 = .ok (.getfield 12, 3) := by decide +kernel
